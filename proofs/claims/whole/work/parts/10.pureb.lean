-- the page of the reference: states 0, 1; ends 2, 3; edges 4.., 12..
def gz (p : Nat → Nat) : Nat → Nat := fun j => if j < 8 then p (4 + j) else 0
def go (p : Nat → Nat) : Nat → Nat := fun j => p (12 + j)
def mG (p : Nat → Nat) (m : Nat) : Nat → Nat := if m = 0 then gz p else go p
def atN (m i c : Nat) : Nat := (if m = 0 then 4 else 12) + 2 * i + c - 1
theorem atN_lt {m i c : Nat} (hi : i < 5) (hc : c ≤ 2) : atN m i c < 22 := by
  unfold atN
  split <;> omega
theorem pm_le {p : Nat → Nat} {m : Nat} (hm : m < 2) (h0 : p 0 ≤ 4) (h1 : p 1 ≤ 5) : p m ≤ 5 := by
  rcases (show m = 0 ∨ m = 1 by omega) with rfl | rfl <;> omega
theorem atN_mG {p : Nat → Nat} {m i c : Nat} (hm : m < 2) (h0 : p 0 ≤ 4) (hi : i < p m) (h1 : 1 ≤ c) (h2 : c ≤ 2) : p (atN m i c) = mG p m (i * 2 + c - 1) := by
  unfold atN mG
  rcases (show m = 0 ∨ m = 1 by omega) with rfl | rfl
  · rw [if_pos rfl, if_pos rfl]
    unfold gz
    rw [if_pos (by omega)]
    congr 1
    omega
  · rw [if_neg (by decide), if_neg (by decide)]
    unfold go
    congr 1
    omega
theorem mG_lt {p : Nat → Nat} (hp : ∀ j, p j < 32) (m j : Nat) : mG p m j < 32 := by
  unfold mG gz go
  split
  · show (if j < 8 then p (4 + j) else 0) < 32
    split
    · exact hp _
    · decide
  · exact hp _
theorem stepN_s (g : Nat → Nat) (S c i : Nat) : stepN g S c (i + 1) = stepN g S c i ||| (if Nat.testBit S i then g (i * 2 + c - 1) else 0) := by
  rw [stepN]
  split
  · rfl
  · rw [Nat.or_zero]
def inL (v a b : Int64) : Bool := decide (a.toInt ≤ v.toInt) && decide (v.toInt ≤ b.toInt)
theorem inL_f1 {v a b : Int64} (h : lg_cmp v a < 0) : false = inL v a b := by
  have h1 := Int64.lt_iff_toInt_lt.mp ((lg_cmp_lt _ _).mp h)
  unfold inL
  rw [decide_eq_false (by omega)]
  rfl
theorem inL_f2 {v a b : Int64} (h : 0 < lg_cmp v b) : false = inL v a b := by
  have h1 := Int64.lt_iff_toInt_lt.mp ((lg_cmp_gt _ _).mp h)
  unfold inL
  rw [decide_eq_false (p := v.toInt ≤ b.toInt) (by omega), Bool.and_false]
theorem inL_t {v a b : Int64} (h : ¬ lg_cmp v a < 0) (h2 : ¬ 0 < lg_cmp v b) : true = inL v a b := by
  have h1 : ¬ v < a := fun z => h ((lg_cmp_lt _ _).mpr z)
  have h3 : ¬ b < v := fun z => h2 ((lg_cmp_gt _ _).mpr z)
  rw [Int64.lt_iff_toInt_lt] at h1 h3
  unfold inL
  rw [decide_eq_true (by omega), decide_eq_true (by omega)]
  rfl
theorem inL_iff {v a b : Int64} : inL v a b = true ↔ a.toInt ≤ v.toInt ∧ v.toInt ≤ b.toInt := by
  unfold inL
  simp
/-- an int among two bounds that are told as longs -/
theorem inL_x {x : Int32} {a b : Int64} : inL x.toInt64 a b = true ↔ a.toInt ≤ x.toInt ∧ x.toInt ≤ b.toInt := by rw [inL_iff, Int32.toInt_toInt64]
theorem inL_xf {x : Int32} {a b : Int64} (h : inL x.toInt64 a b = false) : ¬ (a.toInt ≤ x.toInt ∧ x.toInt ≤ b.toInt) := fun z => by rw [inL_x.mpr z] at h; cases h
theorem nI_ofInt {x : Int32} {m : Nat} (h0 : 0 ≤ x.toInt) (h1 : x.toInt < m) : ∃ j : Nat, j < m ∧ x = nI j := by
  have hlt : x.toInt < 2147483648 := x.toInt_lt
  refine ⟨x.toInt.toNat, by omega, Int32.toInt_inj.mp ?_⟩
  rw [nI_toInt (by omega)]
  omega
def powN (a : Nat) : Nat → Nat
  | 0 => 1
  | k + 1 => powN a k * a
theorem powN_eq (a k : Nat) : powN a k = a ^ k := by
  induction k with
  | zero => rfl
  | succ k ih => rw [powN, ih, Nat.pow_succ]
/-- how many figures -/
def lenF : Nat → Nat → Nat
  | 0, _ => 0
  | f + 1, w => if w = 0 then 0 else lenF f (w / 10) + 1
def lenW (w : Nat) : Nat := lenF 10 w
/-- behind k letters of a word of len letters -/
def afterW (g : Nat → Nat) (n w S len : Nat) : Nat → Nat
  | 0 => S
  | k + 1 => stepN g (afterW g n w S len k) (w / 10 ^ (len - 1 - k) % 10) n
/-- behind k letters told as bits, the lowest first -/
def afterB (g : Nat → Nat) (n bits : Nat) : Nat → Nat
  | 0 => 1
  | k + 1 => stepN g (afterB g n bits k) (1 + (Nat.testBit bits k).toNat) n
theorem afterB_lt {g : Nat → Nat} (hg : ∀ j, g j < 32) (n bits k : Nat) : afterB g n bits k < 32 := by
  cases k with
  | zero => exact (by decide : 1 < 32)
  | succ k => exact stepN_lt hg _ _ _
theorem afterW_lt {g : Nat → Nat} (hg : ∀ j, g j < 32) {S : Nat} (hS : S < 32) (n w len k : Nat) : afterW g n w S len k < 32 := by
  cases k with
  | zero => exact hS
  | succ k => exact stepN_lt hg _ _ _
theorem up_lt {h f : Nat → Nat} {i : Nat} (hh : ∀ j, j < i → h j = f j) : ∀ j, j < i + 1 → up h i (f i) j = f j := fun j hj => by
  unfold up
  by_cases e : j = i
  · rw [if_pos e, e]
  · rw [if_neg e]
    exact hh j (by omega)
theorem toNat_le (b : Bool) : 1 + b.toNat ≤ 2 := by cases b <;> decide

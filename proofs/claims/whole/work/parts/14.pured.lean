theorem inL_let : ∀ d : Nat, d < 10 → inL (nI d).toInt64 1 2 = isLet d := by decide +kernel
theorem lets_bk1 {b : Bool} {fu v : Nat} {r : Bool} (hb : b = false) (he : (b && letsF fu v) = r) : (false && letsF (fu - 1) (v / 10)) = r := by
  rw [← he, hb]; rfl
theorem lets_bk2 {b : Bool} {fu v : Nat} {r : Bool} (hv : v < 10 ^ fu) (h0 : v ≠ 0) (hin : inL (nI (v % 10)).toInt64 1 2 = false) (he : (b && letsF fu v) = r) : (false && letsF (fu - 1) (v / 10)) = r := by
  rw [inL_let _ (Nat.mod_lt _ (by decide))] at hin
  cases fu with
  | zero => rw [Nat.pow_zero] at hv; omega
  | succ f => rw [← he, letsF, if_neg h0, hin, Bool.false_and, Bool.false_and, Bool.and_false]
theorem lets_bk3 {b : Bool} {fu v : Nat} {r : Bool} (hv : v < 10 ^ fu) (h0 : v ≠ 0) (hb : b = true) (hin : inL (nI (v % 10)).toInt64 1 2 = true) (he : (b && letsF fu v) = r) : (true && letsF (fu - 1) (v / 10)) = r := by
  rw [inL_let _ (Nat.mod_lt _ (by decide))] at hin
  cases fu with
  | zero => rw [Nat.pow_zero] at hv; omega
  | succ f => rw [← he, letsF, if_neg h0, hin, hb, Bool.true_and]; rfl
theorem inL_word {w : Nat} (hw : w < 2147483648) : inL (nI w).toInt64 0 222222222 = decide (w ≤ 222222222) := by
  unfold inL
  rw [Int32.toInt_toInt64, nI_toInt hw, show (0 : Int64).toInt = 0 from rfl, show (222222222 : Int64).toInt = 222222222 from rfl, decide_eq_true (by omega), Bool.true_and]
  by_cases h : w ≤ 222222222
  · rw [decide_eq_true h, decide_eq_true (by omega)]
  · rw [decide_eq_false h, decide_eq_false (by omega)]
theorem lets_end {b : Bool} {fu v w : Nat} (hw : w < 2147483648) (h0 : v = 0) (he : (b && letsF fu v) = (inL (nI w).toInt64 0 222222222 && letsF 10 w)) : b = wordOk w := by
  rw [inL_word hw, h0, letsF_0, Bool.and_true] at he
  rw [wordOk_eq, he]
theorem lets_d0 {i v w : Nat} (hi : i < 9) (he : letsF (9 - i) v = wordOk w) (h0 : v ≠ 0) (hl : isLet (v % 10) = false) : false = wordOk w := by
  rw [← he, show 9 - i = (8 - i) + 1 by omega, letsF, if_neg h0, hl, Bool.false_and]
theorem lets_d1 {i v w : Nat} (hi : i < 9) (he : letsF (9 - i) v = wordOk w) (h0 : v ≠ 0) (hl : isLet (v % 10) = true) : letsF (9 - (i + 1)) (v / 10) = wordOk w := by
  rw [← he, show 9 - i = (9 - (i + 1)) + 1 by omega, letsF, if_neg h0, hl, Bool.true_and]
def knB (n : Nat) (y : Int32) : Bool := !decide (y < 0) && !decide (nI n ≤ y)
def stOf (n0 n1 : Nat) (x y : Int32) : Bool := (decide (x = nI 0) && knB n0 y) || (decide (x = nI 1) && knB n1 y)
theorem isMach {x : Int32} (h : (decide (x = 0) || decide (x = nI 1)) = true) : x = nI 0 ∨ x = nI 1 := by
  simp at h
  rcases h with h | h
  · exact Or.inl (h.trans rfl)
  · exact Or.inr h
theorem isMachF {x : Int32} (h : (decide (x = 0) || decide (x = nI 1)) = false) : ¬ x = nI 0 ∧ ¬ x = nI 1 := by
  simp at h
  exact ⟨fun e => h.1 (e.trans rfl), h.2⟩
theorem stOf_0 (n0 n1 : Nat) (y : Int32) : stOf n0 n1 (nI 0) y = knB n0 y := by
  unfold stOf
  rw [show decide (nI 0 = nI 0) = true from rfl, show decide (nI 0 = nI 1) = false from rfl, Bool.true_and, Bool.false_and, Bool.or_false]
theorem stOf_1 (n0 n1 : Nat) (y : Int32) : stOf n0 n1 (nI 1) y = knB n1 y := by
  unfold stOf
  rw [show decide (nI 1 = nI 1) = true from rfl, show decide (nI 1 = nI 0) = false from rfl, Bool.true_and, Bool.false_and, Bool.false_or]
theorem stOf_f {n0 n1 : Nat} {x : Int32} (y : Int32) (h : (decide (x = 0) || decide (x = nI 1)) = false) : stOf n0 n1 x y = false := by
  have := isMachF h
  unfold stOf
  rw [decide_eq_false this.1, decide_eq_false this.2]
  rfl
-- fractions
def frac (a b : Nat) (u : Bool) : Nat := if u then a / Nat.gcd a b else b / Nat.gcd a b
/-- the steps of the dividing, and how small what is left must be -/
theorem gcd_step {gr sm i : Nat} (h0 : sm ≠ 0) (hb : i = 0 ∧ gr * sm ≤ 2 ^ 40 ∨ sm ≤ gr ∧ gr * sm * 2 ^ (i - 1) ≤ 2 ^ 40) : gr % sm ≤ sm ∧ sm * (gr % sm) * 2 ^ (i + 1 - 1) ≤ 2 ^ 40 := by
  have hr := Nat.mod_lt gr (Nat.pos_of_ne_zero h0)
  refine ⟨Nat.le_of_lt hr, ?_⟩
  rcases hb with ⟨rfl, hb⟩ | ⟨hle, hb⟩
  · rw [show 0 + 1 - 1 = 0 from rfl, Nat.pow_zero, Nat.mul_one]
    exact Nat.le_trans (Nat.le_trans (Nat.mul_le_mul_left sm (Nat.mod_le gr sm)) (Nat.le_of_eq (Nat.mul_comm _ _))) hb
  · have h2 : 2 * (gr % sm) ≤ gr := by
      have h3 := Nat.div_add_mod gr sm
      have h4 : 1 ≤ gr / sm := Nat.div_pos hle (Nat.pos_of_ne_zero h0)
      have h5 : sm * 1 ≤ sm * (gr / sm) := Nat.mul_le_mul_left sm h4
      omega
    cases i with
    | zero =>
      rw [show 0 + 1 - 1 = 0 from rfl, Nat.pow_zero, Nat.mul_one]
      rw [show 0 - 1 = 0 from rfl, Nat.pow_zero, Nat.mul_one] at hb
      exact Nat.le_trans (Nat.le_trans (Nat.mul_le_mul_left sm (Nat.mod_le gr sm)) (Nat.le_of_eq (Nat.mul_comm _ _))) hb
    | succ j =>
      rw [Nat.add_sub_cancel] at hb ⊢
      refine Nat.le_trans ?_ hb
      rw [Nat.pow_succ, Nat.mul_comm (2 ^ j) 2, ← Nat.mul_assoc]
      refine Nat.mul_le_mul_right _ ?_
      rw [Nat.mul_assoc, Nat.mul_comm (gr % sm) 2, Nat.mul_comm gr sm]
      exact Nat.mul_le_mul_left sm h2
theorem gcd_end {gr sm : Nat} (hle : sm ≤ gr) (hb : gr * sm * 2 ^ (100 - 1) ≤ 2 ^ 40) : sm = 0 := by
  rcases Nat.eq_zero_or_pos sm with h | h
  · exact h
  · have h1 : 1 ≤ gr * sm := Nat.mul_pos (Nat.lt_of_lt_of_le h hle) h
    have h2 := Nat.mul_le_mul_right (2 ^ (100 - 1)) h1
    exact absurd (Nat.le_trans h2 hb) (by decide)
-- where words lead, told by nodes
def nodeF (g : Nat → Nat) (n : Nat) : Nat → Nat → Nat
  | 0, _ => 1
  | f + 1, v => if v ≤ 1 then 1 else stepN g (nodeF g n f (v / 2)) (v % 2 + 1) n
theorem nodeF_eq (g : Nat → Nat) (n : Nat) : ∀ (f v : Nat), v < 2 ^ (f + 1) → nodeF g n (f + 1) v = nodeF g n f v
  | 0, v, h => by
    rw [nodeF, nodeF, if_pos (by rw [Nat.zero_add, Nat.pow_one] at h; omega)]
  | f + 1, v, h => by
    rw [nodeF]
    split
    · rename_i e; rw [nodeF, if_pos e]
    · rename_i e; rw [nodeF_eq g n f (v / 2) (by rw [Nat.pow_succ] at h; omega), show nodeF g n (f + 1) v = stepN g (nodeF g n f (v / 2)) (v % 2 + 1) n by rw [nodeF, if_neg e]]
def nodeS (g : Nat → Nat) (n v : Nat) : Nat := nodeF g n 10 v
theorem nodeS_1 (g : Nat → Nat) (n : Nat) : nodeS g n 1 = 1 := rfl
theorem nodeS_s (g : Nat → Nat) (n v : Nat) (h : 2 ≤ v) (h2 : v < 1024) : nodeS g n v = stepN g (nodeS g n (v / 2)) (v % 2 + 1) n := by
  unfold nodeS
  rw [nodeF, if_neg (by omega), nodeF_eq g n 9 (v / 2) (by rw [show (2 : Nat) ^ (9 + 1) = 1024 from rfl]; omega)]
theorem stepN_ltP {g : Nat → Nat} {k : Nat} (hg : ∀ j, g j < 2 ^ k) (S c i : Nat) : stepN g S c i < 2 ^ k := by
  induction i with
  | zero => exact Nat.two_pow_pos k
  | succ i ih =>
    unfold stepN
    split
    · exact Nat.or_lt_two_pow ih (hg _)
    · exact ih
theorem nodeF_lt {g : Nat → Nat} {k : Nat} (hk : 1 ≤ k) (hg : ∀ j, g j < 2 ^ k) (n f v : Nat) : nodeF g n f v < 2 ^ k := by
  have h1 : 1 < 2 ^ k := Nat.one_lt_two_pow (by omega)
  cases f with
  | zero => exact h1
  | succ f =>
    rw [nodeF]
    split
    · exact h1
    · exact stepN_ltP hg _ _ _
theorem inL_neg {x : Int32} (hx : x < 0) : inL x.toInt64 0 222222222 = false := by
  unfold inL
  rw [Int32.toInt_toInt64, show (0 : Int64).toInt = 0 from rfl, decide_eq_false, Bool.false_and]
  have := Int32.lt_iff_toInt_lt.mp hx
  rw [show (0 : Int32).toInt = 0 from rfl] at this
  omega
def factN : Nat → Nat
  | 0 => 1
  | k + 1 => factN k * (k + 1)
theorem ones_le (s : Nat) : ones s ≤ 10 := by
  unfold ones
  have h : ∀ k, onesN s k ≤ k := by
    intro k
    induction k with
    | zero => exact Nat.le_refl _
    | succ k ih =>
      rw [onesN]
      have : (Nat.testBit s k).toNat ≤ 1 := Bool.toNat_le _
      omega
  exact h 10
theorem ones_0 {s : Nat} : s < 32 → ones s = 0 → s = 0 := by
  revert s
  decide +kernel

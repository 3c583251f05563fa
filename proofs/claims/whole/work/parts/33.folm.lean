theorem le9_p {p : Nat → Nat} {x c : Nat} (hx : x < 9) (h1 : 1 ≤ c) (h2 : c ≤ 2) : (if x < 4 then p (atN 0 x c) else p (atN 1 (x - 4) c) * 2 ^ 4) = le9 (gz p) (go p) x c := by
  unfold le9
  by_cases h : x < 4
  · rw [if_pos h, if_pos h, atN_0, gz_ap, if_pos (by omega)]
    congr 1
    omega
  · rw [if_neg h, if_neg h, atN_1, go_ap]
    congr 2
    omega
theorem le9_lt {g0 g1 : Nat → Nat} (h0 : ∀ j, g0 j < 16) (h1 : ∀ j, g1 j < 32) (x c : Nat) : le9 g0 g1 x c < 512 := by
  unfold le9
  split
  · have := h0 (x * 2 + c - 1); omega
  · have := h1 ((x - 4) * 2 + c - 1); omega
theorem le9_bit {g0 g1 : Nat → Nat} (h0 : ∀ j, g0 j < 16) (h1 : ∀ j, g1 j < 32) (x c e : Nat) (hb : Nat.testBit (le9 g0 g1 x c) e = true) : e < 9 := bit_lt (k := 9) (le9_lt h0 h1 x c) hb
section QNT
variable {A : Prop} {Q : Nat → Prop} {b : Bool} {k : Nat}
theorem exs_0 (h : b = true ↔ A) : b = true ↔ A ∨ ∃ j, j < 0 ∧ Q j := ⟨fun z => Or.inl (h.mp z), fun z => z.elim h.mpr (fun ⟨j, hj, _⟩ => absurd hj (Nat.not_lt_zero _))⟩
theorem exs_t1 (h : b = true ↔ A ∨ ∃ j, j < k ∧ Q j) (hb : b = true) : true = true ↔ A ∨ ∃ j, j < k + 1 ∧ Q j := ⟨fun _ => (h.mp hb).elim Or.inl (fun ⟨j, hj, z⟩ => Or.inr ⟨j, by omega, z⟩), fun _ => rfl⟩
theorem exs_t2 (hq : Q k) : true = true ↔ A ∨ ∃ j, j < k + 1 ∧ Q j := ⟨fun _ => Or.inr ⟨k, by omega, hq⟩, fun _ => rfl⟩
theorem exs_f (h : b = true ↔ A ∨ ∃ j, j < k ∧ Q j) (hb : b = false) (hq : ¬ Q k) : false = true ↔ A ∨ ∃ j, j < k + 1 ∧ Q j := by
  refine ⟨fun z => (Bool.false_ne_true z).elim, fun z => ?_⟩
  have : A ∨ ∃ j, j < k ∧ Q j := z.elim Or.inl (fun ⟨j, hj, w⟩ => by
    rcases Nat.lt_or_ge j k with q | q
    · exact Or.inr ⟨j, q, w⟩
    · rw [show j = k by omega] at w; exact absurd w hq)
  rw [h.mpr this] at hb
  cases hb
theorem als_0 (h : b = true ↔ A) : b = true ↔ A ∧ ∀ j, j < 0 → Q j := ⟨fun z => ⟨h.mp z, fun j hj => absurd hj (Nat.not_lt_zero _)⟩, fun z => h.mpr z.1⟩
theorem als_t (h : b = true ↔ A ∧ ∀ j, j < k → Q j) (hb : b = true) (hq : Q k) : true = true ↔ A ∧ ∀ j, j < k + 1 → Q j := ⟨fun _ => ⟨(h.mp hb).1, lt_ext (h.mp hb).2 hq⟩, fun _ => rfl⟩
theorem als_f1 (h : b = true ↔ A ∧ ∀ j, j < k → Q j) (hb : b = false) : false = true ↔ A ∧ ∀ j, j < k + 1 → Q j := by
  refine ⟨fun z => (Bool.false_ne_true z).elim, fun z => ?_⟩
  rw [h.mpr ⟨z.1, fun j hj => z.2 j (by omega)⟩] at hb
  cases hb
theorem als_f2 (hq : ¬ Q k) : false = true ↔ A ∧ ∀ j, j < k + 1 → Q j := ⟨fun z => (Bool.false_ne_true z).elim, fun z => absurd (z.2 k (by omega)) hq⟩
end QNT
def Fm (fo : Nat → Bool) : Nat → Nat → Bool := fun x y => fo (9 * x + y)
/-- one edge's part of Hd -/
def Hc (g0 g1 : Nat → Nat) (F : Nat → Nat → Bool) (x y c e : Nat) : Prop := Nat.testBit (le9 g0 g1 x c) e = false ∨ ∃ f, f < 9 ∧ (Nat.testBit (le9 g0 g1 y c) f = true ∧ F e f = true)
theorem Hd_iff {g0 g1 : Nat → Nat} {F : Nat → Nat → Bool} {x y : Nat} : Hd g0 g1 F x y ↔ ((True ∧ ∀ e, e < 9 → Hc g0 g1 F x y 1 e) ∧ ∀ e, e < 9 → Hc g0 g1 F x y 2 e) := by
  constructor
  · intro h
    have key : ∀ c, 1 ≤ c → c ≤ 2 → ∀ e, e < 9 → Hc g0 g1 F x y c e := fun c h1 h2 e he => by
      unfold Hc
      cases hb : Nat.testBit (le9 g0 g1 x c) e with
      | false => exact Or.inl rfl
      | true =>
        obtain ⟨f, a, b, d⟩ := h c e h1 h2 he hb
        exact Or.inr ⟨f, a, b, d⟩
    exact ⟨⟨trivial, key 1 (by decide) (by decide)⟩, key 2 (by decide) (by decide)⟩
  · rintro ⟨⟨-, h1⟩, h2⟩ c e c1 c2 he hb
    have hh : Hc g0 g1 F x y c e := by
      rcases (show c = 1 ∨ c = 2 by omega) with rfl | rfl
      · exact h1 e he
      · exact h2 e he
    rcases hh with z | ⟨f, a, b, d⟩
    · rw [z] at hb; cases hb
    · exact ⟨f, a, b, d⟩
/-- all letters below c -/
def Hl (g0 g1 : Nat → Nat) (F : Nat → Nat → Bool) (x y : Nat) : Nat → Prop
  | 0 => True
  | c + 1 => Hl g0 g1 F x y c ∧ ∀ e, e < 9 → Hc g0 g1 F x y (c + 1) e
theorem Hl_2 {g0 g1 : Nat → Nat} {F : Nat → Nat → Bool} {x y : Nat} : Hl g0 g1 F x y 2 ↔ Hd g0 g1 F x y := Hd_iff.symm
theorem hl_end {g0 g1 : Nat → Nat} {F : Nat → Nat → Bool} {x y c : Nat} {b : Bool} (hc : c = 3) (h : b = true ↔ Hl g0 g1 F x y (c - 1)) : b = decB (Hd g0 g1 F x y) := by
  rw [hc] at h
  have h := h.trans Hl_2
  cases b with
  | true => rw [decB_t (h.mp rfl)]
  | false => rw [decB_f (fun z => by cases h.mpr z)]
theorem hl_s {g0 g1 : Nat → Nat} {F : Nat → Nat → Bool} {x y c k : Nat} {b : Bool} (hc : 1 ≤ c) (hk : k = 9) (h : b = true ↔ Hl g0 g1 F x y (c - 1) ∧ ∀ e, e < k → Hc g0 g1 F x y c e) : b = true ↔ Hl g0 g1 F x y (c + 1 - 1) := by
  rw [hk] at h
  rw [h, Nat.add_sub_cancel]
  conv => rhs; rw [show c = (c - 1) + 1 by omega]
  show _ ↔ Hl g0 g1 F x y (c - 1) ∧ ∀ e, e < 9 → Hc g0 g1 F x y (c - 1 + 1) e
  rw [show c - 1 + 1 = c by omega]
theorem hc_of {g0 g1 : Nat → Nat} {F : Nat → Nat → Bool} {x y c e k : Nat} {fb : Bool} (hk : k = 9) (h : fb = true ↔ Nat.testBit (le9 g0 g1 x c) e = false ∨ ∃ f, f < k ∧ (Nat.testBit (le9 g0 g1 y c) f = true ∧ F e f = true)) : fb = true ↔ Hc g0 g1 F x y c e := by
  rw [hk] at h
  exact h
-- counting
def cnt (fo : Nat → Bool) : Nat → Nat
  | 0 => 0
  | k + 1 => cnt fo k + (fo k).toNat
theorem cnt_up {fo : Nat → Bool} {k : Nat} (h : fo k = true) : ∀ N, k < N → cnt (up fo k false) N + 1 = cnt fo N := by
  have low : ∀ N, N ≤ k → cnt (up fo k false) N = cnt fo N := by
    intro N
    induction N with
    | zero => intro _; rfl
    | succ N ih => intro hN; rw [cnt, cnt, ih (by omega), up_n _ _ (by omega)]
  intro N
  induction N with
  | zero => intro hk; omega
  | succ N ih =>
    intro hk
    rw [cnt, cnt]
    by_cases e : k = N
    · rw [← e, up_s, low k (Nat.le_refl _), h]
      rfl
    · rw [up_n _ _ (by omega)]
      have := ih (by omega)
      omega
theorem Fm_up {g0 : Nat → Nat} {n0 e0 : Nat} {g1 : Nat → Nat} {n1 e1 k : Nat} {fo : Nat → Bool} (h : FolIn g0 n0 e0 g1 n1 e1 (Fm fo)) (hn : ¬ Hd g0 g1 (Fm fo) (k / 9) (k % 9)) : FolIn g0 n0 e0 g1 n1 e1 (Fm (up fo k false)) := by
  have hf := FolIn_not h hn
  refine ⟨fun x y hxy => ?_, fun x y hx hy hF => h.2 x y hx hy ?_⟩
  · have hb := Fol_sm x y hxy
    unfold Fm
    rw [up_n]
    · exact h.1 x y hxy
    · intro e
      refine hf ?_
      rw [← e, show (9 * x + y) / 9 = x by omega, show (9 * x + y) % 9 = y by omega]
      exact hxy
  · unfold Fm at hF ⊢
    rw [up_ap] at hF
    split at hF
    · cases hF
    · exact hF
theorem Fm_init {g0 : Nat → Nat} {n0 e0 : Nat} {g1 : Nat → Nat} {n1 e1 : Nat} {fo : Nat → Bool} (h : ∀ j, j < 81 → fo j = bs n0 e0 n1 e1 (j / 9) (j % 9)) : FolIn g0 n0 e0 g1 n1 e1 (Fm fo) := by
  refine ⟨fun x y hxy => ?_, fun x y hx hy hF => ?_⟩
  · have hb := Fol_sm x y hxy
    unfold Fm
    rw [h _ (by omega), show (9 * x + y) / 9 = x by omega, show (9 * x + y) % 9 = y by omega]
    exact hb.2.2.1
  · unfold Fm at hF
    rw [h _ (by omega), show (9 * x + y) / 9 = x by omega, show (9 * x + y) % 9 = y by omega] at hF
    exact hF
theorem up_ltB {h f : Nat → Bool} {i : Nat} {v : Bool} (hh : ∀ j, j < i → h j = f j) (hv : v = f i) : ∀ j, j < i + 1 → up h i v j = f j := fun j hj => by
  rw [up_ap]
  by_cases e : j = i
  · rw [if_pos e, e, hv]
  · rw [if_neg e]
    exact hh j (by omega)
theorem fol_ms {a b fu : Nat} {m m2 : Bool} (hm : m = true) (hle : b ≤ a) (hlt : m2 = true → b < a) (h : 2 * a + m.toNat < fu + 1) : 2 * b + m2.toNat < fu := by
  rw [hm] at h
  have h : 2 * a + 1 < fu + 1 := h
  cases m2 with
  | true =>
    have := hlt rfl
    show 2 * b + 1 < fu
    omega
  | false =>
    show 2 * b + 0 < fu
    omega
theorem fol_hd {g0 g1 : Nat → Nat} {fo : Nat → Bool} {a b : Nat} (h : ∀ j, j < 81 → fo j = true → Hd g0 g1 (Fm fo) (j / 9) (j % 9)) (ha : a < 9) (hb : b < 9) (hv : Fm fo a b = true) : Hd g0 g1 (Fm fo) a b := by
  have := h (9 * a + b) (by omega) hv
  rw [show (9 * a + b) / 9 = a by omega, show (9 * a + b) % 9 = b by omega] at this
  exact this

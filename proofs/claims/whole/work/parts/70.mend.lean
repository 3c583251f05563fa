/-! which edge less, or more, makes it so -/
noncomputable def withP (q : Nat → Nat) : Bool := withB (gz q) (q 0) (q 2) (go q) (q 1) (q 3)
noncomputable def mEd (p : Nat → Nat) (m i c t : Nat) : Bool := (Nat.testBit (mG p m (i * 2 + c - 1)) t == decide (m = 0)) && withP (flE p m i c t)
def mdI (n k : Nat) : Nat := k / (2 * n)
def mdC (n k : Nat) : Nat := 1 + k / n % 2
def mdT (n k : Nat) : Nat := k % n
noncomputable def mB (p : Nat → Nat) (m k : Nat) : Bool := mEd p m (mdI (p m) k) (mdC (p m) k) (mdT (p m) k)
def mCd (n k : Nat) : Nat := 100 * mdI n k + 10 * mdC n k + mdT n k
def fsA (f : Nat → Bool) (cd : Nat → Nat) : Nat → Int32
  | 0 => -9
  | k + 1 => if f k then (if cnt f k = 0 then nI (cd k) else fsA f cd k) else fsA f cd k
section MDL
variable {n i c t K : Nat}
theorem md_dec (h1 : 1 ≤ c) (h2 : c ≤ 2) (ht : t < n) (hK : K = i * (2 * n) + (c - 1) * n + t) : mdI n K = i ∧ mdC n K = c ∧ mdT n K = t := by
  have hn : 0 < n := by omega
  have hr : (c - 1) * n + t < 2 * n := by
    rcases (show c = 1 ∨ c = 2 by omega) with rfl | rfl
    · simp; omega
    · simp; omega
  have a1 : K / (2 * n) = i := by
    rw [hK, Nat.add_assoc, Nat.add_comm, Nat.add_mul_div_right _ _ (by omega), Nat.div_eq_of_lt hr, Nat.zero_add]
  have a2 : K / n = i * 2 + (c - 1) := by
    rw [hK, show i * (2 * n) + (c - 1) * n + t = t + (i * 2 + (c - 1)) * n by rw [Nat.add_mul, Nat.mul_assoc]; omega, Nat.add_mul_div_right _ _ hn, Nat.div_eq_of_lt ht, Nat.zero_add]
  have a3 : K % n = t := by
    rw [hK, show i * (2 * n) + (c - 1) * n + t = t + (i * 2 + (c - 1)) * n by rw [Nat.add_mul, Nat.mul_assoc]; omega, Nat.add_mul_mod_self_right, Nat.mod_eq_of_lt ht]
  refine ⟨a1, ?_, a3⟩
  unfold mdC
  rw [a2]
  omega
theorem md_lt (hK : K < 2 * n * n) : mdI n K < n ∧ 1 ≤ mdC n K ∧ mdC n K ≤ 2 ∧ mdT n K < n := by
  have hn : 0 < n := by
    rcases Nat.eq_zero_or_pos n with e | e
    · rw [e] at hK; simp at hK
    · exact e
  refine ⟨?_, ?_, ?_, Nat.mod_lt _ hn⟩
  · exact (Nat.div_lt_iff_lt_mul (by omega)).mpr (by rw [Nat.mul_comm n]; exact hK)
  · unfold mdC; omega
  · unfold mdC; omega
theorem md_t (h1 : 1 ≤ c) : i * (2 * n) + (c - 1) * n + n = i * (2 * n) + (c + 1 - 1) * n := by
  rw [show c + 1 - 1 = (c - 1) + 1 by omega, Nat.add_mul (c - 1) 1 n]
  omega
theorem md_c : i * (2 * n) + (3 - 1) * n = (i + 1) * (2 * n) := by
  rw [Nat.add_mul i 1 (2 * n)]
  omega
theorem md_n : n * (2 * n) = 2 * n * n := by rw [Nat.mul_comm]
end MDL
section FSA
variable {f : Nat → Bool} {cd : Nat → Nat} {K N : Nat} {fs : Int32}
theorem cnt_s (f : Nat → Bool) (k : Nat) : cnt f (k + 1) = cnt f k + (f k).toNat := rfl
theorem cnt_no {b : Bool} (hb : b = f K) (h : b = false) : cnt f K = cnt f (K + 1) := by rw [cnt_s, ← hb, h]; rfl
theorem cnt_ye {b : Bool} (hb : b = f K) (h : b = true) : cnt f K + 1 = cnt f (K + 1) := by rw [cnt_s, ← hb, h]; rfl
theorem fs_no {b : Bool} (hb : b = f K) (h : b = false) : fsA f cd K = fsA f cd (K + 1) := by
  rw [fsA, ← hb, h]; rfl
theorem fs_y0 {b : Bool} {x : Nat} (hb : b = f K) (h : b = true) (h0 : cnt f K = 0) (hx : x = cd K) : nI x = fsA f cd (K + 1) := by
  rw [fsA, ← hb, h, if_pos rfl, if_pos h0, hx]
theorem fs_y1 {b : Bool} (hb : b = f K) (h : b = true) (h0 : cnt f K ≠ 0) : fsA f cd K = fsA f cd (K + 1) := by
  rw [fsA, ← hb, h, if_pos rfl, if_neg h0]
/-- from the last one down -/
def DS (f : Nat → Bool) (cd : Nat → Nat) (K N : Nat) (fs : Int32) : Prop := (fs = -9 ∧ ∀ j, K ≤ j → j < N → f j = false) ∨ ∃ j, K ≤ j ∧ j < N ∧ f j = true ∧ fs = nI (cd j) ∧ ∀ i, K ≤ i → i < j → f i = false
theorem DS_0 : DS f cd N N (-9) := Or.inl ⟨rfl, fun j h1 h2 => absurd h2 (by omega)⟩
theorem DS_no (h : DS f cd (K + 1) N fs) (hf : f K = false) : DS f cd K N fs := by
  have key : ∀ {j : Nat}, (∀ i, K + 1 ≤ i → i < j → f i = false) → ∀ i, K ≤ i → i < j → f i = false := fun hh i h1 h2 => by
    rcases Nat.eq_or_lt_of_le h1 with e | e
    · rw [← e]; exact hf
    · exact hh i e h2
  rcases h with ⟨a, b⟩ | ⟨j, a, b, c, d, e⟩
  · exact Or.inl ⟨a, key b⟩
  · exact Or.inr ⟨j, by omega, b, c, d, key e⟩
theorem DS_ye (hN : K < N) (hf : f K = true) : DS f cd K N (nI (cd K)) := Or.inr ⟨K, Nat.le_refl _, hN, hf, rfl, fun i h1 h2 => absurd h1 (by omega)⟩
theorem cnt_zero : ∀ k, (∀ i, i < k → f i = false) → cnt f k = 0 := by
  intro k
  induction k with
  | zero => intro _; rfl
  | succ k ih => intro h; rw [cnt_s, ih (fun i hi => h i (by omega)), h k (by omega)]; rfl
theorem cnt_mono (k : Nat) : ∀ m, cnt f k ≤ cnt f (k + m) := by
  intro m
  induction m with
  | zero => exact Nat.le_refl _
  | succ m ih => exact Nat.le_trans ih (Nat.le_add_right _ _)
theorem DS_end (h : DS f cd 0 N fs) : fs = fsA f cd N := by
  rcases h with ⟨a, b⟩ | ⟨j, -, b, c, d, e⟩
  · rw [a]
    have key : ∀ k, k ≤ N → fsA f cd k = -9 := by
      intro k
      induction k with
      | zero => intro _; rfl
      | succ k ih => intro hk; rw [fsA, b k (Nat.zero_le _) (by omega), if_neg (by decide), ih (by omega)]
    exact (key N (Nat.le_refl _)).symm
  · rw [d]
    have c0 := cnt_zero j (fun i hi => e i (Nat.zero_le _) hi)
    have key : ∀ m, j + 1 + m ≤ N → fsA f cd (j + 1 + m) = nI (cd j) := by
      intro m
      induction m with
      | zero => intro _; rw [Nat.add_zero, fsA, c, if_pos rfl, if_pos c0]
      | succ m ih =>
        intro hm
        rw [show j + 1 + (m + 1) = j + 1 + m + 1 by omega, fsA, ih (by omega)]
        split
        · rw [if_neg]
          have h1 := cnt_mono (f := f) (j + 1) m
          rw [cnt_s, c, c0] at h1
          have : 0 + true.toNat = 1 := rfl
          omega
        · rfl
    have := key (N - (j + 1)) (by omega)
    rw [show j + 1 + (N - (j + 1)) = N by omega] at this
    exact this.symm
end FSA
theorem up_xx (g : Nat → Nat) (a y : Nat) : up (up g a (g a ^^^ y)) a (up g a (g a ^^^ y) a ^^^ y) = g := by
  funext j
  by_cases e : j = a
  · rw [e, up_s, up_s, Nat.xor_assoc, Nat.xor_self, Nat.xor_zero]
  · rw [up_n _ _ e, up_n _ _ e]
theorem mEd_0 {p : Nat → Nat} {i c t : Nat} : mEd p 0 i c t = (Nat.testBit (gz p (i * 2 + c - 1)) t && withP (flE p 0 i c t)) := by
  unfold mEd
  show (Nat.testBit (gz p (i * 2 + c - 1)) t == true && _) = _
  rw [beq_true]
theorem mEd_1 {p : Nat → Nat} {i c t : Nat} : mEd p 1 i c t = (!Nat.testBit (go p (i * 2 + c - 1)) t && withP (flE p 1 i c t)) := by
  unfold mEd
  show (Nat.testBit (go p (i * 2 + c - 1)) t == false && _) = _
  rw [beq_false]
theorem md_bd {n i c t K : Nat} (hn : n ≤ 5) (hi : i < n) (h1 : 1 ≤ c) (h2 : c ≤ 2) (ht : t < n) (hK : K = i * (2 * n) + (c - 1) * n + t) : K < 2147483648 := by
  have a : i * (2 * n) ≤ 5 * 10 := Nat.mul_le_mul (by omega) (by omega)
  have b : (c - 1) * n ≤ 1 * 5 := Nat.mul_le_mul (by omega) hn
  omega

/-! SEARCH: taking a pair, and the whole run -/
section RUN
variable (F : Nat → Nat → Bool) (md e0 e1 : Nat) (g0 g1 : Nat → Nat) (n1 : Nat)
noncomputable def stS (p S k : Nat) (s : Sr) (c q : Nat) : Sr := if ((srB s).isNone && Nat.testBit (g0 (p * 2 + c - 1)) q) = true then comeS F md e0 e1 s q (stepN g1 S c n1) (nI k) c else s
noncomputable def goS (p S k : Nat) (s : Sr) : Nat → Sr
  | 0 => s
  | i + 1 => stS F md e0 e1 g0 g1 n1 p S k (goS p S k s i) (i / 4 + 1) (i % 4)
def tkS (s : Sr) : Sr := (srN s, srO s, srM s, srP s, srL s, srG s, srT s + 1, srA s, srD s, srB s)
noncomputable def rnS (k : Nat) (s : Sr) : Sr := if ((srB s).isNone && decide (k < srN s) && !srG s k) = true then goS F md e0 e1 g0 g1 n1 (srO s k) (srM s k) k (tkS s) 8 else s
def s0S (one many : Nat → Nat) (par : Nat → Int32) (lt : Nat → Nat) (gn : Nat → Bool) : Sr := (0, one, many, par, lt, gn, 0, 0, 0, none)
noncomputable def runS (s : Sr) : Nat → Sr
  | 0 => comeS F md e0 e1 s 0 1 (-9) 0
  | k + 1 => rnS F md e0 e1 g0 g1 n1 k (runS s k)
end RUN
section RUNB
variable {F : Nat → Nat → Bool} {md e0 e1 : Nat} {g0 g1 : Nat → Nat} {n0 n1 : Nat} {s t : Sr} {p S k : Nat}
theorem stS_bad {c q : Nat} (h : (srB s).isNone = false) : stS F md e0 e1 g0 g1 n1 p S k s c q = s := by
  unfold stS
  rw [h, Bool.false_and, if_neg (by decide)]
theorem stS_off {c q : Nat} (h : Nat.testBit (g0 (p * 2 + c - 1)) q = false) : stS F md e0 e1 g0 g1 n1 p S k s c q = s := by
  unfold stS
  rw [h, Bool.and_false, if_neg (by decide)]
theorem stS_on {c q : Nat} (hb : (srB s).isNone = true) (h : Nat.testBit (g0 (p * 2 + c - 1)) q = true) : stS F md e0 e1 g0 g1 n1 p S k s c q = comeS F md e0 e1 s q (stepN g1 S c n1) (nI k) c := by
  unfold stS
  rw [h, hb, if_pos (by decide)]
theorem goS_bad {i : Nat} (h : (srB (goS F md e0 e1 g0 g1 n1 p S k s i)).isNone = false) : ∀ m, goS F md e0 e1 g0 g1 n1 p S k s (i + m) = goS F md e0 e1 g0 g1 n1 p S k s i := by
  intro m
  induction m with
  | zero => rfl
  | succ m ih =>
    show goS F md e0 e1 g0 g1 n1 p S k s (i + m + 1) = _
    rw [goS, ih, stS_bad h]
theorem goS_next {c q : Nat} (hc : 1 ≤ c) (hq : q < 4) : goS F md e0 e1 g0 g1 n1 p S k s (4 * (c - 1) + (q + 1)) = stS F md e0 e1 g0 g1 n1 p S k (goS F md e0 e1 g0 g1 n1 p S k s (4 * (c - 1) + q)) c q := by
  show goS F md e0 e1 g0 g1 n1 p S k s (4 * (c - 1) + q + 1) = _
  rw [goS, show (4 * (c - 1) + q) / 4 + 1 = c by omega, show (4 * (c - 1) + q) % 4 = q by omega]
/-- what taking a pair keeps -/
theorem goS_inv (hC : Cvr F n0 n1) (hn1 : n1 ≤ 5) (hI : Inv F md n0 n1 s) (hk : k < srN s) (h0 : ∀ j, g0 j < 2 ^ n0) (h1 : ∀ j, g1 j < 2 ^ n1) : ∀ i, i ≤ 8 → Inv F md n0 n1 (goS F md e0 e1 g0 g1 n1 p S k s i) ∧ srN s ≤ srN (goS F md e0 e1 g0 g1 n1 p S k s i) ∧ ∀ j, j < srN s → srO (goS F md e0 e1 g0 g1 n1 p S k s i) j = srO s j ∧ srM (goS F md e0 e1 g0 g1 n1 p S k s i) j = srM s j := by
  intro i
  induction i with
  | zero => intro _; exact ⟨hI, Nat.le_refl _, fun j _ => ⟨rfl, rfl⟩⟩
  | succ i ih =>
    intro hi
    obtain ⟨a, b, d⟩ := ih (by omega)
    rw [goS]
    unfold stS
    split
    · rename_i h
      rw [Bool.and_eq_true] at h
      refine ⟨Inv_come hC hn1 a (bit_lt (h0 _) h.2) (stepN_ltP (k := n1) h1 _ _ _) (Or.inr ⟨k, by omega, rfl, by omega⟩) (by omega), Nat.le_trans b come_n, fun j hj => ?_⟩
      have := come_lo (F := F) (md := md) (e0 := e0) (e1 := e1) (p := i % 4) (S := stepN g1 S (i / 4 + 1) n1) (pr := nI k) (c := i / 4 + 1) (Nat.lt_of_lt_of_le hj b)
      rw [this.1, this.2]
      exact d j hj
    · exact ⟨a, b, d⟩
theorem rnS_off (h : ((srB s).isNone && decide (k < srN s) && !srG s k) = false) : rnS F md e0 e1 g0 g1 n1 k s = s := by
  unfold rnS
  rw [if_neg (by rw [h]; decide)]
theorem rnS_on (h1 : (srB s).isNone = true) (h2 : k < srN s) (h3 : srG s k = false) : rnS F md e0 e1 g0 g1 n1 k s = goS F md e0 e1 g0 g1 n1 (srO s k) (srM s k) k (tkS s) 8 := by
  unfold rnS
  rw [h1, h3, decide_eq_true h2, if_pos (by decide)]
theorem run_end {i : Nat} (h : srN (runS F md e0 e1 g0 g1 n1 s i) ≤ i ∨ (srB (runS F md e0 e1 g0 g1 n1 s i)).isNone = false) : ∀ m, runS F md e0 e1 g0 g1 n1 s (i + m) = runS F md e0 e1 g0 g1 n1 s i := by
  intro m
  induction m with
  | zero => rfl
  | succ m ih =>
    show runS F md e0 e1 g0 g1 n1 s (i + m + 1) = _
    rw [runS, ih]
    refine rnS_off ?_
    rcases h with z | z
    · rw [decide_eq_false (by omega), Bool.and_false, Bool.false_and]
    · rw [z, Bool.false_and, Bool.false_and]
theorem run_inv (hC : Cvr F n0 n1) (hn0 : 1 ≤ n0) (hn1 : n1 ≤ 5) (hn1' : 1 ≤ n1) (h0 : ∀ j, g0 j < 2 ^ n0) (h1 : ∀ j, g1 j < 2 ^ n1) (hs : srN s = 0) (hb : srB s = none) : ∀ i, Inv F md n0 n1 (runS F md e0 e1 g0 g1 n1 s i) := by
  intro i
  induction i with
  | zero =>
    refine Inv_come hC hn1 ⟨fun i hi => absurd hi (by omega), fun i hi => absurd hi (by omega), fun i j hi => absurd hi (by omega), fun k hk => ?_⟩ (by omega) ?_ (Or.inl rfl) (by decide)
    · rw [hb] at hk; cases hk
    · exact Nat.lt_of_lt_of_le (show 1 < 2 ^ 1 by decide) (Nat.pow_le_pow_right (by decide) hn1')
  | succ i ih =>
    rw [runS]
    unfold rnS
    split
    · rename_i h
      rw [Bool.and_eq_true, Bool.and_eq_true] at h
      exact (goS_inv hC hn1 (s := tkS (runS F md e0 e1 g0 g1 n1 s i)) ih (of_decide_eq_true h.1.2) h0 h1 8 (Nat.le_refl _)).1
    · exact ih
theorem Eqv_st {c q : Nat} (h : Eqv s t) : Eqv (stS F md e0 e1 g0 g1 n1 p S k s c q) (stS F md e0 e1 g0 g1 n1 p S k t c q) := by
  unfold stS
  rw [h.2.2.2.2.1]
  split
  · exact Eqv_come h
  · exact h
theorem Eqv_go (h : Eqv s t) : ∀ i, Eqv (goS F md e0 e1 g0 g1 n1 p S k s i) (goS F md e0 e1 g0 g1 n1 p S k t i) := by
  intro i
  induction i with
  | zero => exact h
  | succ i ih => rw [goS, goS]; exact Eqv_st ih
theorem Eqv_rn (h : Eqv s t) : Eqv (rnS F md e0 e1 g0 g1 n1 k s) (rnS F md e0 e1 g0 g1 n1 k t) := by
  rcases Nat.lt_or_ge k (srN s) with z | z
  · obtain ⟨a, b, -, -, d⟩ := h.2.2.2.2.2 k z
    unfold rnS
    rw [h.2.2.2.2.1, ← h.1, d, a, b]
    split
    · refine Eqv_go ?_ 8
      obtain ⟨h1, h2, h3, h4, h5, h6⟩ := h
      exact ⟨h1, by show srT s + 1 = srT t + 1; rw [h2], h3, h4, h5, h6⟩
    · exact h
  · rw [rnS_off (by rw [decide_eq_false (by omega), Bool.and_false, Bool.false_and]), rnS_off (by rw [decide_eq_false (by rw [← h.1]; omega), Bool.and_false, Bool.false_and])]
    exact h
theorem Eqv_run (h : Eqv s t) : ∀ i, Eqv (runS F md e0 e1 g0 g1 n1 s i) (runS F md e0 e1 g0 g1 n1 t i) := by
  intro i
  induction i with
  | zero => exact Eqv_come h
  | succ i ih => rw [runS, runS]; exact Eqv_rn ih
end RUNB

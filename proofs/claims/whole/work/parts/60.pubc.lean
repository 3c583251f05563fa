/-! the reference's calls: what its rows hold -/
def bkP (bk : Nat → Nat) (n : Nat) : Nat → Nat := fun k => if k < 22 then bk (22 * n + k) else 0
theorem bkP_in {bk : Nat → Nat} {n k : Nat} (h : k < 22) : bkP bk n k = bk (22 * n + k) := if_pos h
def kpT (s : Sr) (pr : Int32) (i : Nat) : Int32 := match kpK s pr i with
  | some j => nI (100 * srO s j + srM s j)
  | none => -9
section KPU
variable {s : Sr} {pr : Int32} {i j : Nat}
theorem kp_uniq : ∀ i, kpK s pr i = some j → j < i ∧ srG s j = false ∧ nI (stay s j) = pr := by
  intro i
  induction i with
  | zero => intro h; cases h
  | succ i ih =>
    intro h
    rw [kpK] at h
    split at h
    · obtain ⟨a, b, c⟩ := ih h
      exact ⟨by omega, b, c⟩
    · split at h
      · rename_i z
        cases h
        rw [Bool.and_eq_true] at z
        exact ⟨by omega, by simpa using z.1, of_decide_eq_true z.2⟩
      · cases h
theorem stay_mono (s : Sr) (i : Nat) : ∀ m, stay s i ≤ stay s (i + m) := by
  intro m
  induction m with
  | zero => exact Nat.le_refl _
  | succ m ih => exact Nat.le_trans ih (Nat.le_add_right _ _)
theorem kp_fresh (hi : i ≤ 128) (h : nI (stay s i) = pr) : kpK s pr i = none := by
  cases hk : kpK s pr i with
  | none => rfl
  | some j =>
    obtain ⟨a, b, c⟩ := kp_uniq i hk
    have h1 := stay_on b
    have h2 := stay_mono s (j + 1) (i - (j + 1))
    rw [show j + 1 + (i - (j + 1)) = i by omega] at h2
    have h3 := stay_le s i
    have h4 := stay_le s j
    rw [← h] at c
    have := (nI_eq (show stay s j < 2 ^ 31 by omega) (show stay s i < 2 ^ 31 by omega)).mp c
    omega
theorem kt_on (hi : i ≤ 128) (hg : srG s i = false) (h : nI (stay s i) = pr) : nI (100 * srO s i + srM s i) = kpT s pr (i + 1) := by
  unfold kpT
  rw [kp_on (kp_fresh hi h) hg h]
theorem kt_off (h : srG s i = true ∨ ¬ nI (stay s i) = pr) : kpT s pr i = kpT s pr (i + 1) := by
  unfold kpT
  rw [kpK]
  cases hk : kpK s pr i with
  | some j => rfl
  | none =>
    have : (!srG s i && decide (nI (stay s i) = pr)) = false := by
      rcases h with z | z
      · rw [z]; rfl
      · rw [decide_eq_false z, Bool.and_false]
    rw [this]; rfl
theorem kp_hit {n : Nat} : ∀ i, i ≤ 128 → n < stay s i → ∃ j, kpK s (nI n) i = some j := by
  intro i
  induction i with
  | zero => intro _ h; exact absurd h (Nat.not_lt_zero _)
  | succ i ih =>
    intro hi h
    rcases Nat.lt_or_ge n (stay s i) with z | z
    · obtain ⟨j, hj⟩ := ih (by omega) z
      exact ⟨j, by rw [kpK, hj]; rfl⟩
    · cases hg : srG s i with
      | true => rw [← stay_off hg] at h; omega
      | false =>
        rw [← stay_on hg] at h
        have e : nI (stay s i) = nI n := by rw [show stay s i = n by omega]
        exact ⟨i, kp_on (kp_fresh (by omega) e) hg e⟩
theorem kpR_in {n : Nat} (hn : srN s ≤ 128) (h : n < stay s (srN s)) : kpT s (nI n) (srN s) = kpR s (nI n) := by
  obtain ⟨j, hj⟩ := kp_hit (srN s) hn h
  unfold kpT kpR
  rw [hj]
theorem kpR_out (hn : srN s ≤ 128) (h : ∀ n, n < stay s (srN s) → pr ≠ nI n) : -1 = kpR s pr := by
  unfold kpR
  cases hk : kpK s pr (srN s) with
  | none => rfl
  | some j =>
    obtain ⟨a, b, c⟩ := kp_uniq _ hk
    have h1 := stay_on b
    have h2 := stay_mono s (j + 1) (srN s - (j + 1))
    rw [show j + 1 + (srN s - (j + 1)) = srN s by omega] at h2
    exact absurd c.symm (h _ (by omega))
/-- the number of a pair is one of those that are kept, or not -/
theorem st_in {N : Nat} (hN : N ≤ 128) : (inL pr.toInt64 0 (nI N - 1).toInt64 = true ∧ ∃ n, n < N ∧ pr = nI n) ∨ (inL pr.toInt64 0 (nI N - 1).toInt64 = false ∧ ∀ n, n < N → pr ≠ nI n) := by
  cases N with
  | zero =>
    refine Or.inr ⟨?_, fun n h => absurd h (Nat.not_lt_zero _)⟩
    cases hx : inL pr.toInt64 0 (nI 0 - 1).toInt64 with
    | false => rfl
    | true =>
      have z := inL_x.mp hx
      rw [Int32.toInt_toInt64, show (nI 0 - 1 : Int32).toInt = -1 by decide, show (0 : Int64).toInt = 0 from rfl] at z
      omega
  | succ N =>
    rw [nI_pred]
    rcases in_cases pr 0 N with h | ⟨n, -, h, rfl⟩
    · exact Or.inr ⟨inL_out rfl (by rw [Int32.toInt_toInt64, nI_toInt (by omega)]) h, fun n hn => h n (Nat.zero_le _) (by omega)⟩
    · exact Or.inl ⟨inL_in (a := 0) (b := N) rfl (by rw [Int32.toInt_toInt64, nI_toInt (by omega)]) (Nat.zero_le _) h (by omega), n, by omega, rfl⟩
end KPU
section TL2
variable {s : Sr} {k kb : Nat}
theorem tellS_0 (hb : srB s = none) : -9 = tellS s k := by
  unfold tellS
  rw [hb]
theorem tellS_gt (hb : srB s = some kb) (h : dpK s 128 kb < k) : -9 = tellS s k := by
  unfold tellS
  rw [hb]
  simp only
  rw [if_neg (by omega)]
theorem tellS_k0 (hb : srB s = some kb) (h : k = 0) : nI (dpK s 128 kb) = tellS s k := by
  unfold tellS
  rw [hb]
  simp only
  rw [if_pos (by omega), if_pos h]
theorem tellS_k (hb : srB s = some kb) (h : k ≠ 0) (h2 : k ≤ dpK s 128 kb) : nI (srL s (anK s kb (dpK s 128 kb - k))) = tellS s k := by
  unfold tellS
  rw [hb]
  simp only
  rw [if_pos h2, if_neg h]
end TL2
section BKL
variable {h f : Nat → Nat} {i n : Nat}
/-- a page is laid into a book, or out of it -/
theorem bk_put {bk h p : Nat → Nat} {b i : Nat} (h1 : ∀ j, j < b → h j = bk j) (h2 : ∀ k, k < i → h (b + k) = p k) : (∀ j, j < b → up h (b + i) (p i) j = bk j) ∧ ∀ k, k < i + 1 → up h (b + i) (p i) (b + k) = p k := by
  refine ⟨fun j hj => by rw [up_n _ _ (by omega)]; exact h1 j hj, fun k hk => ?_⟩
  by_cases e : k = i
  · rw [e, up_s]
  · rw [up_n _ _ (by omega)]; exact h2 k (by omega)
theorem bk_put2 {bk h p : Nat → Nat} {b d i : Nat} (hd : d + 22 ≤ b ∨ b + 22 ≤ d) (hi : i < 22) (h1 : ∀ j, j < 22 → h (d + j) = bk (d + j)) (h2 : ∀ k, k < i → h (b + k) = p k) : (∀ j, j < 22 → up h (b + i) (p i) (d + j) = bk (d + j)) ∧ ∀ k, k < i + 1 → up h (b + i) (p i) (b + k) = p k := by
  refine ⟨fun j hj => by rw [up_n _ _ (by omega)]; exact h1 j hj, fun k hk => ?_⟩
  by_cases e : k = i
  · rw [e, up_s]
  · rw [up_n _ _ (by omega)]; exact h2 k (by omega)
theorem bk_sh {bk h : Nat → Nat} {i : Nat} (h1 : ∀ j, j < i → h j = bk (j + 22)) (h2 : ∀ j, i ≤ j → h j = bk j) : (∀ j, j < i + 1 → up h i (h (i + 22)) j = bk (j + 22)) ∧ ∀ j, i + 1 ≤ j → up h i (h (i + 22)) j = bk j := by
  refine ⟨fun j hj => ?_, fun j hj => by rw [up_n _ _ (by omega)]; exact h2 j (by omega)⟩
  by_cases e : j = i
  · rw [e, up_s, h2 _ (by omega)]
  · rw [up_n _ _ e]; exact h1 j (by omega)
end BKL

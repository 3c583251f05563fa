/-! the least word that is missing has fewer than 128 letters -/
def catL (y : Nat) : Nat → Nat → Nat
  | _, 0 => y
  | x, i + 1 => 2 * catL y ((x - 1) / 2) i + lastL x
theorem lastL_1 (x : Nat) : 1 ≤ lastL x := by unfold lastL; split <;> decide
theorem lastL_2 (x : Nat) : lastL x ≤ 2 := by unfold lastL; split <;> decide
theorem lastL_eq {x : Nat} (h : x ≠ 0) : 2 * ((x - 1) / 2) + lastL x = x := by unfold lastL; split <;> omega
theorem catL_self : ∀ (i x : Nat), i ≤ lenB x → catL (prevN x i) x i = x
  | 0, x, _ => rfl
  | i + 1, x, h => by
    have hx : x ≠ 0 := fun e => by rw [e, lenB_0] at h; omega
    have hl : lenB x = lenB ((x - 1) / 2) + 1 := by rw [lenB, if_neg hx]
    rw [catL, prevN, catL_self i ((x - 1) / 2) (by omega), lastL_eq hx]
theorem catL_lt {y z : Nat} (h : y < z) : ∀ (i x : Nat), catL y x i < catL z x i
  | 0, x => h
  | i + 1, x => by
    rw [catL, catL]
    have := catL_lt h i ((x - 1) / 2)
    omega
theorem catL_run {d : Nat → Nat → Nat} {s y z : Nat} (h : runN d s y = runN d s z) : ∀ (i x : Nat), runN d s (catL y x i) = runN d s (catL z x i)
  | 0, x => h
  | i + 1, x => by
    rw [catL, catL, runN_s _ _ _ (lastL_1 x) (lastL_2 x), runN_s _ _ _ (lastL_1 x) (lastL_2 x), catL_run h i ((x - 1) / 2)]
theorem catL_path {g : Nat → Nat} {n y : Nat} : ∀ (i x : Nat) (P : Nat → Nat), (∀ j, j < i → Nat.testBit (g (P (j + 1) * 2 + letE x j - 1)) (P j) = true ∧ P (j + 1) < n) → Nat.testBit (runM g n y) (P i) = true → Nat.testBit (runM g n (catL y x i)) (P 0) = true
  | 0, x, P, _, h => h
  | i + 1, x, P, hp, h => by
    have ih := catL_path i ((x - 1) / 2) (fun j => P (j + 1)) (fun j hj => hp (j + 1) (by omega)) h
    have h0 := hp 0 (by omega)
    rw [catL]
    unfold runM
    rw [runN_s _ _ _ (lastL_1 x) (lastL_2 x)]
    show Nat.testBit (stepN g (runM g n (catL y ((x - 1) / 2) i)) (lastL x) n) (P 0) = true
    rw [stepN_bit]
    exact ⟨P 1, h0.2, ih, h0.1⟩
theorem prevN_lt {x j : Nat} (h : j < lenB x) : prevN x (j + 1) < prevN x j := by
  have := prevN_pos h
  rw [prevN_s]
  omega
theorem prevN_anti {x i j : Nat} (hij : i < j) (h : j ≤ lenB x) : prevN x j < prevN x i := by
  induction j with
  | zero => omega
  | succ j ih =>
    have h1 := prevN_lt (x := x) (j := j) (by omega)
    rcases Nat.lt_or_ge i j with z | z
    · have := ih z (by omega)
      omega
    · rw [show i = j by omega]
      exact h1
/-- a way back from an end -/
theorem path_ex {g : Nat → Nat} {n x p0 : Nat} (h0 : Nat.testBit (runM g n x) p0 = true) : ∀ k, k ≤ lenB x → ∃ P : Nat → Nat, P 0 = p0 ∧ (∀ j, j ≤ k → Nat.testBit (runM g n (prevN x j)) (P j) = true) ∧ ∀ j, j < k → Nat.testBit (g (P (j + 1) * 2 + letE x j - 1)) (P j) = true ∧ P (j + 1) < n
  | 0, _ => ⟨fun _ => p0, rfl, fun j hj => by rw [show j = 0 by omega]; exact h0, fun j hj => absurd hj (Nat.not_lt_zero _)⟩
  | k + 1, hk => by
    obtain ⟨P, h1, h2, h3⟩ := path_ex h0 k (by omega)
    have hb := h2 k (Nat.le_refl _)
    have hx := prevN_pos (x := x) (j := k) (by omega)
    have he := lastL_eq hx
    rw [← he] at hb
    unfold runM at hb
    rw [runN_s _ _ _ (lastL_1 _) (lastL_2 _)] at hb
    have hb : Nat.testBit (stepN g (runM g n ((prevN x k - 1) / 2)) (lastL (prevN x k)) n) (P k) = true := hb
    rw [stepN_bit] at hb
    obtain ⟨q, q1, q2, q3⟩ := hb
    refine ⟨up P (k + 1) q, by rw [up_n _ _ (by omega)]; exact h1, fun j hj => ?_, fun j hj => ?_⟩
    · by_cases e : j = k + 1
      · rw [e, up_s, prevN_s]
        exact q2
      · rw [up_n _ _ e]
        exact h2 j (by omega)
    · by_cases e : j = k
      · rw [e, up_s, up_n _ _ (by omega), letE_prev]
        exact ⟨q3, q1⟩
      · rw [up_n P q (show j + 1 ≠ k + 1 by omega), up_n P q (show j ≠ k + 1 by omega)]
        exact h3 j (by omega)
theorem pump {g0 : Nat → Nat} {n0 e0 : Nat} {g1 : Nat → Nat} {n1 e1 x : Nat} (hg0 : ∀ j, g0 j < 2 ^ 4) (hg1 : ∀ j, g1 j < 2 ^ 5) (h : leastW g0 n0 e0 g1 n1 e1 0 = some x) : lenB x < 128 := by
  rcases Nat.lt_or_ge (lenB x) 128 with z | z
  · exact z
  exfalso
  obtain ⟨hx, hmin⟩ : wantX g0 n0 e0 g1 n1 e1 0 x = true ∧ ∀ y, y < x → ¬ wantX g0 n0 e0 g1 n1 e1 0 y = true := by
    unfold leastW at h
    rcases Classical.em (∃ x, wantX g0 n0 e0 g1 n1 e1 0 x = true) with hE | hE
    · obtain ⟨w, w1, w2⟩ := pk_least (fun x => wantX g0 n0 e0 g1 n1 e1 0 x = true) hE
      rw [leastO_some w1 w2] at h
      cases h
      exact ⟨w1, w2⟩
    · rw [leastO_none (fun x hx => hE ⟨x, hx⟩)] at h
      cases h
  have hx2 : accB g0 n0 e0 x = true ∧ accB g1 n1 e1 x = false := by
    unfold wantX at hx
    rw [if_pos rfl, Bool.and_eq_true] at hx
    exact ⟨hx.1, by simpa using hx.2⟩
  obtain ⟨p0, b1, b2⟩ := and_ne.mp hx2.1
  obtain ⟨P, h1, h2, h3⟩ := path_ex b1 128 z
  obtain ⟨i, j, hij, hj, e⟩ := collide (N := 128) (f := fun j => if j ≤ 128 then P j * 32 + runM g1 n1 (prevN x j) else 0) (fun i hi => by
    show (if i ≤ 128 then P i * 32 + runM g1 n1 (prevN x i) else 0) < 128
    rw [if_pos (by omega)]
    have := bit_lt (runM_lt (k := 4) (by decide) hg0 n0 _) (h2 i (by omega))
    have := runM_lt (k := 5) (by decide) hg1 n1 (prevN x i)
    omega)
  have e : (if i ≤ 128 then P i * 32 + runM g1 n1 (prevN x i) else 0) = (if j ≤ 128 then P j * 32 + runM g1 n1 (prevN x j) else 0) := e
  rw [if_pos (by omega), if_pos (by omega)] at e
  have r1 := runM_lt (k := 5) (by decide) hg1 n1 (prevN x i)
  have r2 := runM_lt (k := 5) (by decide) hg1 n1 (prevN x j)
  have eP : P i = P j := by omega
  have eR : runM g1 n1 (prevN x j) = runM g1 n1 (prevN x i) := by omega
  have hlt : catL (prevN x j) x i < x := by
    have := catL_lt (prevN_anti (x := x) hij (by omega)) i x
    rw [catL_self i x (by omega)] at this
    exact this
  refine hmin _ hlt ?_
  unfold wantX
  rw [if_pos rfl, Bool.and_eq_true]
  constructor
  · refine and_ne.mpr ⟨p0, ?_, b2⟩
    rw [← h1]
    exact catL_path i x P (fun u hu => h3 u (by omega)) (by rw [eP]; exact h2 j (by omega))
  · have : runM g1 n1 (catL (prevN x j) x i) = runM g1 n1 x := by
      have q := catL_run (d := dM g1 n1) (s := 1) (y := prevN x j) (z := prevN x i) eR i x
      rw [catL_self i x (by omega)] at q
      exact q
    have h9 := hx2.2
    unfold accB at h9 ⊢
    rw [this, h9]
    rfl

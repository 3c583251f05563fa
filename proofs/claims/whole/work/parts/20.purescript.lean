theorem figP_of {t : Nat → Nat} {ts p d : Nat} (h : figP t ts p 0 9 = some d) (lo hi : Nat) (hh : hi ≤ 9) : figP t ts p lo hi = if lo ≤ d ∧ d ≤ hi then some d else none := by
  have hd := figP_some h
  unfold figP
  by_cases e : lo ≤ d ∧ d ≤ hi
  · rw [if_pos (by omega), if_pos e]
    congr 1
    omega
  · rw [if_neg (by omega), if_neg e]
theorem figP_ofN {t : Nat → Nat} {ts p : Nat} (h : figP t ts p 0 9 = none) (lo hi : Nat) (hh : hi ≤ 9) : figP t ts p lo hi = none := by
  unfold figP at h ⊢
  split at h
  · cases h
  · rw [if_neg (by omega)]
theorem ones_full : ∀ n, n < 6 → ∀ x, x < 2 ^ n → ∀ y, y < 2 ^ n → (ones x + ones y = 2 * n ↔ x = 2 ^ n - 1 ∧ y = 2 ^ n - 1) := by decide +kernel
theorem xor_or {x j : Nat} (h : Nat.testBit x j = false) : x ^^^ 2 ^ j = x ||| 2 ^ j := by
  apply Nat.eq_of_testBit_eq
  intro i
  rw [Nat.testBit_xor, Nat.testBit_or, Nat.testBit_two_pow]
  by_cases e : j = i
  · rw [← e, h]; simp
  · simp [e]
theorem ab_cases (l : Nat) : l = 97 ∨ l = 98 ∨ (l ≠ 97 ∧ l ≠ 98) := by omega
theorem let_other : ∀ x, x < 256 → x ≠ 97 ∧ x ≠ 98 → (decide (nI x - nI 97 + nI 1 = nI 1) || decide (nI x - nI 97 + nI 1 = nI 2)) = false := by decide +kernel
def edgeQ (t : Nat → Nat) (ts : Nat) (r : Nat → Nat) (m a : Nat) : Option Nat × (Nat → Nat) := if edgN (mG r m) (r m) = 2 * r m * r m then (some a, r) else edgeP t ts r m a
def endQ (t : Nat → Nat) (ts : Nat) (r : Nat → Nat) (m a : Nat) : Option Nat × (Nat → Nat) := if (!sgN (t a) || decide (r (2 + m) = 2 ^ r m - 1)) = true then (some a, r) else endP t ts r m a
section EQS
variable {t : Nat → Nat} {ts : Nat} {r : Nat → Nat} {m a d c j : Nat}
theorem eq1 (hr : pgOk r) (hm : m < 2) (hf : figP t ts (a + 1) 0 9 = none) : edgeP t ts r m a = (some (a + 1), r) := by
  have hb := pgOk_m hr hm
  unfold edgeP
  rw [figP_ofN hf 0 (r m - 1) (by omega)]
theorem eq2 (hr : pgOk r) (hm : m < 2) (hf : figP t ts (a + 1) 0 9 = some d) (hd : r m ≤ d) : edgeP t ts r m a = (some (a + 1), r) := by
  have hb := pgOk_m hr hm
  unfold edgeP
  rw [figP_of hf 0 (r m - 1) (by omega), if_neg (by omega)]
theorem eqfull (hr : pgOk r) (hm : m < 2) (hd : d < r m) : (ones (mG r m (d * 2 + 1 - 1)) + ones (mG r m (d * 2 + 2 - 1)) = 2 * r m) ↔ (r (atN m d 1) = 2 ^ r m - 1 ∧ r (atN m d 2) = 2 ^ r m - 1) := by
  have hb := pgOk_m hr hm
  rw [atN_mG hm hr.2.1 hd (by decide) (by decide), atN_mG hm hr.2.1 hd (by decide) (by decide)]
  exact ones_full (r m) (by omega) _ (hr.2.2.2.2.2.2.1 m hm _) _ (hr.2.2.2.2.2.2.1 m hm _)
theorem eq3 (hr : pgOk r) (hm : m < 2) (hf : figP t ts (a + 1) 0 9 = some d) (hd : d < r m) (hu : ones (mG r m (d * 2 + 1 - 1)) + ones (mG r m (d * 2 + 2 - 1)) = 2 * r m) : edgeP t ts r m a = (some (a + 1), r) := by
  have hb := pgOk_m hr hm
  unfold edgeP
  rw [figP_of hf 0 (r m - 1) (by omega), if_pos (by omega)]
  simp only [if_pos ((eqfull hr hm hd).mp hu)]
theorem eq4 (hr : pgOk r) (hm : m < 2) (hf : figP t ts (a + 1) 0 9 = some d) (hd : d < r m) (hu : ¬ ones (mG r m (d * 2 + 1 - 1)) + ones (mG r m (d * 2 + 2 - 1)) = 2 * r m) (hl : ¬ (a + 2 < ts ∧ 97 ≤ t (a + 2) ∧ t (a + 2) ≤ 98)) : edgeP t ts r m a = (some (a + 2), r) := by
  have hb := pgOk_m hr hm
  unfold edgeP
  rw [figP_of hf 0 (r m - 1) (by omega), if_pos (by omega)]
  simp only [if_neg (fun z => hu ((eqfull hr hm hd).mpr z)), if_pos hl]
theorem eq5 (hr : pgOk r) (hm : m < 2) (hf : figP t ts (a + 1) 0 9 = some d) (hd : d < r m) (hu : ¬ ones (mG r m (d * 2 + 1 - 1)) + ones (mG r m (d * 2 + 2 - 1)) = 2 * r m) (h2 : a + 2 < ts) (h1 : 1 ≤ c) (h3 : c ≤ 2) (hc : t (a + 2) = 96 + c) (hg : mG r m (d * 2 + c - 1) = 2 ^ r m - 1) : edgeP t ts r m a = (some (a + 2), r) := by
  have hb := pgOk_m hr hm
  unfold edgeP
  rw [figP_of hf 0 (r m - 1) (by omega), if_pos (by omega)]
  simp only [if_neg (fun z => hu ((eqfull hr hm hd).mpr z)), if_neg (show ¬ ¬ (a + 2 < ts ∧ 97 ≤ t (a + 2) ∧ t (a + 2) ≤ 98) by omega), show t (a + 2) - 96 = c by omega, atN_mG hm hr.2.1 hd h1 h3, if_pos hg]
theorem eq6 (hr : pgOk r) (hm : m < 2) (hf : figP t ts (a + 1) 0 9 = some d) (hd : d < r m) (hu : ¬ ones (mG r m (d * 2 + 1 - 1)) + ones (mG r m (d * 2 + 2 - 1)) = 2 * r m) (h2 : a + 2 < ts) (h1 : 1 ≤ c) (h3 : c ≤ 2) (hc : t (a + 2) = 96 + c) (hg : ¬ mG r m (d * 2 + c - 1) = 2 ^ r m - 1) : edgeP t ts r m a = match figP t ts (a + 3) 0 (r m - 1) with
      | none => (some (a + 3), r)
      | some j => if Nat.testBit (mG r m (d * 2 + c - 1)) j then (some (a + 3), r) else (none, up r (atN m d c) (mG r m (d * 2 + c - 1) ||| 2 ^ j)) := by
  have hb := pgOk_m hr hm
  unfold edgeP
  rw [figP_of hf 0 (r m - 1) (by omega), if_pos (by omega)]
  simp only [if_neg (fun z => hu ((eqfull hr hm hd).mpr z)), if_neg (show ¬ ¬ (a + 2 < ts ∧ 97 ≤ t (a + 2) ∧ t (a + 2) ≤ 98) by omega), show t (a + 2) - 96 = c by omega, atN_mG hm hr.2.1 hd h1 h3, if_neg hg]
  cases figP t ts (a + 3) 0 (r m - 1) <;> rfl
theorem eq7 (hr : pgOk r) (hm : m < 2) (h : figP t ts (a + 3) 0 9 = none) : figP t ts (a + 3) 0 (r m - 1) = none := by
  have hb := pgOk_m hr hm
  exact figP_ofN h 0 (r m - 1) (by omega)
theorem eq8 (hr : pgOk r) (hm : m < 2) (h : figP t ts (a + 3) 0 9 = some j) (hj : r m ≤ j) : figP t ts (a + 3) 0 (r m - 1) = none := by
  have hb := pgOk_m hr hm
  rw [figP_of h 0 (r m - 1) (by omega), if_neg (by omega)]
theorem eq9 (hr : pgOk r) (hm : m < 2) (h : figP t ts (a + 3) 0 9 = some j) (hj : j < r m) : figP t ts (a + 3) 0 (r m - 1) = some j := by
  have hb := pgOk_m hr hm
  rw [figP_of h 0 (r m - 1) (by omega), if_pos (by omega)]
end EQS
theorem kn_neg (n : Nat) : b2i (!decide ((-9 : Int32) < 0) && !decide (nI n ≤ (-9 : Int32))) = b2i false := by
  rw [show decide ((-9 : Int32) < 0) = true from rfl]
  rfl
theorem pg_lt4 {r : Nat → Nat} {m d : Nat} (hr : pgOk r) (h : d < r m) (e : m = 0) : d < 4 := by
  subst e
  exact Nat.lt_of_lt_of_le h hr.2.1
section ENS
variable {t : Nat → Nat} {ts : Nat} {r : Nat → Nat} {m a d : Nat}
theorem en1 (hr : pgOk r) (hm : m < 2) (hf : figP t ts (a + 1) 0 9 = none) : endP t ts r m a = (some (a + 1), r) := by
  have hb := pgOk_m hr hm
  unfold endP
  rw [figP_ofN hf 0 (r m - 1) (by omega)]
theorem en2 (hr : pgOk r) (hm : m < 2) (hf : figP t ts (a + 1) 0 9 = some d) (hd : r m ≤ d) : endP t ts r m a = (some (a + 1), r) := by
  have hb := pgOk_m hr hm
  unfold endP
  rw [figP_of hf 0 (r m - 1) (by omega), if_neg (by omega)]
theorem en3 (hr : pgOk r) (hm : m < 2) (hf : figP t ts (a + 1) 0 9 = some d) (hd : d < r m) (hu : Nat.testBit (r (2 + m)) d = true) : endP t ts r m a = (some (a + 1), r) := by
  have hb := pgOk_m hr hm
  unfold endP
  rw [figP_of hf 0 (r m - 1) (by omega), if_pos (by omega)]
  simp only [if_pos hu]
theorem en4 (hr : pgOk r) (hm : m < 2) (hf : figP t ts (a + 1) 0 9 = some d) (hd : d < r m) (hu : Nat.testBit (r (2 + m)) d = false) : endP t ts r m a = (none, up r (2 + m) (r (2 + m) ||| 2 ^ d)) := by
  have hb := pgOk_m hr hm
  unfold endP
  rw [figP_of hf 0 (r m - 1) (by omega), if_pos (by omega)]
  simp only [hu]
  rfl
theorem enx (h1 : t a ≠ 80) (h2 : t a ≠ 81) : endQ t ts r m a = (some a, r) := by
  unfold endQ
  rw [show sgN (t a) = false by unfold sgN; simp [h1, h2]]
  rfl
theorem enf (h : r (2 + m) = 2 ^ r m - 1) : endQ t ts r m a = (some a, r) := by
  unfold endQ
  rw [decide_eq_true h, Bool.or_true, if_pos rfl]
theorem enp (h1 : t a = 80 ∨ t a = 81) (h : ¬ r (2 + m) = 2 ^ r m - 1) : endQ t ts r m a = endP t ts r m a := by
  unfold endQ
  rw [decide_eq_false h, show sgN (t a) = true by unfold sgN; rcases h1 with e | e <;> rw [e] <;> rfl, if_neg (by decide)]
theorem edgeP_bd {x : Nat} (h : (edgeP t ts r m a).1 = some x) : x ≤ a + 3 := by
  unfold edgeP at h
  split at h
  · have := Option.some.inj h; omega
  · split at h
    · have := Option.some.inj h; omega
    · split at h
      · have := Option.some.inj h; omega
      · split at h
        · have := Option.some.inj h; omega
        · split at h
          · have := Option.some.inj h; omega
          · split at h
            · have := Option.some.inj h; omega
            · cases h
theorem edgeQ_bd {x : Nat} (h : (edgeQ t ts r m a).1 = some x) : x ≤ a + 3 := by
  unfold edgeQ at h
  split at h
  · have := Option.some.inj h; omega
  · exact edgeP_bd h
theorem endP_bd {x : Nat} (h : (endP t ts r m a).1 = some x) : x ≤ a + 3 := by
  unfold endP at h
  split at h
  · have := Option.some.inj h; omega
  · split at h
    · have := Option.some.inj h; omega
    · cases h
theorem endQ_bd {x : Nat} (h : (endQ t ts r m a).1 = some x) : x ≤ a + 3 := by
  unfold endQ at h
  split at h
  · have := Option.some.inj h; omega
  · exact endP_bd h
/-- what an edge or an end leaves of the page -/
theorem edgeQ_cases (hr : pgOk r) (hm : m < 2) : (edgeQ t ts r m a).2 = r ∨ ∃ i c v, i < r m ∧ 1 ≤ c ∧ c ≤ 2 ∧ (edgeQ t ts r m a).2 = up r (atN m i c) v := by
  have hb := pgOk_m hr hm
  unfold edgeQ
  split
  · exact Or.inl rfl
  · unfold edgeP
    split
    · exact Or.inl rfl
    · rename_i i hf
      have hi := figP_some hf
      split
      · exact Or.inl rfl
      · split
        · exact Or.inl rfl
        · rename_i h2
          split
          · exact Or.inl rfl
          · split
            · exact Or.inl rfl
            · split
              · exact Or.inl rfl
              · exact Or.inr ⟨i, _, _, by omega, by omega, by omega, rfl⟩
theorem edgeQ_low (hr : pgOk r) (hm : m < 2) {k : Nat} (hk : k < 4) : (edgeQ t ts r m a).2 k = r k := by
  rcases edgeQ_cases (t := t) (ts := ts) (a := a) hr hm with h | ⟨i, c, v, h1, h2, h3, h⟩
  · rw [h]
  · rw [h, up_ap, if_neg]
    unfold atN
    split <;> omega
theorem edgeQ_mG (hr : pgOk r) (hm : m < 2) {m2 : Nat} (hm2 : m2 < 2) (hne : m2 ≠ m) : mG (edgeQ t ts r m a).2 m2 = mG r m2 := by
  rcases edgeQ_cases (t := t) (ts := ts) (a := a) hr hm with h | ⟨i, c, v, h1, h2, h3, h⟩
  · rw [h]
  · rw [h, mG_other hm hm2 hne (pg_lt4 hr h1) h2 h3]
theorem endQ_cases : (endQ t ts r m a).2 = r ∨ ∃ v, (endQ t ts r m a).2 = up r (2 + m) v := by
  unfold endQ
  split
  · exact Or.inl rfl
  · unfold endP
    split
    · exact Or.inl rfl
    · split
      · exact Or.inl rfl
      · exact Or.inr ⟨_, rfl⟩
theorem endQ_low {k : Nat} (hk : k ≠ 2 + m) : (endQ t ts r m a).2 k = r k := by
  rcases endQ_cases (t := t) (ts := ts) (r := r) (m := m) (a := a) with h | ⟨v, h⟩
  · rw [h]
  · rw [h, up_ap, if_neg hk]
theorem endQ_mG (hm : m < 2) (m2 : Nat) : mG (endQ t ts r m a).2 m2 = mG r m2 := by
  rcases endQ_cases (t := t) (ts := ts) (r := r) (m := m) (a := a) with h | ⟨v, h⟩
  · rw [h]
  · rw [h, mG_low (by omega)]
theorem peN (hE : sgE (t a) = true) (hM : sgM (t a) = m) (hN : sgN (t a) = false) (h : (edgeQ t ts r m a).1 = none) : partP t ts r a = (none, a + 4, (edgeQ t ts r m a).2) := by
  unfold edgeQ at h ⊢
  split at h
  · cases h
  · rename_i h1
    rw [if_neg h1]
    unfold partP sgBad
    rw [hE, hN, hM, decide_eq_false h1]
    simp [h]
theorem peS {x : Nat} (hE : sgE (t a) = true) (hM : sgM (t a) = m) (hN : sgN (t a) = false) (h : (edgeQ t ts r m a).1 = some x) : (partP t ts r a).1 = some x := by
  unfold edgeQ at h
  split at h
  · rename_i h1
    unfold partP sgBad
    rw [hE, hN, hM, decide_eq_true h1]
    simpa using h
  · rename_i h1
    unfold partP sgBad
    rw [hE, hN, hM, decide_eq_false h1]
    simpa using h
theorem pnN (hE : sgE (t a) = false) (hM : sgN (t a) = true → sgM (t a) = m) (h : (endQ t ts r m a).1 = none) : partP t ts r a = (none, a + 2, (endQ t ts r m a).2) := by
  unfold endQ at h ⊢
  split at h
  · cases h
  · rename_i h1
    rw [if_neg h1]
    simp at h1
    have hN := h1.1
    have h2 := h1.2
    unfold partP sgBad
    rw [hE, hN, hM hN, decide_eq_false h2]
    simp [h]
theorem pnS {x : Nat} (hE : sgE (t a) = false) (hM : sgN (t a) = true → sgM (t a) = m) (h : (endQ t ts r m a).1 = some x) : (partP t ts r a).1 = some x := by
  unfold endQ at h
  split at h
  · rename_i h1
    unfold partP sgBad
    cases hN : sgN (t a) with
    | false => rw [hE]; simpa using h
    | true =>
      rw [hN] at h1
      simp at h1
      rw [hE, hM hN, decide_eq_true h1]
      simpa using h
  · rename_i h1
    simp at h1
    have hN := h1.1
    have h2 := h1.2
    unfold partP sgBad
    rw [hE, hN, hM hN, decide_eq_false h2]
    simpa using h
end ENS
theorem gz_page0 (n0 n1 : Nat) : gz (page0 n0 n1) = fun _ => 0 := by
  funext j
  rw [← mG_0]
  unfold page0
  rw [mG_low (by decide), mG_low (by decide), mG_0, gz_ap]
  split <;> rfl
theorem go_page0 (n0 n1 : Nat) : go (page0 n0 n1) = fun _ => 0 := by
  funext j
  rw [← mG_1]
  unfold page0
  rw [mG_low (by decide), mG_low (by decide)]
  rfl

theorem tx_up {t : Nat → Nat} {ts c : Nat} (ht : ∀ j, t j < 256) (hc : c < 256) : ∀ j, up t ts c j < 256 := fun j => by
  by_cases e : j = ts
  · rw [e, up_s]; exact hc
  · rw [up_n _ _ e]; exact ht j
theorem up_all {P : Nat → Prop} {f : Nat → Nat} {n v : Nat} (h : ∀ j, j < n → P (f j)) (hv : P v) : ∀ j, j < n + 1 → P (up f n v j) := fun j hj => by
  by_cases e : j = n
  · rw [e, up_s]; exact hv
  · rw [up_n _ _ e]; exact h j (by omega)
theorem mk_in {m : Nat} (h : m ≤ 1) : (decide (nI m = 0) || decide (nI m = nI 1)) = true := by
  rcases (show m = 0 ∨ m = 1 by omega) with rfl | rfl <;> decide
theorem kn_in {p : Nat → Nat} {y : Int32} (hr : pgOk p) (h : knB (p 1) y = true) : ∃ i, i < p 1 ∧ y = nI i := by
  have h1 := hr.2.2.1
  have h2 := hr.2.2.2.1
  rcases in_cases y 0 (p 1 - 1) with z | ⟨j, -, hj, e⟩
  · rw [knB_out z h1 (by omega)] at h; cases h
  · exact ⟨j, by omega, e⟩
theorem ed_in {p : Nat → Nat} {x f c t : Int32} (hr : pgOk p) (h : (stOf (p 0) (p 1) x f && (decide (c = nI 1) || decide (c = nI 2)) && stOf (p 0) (p 1) x t) = true) : ∃ m i d j, m < 2 ∧ i < p m ∧ 1 ≤ d ∧ d ≤ 2 ∧ j < p m ∧ x = nI m ∧ f = nI i ∧ c = nI d ∧ t = nI j := by
  rw [Bool.and_eq_true, Bool.and_eq_true] at h
  obtain ⟨⟨h1, h2⟩, h3⟩ := h
  obtain ⟨m, i, a1, a2, rfl, rfl⟩ := stO_in hr h1
  obtain ⟨m', j, b1, b2, b3, rfl⟩ := stO_in hr h3
  have e := (nI_eq (show m < 2 ^ 31 by omega) (show m' < 2 ^ 31 by omega)).mp b3
  subst e
  rw [Bool.or_eq_true] at h2
  rcases h2 with z | z
  · exact ⟨m, i, 1, j, a1, a2, by decide, by decide, b2, rfl, rfl, of_decide_eq_true z, rfl⟩
  · exact ⟨m, i, 2, j, a1, a2, by decide, by decide, b2, rfl, rfl, of_decide_eq_true z, rfl⟩
theorem sl_new {p kp2 : Nat → Nat} {b : Bool} {j : Nat} (hr : pgOk p) (hp : Nrm p) (h : ∀ k, k < 22 → kp2 (22 * j + k) = p k) : SlO b kp2 j (p 0) (p 2) (gz p) (p 1) (p 3) (go p) := fun _ => by
  rw [bkP_of hp h]
  exact ⟨hr, rfl, rfl, rfl, rfl, rfl, rfl⟩
theorem sl_old {kp kp2 : Nat → Nat} {b : Bool} {j k e : Nat} {g : Nat → Nat} {l h : Nat} {q : Nat → Nat} (hs : SlO b kp j k e g l h q) (hh : ∀ i, i < 22 → kp2 (22 * j + i) = kp (22 * j + i)) : SlO b kp2 j k e g l h q := fun z => by
  have e : bkP kp2 j = bkP kp j := by
    funext i
    unfold bkP
    split
    · rename_i hi
      exact hh i hi
    · rfl
  rw [e]
  exact hs z

/-! SEARCH: the state of a search, and how pairs come; F x y: x follows y (nine states) -/
abbrev Sr : Type := Nat × (Nat → Nat) × (Nat → Nat) × (Nat → Int32) × (Nat → Nat) × (Nat → Bool) × Nat × Nat × Nat × Option Nat
abbrev srN (s : Sr) : Nat := s.1
abbrev srO (s : Sr) : Nat → Nat := s.2.1
abbrev srM (s : Sr) : Nat → Nat := s.2.2.1
abbrev srP (s : Sr) : Nat → Int32 := s.2.2.2.1
abbrev srL (s : Sr) : Nat → Nat := s.2.2.2.2.1
abbrev srG (s : Sr) : Nat → Bool := s.2.2.2.2.2.1
abbrev srT (s : Sr) : Nat := s.2.2.2.2.2.2.1
abbrev srA (s : Sr) : Nat := s.2.2.2.2.2.2.2.1
abbrev srD (s : Sr) : Nat := s.2.2.2.2.2.2.2.2.1
abbrev srB (s : Sr) : Option Nat := s.2.2.2.2.2.2.2.2.2
def paS (s : Sr) : Sr := ((srN s), (srO s), (srM s), (srP s), (srL s), (srG s), (srT s), (srA s) + 1, (srD s), (srB s))
def bI : Option Nat → Int32
  | none => -9
  | some k => nI k
/-- some state of S is followed -/
noncomputable def folS (F : Nat → Nat → Bool) (x S : Nat) : Bool := decB (∃ t, t < 5 ∧ (Nat.testBit S t = true ∧ F x (4 + t) = true))
noncomputable def folA (F : Nat → Nat → Bool) (T S : Nat) : Bool := decB (∀ t, t < 5 → Nat.testBit T t = true → folS F (4 + t) S = true)
/-- (p, S) is covered by (q, T) -/
noncomputable def cov (F : Nat → Nat → Bool) (md p S q T : Nat) : Bool := if md = 0 then decide (p = q) && decide (S = T) else if md = 1 then decide (p = q) && decide (S &&& T = T) else F p q && folA F T S
noncomputable def passS (F : Nat → Nat → Bool) (md : Nat) (s : Sr) (p S : Nat) : Bool := (decide (md = 2) && folS F p S) || decB (∃ j, j < (srN s) ∧ ((srG s) j = false ∧ cov F md p S ((srO s) j) ((srM s) j) = true))
noncomputable def dropG (F : Nat → Nat → Bool) (md : Nat) (one many : Nat → Nat) (p S : Nat) (gn : Nat → Bool) : Nat → Nat → Bool
  | 0 => gn
  | k + 1 => if (!dropG F md one many p S gn k k && cov F md (one k) (many k) p S) = true then up (dropG F md one many p S gn k) k true else dropG F md one many p S gn k
noncomputable def dropC (F : Nat → Nat → Bool) (md : Nat) (one many : Nat → Nat) (p S : Nat) (gn : Nat → Bool) (d : Nat) : Nat → Nat
  | 0 => d
  | k + 1 => if (!dropG F md one many p S gn k k && cov F md (one k) (many k) p S) = true then dropC F md one many p S gn d k + 1 else dropC F md one many p S gn d k
noncomputable def keepS (F : Nat → Nat → Bool) (md e0 e1 : Nat) (s : Sr) (p S : Nat) (pr : Int32) (by' : Nat) : Sr :=
  ((srN s) + 1, up (srO s) (srN s) p, up (srM s) (srN s) S, up (srP s) (srN s) pr, up (srL s) (srN s) by', up (dropG F md (srO s) (srM s) p S (srG s) (srN s)) (srN s) false, (srT s), (srA s), dropC F md (srO s) (srM s) p S (srG s) (srD s) (srN s), if (Nat.testBit e0 p && (S &&& e1 == 0)) = true then some (srN s) else (srB s))
noncomputable def comeS (F : Nat → Nat → Bool) (md e0 e1 : Nat) (s : Sr) (p S : Nat) (pr : Int32) (by' : Nat) : Sr := if passS F md s p S = true then paS s else keepS F md e0 e1 s p S pr by'
section SRC
variable {F : Nat → Nat → Bool} {md e0 e1 : Nat} {s : Sr} {p S : Nat} {pr : Int32} {c : Nat}
theorem come_p (h : passS F md s p S = true) : comeS F md e0 e1 s p S pr c = paS s := by unfold comeS; rw [if_pos h]
theorem come_k (h : passS F md s p S = false) : comeS F md e0 e1 s p S pr c = keepS F md e0 e1 s p S pr c := by unfold comeS; rw [if_neg (by rw [h]; decide)]
theorem dropG_hi (one many : Nat → Nat) (gn : Nat → Bool) (k : Nat) : ∀ j, k ≤ j → dropG F md one many p S gn k j = gn j := by
  induction k with
  | zero => intro j _; rfl
  | succ k ih =>
    intro j hj
    rw [dropG]
    split
    · rw [up_n _ _ (by omega), ih j (by omega)]
    · exact ih j (by omega)
theorem dropG_eq (one many : Nat → Nat) (gn : Nat → Bool) (k : Nat) : ∀ j, j < k → dropG F md one many p S gn k j = (gn j || cov F md (one j) (many j) p S) := by
  induction k with
  | zero => intro j hj; exact absurd hj (Nat.not_lt_zero _)
  | succ k ih =>
    intro j hj
    rw [dropG, dropG_hi one many gn k k (Nat.le_refl _)]
    rcases Nat.lt_or_ge j k with z | z
    · split
      · rw [up_n _ _ (by omega), ih j z]
      · exact ih j z
    · have e : j = k := by omega
      subst e
      split
      · rename_i h
        rw [up_s]
        rw [Bool.and_eq_true] at h
        rw [h.2, Bool.or_true]
      · rename_i h
        rw [dropG_hi one many gn j j (Nat.le_refl _)]
        revert h
        cases gn j <;> cases cov F md (one j) (many j) p S <;> decide
end SRC
/-- the same but for what lies behind the last -/
def Eqv (s t : Sr) : Prop := (srN s) = (srN t) ∧ (srT s) = (srT t) ∧ (srA s) = (srA t) ∧ (srD s) = (srD t) ∧ (srB s) = (srB t) ∧ ∀ j, j < (srN s) → (srO s) j = (srO t) j ∧ (srM s) j = (srM t) j ∧ (srP s) j = (srP t) j ∧ (srL s) j = (srL t) j ∧ (srG s) j = (srG t) j
section EQV
variable {F : Nat → Nat → Bool} {md e0 e1 : Nat} {s t : Sr} {p S : Nat} {pr : Int32} {c : Nat}
theorem Eqv_pass (h : Eqv s t) : passS F md s p S = passS F md t p S := by
  unfold passS
  congr 1
  refine decB_congr ⟨fun ⟨j, a, b, d⟩ => ?_, fun ⟨j, a, b, d⟩ => ?_⟩
  · obtain ⟨z1, z2, -, -, z3⟩ := h.2.2.2.2.2 j a
    exact ⟨j, h.1 ▸ a, z3 ▸ b, by rw [← z1, ← z2]; exact d⟩
  · obtain ⟨z1, z2, -, -, z3⟩ := h.2.2.2.2.2 j (h.1 ▸ a)
    exact ⟨j, h.1 ▸ a, z3 ▸ b, by rw [z1, z2]; exact d⟩
theorem dropC_eq {one many one' many' : Nat → Nat} {gn gn' : Nat → Bool} {d : Nat} : ∀ k, (∀ j, j < k → one j = one' j ∧ many j = many' j ∧ gn j = gn' j) → dropC F md one many p S gn d k = dropC F md one' many' p S gn' d k := by
  intro k
  induction k with
  | zero => intro _; rfl
  | succ k ih =>
    intro h
    obtain ⟨a, b, c⟩ := h k (by omega)
    rw [dropC, dropC, dropG_hi one many gn k k (Nat.le_refl _), dropG_hi one' many' gn' k k (Nat.le_refl _), a, b, c, ih (fun j hj => h j (by omega))]
theorem Eqv_keep (h : Eqv s t) : Eqv (keepS F md e0 e1 s p S pr c) (keepS F md e0 e1 t p S pr c) := by
  obtain ⟨h1, h2, h3, h4, h5, h6⟩ := h
  unfold keepS
  refine ⟨by show (srN s) + 1 = (srN t) + 1; rw [h1], h2, h3, ?_, ?_, ?_⟩
  · show dropC F md (srO s) (srM s) p S (srG s) (srD s) (srN s) = dropC F md (srO t) (srM t) p S (srG t) (srD t) (srN t)
    rw [← h1, ← h4]
    exact dropC_eq (srN s) (fun j hj => ⟨(h6 j hj).1, (h6 j hj).2.1, (h6 j hj).2.2.2.2⟩)
  · show (if (Nat.testBit e0 p && (S &&& e1 == 0)) = true then some (srN s) else (srB s)) = (if (Nat.testBit e0 p && (S &&& e1 == 0)) = true then some (srN t) else (srB t))
    rw [h1, h5]
  · intro j hj
    have hj' : j < (srN s) + 1 := hj
    show up (srO s) (srN s) p j = up (srO t) (srN t) p j ∧ up (srM s) (srN s) S j = up (srM t) (srN t) S j ∧ up (srP s) (srN s) pr j = up (srP t) (srN t) pr j ∧ up (srL s) (srN s) c j = up (srL t) (srN t) c j ∧ up (dropG F md (srO s) (srM s) p S (srG s) (srN s)) (srN s) false j = up (dropG F md (srO t) (srM t) p S (srG t) (srN t)) (srN t) false j
    rw [← h1]
    by_cases e : j = (srN s)
    · rw [e, up_s, up_s, up_s, up_s, up_s, up_s, up_s, up_s, up_s, up_s]
      exact ⟨rfl, rfl, rfl, rfl, rfl⟩
    · have hl : j < (srN s) := by omega
      obtain ⟨a, b, d, f, g⟩ := h6 j hl
      rw [up_n _ _ e, up_n _ _ e, up_n _ _ e, up_n _ _ e, up_n _ _ e, up_n _ _ e, up_n _ _ e, up_n _ _ e, up_n _ _ e, up_n _ _ e, dropG_eq _ _ _ _ j hl, dropG_eq _ _ _ _ j hl, a, b, g]
      exact ⟨rfl, rfl, d, f, rfl⟩
theorem Eqv_come (h : Eqv s t) : Eqv (comeS F md e0 e1 s p S pr c) (comeS F md e0 e1 t p S pr c) := by
  unfold comeS
  rw [Eqv_pass h]
  split
  · obtain ⟨h1, h2, h3, h4, h5, h6⟩ := h
    exact ⟨h1, h2, by show (srA s) + 1 = (srA t) + 1; rw [h3], h4, h5, h6⟩
  · exact Eqv_keep h
end EQV

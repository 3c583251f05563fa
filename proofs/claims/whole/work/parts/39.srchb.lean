/-! SEARCH: covering is reflexive and transitive; no pair is kept twice -/
def Cvr (F : Nat → Nat → Bool) (n0 n1 : Nat) : Prop := (∀ x, x < n0 → F x x = true) ∧ (∀ t, t < n1 → F (4 + t) (4 + t) = true) ∧ ∀ x y z, F x y = true → F y z = true → F x z = true
section COV
variable {F : Nat → Nat → Bool} {md n0 n1 e0 e1 : Nat} {s : Sr} {p S : Nat} {pr : Int32} {c : Nat}
theorem cov_rfl (h : Cvr F n0 n1) (hp : p < n0) (hS : S < 2 ^ n1) : cov F md p S p S = true := by
  unfold cov
  split
  · rw [decide_eq_true rfl, decide_eq_true rfl]; rfl
  · split
    · rw [decide_eq_true rfl, Nat.and_self, decide_eq_true rfl]; rfl
    · rw [h.1 p hp, Bool.true_and]
      exact decB_t (fun t ht hb => decB_t ⟨t, ht, hb, h.2.1 t (bit_lt hS hb)⟩)
theorem cov_trans (h : Cvr F n0 n1) {q T r U : Nat} (h1 : cov F md p S q T = true) (h2 : cov F md q T r U = true) : cov F md p S r U = true := by
  unfold cov at *
  split
  · rename_i z
    rw [if_pos z, Bool.and_eq_true] at h1 h2
    rw [of_decide_eq_true h1.1, of_decide_eq_true h1.2, h2.1, h2.2]; rfl
  · rename_i z
    rw [if_neg z] at h1 h2
    split
    · rename_i w
      rw [if_pos w, Bool.and_eq_true] at h1 h2
      have a := of_decide_eq_true h1.2
      have b := of_decide_eq_true h2.2
      have d : S &&& U = U := by rw [← b, ← Nat.and_assoc, a]
      rw [of_decide_eq_true h1.1, h2.1, decide_eq_true d]; rfl
    · rename_i w
      rw [if_neg w, Bool.and_eq_true] at h1 h2
      rw [h.2.2 p q r h1.1 h2.1, Bool.true_and]
      refine decB_t (fun u hu hb => ?_)
      obtain ⟨t, t1, t2, t3⟩ := decB_iff.mp (decB_iff.mp h2.2 u hu hb)
      obtain ⟨v, v1, v2, v3⟩ := decB_iff.mp (decB_iff.mp h1.2 t t1 t2)
      exact decB_t ⟨v, v1, v2, h.2.2 _ _ _ t3 v3⟩
def Inv (F : Nat → Nat → Bool) (md n0 n1 : Nat) (s : Sr) : Prop :=
  (∀ i, i < srN s → srO s i < n0 ∧ srM s i < 2 ^ n1 ∧ srL s i ≤ 2 ∧ (srP s i = -9 ∨ ∃ k, k < i ∧ srP s i = nI k ∧ 1 ≤ srL s i)) ∧
  (∀ i, i < srN s → ∃ j, j < srN s ∧ srG s j = false ∧ cov F md (srO s i) (srM s i) (srO s j) (srM s j) = true) ∧
  (∀ i j, i < srN s → j < srN s → srO s i * 32 + srM s i = srO s j * 32 + srM s j → i = j) ∧ ∀ k, srB s = some k → k < srN s
theorem pw5 (h1 : n1 ≤ 5) {x : Nat} (h : x < 2 ^ n1) : x < 32 := Nat.lt_of_lt_of_le h (Nat.pow_le_pow_right (n := 2) (by decide) h1)
theorem Inv_new (hn1 : n1 ≤ 5) (hI : Inv F md n0 n1 s) (hS : S < 2 ^ n1) (hp : passS F md s p S = false) : ∀ i, i < srN s → srO s i * 32 + srM s i ≠ p * 32 + S := fun i hi e => by
  obtain ⟨a, b, -⟩ := hI.1 i hi
  have a1 := pw5 hn1 b
  have a2 := pw5 hn1 hS
  have e1 : srO s i = p := by omega
  have e2 : srM s i = S := by omega
  obtain ⟨j, j1, j2, j3⟩ := hI.2.1 i hi
  rw [e1, e2] at j3
  unfold passS at hp
  rw [decB_t ⟨j, j1, j2, j3⟩, Bool.or_true] at hp
  cases hp
theorem Inv_lt (hn0 : n0 ≤ 4) (hn1 : n1 ≤ 5) (hI : Inv F md n0 n1 s) (h0 : p < n0) (hS : S < 2 ^ n1) (hp : passS F md s p S = false) : srN s < 128 :=
  pigeon_new (f := fun i => srO s i * 32 + srM s i) (v := p * 32 + S) (fun i hi => by
    obtain ⟨a, b, -⟩ := hI.1 i hi
    have a1 := pw5 hn1 b
    show srO s i * 32 + srM s i < 128
    omega) hI.2.2.1 (by have := pw5 hn1 hS; omega) (Inv_new hn1 hI hS hp)
theorem Inv_le (hn0 : n0 ≤ 4) (hn1 : n1 ≤ 5) (hI : Inv F md n0 n1 s) : srN s ≤ 128 :=
  pigeon 128 (fun i => srO s i * 32 + srM s i) (srN s) (fun i hi => by
    obtain ⟨a, b, -⟩ := hI.1 i hi
    have a1 := pw5 hn1 b
    show srO s i * 32 + srM s i < 128
    omega) hI.2.2.1
theorem Inv_keep (hC : Cvr F n0 n1) (hn1 : n1 ≤ 5) (hI : Inv F md n0 n1 s) (h0 : p < n0) (hS : S < 2 ^ n1) (hpr : pr = -9 ∨ ∃ k, k < srN s ∧ pr = nI k ∧ 1 ≤ c) (hc : c ≤ 2) (hp : passS F md s p S = false) : Inv F md n0 n1 (keepS F md e0 e1 s p S pr c) := by
  have hN := Inv_new hn1 hI hS hp
  obtain ⟨i1, i2, i3, i4⟩ := hI
  unfold keepS
  refine ⟨fun i hi => ?_, fun i hi => ?_, fun i j hi hj e => ?_, fun k hk => ?_⟩
  · have hi : i < srN s + 1 := hi
    show up (srO s) (srN s) p i < n0 ∧ up (srM s) (srN s) S i < 2 ^ n1 ∧ up (srL s) (srN s) c i ≤ 2 ∧ (up (srP s) (srN s) pr i = -9 ∨ ∃ k, k < i ∧ up (srP s) (srN s) pr i = nI k ∧ 1 ≤ up (srL s) (srN s) c i)
    by_cases z : i = srN s
    · rw [z, up_s, up_s, up_s, up_s]
      exact ⟨h0, hS, hc, hpr⟩
    · rw [up_n _ _ z, up_n _ _ z, up_n _ _ z, up_n _ _ z]
      exact i1 i (by omega)
  · have hi : i < srN s + 1 := hi
    show ∃ j, j < srN s + 1 ∧ up (dropG F md (srO s) (srM s) p S (srG s) (srN s)) (srN s) false j = false ∧ cov F md (up (srO s) (srN s) p i) (up (srM s) (srN s) S i) (up (srO s) (srN s) p j) (up (srM s) (srN s) S j) = true
    by_cases z : i = srN s
    · refine ⟨srN s, by omega, by rw [up_s], ?_⟩
      rw [z, up_s, up_s]
      exact cov_rfl hC h0 hS
    · obtain ⟨j, j1, j2, j3⟩ := i2 i (by omega)
      have zj : j ≠ srN s := by omega
      cases hd : cov F md (srO s j) (srM s j) p S with
      | true =>
        refine ⟨srN s, by omega, by rw [up_s], ?_⟩
        rw [up_s, up_s, up_n _ _ z, up_n _ _ z]
        exact cov_trans hC j3 hd
      | false =>
        refine ⟨j, by omega, ?_, ?_⟩
        · rw [up_n _ _ zj, dropG_eq _ _ _ _ j j1, j2, hd]; rfl
        · rw [up_n _ _ z, up_n _ _ z, up_n _ _ zj, up_n _ _ zj]; exact j3
  · have hi : i < srN s + 1 := hi
    have hj : j < srN s + 1 := hj
    have e : up (srO s) (srN s) p i * 32 + up (srM s) (srN s) S i = up (srO s) (srN s) p j * 32 + up (srM s) (srN s) S j := e
    by_cases zi : i = srN s
    · by_cases zj : j = srN s
      · omega
      · rw [zi, up_s, up_s, up_n _ _ zj, up_n _ _ zj] at e
        exact absurd e.symm (hN j (by omega))
    · by_cases zj : j = srN s
      · rw [zj, up_s, up_s, up_n _ _ zi, up_n _ _ zi] at e
        exact absurd e (hN i (by omega))
      · rw [up_n _ _ zi, up_n _ _ zi, up_n _ _ zj, up_n _ _ zj] at e
        exact i3 i j (by omega) (by omega) e
  · have hk : (if (Nat.testBit e0 p && (S &&& e1 == 0)) = true then some (srN s) else (srB s)) = some k := hk
    show k < srN s + 1
    split at hk
    · cases hk; omega
    · have := i4 k hk; omega
theorem Inv_come (hC : Cvr F n0 n1) (hn1 : n1 ≤ 5) (hI : Inv F md n0 n1 s) (h0 : p < n0) (hS : S < 2 ^ n1) (hpr : pr = -9 ∨ ∃ k, k < srN s ∧ pr = nI k ∧ 1 ≤ c) (hc : c ≤ 2) : Inv F md n0 n1 (comeS F md e0 e1 s p S pr c) := by
  cases hp : passS F md s p S with
  | true => rw [come_p hp]; exact hI
  | false => rw [come_k hp]; exact Inv_keep hC hn1 hI h0 hS hpr hc hp
theorem come_n : srN s ≤ srN (comeS F md e0 e1 s p S pr c) := by
  cases hp : passS F md s p S with
  | true => rw [come_p hp]; exact Nat.le_refl _
  | false => rw [come_k hp]; exact Nat.le_succ _
theorem come_lo {j : Nat} (hj : j < srN s) : srO (comeS F md e0 e1 s p S pr c) j = srO s j ∧ srM (comeS F md e0 e1 s p S pr c) j = srM s j := by
  cases hp : passS F md s p S with
  | true => rw [come_p hp]; exact ⟨rfl, rfl⟩
  | false =>
    rw [come_k hp]
    show up (srO s) (srN s) p j = _ ∧ up (srM s) (srN s) S j = _
    rw [up_n _ _ (by omega), up_n _ _ (by omega)]
    exact ⟨rfl, rfl⟩
end COV

def manyB (p : Nat → Nat) (n k i : Nat) : Nat := sumN (fun b => (mnt k (afterB (gz p) (p 0) b n &&& p 2 != 0) (afterB (go p) (p 1) b n &&& p 3 != 0)).toNat) i
theorem many_s {p : Nat → Nat} {n k b x : Nat} {a c : Bool} (ha : (afterB (gz p) (p 0) b n &&& p 2 != 0) = a) (hb : (afterB (go p) (p 1) b n &&& p 3 != 0) = c) (hx : x = (mnt k a c).toNat) : manyB p n k b + x = manyB p n k (b + 1) := by
  unfold manyB
  rw [sumN, hx]
  simp only [ha, hb]
theorem wor_s0 {p : Nat → Nat} {S n b : Nat} (h : afterB (gz p) (p 0) b n &&& p 2 = 0) : worR p S n + worB p S n b = worR p S n + worB p S n (b + 1) := by
  unfold worB
  rw [sumN]
  simp only [h]
  rfl
theorem wor_s1 {p : Nat → Nat} {S n b : Nat} (h : ¬ afterB (gz p) (p 0) b n &&& p 2 = 0) : worR p S n + worB p S n b + (afterB (go p) (p 1) b n &&& S != 0).toNat = worR p S n + worB p S n (b + 1) := by
  have h2 : (afterB (gz p) (p 0) b n &&& p 2 != 0) = true := by simpa using h
  unfold worB
  rw [sumN]
  simp only [h2, Bool.true_and]
  omega
theorem wor_in {h : Nat → Nat} {A : Nat → Nat} {B : Nat → Bool} {T x : Nat} (hh : ∀ S, S < 32 → (S < T → h S = A S + (B S).toNat) ∧ (T ≤ S → h S = A S)) (hT : T < 32) (hx : (B T).toNat = x) : ∀ S, S < 32 → (S < T + 1 → up h T (h T + x) S = A S + (B S).toNat) ∧ (T + 1 ≤ S → up h T (h T + x) S = A S) := fun S hS => by
  by_cases e : S = T
  · subst e
    rw [up_s, (hh S hS).2 (Nat.le_refl _), hx]
    exact ⟨fun _ => rfl, fun z => absurd z (by omega)⟩
  · rw [up_n _ _ e]
    exact ⟨fun z => (hh S hS).1 (by omega), fun z => (hh S hS).2 (by omega)⟩
theorem ones_bit {e i : Nat} (he : e < 32) (hi : i < 5) (h : Nat.testBit e i = true) : 1 ≤ ones e := by
  have key : ∀ e, e < 32 → ∀ i, i < 5 → Nat.testBit e i = true → 1 ≤ ones e := by decide +kernel
  exact key e he i hi h
theorem ones_sub {e S i : Nat} (he : e < 32) (hS : S < 32) (hi : i < 5) (h : Nat.testBit e i = true) (hs : e &&& S = S) (hn : Nat.testBit S i = false) : ones S + 1 ≤ ones e := by
  have key : ∀ e, e < 32 → ∀ S, S < 32 → ∀ i, i < 5 → (e &&& S = S ∧ Nat.testBit e i = true ∧ Nat.testBit S i = false) → ones S + 1 ≤ ones e := by decide +kernel
  exact key e he S hS i hi ⟨hs, h, hn⟩
theorem ones_sb : ∀ e, e < 32 → ∀ S, S < 32 → e &&& S = S → ones S ≤ ones e := by decide +kernel
theorem wor_le (p : Nat → Nat) (S i : Nat) : worR p S 7 ≤ worR p (S ||| 2 ^ i) 7 := by
  rw [wor_dif]
  exact Nat.le_add_right _ _
theorem shUp_y {p : Nat → Nat} {i S : Nat} (h : p 3 &&& S = S ∧ Nat.testBit S i = false) : shUp p i S + factN (ones S) * factN (ones (p 3) - 1 - ones S) * (worR p (S ||| 2 ^ i) 7 - worR p S 7) = shUp p i (S + 1) := by
  unfold shUp
  rw [sumN]
  unfold coW
  simp only [if_pos h]
theorem shUp_n {p : Nat → Nat} {i S : Nat} (h : ¬ (p 3 &&& S = S ∧ Nat.testBit S i = false)) : shUp p i S + 0 = shUp p i (S + 1) := by
  unfold shUp
  rw [sumN]
  unfold coW
  simp only [if_neg h, Nat.zero_mul]
theorem pg_set3 {p : Nat → Nat} (hr : pgOk p) {S : Nat} (h : p 3 &&& S = S) : pgOk (up p 3 S) := pgOk_setE (m := 1) hr (by decide) (Nat.lt_of_le_of_lt (by rw [← h]; exact Nat.and_le_left) (hr.2.2.2.2.2.2.2 1 (by decide)))
theorem with_set3 (p : Nat → Nat) (S : Nat) : withB (gz (up p 3 S)) (up p 3 S 0) (up p 3 S 2) (go (up p 3 S)) (up p 3 S 1) (up p 3 S 3) = withB (gz p) (p 0) (p 2) (go p) (p 1) S := by
  rw [show gz (up p 3 S) = gz p from mG_low (m := 0) (by decide), show go (up p 3 S) = go p from mG_low (m := 1) (by decide), up_n _ _ (by decide), up_n _ _ (by decide), up_n _ _ (by decide), up_s]
theorem dr_s {p : Nat → Nat} {sd : Int64} {i a b : Nat} (ha : (afterB (gz p) (p 0) (sh33 (rndI sd (i + 1)) / 16) (sh33 (rndI sd (i + 1)) % 10) &&& p 2 != 0).toNat = a) (hb : 2 * (afterB (go p) (p 1) (sh33 (rndI sd (i + 1)) / 16) (sh33 (rndI sd (i + 1)) % 10) &&& p 3 != 0).toNat = b) : drS p sd i + a + b = drS p sd (i + 1) := by
  unfold drS
  rw [sumN]
  unfold drO
  rw [ha, hb]
  omega
theorem tw_t {x : Nat} (h : ¬ x = 0) : 2 * (x != 0).toNat = 2 := by
  rw [bne_iff_ne.mpr h]; rfl
theorem tw_f {x : Nat} (h : x = 0) : 2 * (x != 0).toNat = 0 := by
  rw [h]; rfl

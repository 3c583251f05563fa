section CVP
variable {g0 : Nat → Nat} {n0 e0 : Nat} {g1 : Nat → Nat} {n1 e1 : Nat}
theorem le9_kn (hn0 : n0 ≤ 4) (hn1 : n1 ≤ 5) (h0 : ∀ j, g0 j < 2 ^ n0) (h1 : ∀ j, g1 j < 2 ^ n1) (x c e : Nat) (hb : Nat.testBit (le9 g0 g1 x c) e = true) : e < 9 ∧ kn n0 n1 e = true := by
  unfold le9 at hb
  unfold kn
  split at hb
  · have := bit_lt (h0 _) hb
    rw [if_pos (by omega), decide_eq_true this]
    exact ⟨by omega, rfl⟩
  · rw [← Nat.shiftLeft_eq, Nat.testBit_shiftLeft, Bool.and_eq_true] at hb
    have h4 := of_decide_eq_true hb.1
    have := bit_lt (h1 _) hb.2
    rw [if_neg (by omega), decide_eq_true this]
    exact ⟨by omega, rfl⟩
theorem Cvr_fol (hn0 : n0 ≤ 4) (hn1 : n1 ≤ 5) (h0 : ∀ j, g0 j < 2 ^ n0) (h1 : ∀ j, g1 j < 2 ^ n1) : Cvr (folB g0 n0 e0 g1 n1 e1) n0 n1 := by
  have hl : ∀ x c e, x < 9 → Nat.testBit (le9 g0 g1 x c) e = true → e < 9 ∧ (kn n0 n1 x = true → kn n0 n1 e = true) := fun x c e _ hb => ⟨(le9_kn hn0 hn1 h0 h1 x c e hb).1, fun _ => (le9_kn hn0 hn1 h0 h1 x c e hb).2⟩
  refine ⟨fun x hx => folB_rfl (by omega) ?_ hl, fun t ht => folB_rfl (by omega) ?_ hl, fun x y z => folB_trans⟩
  · unfold kn
    rw [if_pos (by omega), decide_eq_true hx]
  · unfold kn
    rw [if_neg (by omega), decide_eq_true (by omega)]
end CVP
section EQA
variable {s t : Sr} {pr : Int32}
theorem stay_eqv (h : Eqv s t) : ∀ k, k ≤ srN s → stay s k = stay t k := by
  intro k
  induction k with
  | zero => intro _; rfl
  | succ k ih =>
    intro hk
    show stay s k + (!srG s k).toNat = stay t k + (!srG t k).toNat
    rw [ih (by omega), (h.2.2.2.2.2 k (by omega)).2.2.2.2]
theorem kp_eqv (h : Eqv s t) : ∀ k, k ≤ srN s → kpK s pr k = kpK t pr k := by
  intro k
  induction k with
  | zero => intro _; rfl
  | succ k ih =>
    intro hk
    rw [kpK, kpK, ih (by omega), stay_eqv h k (by omega), (h.2.2.2.2.2 k (by omega)).2.2.2.2]
end EQA

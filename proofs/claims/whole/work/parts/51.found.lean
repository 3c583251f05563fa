/-! SEARCH: the way back from a pair to the first one -/
def pN (s : Sr) (i : Nat) : Nat := (srP s i).toInt.toNat
/-- how many letters lead to a pair (fuel first) -/
def dpK (s : Sr) : Nat → Nat → Nat
  | 0, _ => 0
  | f + 1, i => if srP s i = -9 then 0 else dpK s f (pN s i) + 1
def anK (s : Sr) (i : Nat) : Nat → Nat
  | 0 => i
  | j + 1 => pN s (anK s i j)
theorem pN_eq {s : Sr} {i k : Nat} (hk : k < 128) (h : srP s i = nI k) : pN s i = k := by
  have key : ∀ k, k < 128 → (nI k).toInt.toNat = k := by decide +kernel
  unfold pN
  rw [h]
  exact key k hk
theorem nI_ne9 {k : Nat} (hk : k < 128) : nI k ≠ -9 := by
  have key : ∀ k, k < 128 → nI k ≠ -9 := by decide +kernel
  exact key k hk
section DPT
variable {F : Nat → Nat → Bool} {md n0 n1 : Nat} {s : Sr}
theorem Inv_par (hn0 : n0 ≤ 4) (hn1 : n1 ≤ 5) (hI : Inv F md n0 n1 s) {i : Nat} (hi : i < srN s) : srP s i = -9 ∨ (srP s i = nI (pN s i) ∧ pN s i < i ∧ srP s i ≠ -9 ∧ 1 ≤ srL s i) := by
  have hN := Inv_le hn0 hn1 hI
  rcases (hI.1 i hi).2.2.2 with h | ⟨k, h1, h2, h3⟩
  · exact Or.inl h
  · have e := pN_eq (by omega) h2
    refine Or.inr ⟨by rw [e]; exact h2, by omega, by rw [h2]; exact nI_ne9 (by omega), h3⟩
theorem dp_fuel (hn0 : n0 ≤ 4) (hn1 : n1 ≤ 5) (hI : Inv F md n0 n1 s) : ∀ f i, i < f → i < srN s → dpK s f i = dpK s (f + 1) i := by
  intro f
  induction f with
  | zero => intro i h; exact absurd h (Nat.not_lt_zero _)
  | succ f ih =>
    intro i hf hi
    rw [dpK, dpK]
    rcases Inv_par hn0 hn1 hI hi with h | ⟨-, h2, h3, -⟩
    · rw [if_pos h, if_pos h]
    · rw [if_neg h3, if_neg h3, ih (pN s i) (by omega) (by omega)]
theorem dp_le (hn0 : n0 ≤ 4) (hn1 : n1 ≤ 5) (hI : Inv F md n0 n1 s) : ∀ f i, i < srN s → dpK s f i ≤ i := by
  intro f
  induction f with
  | zero => intro i _; exact Nat.zero_le _
  | succ f ih =>
    intro i hi
    rw [dpK]
    rcases Inv_par hn0 hn1 hI hi with h | ⟨-, h2, h3, -⟩
    · rw [if_pos h]; exact Nat.zero_le _
    · rw [if_neg h3]
      have := ih (pN s i) (by omega)
      omega
end DPT

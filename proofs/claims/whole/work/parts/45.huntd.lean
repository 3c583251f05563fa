section GOE
variable {F : Nat → Nat → Bool} {md e0 e1 : Nat} {g0 g1 : Nat → Nat} {n1 : Nat} {s u v : Sr} {p S k c q kb : Nat}
theorem go_end1 (hu : u = goS F md e0 e1 g0 g1 n1 p S k s (4 * (c - 1) + q)) (hc : 1 ≤ c) (hq : q = 4) : u = goS F md e0 e1 g0 g1 n1 p S k s (4 * (c + 1 - 1)) := by
  rw [hu]
  congr 1
  omega
theorem go_end2 (hu : u = goS F md e0 e1 g0 g1 n1 p S k s (4 * (c - 1) + q)) (hc : 1 ≤ c) (hq : q ≤ 4) (hb : srB u = some kb) : u = goS F md e0 e1 g0 g1 n1 p S k s (4 * (c + 1 - 1)) := by
  rw [show 4 * (c + 1 - 1) = 4 * (c - 1) + q + (4 - q) by omega, goS_bad (by rw [← hu, hb]; rfl), ← hu]
theorem go_off (hu : u = goS F md e0 e1 g0 g1 n1 p S k s (4 * (c - 1) + q)) (hc : 1 ≤ c) (hq : q < 4) (h : Nat.testBit (g0 (p * 2 + c - 1)) q = false) : u = goS F md e0 e1 g0 g1 n1 p S k s (4 * (c - 1) + (q + 1)) := by
  rw [goS_next hc hq, ← hu, stS_off h]
theorem go_on (hu : u = goS F md e0 e1 g0 g1 n1 p S k s (4 * (c - 1) + q)) (hc : 1 ≤ c) (hq : q < 4) (hb : srB u = none) (h : Nat.testBit (g0 (p * 2 + c - 1)) q = true) (hv : v = comeS F md e0 e1 u q (stepN g1 S c n1) (nI k) c) : v = goS F md e0 e1 g0 g1 n1 p S k s (4 * (c - 1) + (q + 1)) := by
  rw [goS_next hc hq, ← hu, stS_on (by rw [hb]; rfl) h, hv]
end GOE
theorem opt_cases (o : Option Nat) : o = none ∨ ∃ k, o = some k := by
  cases o with
  | none => exact Or.inl rfl
  | some k => exact Or.inr ⟨k, rfl⟩

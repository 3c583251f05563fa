section DPE
variable {F : Nat → Nat → Bool} {md n0 n1 : Nat} {s : Sr}
theorem dp_end {i : Nat} (h : srP s i = -9) : dpK s 128 i = 0 := by
  show (if srP s i = -9 then 0 else dpK s 127 (pN s i) + 1) = 0
  rw [if_pos h]
theorem dp_st (hn0 : n0 ≤ 4) (hn1 : n1 ≤ 5) (hI : Inv F md n0 n1 s) {i : Nat} (hi : i < srN s) (h : srP s i ≠ -9) : dpK s 128 i = dpK s 128 (pN s i) + 1 := by
  show (if srP s i = -9 then 0 else dpK s 127 (pN s i) + 1) = _
  rw [if_neg h]
  have hN := Inv_le hn0 hn1 hI
  rcases Inv_par hn0 hn1 hI hi with z | ⟨-, h2, -, -⟩
  · exact absurd z h
  · rw [dp_fuel hn0 hn1 hI 127 (pN s i) (by omega) (by omega)]
end DPE

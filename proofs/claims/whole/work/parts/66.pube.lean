theorem isE_bit {n e j : Nat} (h : e < 2 ^ n) : (decide (j < n) && Nat.testBit e j) = Nat.testBit e j := by
  cases hb : Nat.testBit e j with
  | false => rw [Bool.and_false]
  | true => rw [decide_eq_true (bit_lt h hb)]; rfl
theorem lo_tot : ∀ e, e < 32 → ∀ x, x < 11 → sumN (fun S => if e &&& S = S then (10 - x) ^ ones S * x ^ (ones e - ones S) else 0) 32 = 10 ^ ones e := by decide +kernel
theorem ten_le {e : Nat} (h : e < 32) : 10 ^ ones e ≤ 1000000 := by
  have key : ∀ e, e < 32 → 10 ^ ones e ≤ 100000 := by decide +kernel
  exact Nat.le_trans (key e h) (by decide)
theorem lo_le {p : Nat → Nat} (hr : pgOk p) {x : Nat} (hx : x ≤ 10) : loS p x 32 ≤ 1000000 := by
  refine Nat.le_trans ?_ (ten_le (hr.2.2.2.2.1 3))
  rw [← lo_tot _ (hr.2.2.2.2.1 3) x (by omega)]
  unfold loS
  refine sum_mono 32 (fun S _ => ?_)
  split
  · rename_i z
    rw [Bool.and_eq_true] at z
    rw [if_pos (of_decide_eq_true z.1)]
    exact Nat.le_refl _
  · exact Nat.zero_le _
section LOS
variable {p : Nat → Nat} {x S : Nat}
theorem lo_no (h : (decide (p 3 &&& S = S) && withB (gz p) (p 0) (p 2) (go p) (p 1) S) = false) : loS p x S = loS p x (S + 1) := by
  unfold loS
  rw [sumN]
  simp only [h, Bool.false_eq_true, if_false, Nat.add_zero]
theorem lo_yes (h : (decide (p 3 &&& S = S) && withB (gz p) (p 0) (p 2) (go p) (p 1) S) = true) : loS p x S + (10 - x) ^ ones S * x ^ (ones (p 3) - ones S) = loS p x (S + 1) := by
  unfold loS
  rw [sumN]
  simp only [h, if_true]
end LOS

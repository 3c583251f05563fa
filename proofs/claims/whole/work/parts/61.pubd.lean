theorem ns_t {b : Bool} (h : (!b) = true) : b = false := by cases b with
  | false => rfl
  | true => cases h
theorem ns_f {b : Bool} (h : (!b) = false) : b = true := by cases b with
  | true => rfl
  | false => cases h
theorem mach_in {x : Int32} (h : (decide (x = 0) || decide (x = nI 1)) = true) : inL x.toInt64 0 1 = true := by
  rcases isMach h with rfl | rfl <;> decide
theorem up_lt9 {h f : Nat → Nat} {i v : Nat} (hh : ∀ j, j < i → h j = f j) (hv : v = f i) : ∀ j, j < i + 1 → up h i v j = f j := by
  rw [hv]
  exact up_lt hh
theorem st9 {p : Nat → Nat} {m i : Nat} (hr : pgOk p) (hm : m < 2) (hi : i < p m) : 4 * m + i < 9 := by
  have h0 := hr.2.1
  have h1 := hr.2.2.2.1
  rcases (show m = 0 ∨ m = 1 by omega) with rfl | rfl <;> omega

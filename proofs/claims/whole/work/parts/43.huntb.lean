section KEP
variable {F : Nat → Nat → Bool} {md e0 e1 n0 n1 : Nat} {s : Sr} {p S : Nat} {pr : Int32} {c : Nat}
noncomputable def keepT (F : Nat → Nat → Bool) (md : Nat) (s : Sr) (p S : Nat) (pr : Int32) (c : Nat) (b : Option Nat) : Sr := (srN s + 1, up (srO s) (srN s) p, up (srM s) (srN s) S, up (srP s) (srN s) pr, up (srL s) (srN s) c, up (dropG F md (srO s) (srM s) p S (srG s) (srN s)) (srN s) false, srT s, srA s, dropC F md (srO s) (srM s) p S (srG s) (srD s) (srN s), b)
theorem keep_bad (hp : passS F md s p S = false) (h : (Nat.testBit e0 p && (S &&& e1 == 0)) = true) : keepT F md s p S pr c (some (srN s)) = comeS F md e0 e1 s p S pr c := by
  rw [come_k hp]
  unfold keepS keepT
  rw [if_pos h]
theorem keep_ok (hp : passS F md s p S = false) (h : (Nat.testBit e0 p && (S &&& e1 == 0)) = false) : keepT F md s p S pr c (srB s) = comeS F md e0 e1 s p S pr c := by
  rw [come_k hp]
  unfold keepS keepT
  rw [if_neg (by rw [h]; decide)]
theorem Inv_A (hn0 : n0 ≤ 4) (hn1 : n1 ≤ 5) (hI : Inv F md n0 n1 s) : ∀ i, i < srN s → srO s i < 4 ∧ srM s i < 32 := fun i hi => ⟨Nat.lt_of_lt_of_le (hI.1 i hi).1 hn0, pw5 hn1 (hI.1 i hi).2.1⟩
end KEP

section LIK
variable {g0 : Nat → Nat} {n0 e0 : Nat} {g1 : Nat → Nat} {n1 e1 : Nat} {fw : Nat → Nat}
theorem and_some {a b : Nat} (h : a &&& b ≠ 0) : ∃ q, Nat.testBit a q = true ∧ Nat.testBit b q = true := and_ne.mp (by simpa using h)
theorem and_none {a b : Nat} (h : a &&& b = 0) (q : Nat) (h1 : Nat.testBit a q = true) (h2 : Nat.testBit b q = true) : False := by
  have : Nat.testBit (a &&& b) q = true := by rw [Nat.testBit_and, h1, h2]; rfl
  rw [h, Nat.zero_testBit] at this
  cases this
theorem lk_in (h0 : ∀ j, g0 j < 16) (h1 : ∀ j, g1 j < 32) {x y c e : Nat} (h : fw e &&& le9 g0 g1 y c ≠ 0) : Hc g0 g1 (Fw fw) x y c e := by
  obtain ⟨q, a, b⟩ := and_some h
  exact Or.inr ⟨q, le9_bit h0 h1 y c q b, b, a⟩
theorem lk_out {x y c e : Nat} (hc : c < 2) (he : e < 9) (hb : Nat.testBit (le9 g0 g1 x (c + 1)) e = true) (h : fw e &&& le9 g0 g1 y (c + 1) = 0) : ¬ Hd g0 g1 (Fw fw) x y := fun z => by
  obtain ⟨f, -, a, b⟩ := z (c + 1) e (by omega) (by omega) he hb
  exact and_none h f b a
theorem lk_ok {x y c : Nat} (hc : c = 2) (h : Hl g0 g1 (Fw fw) x y c) : decB (¬ Hd g0 g1 (Fw fw) x y) = false := decB_f (fun z => z (Hl_2.mp (hc ▸ h)))
theorem nrf_off {x k : Nat} (h : Nat.testBit (nrf g0 g1 fw x k) k = false) : nrf g0 g1 fw x k = nrf g0 g1 fw x (k + 1) := by
  rw [nrf, h, Bool.false_and, if_neg (by decide)]
theorem nrf_no {x k : Nat} (h : decB (¬ Hd g0 g1 (Fw fw) x k) = false) : nrf g0 g1 fw x k = nrf g0 g1 fw x (k + 1) := by
  rw [nrf, h, Bool.and_false, if_neg (by decide)]
theorem nrf_yes {x k : Nat} (hb : Nat.testBit (nrf g0 g1 fw x k) k = true) (h : decB (¬ Hd g0 g1 (Fw fw) x k) = true) : nrf g0 g1 fw x k ^^^ 2 ^ k = nrf g0 g1 fw x (k + 1) := by
  rw [nrf, h, hb, Bool.and_true, if_pos rfl]
theorem lk_m {m : Bool} {r c : Nat} (hr : 81 < r) (hC : m = true → r + c ≤ 81) : m = false := by
  cases m with
  | false => rfl
  | true => have := hC rfl; omega
theorem lk_ext {P : Nat → Nat → Prop} {x : Nat} (h : ∀ j y, j < x → P j y) (hx : ∀ y, P x y) : ∀ j y, j < x + 1 → P j y := fun j y hj => by
  rcases Nat.lt_or_ge j x with z | z
  · exact h j y z
  · rw [show j = x by omega]; exact hx y
theorem lk_hm {x : Nat} {f : Nat → Nat} (h : ∀ j y, j < x → y < 9 → Fw f j y = true → Hd g0 g1 (Fw f) j y) (he : nrf g0 g1 f x 9 = f x) : ∀ j y, j < x + 1 → y < 9 → Fw (up f x (nrf g0 g1 f x 9)) j y = true → Hd g0 g1 (Fw (up f x (nrf g0 g1 f x 9))) j y := by
  rw [up_same he]
  exact lk_ext (P := fun j y => y < 9 → Fw f j y = true → Hd g0 g1 (Fw f) j y) h (fun y hy hb => nrf_hd rfl he hy hb)
theorem lk_f {x v : Nat} {f : Nat → Nat} {P : Nat → Nat} (h : ∀ j, j < x → f j = P j) (hv : v = P x) : ∀ j, j < x + 1 → up f x v j = P j := fun j hj => by
  by_cases e : j = x
  · rw [e, up_s, hv]
  · rw [up_n _ _ e]; exact h j (by omega)
theorem lk_ld {x v w : Nat} {f : Nat → Nat} {P : Nat → Nat → Nat} (h : ∀ a i, a < x → i < 2 → f (a * 2 + i) = P a (i + 1)) (hv : v = P x 1) (hw : w = P x 2) : ∀ a i, a < x + 1 → i < 2 → up (up f (x * 2) v) (x * 2 + 1) w (a * 2 + i) = P a (i + 1) := fun a i ha hi => by
  by_cases e : a = x
  · subst e
    rcases (show i = 0 ∨ i = 1 by omega) with rfl | rfl
    · rw [up_n _ _ (by omega), Nat.add_zero, up_s, hv]
    · rw [up_s, hw]
  · rw [up_n _ _ (by omega), up_n _ _ (by omega)]
    exact h a i (by omega) hi
end LIK
def ixN (m s : Nat) : Nat := if m = 0 then s else s + 4
def ysN (m S : Nat) : Nat := if m = 0 then S else S * 2 ^ 4

/-! FOLLOWS: the nine states of both machines, those of the second behind four of the first -/
def kn (n0 n1 x : Nat) : Bool := if x < 4 then decide (x < n0) else decide (x - 4 < n1)
def en (e0 e1 x : Nat) : Bool := if x < 4 then Nat.testBit e0 x else Nat.testBit e1 (x - 4)
def le9 (g0 g1 : Nat → Nat) (x c : Nat) : Nat := if x < 4 then g0 (x * 2 + c - 1) else g1 ((x - 4) * 2 + c - 1) * 2 ^ 4
def bs (n0 e0 n1 e1 x y : Nat) : Bool := kn n0 n1 x && kn n0 n1 y && (!en e0 e1 x || en e0 e1 y)
def Sm (g0 : Nat → Nat) (n0 e0 : Nat) (g1 : Nat → Nat) (n1 e1 : Nat) (Q : Nat → Nat → Prop) : Prop :=
  ∀ x y, Q x y → x < 9 ∧ y < 9 ∧ bs n0 e0 n1 e1 x y = true ∧ ∀ c e, 1 ≤ c → c ≤ 2 → Nat.testBit (le9 g0 g1 x c) e = true → ∃ f, Nat.testBit (le9 g0 g1 y c) f = true ∧ Q e f
def Fol (g0 : Nat → Nat) (n0 e0 : Nat) (g1 : Nat → Nat) (n1 e1 x y : Nat) : Prop := ∃ Q, Sm g0 n0 e0 g1 n1 e1 Q ∧ Q x y
noncomputable def folB (g0 : Nat → Nat) (n0 e0 : Nat) (g1 : Nat → Nat) (n1 e1 x y : Nat) : Bool := decB (Fol g0 n0 e0 g1 n1 e1 x y)
/-- each edge of x has one of y that goes where that leads is followed, by what is still held -/
def Hd (g0 g1 : Nat → Nat) (F : Nat → Nat → Bool) (x y : Nat) : Prop := ∀ c e, 1 ≤ c → c ≤ 2 → e < 9 → Nat.testBit (le9 g0 g1 x c) e = true → ∃ f, f < 9 ∧ Nat.testBit (le9 g0 g1 y c) f = true ∧ F e f = true
section FOL
variable {g0 : Nat → Nat} {n0 e0 : Nat} {g1 : Nat → Nat} {n1 e1 : Nat} {F : Nat → Nat → Bool}
theorem Fol_sm : Sm g0 n0 e0 g1 n1 e1 (Fol g0 n0 e0 g1 n1 e1) := by
  rintro x y ⟨Q, hQ, h⟩
  obtain ⟨a, b, c, d⟩ := hQ x y h
  refine ⟨a, b, c, fun u e h1 h2 h3 => ?_⟩
  obtain ⟨f, f1, f2⟩ := d u e h1 h2 h3
  exact ⟨f, f1, Q, hQ, f2⟩
/-- what is followed is still held -/
def FolIn (g0 : Nat → Nat) (n0 e0 : Nat) (g1 : Nat → Nat) (n1 e1 : Nat) (F : Nat → Nat → Bool) : Prop := (∀ x y, Fol g0 n0 e0 g1 n1 e1 x y → F x y = true) ∧ ∀ x y, x < 9 → y < 9 → F x y = true → bs n0 e0 n1 e1 x y = true
theorem FolIn_not (h : FolIn g0 n0 e0 g1 n1 e1 F) {x y : Nat} (hn : ¬ Hd g0 g1 F x y) : ¬ Fol g0 n0 e0 g1 n1 e1 x y := fun hf => by
  obtain ⟨a, b, c, d⟩ := Fol_sm x y hf
  refine hn fun u e h1 h2 _ h3 => ?_
  obtain ⟨f, f1, f2⟩ := d u e h1 h2 h3
  exact ⟨f, (Fol_sm e f f2).2.1, f1, h.1 e f f2⟩
theorem FolIn_end (h : FolIn g0 n0 e0 g1 n1 e1 F) (he : ∀ x y, x < 9 → y < 9 → F x y = true → Hd g0 g1 F x y) (hl : ∀ x c e, x < 9 → Nat.testBit (le9 g0 g1 x c) e = true → e < 9) {x y : Nat} (hx : x < 9) (hy : y < 9) : F x y = folB g0 n0 e0 g1 n1 e1 x y := by
  have key : F x y = true → Fol g0 n0 e0 g1 n1 e1 x y := fun hf => by
    refine ⟨fun a b => a < 9 ∧ b < 9 ∧ F a b = true, ?_, hx, hy, hf⟩
    rintro a b ⟨h1, h2, h3⟩
    refine ⟨h1, h2, h.2 a b h1 h2 h3, fun c e c1 c2 hb => ?_⟩
    have he9 := hl a c e h1 hb
    obtain ⟨f, f1, f2, f3⟩ := he a b h1 h2 h3 c e c1 c2 he9 hb
    exact ⟨f, f2, he9, f1, f3⟩
  unfold folB
  cases hF : F x y with
  | true => rw [decB_t (key hF)]
  | false => rw [decB_f (fun z => by rw [h.1 x y z] at hF; cases hF)]
theorem folB_rfl {x : Nat} (hx : x < 9) (hk : kn n0 n1 x = true) (hl : ∀ x c e, x < 9 → Nat.testBit (le9 g0 g1 x c) e = true → e < 9 ∧ (kn n0 n1 x = true → kn n0 n1 e = true)) : folB g0 n0 e0 g1 n1 e1 x x = true := by
  refine decB_t ⟨fun a b => a = b ∧ a < 9 ∧ kn n0 n1 a = true, ?_, rfl, hx, hk⟩
  rintro a b ⟨rfl, h1, h2⟩
  refine ⟨h1, h1, ?_, fun c e c1 c2 hb => ⟨e, hb, rfl, (hl a c e h1 hb).1, (hl a c e h1 hb).2 h2⟩⟩
  unfold bs
  rw [h2]
  cases en e0 e1 a <;> rfl
theorem folB_trans {x y z : Nat} (h1 : folB g0 n0 e0 g1 n1 e1 x y = true) (h2 : folB g0 n0 e0 g1 n1 e1 y z = true) : folB g0 n0 e0 g1 n1 e1 x z = true := by
  have a := decB_iff.mp h1
  have b := decB_iff.mp h2
  refine decB_t ⟨fun u w => ∃ v, Fol g0 n0 e0 g1 n1 e1 u v ∧ Fol g0 n0 e0 g1 n1 e1 v w, ?_, y, a, b⟩
  rintro u w ⟨v, p, q⟩
  obtain ⟨p1, p2, p3, p4⟩ := Fol_sm u v p
  obtain ⟨q1, q2, q3, q4⟩ := Fol_sm v w q
  refine ⟨p1, q2, ?_, fun c e c1 c2 hb => ?_⟩
  · unfold bs at *
    rw [Bool.and_eq_true, Bool.and_eq_true] at *
    refine ⟨⟨p3.1.1, q3.1.2⟩, ?_⟩
    have r1 := p3.2
    have r2 := q3.2
    revert r1 r2
    cases en e0 e1 u <;> cases en e0 e1 v <;> cases en e0 e1 w <;> decide
  · obtain ⟨f, f1, f2⟩ := p4 c e c1 c2 hb
    obtain ⟨k, k1, k2⟩ := q4 c f c1 c2 f1
    exact ⟨k, k1, f, f2, k2⟩
end FOL

section LSW
variable {Γ : GT} {l : Launch} {G : GG} {cc : ByteArray} {nL : Nat} {c0 : Cond} {own : String} {R : Room} {k n pc : Nat} {L L' : List (Nat × Value)} {st : List Value} {ws ws' : va_W}
theorem wc_ls (X : Cx Γ l G cc nL c0 own R) (pc tgt : Nat) (v : Int32) {x : Int32} {dflt off : Int} {ps : Array (Int × Int)} {len : Nat} (hd : decode cc pc = .ok (.lookupswitch dflt ps, len)) (hx : x = v) (hp : (ps.toList.zip (ps.toList.drop 1)).all (fun (a, next) => a.1 < next.1) = true) (ho : Op.lookupswitch.offset ps.toList dflt v.toInt = off) (ht : (pc : Int) + off = (tgt : Int)) (kk : Wc Γ k n tgt L st ws) : Wc Γ k n pc L (.int x :: st) ws := by
  subst hx
  exact fun H locs ls hJ hl => lv_lookup X.ex X.co hd hp ho ht (kk H locs ls hJ hl)
end LSW
section HUN
variable {fw : Nat → Nat} {F : Nat → Nat → Bool}
theorem hk_one (hF : ∀ x y, x < 9 → y < 9 → Nat.testBit (fw x) y = F x y) {p q : Nat} (hp : p < 4) (hq : q < 4) : (fw (ixN 0 p) &&& ysN 0 (2 ^ q) != 0) = F p q := by
  rw [← hF p q (by omega) (by omega)]
  show (fw p &&& 2 ^ q != 0) = Nat.testBit (fw p) q
  cases hb : Nat.testBit (fw p) q with
  | true => exact and_ne.mpr ⟨q, hb, Nat.testBit_two_pow_self⟩
  | false =>
    cases hz : (fw p &&& 2 ^ q != 0) with
    | false => rfl
    | true =>
      obtain ⟨i, a, b⟩ := and_ne.mp hz
      rw [Nat.testBit_two_pow] at b
      have e := of_decide_eq_true b
      subst e
      rw [a] at hb
      cases hb
theorem hk_some (hF : ∀ x y, x < 9 → y < 9 → Nat.testBit (fw x) y = F x y) {x S : Nat} (hx : x < 9) (hS : S < 32) : (fw x &&& S * 2 ^ 4 != 0) = folS F x S := by
  refine Bool.eq_iff_iff.mpr (and_ne.trans (Iff.trans ?_ decB_iff.symm))
  constructor
  · rintro ⟨q, a, b⟩
    rw [← Nat.shiftLeft_eq, Nat.testBit_shiftLeft, Bool.and_eq_true] at b
    have h4 := of_decide_eq_true b.1
    have h5 := bit_lt (k := 5) hS b.2
    refine ⟨q - 4, h5, b.2, ?_⟩
    rw [show 4 + (q - 4) = q by omega, ← hF x q hx (by omega), a]
  · rintro ⟨t, h1, h2, h3⟩
    refine ⟨4 + t, by rw [hF x (4 + t) hx (by omega), h3], ?_⟩
    rw [← Nat.shiftLeft_eq, Nat.testBit_shiftLeft, decide_eq_true (by omega), show 4 + t - 4 = t by omega, h2]
    rfl
theorem hk_all (hF : ∀ x y, x < 9 → y < 9 → Nat.testBit (fw x) y = F x y) {S T : Nat} (hS : S < 32) : decB (∀ s, s < 5 → Nat.testBit T s = true → fw (s + 4) &&& S * 2 ^ 4 ≠ 0) = folA F T S := by
  refine decB_congr ⟨fun h t ht hb => ?_, fun h t ht hb => ?_⟩
  · rw [← hk_some hF (by omega) hS, Nat.add_comm 4 t]
    have := h t ht hb
    simpa using this
  · have := h t ht hb
    rw [← hk_some hF (by omega) hS, Nat.add_comm 4 t] at this
    simpa using this
end HUN
section DRG
variable {F : Nat → Nat → Bool} {md : Nat} {one many : Nat → Nat} {p S : Nat} {gn g : Nat → Bool} {d0 d i : Nat}
theorem dg_off (h : g = dropG F md one many p S gn i ∧ d = dropC F md one many p S gn d0 i) (hb : (!g i && cov F md (one i) (many i) p S) = false) : g = dropG F md one many p S gn (i + 1) ∧ d = dropC F md one many p S gn d0 (i + 1) := by
  obtain ⟨h1, h2⟩ := h
  rw [dropG, dropC, ← h1, hb, if_neg (by decide), if_neg (by decide)]
  exact ⟨rfl, h2⟩
theorem dg_on (h : g = dropG F md one many p S gn i ∧ d = dropC F md one many p S gn d0 i) (h0 : g i = false) (hc : cov F md (one i) (many i) p S = true) : up g i true = dropG F md one many p S gn (i + 1) ∧ d + 1 = dropC F md one many p S gn d0 (i + 1) := by
  obtain ⟨h1, h2⟩ := h
  rw [dropG, dropC, ← h1, h0, hc, if_pos (by decide), if_pos (by decide), ← h2]
  exact ⟨rfl, rfl⟩
end DRG

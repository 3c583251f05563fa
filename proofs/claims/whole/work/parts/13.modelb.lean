set_option maxHeartbeats 4000000 in
set_option maxRecDepth 100000 in
theorem c_X11_lettersOf (l : Launch) (G : GG) (w : Nat) (hw : w < 1000000000) : RM l G yX11_lettersOf (Cond.code yX11_lettersOf cX11_lettersOf 3 (some .int)) { frames := 0, cells := 0, slots := 0, locals := 0 } [.int (nI w)] [] (.int (nI (lenW w))) := by
  refine RM.ofI (by decide) rfl (fun Γ X ret => ?_)
  show Wc Γ 0 0 0 [(0, .int (nI w))] [] []
  refine wc_iconstN X 0 0 dX11_lettersOf_0 ?_
  refine wc_istore_n X 1 (L' := [(0, .int (nI w)), (1, .int (nI 0))]) dX11_lettersOf_1 (by decide) rfl ?_
  refine wc_iload_n X 2 0 dX11_lettersOf_2 rfl ?_
  refine wc_istore_n X 3 (L' := [(0, .int (nI w)), (1, .int (nI 0)), (2, .int (nI w))]) dX11_lettersOf_3 (by decide) rfl ?_
  have LP_2 : ∀ (fuel_1 : Nat) (v : Nat) (a : Nat) (fu : Nat), (v < 10 ^ fu) → (fu ≤ 10) → (a + lenF fu v = lenW w) → (v < 1000000000) → v < fuel_1 → Wc Γ 0 0 4 [(0, .int (nI w)), (1, .int (nI a)), (2, .int (nI v))] [] [] := by
    intro fuel_1
    induction fuel_1 with
    | zero => intro v a fu hv hf he hv2 hm; exact absurd hm (Nat.not_lt_zero _)
    | succ fuel_1 ih_3 =>
      intro v a fu hv hf he hv2 hm_4
      refine wc_iload_n X 4 2 dX11_lettersOf_4 rfl ?_
      refine wc_if_leN X 5 19 dX11_lettersOf_5 (by decide) (by omega) (fun c5_5 => ?_) (fun c5_5 => ?_)
      ·
        refine wc_iload_n X 19 1 dX11_lettersOf_19 rfl ?_
        exact ret 20 _ (nI a) dX11_lettersOf_20 (by rw [← he, c5_5, lenF_0]; rfl)
      ·
        refine wc_iincN X 8 1 (L' := [(0, .int (nI w)), (1, .int (nI (a + 1))), (2, .int (nI v))]) dX11_lettersOf_8 rfl (by decide) rfl ?_
        refine wc_iload_n X 11 2 dX11_lettersOf_11 rfl ?_
        refine wc_bipush X 12 (nI 10) dX11_lettersOf_12 (by decide) ?_
        refine wc_idivN X 14 dX11_lettersOf_14 (by omega) (by decide) (by decide) ?_
        refine wc_istore_n X 15 (L' := [(0, .int (nI w)), (1, .int (nI (a + 1))), (2, .int (nI (v / 10)))]) dX11_lettersOf_15 (by decide) rfl ?_
        refine wc_goto X 16 4 dX11_lettersOf_16 (by decide) ?_
        refine wc_L (L' := [(0, .int (nI w)), (1, .int (nI (a + 1))), (2, .int (nI (v / 10)))]) (by rfl) ?_
        exact ih_3 (v / 10) (a + 1) (fu - 1) (lenF_d hv c5_5) (by omega) (lenF_e hv c5_5 he) (by omega) (by omega)
  exact LP_2 (w + 1) w 0 10 (Nat.lt_trans hw (by decide)) (by decide) (Nat.zero_add _) hw (Nat.lt_succ_self _)

set_option maxHeartbeats 4000000 in
set_option maxRecDepth 100000 in
theorem c_X11_letterOf (l : Launch) (G : GG) (w k : Nat) (hw : w < 1000000000) (hk : k < lenW w) : RM l G yX11_letterOf (Cond.code yX11_letterOf cX11_letterOf 2 (some .int)) { frames := 1, cells := 0, slots := 0, locals := 23 } [.int (nI w), .int (nI k)] [] (.int (nI (w / 10 ^ (lenW w - 1 - k) % 10))) := by
  refine RM.ofI (by decide) rfl (fun Γ X ret => ?_)
  show Wc Γ 0 0 0 [(0, .int (nI w)), (1, .int (nI k))] [] []
  have hle := lenW_le hw
  refine wc_iload_n X 0 0 dX11_letterOf_0 rfl ?_
  refine wc_bipush X 1 (nI 10) dX11_letterOf_1 (by decide) ?_
  refine wc_iload_n X 3 0 dX11_letterOf_3 rfl ?_
  refine wc_callS X 4 [] (c_X11_lettersOf l G w (by first | assumption | omega)) ys_X11_lettersOf rfl q_976 ⟨rfl, rfl⟩ ⟨rfl, rfl⟩ ⟨rfl, rfl⟩ rfl rfl rfl dX11_letterOf_4 ?_
  refine wc_iconstN X 7 1 dX11_letterOf_7 ?_
  refine wc_isubN X 8 dX11_letterOf_8 (by omega) ?_
  refine wc_iload_n X 9 1 dX11_letterOf_9 rfl ?_
  refine wc_isubN X 10 dX11_letterOf_10 (by omega) ?_
  refine wc_callS X 11 [] (c_X11_power l G 10 (((lenW w) - 1) - k) (by first | assumption | omega)) ys_X11_power rfl q_982 ⟨rfl, rfl⟩ ⟨rfl, rfl⟩ ⟨rfl, rfl⟩ rfl rfl rfl dX11_letterOf_11 ?_
  refine wc_topi (nI (10 ^ (lenW w - 1 - k))) (congrArg nI (powN_eq _ _)) ?_
  refine wc_idivN X 14 dX11_letterOf_14 (by omega) (Nat.pow_pos (by decide)) (Nat.lt_of_le_of_lt (Nat.pow_le_pow_right (by decide) (show lenW w - 1 - k ≤ 8 by omega)) (by decide)) ?_
  refine wc_bipush X 15 (nI 10) dX11_letterOf_15 (by decide) ?_
  refine wc_iremN X 17 dX11_letterOf_17 (Nat.lt_of_le_of_lt (Nat.div_le_self _ _) (by omega)) (by decide) (by decide) ?_
  exact ret 18 _ (nI ((w / (10 ^ (lenW w - 1 - k))) % 10)) dX11_letterOf_18 (rfl)

set_option maxHeartbeats 4000000 in
set_option maxRecDepth 100000 in
theorem c_X11_afterWord (l : Launch) (G : GG) (q : Nat) (p : Nat → Nat) (m S w : Nat) (hp0 : p 0 ≤ 4) (hp1 : p 1 ≤ 5) (hp : ∀ j, p j < 32) (hm : m < 2) (hS : S < 32) (hw : w < 1000000000) (hl : ∀ k, k < lenW w → isLet (w / 10 ^ k % 10) = true) : RM l G yX11_afterWord (Cond.code yX11_afterWord cX11_afterWord 6 (some .int)) { frames := 2, cells := 0, slots := 0, locals := 47 } [.ref q, .int (nI m), .int (nI S), .int (nI w)] [aI G q 22 (nF p)] (.int (nI (afterW (mG p m) (p m) w S (lenW w) (lenW w)))) := by
  refine RM.ofI (by decide) rfl (fun Γ X ret => ?_)
  show Wc Γ 0 0 0 [(0, .ref q), (1, .int (nI m)), (2, .int (nI S)), (3, .int (nI w))] [] [aI G q 22 (nF p)]
  have hle := lenW_le hw
  refine wc_iload_n X 0 2 dX11_afterWord_0 rfl ?_
  refine wc_istore X 1 (L' := [(0, .ref q), (1, .int (nI m)), (2, .int (nI S)), (3, .int (nI w)), (4, .int (nI S))]) dX11_afterWord_1 (by decide) rfl ?_
  refine wc_iconstN X 3 0 dX11_afterWord_3 ?_
  refine wc_istore X 4 (L' := [(0, .ref q), (1, .int (nI m)), (2, .int (nI S)), (3, .int (nI w)), (4, .int (nI S)), (5, .int (nI 0))]) dX11_afterWord_4 (by decide) rfl ?_
  have LP_2 : ∀ (fuel_1 : Nat) (i : Nat), (i ≤ lenW w) → lenW w - i < fuel_1 → Wc Γ 0 0 6 [(0, .ref q), (1, .int (nI m)), (2, .int (nI S)), (3, .int (nI w)), (4, .int (nI (afterW (mG p m) (p m) w S (lenW w) i))), (5, .int (nI i))] [] [aI G q 22 (nF p)] := by
    intro fuel_1
    induction fuel_1 with
    | zero => intro i hi hm; exact absurd hm (Nat.not_lt_zero _)
    | succ fuel_1 ih_3 =>
      intro i hi hm_4
      refine wc_iload X 6 5 dX11_afterWord_6 rfl ?_
      refine wc_iload_n X 8 3 dX11_afterWord_8 rfl ?_
      refine wc_callS X 9 [] (c_X11_lettersOf l G w (by first | assumption | omega)) ys_X11_lettersOf rfl q_976 ⟨rfl, rfl⟩ ⟨rfl, rfl⟩ ⟨rfl, rfl⟩ rfl rfl rfl dX11_afterWord_9 ?_
      refine wc_icmp_geN X 12 36 dX11_afterWord_12 (by decide) (by omega) (by omega) (fun c12_5 => ?_) (fun c12_5 => ?_)
      ·
        refine wc_iload X 36 4 dX11_afterWord_36 rfl ?_
        exact ret 38 _ (nI (afterW (mG p m) (p m) w S (lenW w) i)) dX11_afterWord_38 (by rw [show i = lenW w by omega])
      ·
        refine wc_aload_n X 15 0 dX11_afterWord_15 rfl ?_
        refine wc_iload_n X 16 1 dX11_afterWord_16 rfl ?_
        refine wc_iload X 17 4 dX11_afterWord_17 rfl ?_
        refine wc_iload_n X 19 3 dX11_afterWord_19 rfl ?_
        refine wc_iload X 20 5 dX11_afterWord_20 rfl ?_
        refine wc_callS X 22 [] (c_X11_letterOf l G w i (by first | assumption | omega) (by first | assumption | omega)) ys_X11_letterOf rfl q_979 ⟨rfl, rfl⟩ ⟨rfl, rfl⟩ ⟨rfl, rfl⟩ rfl rfl rfl dX11_afterWord_22 ?_
        refine wc_callS X 25 [0] (c_X11_lead l G q p m (afterW (mG p m) (p m) w S (lenW w) i) (w / 10 ^ (lenW w - 1 - i) % 10) (by first | assumption | omega) (by first | assumption | omega) (by first | assumption | omega) (by first | assumption | omega) (afterW_lt (mG_lt hp m) hS _ _ _ _) (isLet_1 (hl _ (by omega))) (isLet_2 (hl _ (by omega)))) ys_X11_lead rfl q_985 ⟨rfl, rfl⟩ ⟨rfl, rfl⟩ ⟨rfl, rfl⟩ rfl rfl rfl dX11_afterWord_25 ?_
        refine wc_istore X 28 (L' := [(0, .ref q), (1, .int (nI m)), (2, .int (nI S)), (3, .int (nI w)), (4, .int (nI (stepN (mG p m) (afterW (mG p m) (p m) w S (lenW w) i) (w / 10 ^ (lenW w - 1 - i) % 10) (p m)))), (5, .int (nI i))]) dX11_afterWord_28 (by decide) rfl ?_
        refine wc_iincN X 30 5 (L' := [(0, .ref q), (1, .int (nI m)), (2, .int (nI S)), (3, .int (nI w)), (4, .int (nI (stepN (mG p m) (afterW (mG p m) (p m) w S (lenW w) i) (w / 10 ^ (lenW w - 1 - i) % 10) (p m)))), (5, .int (nI (i + 1)))]) dX11_afterWord_30 rfl (by decide) rfl ?_
        refine wc_goto X 33 6 dX11_afterWord_33 (by decide) ?_
        refine wc_L (L' := [(0, .ref q), (1, .int (nI m)), (2, .int (nI S)), (3, .int (nI w)), (4, .int (nI (afterW (mG p m) (p m) w S (lenW w) (i + 1)))), (5, .int (nI (i + 1)))]) (by rfl) ?_
        exact ih_3 (i + 1) (by omega) (by omega)
  refine wc_L (L' := [(0, .ref q), (1, .int (nI m)), (2, .int (nI S)), (3, .int (nI w)), (4, .int (nI (afterW (mG p m) (p m) w S (lenW w) 0))), (5, .int (nI 0))]) (by rfl) ?_
  exact LP_2 (lenW w - 0 + 1) 0 (by omega) (Nat.lt_succ_self _)

set_option maxHeartbeats 4000000 in
set_option maxRecDepth 100000 in
theorem c_X11_takesFrom (l : Launch) (G : GG) (q : Nat) (p : Nat → Nat) (m S w : Nat) (hp0 : p 0 ≤ 4) (hp1 : p 1 ≤ 5) (hp : ∀ j, p j < 32) (hm : m < 2) (hS : S < 32) (hw : w < 1000000000) (hl : ∀ k, k < lenW w → isLet (w / 10 ^ k % 10) = true) : RM l G yX11_takesFrom (Cond.code yX11_takesFrom cX11_takesFrom 4 (some .boolean)) { frames := 3, cells := 0, slots := 0, locals := 72 } [.ref q, .int (nI m), .int (nI S), .int (nI w)] [aI G q 22 (nF p)] (.int (b2i (afterW (mG p m) (p m) w S (lenW w) (lenW w) &&& p (2 + m) != 0))) := by
  refine RM.ofZ (by decide) rfl (fun Γ X ret => ?_)
  show Wc Γ 0 0 0 [(0, .ref q), (1, .int (nI m)), (2, .int (nI S)), (3, .int (nI w))] [] [aI G q 22 (nF p)]
  refine wc_aload_n X 0 0 dX11_takesFrom_0 rfl ?_
  refine wc_iload_n X 1 1 dX11_takesFrom_1 rfl ?_
  refine wc_iload_n X 2 2 dX11_takesFrom_2 rfl ?_
  refine wc_iload_n X 3 3 dX11_takesFrom_3 rfl ?_
  refine wc_callS X 4 [0] (c_X11_afterWord l G q p m S w (by first | assumption | omega) (by first | assumption | omega) (by first | assumption | omega) (by first | assumption | omega) (by first | assumption | omega) (by first | assumption | omega) (by first | assumption | omega)) ys_X11_afterWord rfl q_973 ⟨rfl, rfl⟩ ⟨rfl, rfl⟩ ⟨rfl, rfl⟩ rfl rfl rfl dX11_takesFrom_4 ?_
  refine wc_aload_n X 7 0 dX11_takesFrom_7 rfl ?_
  refine wc_iconstN X 8 2 dX11_takesFrom_8 ?_
  refine wc_iload_n X 9 1 dX11_takesFrom_9 rfl ?_
  refine wc_iaddN X 10 dX11_takesFrom_10 ?_
  refine wc_ialdG X 11 0 rfl (by omega) (by decide) dX11_takesFrom_11 ?_
  refine wc_iandN X 12 dX11_takesFrom_12 ?_
  refine wc_if_eqN X 13 20 dX11_takesFrom_13 (by decide) (Nat.lt_trans (and_lt (afterW_lt (mG_lt hp m) hS _ _ _ _)) (by decide)) (fun c13_1 => ?_) (fun c13_1 => ?_)
  ·
    refine wc_iconstN X 20 0 dX11_takesFrom_20 ?_
    refine wc_st (st' := [.int (b2i false)]) rfl ?_
    exact ret 21 _ false dX11_takesFrom_21 (by first | rfl | (simp [c13_1]; done) | (simp [c13_1] <;> omega))
  ·
    refine wc_iconstN X 16 1 dX11_takesFrom_16 ?_
    refine wc_goto X 17 21 dX11_takesFrom_17 (by decide) ?_
    refine wc_st (st' := [.int (b2i true)]) rfl ?_
    exact ret 21 _ true dX11_takesFrom_21 (by first | rfl | (simp [c13_1]; done) | (simp [c13_1] <;> omega))

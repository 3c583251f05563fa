set_option maxHeartbeats 4000000 in
set_option maxRecDepth 100000 in
theorem c_X3_isCovered (l : Launch) (G : GG) (h qst qse qpa qle qgo md : Nat) (s : Sr) (o qf ql : Nat) (fw ld : Nat → Nat) (F : Nat → Nat → Bool) (p S q T : Nat) (hmd : md ≤ 2) (hF : md = 2 → ∀ x y, x < 9 → y < 9 → Nat.testBit (fw x) y = F x y) (hp : p < 4) (hS : S < 32) (hq : q < 4) (hT : T < 32) : RM l G yX3_isCovered (Cond.code yX3_isCovered cX3_isCovered 5 (some .boolean)) { frames := 1, cells := 0, slots := 0, locals := 26 } [.ref h, .int (nI p), .int (nI S), .int (nI q), .int (nI T)] [ob h 3 [.int (nI (srN s)), .int (nI (srT s)), .int (nI (srA s)), .int (nI (srD s)), .int (bI (srB s)), .int (nI md), .ref o, .ref qst, .ref qse, .ref qpa, .ref qle, .ref qgo], ob o 5 [.ref qf, .ref ql], aI G qf 9 (nF fw), aI G ql 18 (nF ld)] (.int (b2i (cov F md p S q T))) := by
  refine RM.ofZ (by decide) rfl (fun Γ X ret => ?_)
  show Wc Γ 0 0 0 [(0, .ref h), (1, .int (nI p)), (2, .int (nI S)), (3, .int (nI q)), (4, .int (nI T))] [] [ob h 3 [.int (nI (srN s)), .int (nI (srT s)), .int (nI (srA s)), .int (nI (srD s)), .int (bI (srB s)), .int (nI md), .ref o, .ref qst, .ref qse, .ref qpa, .ref qle, .ref qgo], ob o 5 [.ref qf, .ref ql], aI G qf 9 (nF fw), aI G ql 18 (nF ld)]
  refine wc_aload_n X 0 0 dX3_isCovered_0 rfl ?_
  refine wc_get X 1 0 5 kd3 rfl (by decide) q_191 rfl dX3_isCovered_1 ?_
  rcases (show md = 0 ∨ md = 1 ∨ md = 2 by omega) with hmd | hmd | hmd
  ·
    refine wc_ls X 4 32 (nI 0) (off := 28) dX3_isCovered_4 (by rw [hmd]) (by decide) (by decide) (by decide) ?_
    refine wc_iload_n X 32 1 dX3_isCovered_32 rfl ?_
    refine wc_iload_n X 33 3 dX3_isCovered_33 rfl ?_
    refine wc_icmp_neN X 34 47 dX3_isCovered_34 (by decide) (by omega) (by omega) (fun c34_1 => ?_) (fun c34_1 => ?_)
    ·
      refine wc_iconstN X 47 0 dX3_isCovered_47 ?_
      refine wc_st (st' := [.int (b2i false)]) rfl ?_
      exact ret 48 _ false dX3_isCovered_48 (by unfold cov; simp [hmd, c34_1])
    ·
      refine wc_iload_n X 37 2 dX3_isCovered_37 rfl ?_
      refine wc_iload X 38 4 dX3_isCovered_38 rfl ?_
      refine wc_icmp_neN X 40 47 dX3_isCovered_40 (by decide) (by omega) (by omega) (fun c40_2 => ?_) (fun c40_2 => ?_)
      ·
        refine wc_iconstN X 47 0 dX3_isCovered_47 ?_
        refine wc_st (st' := [.int (b2i false)]) rfl ?_
        exact ret 48 _ false dX3_isCovered_48 (by unfold cov; simp [hmd, c34_1, c40_2])
      ·
        refine wc_iconstN X 43 1 dX3_isCovered_43 ?_
        refine wc_goto X 44 48 dX3_isCovered_44 (by decide) ?_
        refine wc_st (st' := [.int (b2i true)]) rfl ?_
        exact ret 48 _ true dX3_isCovered_48 (by unfold cov; simp [hmd, c34_1, c40_2])
  ·
    refine wc_ls X 4 49 (nI 1) (off := 45) dX3_isCovered_4 (by rw [hmd]) (by decide) (by decide) (by decide) ?_
    refine wc_iload_n X 49 1 dX3_isCovered_49 rfl ?_
    refine wc_iload_n X 50 3 dX3_isCovered_50 rfl ?_
    refine wc_icmp_neN X 51 67 dX3_isCovered_51 (by decide) (by omega) (by omega) (fun c51_3 => ?_) (fun c51_3 => ?_)
    ·
      refine wc_iconstN X 67 0 dX3_isCovered_67 ?_
      refine wc_st (st' := [.int (b2i false)]) rfl ?_
      exact ret 68 _ false dX3_isCovered_68 (by unfold cov; simp [hmd, c51_3])
    ·
      refine wc_iload_n X 54 2 dX3_isCovered_54 rfl ?_
      refine wc_iload X 55 4 dX3_isCovered_55 rfl ?_
      refine wc_iandN X 57 dX3_isCovered_57 ?_
      refine wc_iload X 58 4 dX3_isCovered_58 rfl ?_
      refine wc_icmp_neN X 60 67 dX3_isCovered_60 (by decide) (Nat.lt_trans (and_lt hS) (by decide)) (by omega) (fun c60_4 => ?_) (fun c60_4 => ?_)
      ·
        refine wc_iconstN X 67 0 dX3_isCovered_67 ?_
        refine wc_st (st' := [.int (b2i false)]) rfl ?_
        exact ret 68 _ false dX3_isCovered_68 (by unfold cov; simp [hmd, c51_3, c60_4])
      ·
        refine wc_iconstN X 63 1 dX3_isCovered_63 ?_
        refine wc_goto X 64 68 dX3_isCovered_64 (by decide) ?_
        refine wc_st (st' := [.int (b2i true)]) rfl ?_
        exact ret 68 _ true dX3_isCovered_68 (by unfold cov; simp [hmd, c51_3, c60_4])
  ·
    refine wc_ls X 4 69 (nI 2) (off := 65) dX3_isCovered_4 (by rw [hmd]) (by decide) (by decide) (by decide) ?_
    refine wc_aload_n X 69 0 dX3_isCovered_69 rfl ?_
    refine wc_get X 70 0 6 kd3 rfl (by decide) q_192 rfl dX3_isCovered_70 ?_
    refine wc_iconstN X 73 0 dX3_isCovered_73 ?_
    refine wc_iload_n X 74 1 dX3_isCovered_74 rfl ?_
    refine wc_iconstN X 75 0 dX3_isCovered_75 ?_
    refine wc_iconstN X 76 1 dX3_isCovered_76 ?_
    refine wc_iload_n X 77 3 dX3_isCovered_77 rfl ?_
    refine wc_shl1 X 78 dX3_isCovered_78 (by omega) ?_
    refine wc_callV X 79 [1, 2, 3] 1 (c_X5_holds l G o qf ql fw ld 0 p 0 (2 ^ q) (by decide) (by omega) (fun _ => hp) (by decide) (Nat.lt_of_lt_of_le (Nat.pow_lt_pow_right (by decide) hq) (by decide : 2 ^ 4 ≤ 32))) yv_X5_holds kd5 rfl rfl q_608 ⟨rfl, rfl⟩ ⟨rfl, rfl⟩ ⟨rfl, rfl⟩ rfl rfl rfl dX3_isCovered_79 ?_
    refine wc_topi (b2i (F p q)) (congrArg b2i (hk_one (hF hmd) hp hq)) ?_
    refine wc_if_eqB X 82 102 dX3_isCovered_82 (by decide) (fun c82_5 => ?_) (fun c82_5 => ?_)
    ·
      refine wc_iconstN X 102 0 dX3_isCovered_102 ?_
      refine wc_st (st' := [.int (b2i false)]) rfl ?_
      exact ret 103 _ false dX3_isCovered_103 (by unfold cov; simp [hmd, c82_5])
    ·
      refine wc_aload_n X 85 0 dX3_isCovered_85 rfl ?_
      refine wc_get X 86 0 6 kd3 rfl (by decide) q_192 rfl dX3_isCovered_86 ?_
      refine wc_iload X 89 4 dX3_isCovered_89 rfl ?_
      refine wc_iload_n X 91 2 dX3_isCovered_91 rfl ?_
      refine wc_callV X 92 [1, 2, 3] 1 (c_X5_holdsForEach l G o qf ql fw ld T S hT hS) yv_X5_holdsForEach kd5 rfl rfl q_617 ⟨rfl, rfl⟩ ⟨rfl, rfl⟩ ⟨rfl, rfl⟩ rfl rfl rfl dX3_isCovered_92 ?_
      refine wc_topi (b2i (folA F T S)) (congrArg b2i (hk_all (hF hmd) hS)) ?_
      refine wc_if_eqB X 95 102 dX3_isCovered_95 (by decide) (fun c95_6 => ?_) (fun c95_6 => ?_)
      ·
        refine wc_iconstN X 102 0 dX3_isCovered_102 ?_
        refine wc_st (st' := [.int (b2i false)]) rfl ?_
        exact ret 103 _ false dX3_isCovered_103 (by unfold cov; simp [hmd, c82_5, c95_6])
      ·
        refine wc_iconstN X 98 1 dX3_isCovered_98 ?_
        refine wc_goto X 99 103 dX3_isCovered_99 (by decide) ?_
        refine wc_st (st' := [.int (b2i true)]) rfl ?_
        exact ret 103 _ true dX3_isCovered_103 (by unfold cov; simp [hmd, c82_5, c95_6])

set_option maxHeartbeats 4000000 in
set_option maxRecDepth 100000 in
theorem c_X3_isCoveredByKept (l : Launch) (G : GG) (h qst qse qpa qle qgo md : Nat) (s : Sr) (o qf ql : Nat) (fw ld : Nat → Nat) (F : Nat → Nat → Bool) (p S : Nat) (hmd : md ≤ 2) (hF : md = 2 → ∀ x y, x < 9 → y < 9 → Nat.testBit (fw x) y = F x y) (hn : srN s ≤ 128) (hA : ∀ i, i < srN s → srO s i < 4 ∧ srM s i < 32) (hp : p < 4) (hS : S < 32) : RM l G yX3_isCoveredByKept (Cond.code yX3_isCoveredByKept cX3_isCoveredByKept 4 (some .boolean)) { frames := 2, cells := 0, slots := 0, locals := 50 } [.ref h, .int (nI p), .int (nI S)] [ob h 3 [.int (nI (srN s)), .int (nI (srT s)), .int (nI (srA s)), .int (nI (srD s)), .int (bI (srB s)), .int (nI md), .ref o, .ref qst, .ref qse, .ref qpa, .ref qle, .ref qgo], aI G qst 128 (nF (srO s)), aI G qse 128 (nF (srM s)), aI G qpa 128 (srP s), aI G qle 128 (nF (srL s)), aZ G qgo 128 (bF (srG s)), ob o 5 [.ref qf, .ref ql], aI G qf 9 (nF fw), aI G ql 18 (nF ld)] (.int (b2i (decB (∃ j, j < srN s ∧ (srG s j = false ∧ cov F md p S (srO s j) (srM s j) = true))))) := by
  refine RM.ofZ (by decide) rfl (fun Γ X ret => ?_)
  show Wc Γ 0 0 0 [(0, .ref h), (1, .int (nI p)), (2, .int (nI S))] [] [ob h 3 [.int (nI (srN s)), .int (nI (srT s)), .int (nI (srA s)), .int (nI (srD s)), .int (bI (srB s)), .int (nI md), .ref o, .ref qst, .ref qse, .ref qpa, .ref qle, .ref qgo], aI G qst 128 (nF (srO s)), aI G qse 128 (nF (srM s)), aI G qpa 128 (srP s), aI G qle 128 (nF (srL s)), aZ G qgo 128 (bF (srG s)), ob o 5 [.ref qf, .ref ql], aI G qf 9 (nF fw), aI G ql 18 (nF ld)]
  refine wc_iconstN X 0 0 dX3_isCoveredByKept_0 ?_
  refine wc_istore_n X 1 (L' := [(0, .ref h), (1, .int (nI p)), (2, .int (nI S)), (3, .int (nI 0))]) dX3_isCoveredByKept_1 (by decide) rfl ?_
  have LP_2 : ∀ (fuel_1 : Nat) (i : Nat), (i ≤ srN s) → (∀ j, j < i → ¬ (srG s j = false ∧ cov F md p S (srO s j) (srM s j) = true)) → 128 - i < fuel_1 → Wc Γ 0 0 2 [(0, .ref h), (1, .int (nI p)), (2, .int (nI S)), (3, .int (nI i))] [] [ob h 3 [.int (nI (srN s)), .int (nI (srT s)), .int (nI (srA s)), .int (nI (srD s)), .int (bI (srB s)), .int (nI md), .ref o, .ref qst, .ref qse, .ref qpa, .ref qle, .ref qgo], aI G qst 128 (nF (srO s)), aI G qse 128 (nF (srM s)), aI G qpa 128 (srP s), aI G qle 128 (nF (srL s)), aZ G qgo 128 (bF (srG s)), ob o 5 [.ref qf, .ref ql], aI G qf 9 (nF fw), aI G ql 18 (nF ld)] := by
    intro fuel_1
    induction fuel_1 with
    | zero => intro i hi hno hm; exact absurd hm (Nat.not_lt_zero _)
    | succ fuel_1 ih_3 =>
      intro i hi hno hm_4
      refine wc_iload_n X 2 3 dX3_isCoveredByKept_2 rfl ?_
      refine wc_aload_n X 3 0 dX3_isCoveredByKept_3 rfl ?_
      refine wc_get X 4 0 0 kd3 rfl (by decide) q_181 rfl dX3_isCoveredByKept_4 ?_
      refine wc_icmp_geN X 7 55 dX3_isCoveredByKept_7 (by decide) (by omega) (by omega) (fun c7_5 => ?_) (fun c7_5 => ?_)
      ·
        refine wc_iconstN X 55 0 dX3_isCoveredByKept_55 ?_
        refine wc_st (st' := [.int (b2i false)]) rfl ?_
        exact ret 56 _ false dX3_isCoveredByKept_56 ((decB_f (fun ⟨j, hj, z⟩ => hno j (by omega) z)).symm)
      ·
        refine wc_iload_n X 10 3 dX3_isCoveredByKept_10 rfl ?_
        refine wc_sipush X 11 (nI 128) dX3_isCoveredByKept_11 (by decide) ?_
        refine wc_icmp_geN X 14 55 dX3_isCoveredByKept_14 (by decide) (by omega) (by decide) (fun c14_6 => ?_) (fun c14_6 => ?_)
        ·
          refine wc_iconstN X 55 0 dX3_isCoveredByKept_55 ?_
          refine wc_st (st' := [.int (b2i false)]) rfl ?_
          exact ret 56 _ false dX3_isCoveredByKept_56 ((decB_f (fun ⟨j, hj, z⟩ => hno j (by omega) z)).symm)
        ·
          refine wc_aload_n X 17 0 dX3_isCoveredByKept_17 rfl ?_
          refine wc_get X 18 0 11 kd3 rfl (by decide) q_197 rfl dX3_isCoveredByKept_18 ?_
          refine wc_iload_n X 21 3 dX3_isCoveredByKept_21 rfl ?_
          refine wc_zaldG X 22 5 rfl (by omega) (by decide) dX3_isCoveredByKept_22 ?_
          refine wc_if_neB X 23 49 dX3_isCoveredByKept_23 (by decide) (fun c23_7 => ?_) (fun c23_7 => ?_)
          ·
            refine wc_iincN X 49 3 (L' := [(0, .ref h), (1, .int (nI p)), (2, .int (nI S)), (3, .int (nI (i + 1)))]) dX3_isCoveredByKept_49 rfl (by decide) rfl ?_
            refine wc_goto X 52 2 dX3_isCoveredByKept_52 (by decide) ?_
            refine wc_L (L' := [(0, .ref h), (1, .int (nI p)), (2, .int (nI S)), (3, .int (nI (i + 1)))]) (by rfl) ?_
            exact ih_3 (i + 1) (by omega) (lt_ext hno (fun z => by rw [c23_7] at z; cases z.1)) (by omega)
          ·
            refine wc_aload_n X 26 0 dX3_isCoveredByKept_26 rfl ?_
            refine wc_iload_n X 27 1 dX3_isCoveredByKept_27 rfl ?_
            refine wc_iload_n X 28 2 dX3_isCoveredByKept_28 rfl ?_
            refine wc_aload_n X 29 0 dX3_isCoveredByKept_29 rfl ?_
            refine wc_get X 30 0 7 kd3 rfl (by decide) q_193 rfl dX3_isCoveredByKept_30 ?_
            refine wc_iload_n X 33 3 dX3_isCoveredByKept_33 rfl ?_
            refine wc_ialdG X 34 1 rfl (by omega) (by decide) dX3_isCoveredByKept_34 ?_
            refine wc_aload_n X 35 0 dX3_isCoveredByKept_35 rfl ?_
            refine wc_get X 36 0 8 kd3 rfl (by decide) q_194 rfl dX3_isCoveredByKept_36 ?_
            refine wc_iload_n X 39 3 dX3_isCoveredByKept_39 rfl ?_
            refine wc_ialdG X 40 2 rfl (by omega) (by decide) dX3_isCoveredByKept_40 ?_
            refine wc_callV X 41 [0, 6, 7, 8] 0 (c_X3_isCovered l G h qst qse qpa qle qgo md s o qf ql fw ld F p S ((srO s) i) ((srM s) i) (by first | assumption | omega) (by first | assumption | omega) (by first | assumption | omega) (by first | assumption | omega) (hA _ (by omega)).1 (hA _ (by omega)).2) yv_X3_isCovered kd3 rfl rfl q_613 ⟨rfl, rfl⟩ ⟨rfl, rfl⟩ ⟨rfl, rfl⟩ rfl rfl rfl dX3_isCoveredByKept_41 ?_
            refine wc_if_eqB X 44 49 dX3_isCoveredByKept_44 (by decide) (fun c44_8 => ?_) (fun c44_8 => ?_)
            ·
              refine wc_iincN X 49 3 (L' := [(0, .ref h), (1, .int (nI p)), (2, .int (nI S)), (3, .int (nI (i + 1)))]) dX3_isCoveredByKept_49 rfl (by decide) rfl ?_
              refine wc_goto X 52 2 dX3_isCoveredByKept_52 (by decide) ?_
              refine wc_L (L' := [(0, .ref h), (1, .int (nI p)), (2, .int (nI S)), (3, .int (nI (i + 1)))]) (by rfl) ?_
              exact ih_3 (i + 1) (by omega) (lt_ext hno (fun z => by rw [c44_8] at z; cases z.2)) (by omega)
            ·
              refine wc_iconstN X 47 1 dX3_isCoveredByKept_47 ?_
              refine wc_st (st' := [.int (b2i true)]) rfl ?_
              exact ret 48 _ true dX3_isCoveredByKept_48 ((decB_t ⟨i, by omega, c23_7, c44_8⟩).symm)
  exact LP_2 (128 - 0 + 1) 0 (by omega) (fun j hj => absurd hj (Nat.not_lt_zero _)) (Nat.lt_succ_self _)

set_option maxHeartbeats 4000000 in
set_option maxRecDepth 100000 in
theorem c_X3_dropCovered (l : Launch) (G : GG) (h qst qse qpa qle qgo md : Nat) (s : Sr) (o qf ql : Nat) (fw ld : Nat → Nat) (F : Nat → Nat → Bool) (p S : Nat) (hmd : md ≤ 2) (hF : md = 2 → ∀ x y, x < 9 → y < 9 → Nat.testBit (fw x) y = F x y) (hn : srN s ≤ 128) (hA : ∀ i, i < srN s → srO s i < 4 ∧ srM s i < 32) (hp : p < 4) (hS : S < 32) : MM l G yX3_dropCovered (Cond.code yX3_dropCovered cX3_dropCovered 4 none) { frames := 2, cells := 0, slots := 0, locals := 50 } [.ref h, .int (nI p), .int (nI S)] [ob h 3 [.int (nI (srN s)), .int (nI (srT s)), .int (nI (srA s)), .int (nI (srD s)), .int (bI (srB s)), .int (nI md), .ref o, .ref qst, .ref qse, .ref qpa, .ref qle, .ref qgo], aI G qst 128 (nF (srO s)), aI G qse 128 (nF (srM s)), aI G qpa 128 (srP s), aI G qle 128 (nF (srL s)), aZ G qgo 128 (bF (srG s)), ob o 5 [.ref qf, .ref ql], aI G qf 9 (nF fw), aI G ql 18 (nF ld)] (fun (v : Option Value) (w : va_W) => v = none ∧ w = [ob h 3 [.int (nI (srN s)), .int (nI (srT s)), .int (nI (srA s)), .int (nI (dropC F md (srO s) (srM s) p S (srG s) (srD s) (srN s))), .int (bI (srB s)), .int (nI md), .ref o, .ref qst, .ref qse, .ref qpa, .ref qle, .ref qgo], aI G qst 128 (nF (srO s)), aI G qse 128 (nF (srM s)), aI G qpa 128 (srP s), aI G qle 128 (nF (srL s)), aZ G qgo 128 (bF (dropG F md (srO s) (srM s) p S (srG s) (srN s))), ob o 5 [.ref qf, .ref ql], aI G qf 9 (nF fw), aI G ql 18 (nF ld)]) 0 0 := by
  refine MM.ofV (by decide) rfl (fun Γ X Y hnm ret => ?_)
  show Wc Γ 0 0 0 [(0, .ref h), (1, .int (nI p)), (2, .int (nI S))] [] [ob h 3 [.int (nI (srN s)), .int (nI (srT s)), .int (nI (srA s)), .int (nI (srD s)), .int (bI (srB s)), .int (nI md), .ref o, .ref qst, .ref qse, .ref qpa, .ref qle, .ref qgo], aI G qst 128 (nF (srO s)), aI G qse 128 (nF (srM s)), aI G qpa 128 (srP s), aI G qle 128 (nF (srL s)), aZ G qgo 128 (bF (srG s)), ob o 5 [.ref qf, .ref ql], aI G qf 9 (nF fw), aI G ql 18 (nF ld)]
  refine wc_iconstN X 0 0 dX3_dropCovered_0 ?_
  refine wc_istore_n X 1 (L' := [(0, .ref h), (1, .int (nI p)), (2, .int (nI S)), (3, .int (nI 0))]) dX3_dropCovered_1 (by decide) rfl ?_
  have LP_2 : ∀ (fuel_1 : Nat) (i : Nat) (g : Nat → Bool) (d : Nat), (i ≤ srN s) → (g = dropG F md (srO s) (srM s) p S (srG s) i ∧ d = dropC F md (srO s) (srM s) p S (srG s) (srD s) i) → 128 - i < fuel_1 → Wc Γ 0 0 2 [(0, .ref h), (1, .int (nI p)), (2, .int (nI S)), (3, .int (nI i))] [] [ob h 3 [.int (nI (srN s)), .int (nI (srT s)), .int (nI (srA s)), .int (nI d), .int (bI (srB s)), .int (nI md), .ref o, .ref qst, .ref qse, .ref qpa, .ref qle, .ref qgo], aI G qst 128 (nF (srO s)), aI G qse 128 (nF (srM s)), aI G qpa 128 (srP s), aI G qle 128 (nF (srL s)), aZ G qgo 128 (bF g), ob o 5 [.ref qf, .ref ql], aI G qf 9 (nF fw), aI G ql 18 (nF ld)] := by
    intro fuel_1
    induction fuel_1 with
    | zero => intro i g d hi hg hm; exact absurd hm (Nat.not_lt_zero _)
    | succ fuel_1 ih_3 =>
      intro i g d hi hg hm_4
      refine wc_iload_n X 2 3 dX3_dropCovered_2 rfl ?_
      refine wc_aload_n X 3 0 dX3_dropCovered_3 rfl ?_
      refine wc_get X 4 0 0 kd3 rfl (by decide) q_181 rfl dX3_dropCovered_4 ?_
      refine wc_icmp_geN X 7 70 dX3_dropCovered_7 (by decide) (by omega) (by omega) (fun c7_5 => ?_) (fun c7_5 => ?_)
      ·
        exact ret 70 _ _ dX3_dropCovered_70 (by rw [(show i = srN s by omega)] at hg; rw [← hg.1, ← hg.2]; exact ⟨rfl, rfl⟩)
      ·
        refine wc_iload_n X 10 3 dX3_dropCovered_10 rfl ?_
        refine wc_sipush X 11 (nI 128) dX3_dropCovered_11 (by decide) ?_
        refine wc_icmp_geN X 14 70 dX3_dropCovered_14 (by decide) (by omega) (by decide) (fun c14_6 => ?_) (fun c14_6 => ?_)
        ·
          exact ret 70 _ _ dX3_dropCovered_70 (by rw [(show i = srN s by omega)] at hg; rw [← hg.1, ← hg.2]; exact ⟨rfl, rfl⟩)
        ·
          refine wc_aload_n X 17 0 dX3_dropCovered_17 rfl ?_
          refine wc_get X 18 0 11 kd3 rfl (by decide) q_197 rfl dX3_dropCovered_18 ?_
          refine wc_iload_n X 21 3 dX3_dropCovered_21 rfl ?_
          refine wc_zaldG X 22 5 rfl (by omega) (by decide) dX3_dropCovered_22 ?_
          refine wc_if_neB X 23 64 dX3_dropCovered_23 (by decide) (fun c23_7 => ?_) (fun c23_7 => ?_)
          ·
            refine wc_iincN X 64 3 (L' := [(0, .ref h), (1, .int (nI p)), (2, .int (nI S)), (3, .int (nI (i + 1)))]) dX3_dropCovered_64 rfl (by decide) rfl ?_
            refine wc_goto X 67 2 dX3_dropCovered_67 (by decide) ?_
            refine wc_L (L' := [(0, .ref h), (1, .int (nI p)), (2, .int (nI S)), (3, .int (nI (i + 1)))]) (by rfl) ?_
            exact ih_3 (i + 1) g d (by omega) (dg_off hg (by simp [c23_7])) (by omega)
          ·
            refine wc_aload_n X 26 0 dX3_dropCovered_26 rfl ?_
            refine wc_aload_n X 27 0 dX3_dropCovered_27 rfl ?_
            refine wc_get X 28 0 7 kd3 rfl (by decide) q_193 rfl dX3_dropCovered_28 ?_
            refine wc_iload_n X 31 3 dX3_dropCovered_31 rfl ?_
            refine wc_ialdG X 32 1 rfl (by omega) (by decide) dX3_dropCovered_32 ?_
            refine wc_aload_n X 33 0 dX3_dropCovered_33 rfl ?_
            refine wc_get X 34 0 8 kd3 rfl (by decide) q_194 rfl dX3_dropCovered_34 ?_
            refine wc_iload_n X 37 3 dX3_dropCovered_37 rfl ?_
            refine wc_ialdG X 38 2 rfl (by omega) (by decide) dX3_dropCovered_38 ?_
            refine wc_iload_n X 39 1 dX3_dropCovered_39 rfl ?_
            refine wc_iload_n X 40 2 dX3_dropCovered_40 rfl ?_
            refine wc_callV X 41 [0, 6, 7, 8] 0 (c_X3_isCovered l G h qst qse qpa qle qgo md ((srN s, srO s, srM s, srP s, srL s, g, srT s, srA s, d, srB s) : Sr) o qf ql fw ld F ((srO s) i) ((srM s) i) p S (by first | assumption | omega) (by first | assumption | omega) (hA _ (by omega)).1 (hA _ (by omega)).2 hp hS) yv_X3_isCovered kd3 rfl rfl q_613 ⟨rfl, rfl⟩ ⟨rfl, rfl⟩ ⟨rfl, rfl⟩ rfl rfl rfl dX3_dropCovered_41 ?_
            refine wc_if_eqB X 44 64 dX3_dropCovered_44 (by decide) (fun c44_8 => ?_) (fun c44_8 => ?_)
            ·
              refine wc_iincN X 64 3 (L' := [(0, .ref h), (1, .int (nI p)), (2, .int (nI S)), (3, .int (nI (i + 1)))]) dX3_dropCovered_64 rfl (by decide) rfl ?_
              refine wc_goto X 67 2 dX3_dropCovered_67 (by decide) ?_
              refine wc_L (L' := [(0, .ref h), (1, .int (nI p)), (2, .int (nI S)), (3, .int (nI (i + 1)))]) (by rfl) ?_
              exact ih_3 (i + 1) g d (by omega) (dg_off hg (by simp [c44_8])) (by omega)
            ·
              refine wc_aload_n X 47 0 dX3_dropCovered_47 rfl ?_
              refine wc_get X 48 0 11 kd3 rfl (by decide) q_197 rfl dX3_dropCovered_48 ?_
              refine wc_iload_n X 51 3 dX3_dropCovered_51 rfl ?_
              refine wc_iconstN X 52 1 dX3_dropCovered_52 ?_
              refine wc_st (st' := [.int (b2i true), .int (nI i), .ref qgo]) rfl ?_
              refine wc_zastG X Y 53 5 rfl (by omega) (by decide) (ws' := [ob h 3 [.int (nI (srN s)), .int (nI (srT s)), .int (nI (srA s)), .int (nI d), .int (bI (srB s)), .int (nI md), .ref o, .ref qst, .ref qse, .ref qpa, .ref qle, .ref qgo], aI G qst 128 (nF (srO s)), aI G qse 128 (nF (srM s)), aI G qpa 128 (srP s), aI G qle 128 (nF (srL s)), aZ G qgo 128 (bF (up g i true)), ob o 5 [.ref qf, .ref ql], aI G qf 9 (nF fw), aI G ql 18 (nF ld)]) rfl dX3_dropCovered_53 ?_
              refine wc_aload_n X 54 0 dX3_dropCovered_54 rfl ?_
              refine wc_dup X 55 dX3_dropCovered_55 rfl ?_
              refine wc_get X 56 0 3 kd3 rfl (by decide) q_187 rfl dX3_dropCovered_56 ?_
              refine wc_iconstN X 59 1 dX3_dropCovered_59 ?_
              refine wc_iaddN X 60 dX3_dropCovered_60 ?_
              refine wc_put X Y 61 0 3 kd3 rfl (by decide) q_187 rfl rfl rfl (Nat.le_of_ble_eq_true rfl) (ws' := [ob h 3 [.int (nI (srN s)), .int (nI (srT s)), .int (nI (srA s)), .int (nI (d + 1)), .int (bI (srB s)), .int (nI md), .ref o, .ref qst, .ref qse, .ref qpa, .ref qle, .ref qgo], aI G qst 128 (nF (srO s)), aI G qse 128 (nF (srM s)), aI G qpa 128 (srP s), aI G qle 128 (nF (srL s)), aZ G qgo 128 (bF (up g i true)), ob o 5 [.ref qf, .ref ql], aI G qf 9 (nF fw), aI G ql 18 (nF ld)]) rfl dX3_dropCovered_61 ?_
              refine wc_iincN X 64 3 (L' := [(0, .ref h), (1, .int (nI p)), (2, .int (nI S)), (3, .int (nI (i + 1)))]) dX3_dropCovered_64 rfl (by decide) rfl ?_
              refine wc_goto X 67 2 dX3_dropCovered_67 (by decide) ?_
              refine wc_L (L' := [(0, .ref h), (1, .int (nI p)), (2, .int (nI S)), (3, .int (nI (i + 1)))]) (by rfl) ?_
              exact ih_3 (i + 1) (up g i true) (d + 1) (by omega) (dg_on hg c23_7 c44_8) (by omega)
  exact LP_2 (128 - 0 + 1) 0 (srG s) (srD s) (by omega) ⟨rfl, rfl⟩ (Nat.lt_succ_self _)

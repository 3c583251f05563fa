set_option maxHeartbeats 4000000 in
set_option maxRecDepth 100000 in
theorem c_X3_isCovered (l : Launch) (G : GG) (h qst qse qpa qle qgo md : Nat) (s : Sr) (o qf ql : Nat) (fw ld : Nat → Nat) (F : Nat → Nat → Bool) (p S q T : Nat) (hmd : md ≤ 2) (hF : md = 2 → ∀ x y, x < 9 → y < 9 → Nat.testBit (fw x) y = F x y) (hp : p < 4) (hS : S < 32) (hq : q < 4) (hT : T < 32) : RM l G yX3_isCovered (Cond.code yX3_isCovered cX3_isCovered 5 (some .boolean)) { frames := 1, cells := 0, slots := 0, locals := 26 } [.ref h, .int (nI p), .int (nI S), .int (nI q), .int (nI T)] [ob h 3 [.int (nI (srN s)), .int (nI (srT s)), .int (nI (srA s)), .int (nI (srD s)), .int (bI (srB s)), .int (nI md), .ref o, .ref qst, .ref qse, .ref qpa, .ref qle, .ref qgo], ob o 5 [.ref qf, .ref ql], aI G qf 9 (nF fw), aI G ql 18 (nF ld)] (.int (b2i (cov F md p S q T))) := by
  refine RM.ofZ (by decide) rfl (fun Γ X ret => ?_)
  show Wc Γ 0 0 0 [(0, .ref h), (1, .int (nI p)), (2, .int (nI S)), (3, .int (nI q)), (4, .int (nI T))] [] [ob h 3 [.int (nI (srN s)), .int (nI (srT s)), .int (nI (srA s)), .int (nI (srD s)), .int (bI (srB s)), .int (nI md), .ref o, .ref qst, .ref qse, .ref qpa, .ref qle, .ref qgo], ob o 5 [.ref qf, .ref ql], aI G qf 9 (nF fw), aI G ql 18 (nF ld)]
  refine wc_aload_n X 0 0 dX3_isCovered_0 rfl ?_
  refine wc_get X 1 0 5 kd3 rfl (by decide) q_189 rfl dX3_isCovered_1 ?_
  rcases (show md = 0 ∨ md = 1 ∨ md = 2 by omega) with hmd | hmd | hmd
  ·
    refine wc_ls X 4 32 (nI 0) dX3_isCovered_4 (by rw [hmd]) (by decide) (by decide) (by decide) ?_
    refine wc_iload_n X 32 1 dX3_isCovered_32 rfl ?_
    refine wc_iload_n X 33 3 dX3_isCovered_33 rfl ?_
    refine wc_icmp_neN X 34 47 dX3_isCovered_34 (by decide) (by omega) (by omega) (fun c34_1 => ?_) (fun c34_1 => ?_)
    ·
      refine wc_iconstN X 47 0 dX3_isCovered_47 ?_
      refine wc_st (st' := [.int (b2i false)]) rfl ?_
      exact ret 48 _ false dX3_isCovered_48 (by unfold cov; simp [hmd, c34_1])
    ·
      refine wc_iload_n X 37 2 dX3_isCovered_37 rfl ?_
      refine wc_iload X 38 4 dX3_isCovered_38 rfl ?_
      refine wc_icmp_neN X 40 47 dX3_isCovered_40 (by decide) (by omega) (by omega) (fun c40_2 => ?_) (fun c40_2 => ?_)
      ·
        refine wc_iconstN X 47 0 dX3_isCovered_47 ?_
        refine wc_st (st' := [.int (b2i false)]) rfl ?_
        exact ret 48 _ false dX3_isCovered_48 (by unfold cov; simp [hmd, c34_1, c40_2])
      ·
        refine wc_iconstN X 43 1 dX3_isCovered_43 ?_
        refine wc_goto X 44 48 dX3_isCovered_44 (by decide) ?_
        refine wc_st (st' := [.int (b2i true)]) rfl ?_
        exact ret 48 _ true dX3_isCovered_48 (by unfold cov; simp [hmd, c34_1, c40_2])
  ·
    refine wc_ls X 4 49 (nI 1) dX3_isCovered_4 (by rw [hmd]) (by decide) (by decide) (by decide) ?_
    refine wc_iload_n X 49 1 dX3_isCovered_49 rfl ?_
    refine wc_iload_n X 50 3 dX3_isCovered_50 rfl ?_
    refine wc_icmp_neN X 51 67 dX3_isCovered_51 (by decide) (by omega) (by omega) (fun c51_3 => ?_) (fun c51_3 => ?_)
    ·
      refine wc_iconstN X 67 0 dX3_isCovered_67 ?_
      refine wc_st (st' := [.int (b2i false)]) rfl ?_
      exact ret 68 _ false dX3_isCovered_68 (by unfold cov; simp [hmd, c51_3])
    ·
      refine wc_iload_n X 54 2 dX3_isCovered_54 rfl ?_
      refine wc_iload X 55 4 dX3_isCovered_55 rfl ?_
      refine wc_iandN X 57 dX3_isCovered_57 ?_
      refine wc_iload X 58 4 dX3_isCovered_58 rfl ?_
      refine wc_icmp_neN X 60 67 dX3_isCovered_60 (by decide) (Nat.lt_trans (and_lt hS) (by decide)) (by omega) (fun c60_4 => ?_) (fun c60_4 => ?_)
      ·
        refine wc_iconstN X 67 0 dX3_isCovered_67 ?_
        refine wc_st (st' := [.int (b2i false)]) rfl ?_
        exact ret 68 _ false dX3_isCovered_68 (by unfold cov; simp [hmd, c51_3, c60_4])
      ·
        refine wc_iconstN X 63 1 dX3_isCovered_63 ?_
        refine wc_goto X 64 68 dX3_isCovered_64 (by decide) ?_
        refine wc_st (st' := [.int (b2i true)]) rfl ?_
        exact ret 68 _ true dX3_isCovered_68 (by unfold cov; simp [hmd, c51_3, c60_4])
  ·
    refine wc_ls X 4 69 (nI 2) dX3_isCovered_4 (by rw [hmd]) (by decide) (by decide) (by decide) ?_
    refine wc_aload_n X 69 0 dX3_isCovered_69 rfl ?_
    refine wc_get X 70 0 6 kd3 rfl (by decide) q_190 rfl dX3_isCovered_70 ?_
    refine wc_iconstN X 73 0 dX3_isCovered_73 ?_
    refine wc_iload_n X 74 1 dX3_isCovered_74 rfl ?_
    refine wc_iconstN X 75 0 dX3_isCovered_75 ?_
    refine wc_iconstN X 76 1 dX3_isCovered_76 ?_
    refine wc_iload_n X 77 3 dX3_isCovered_77 rfl ?_
    refine wc_shl1 X 78 dX3_isCovered_78 (by omega) ?_
    refine wc_callV X 79 [1, 2, 3] 1 (c_X5_holds l G o qf ql fw ld 0 p 0 (2 ^ q) (by decide) (by omega) (fun _ => hp) (by decide) (Nat.lt_of_lt_of_le (Nat.pow_lt_pow_right (by decide) hq) (by decide : 2 ^ 4 ≤ 32))) yv_X5_holds kd5 rfl rfl q_606 ⟨rfl, rfl⟩ ⟨rfl, rfl⟩ ⟨rfl, rfl⟩ rfl rfl rfl dX3_isCovered_79 ?_
    refine wc_topi (b2i (F p q)) (hk_one (hF hmd) hp hq) ?_
    refine wc_if_eqB X 82 102 dX3_isCovered_82 (by decide) (fun c82_5 => ?_) (fun c82_5 => ?_)
    ·
      refine wc_iconstN X 102 0 dX3_isCovered_102 ?_
      refine wc_st (st' := [.int (b2i false)]) rfl ?_
      exact ret 103 _ false dX3_isCovered_103 (by unfold cov; simp [hmd, c82_5])
    ·
      refine wc_aload_n X 85 0 dX3_isCovered_85 rfl ?_
      refine wc_get X 86 0 6 kd3 rfl (by decide) q_190 rfl dX3_isCovered_86 ?_
      refine wc_iload X 89 4 dX3_isCovered_89 rfl ?_
      refine wc_iload_n X 91 2 dX3_isCovered_91 rfl ?_
      refine wc_callV X 92 [1, 2, 3] 1 (c_X5_holdsForEach l G o qf ql fw ld T S hT hS) yv_X5_holdsForEach kd5 rfl rfl q_615 ⟨rfl, rfl⟩ ⟨rfl, rfl⟩ ⟨rfl, rfl⟩ rfl rfl rfl dX3_isCovered_92 ?_
      refine wc_topi (b2i (folA F T S)) (hk_all (hF hmd) hS) ?_
      refine wc_if_eqB X 95 102 dX3_isCovered_95 (by decide) (fun c95_6 => ?_) (fun c95_6 => ?_)
      ·
        refine wc_iconstN X 102 0 dX3_isCovered_102 ?_
        refine wc_st (st' := [.int (b2i false)]) rfl ?_
        exact ret 103 _ false dX3_isCovered_103 (by unfold cov; simp [hmd, c82_5, c95_6])
      ·
        refine wc_iconstN X 98 1 dX3_isCovered_98 ?_
        refine wc_goto X 99 103 dX3_isCovered_99 (by decide) ?_
        refine wc_st (st' := [.int (b2i true)]) rfl ?_
        exact ret 103 _ true dX3_isCovered_103 (by unfold cov; simp [hmd, c82_5, c95_6])

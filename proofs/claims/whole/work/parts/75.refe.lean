set_option maxHeartbeats 4000000 in
set_option maxRecDepth 100000 in
theorem c_X11_longPower (l : Launch) (G : GG) (n : Nat) (hn : n < 1000) : RM l G yX11_longPower (Cond.code yX11_longPower cX11_longPower 6 (some .long)) { frames := 0, cells := 0, slots := 0, locals := 0 } [.long 100000, .int (nI n)] [] (.long (lN (100000 ^ n))) := by
  refine RM.ofL (by decide) rfl (fun Γ X ret => ?_)
  show Wc Γ 0 0 0 [(0, .long 100000), (2, .int (nI n))] [] []
  refine wc_lconst X 0 1 dX11_longPower_0 (by decide) ?_
  refine wc_lstore_n X 1 (L' := [(0, .long 100000), (2, .int (nI n)), (3, .long 1)]) dX11_longPower_1 (by decide) rfl ?_
  refine wc_iconstN X 2 0 dX11_longPower_2 ?_
  refine wc_istore X 3 (L' := [(0, .long 100000), (2, .int (nI n)), (3, .long 1), (5, .int (nI 0))]) dX11_longPower_3 (by decide) rfl ?_
  have LP_2 : ∀ (fuel_1 : Nat) (i : Nat), (i ≤ n) → n - i < fuel_1 → Wc Γ 0 0 5 [(0, .long 100000), (2, .int (nI n)), (3, .long (lN (100000 ^ i))), (5, .int (nI i))] [] [] := by
    intro fuel_1
    induction fuel_1 with
    | zero => intro i hi hm; exact absurd hm (Nat.not_lt_zero _)
    | succ fuel_1 ih_3 =>
      intro i hi hm_4
      refine wc_iload X 5 3 dX11_longPower_5 rfl ?_
      refine wc_iload_n X 7 1 dX11_longPower_7 rfl ?_
      refine wc_icmp_geN X 8 21 dX11_longPower_8 (by decide) (by omega) (by omega) (fun c8_5 => ?_) (fun c8_5 => ?_)
      ·
        refine wc_lload_n X 21 2 dX11_longPower_21 rfl ?_
        exact ret 22 _ (lN (100000 ^ i)) dX11_longPower_22 (by rw [show i = n by omega])
      ·
        refine wc_lload_n X 11 2 dX11_longPower_11 rfl ?_
        refine wc_lload_n X 12 0 dX11_longPower_12 rfl ?_
        refine wc_lmul X 13 dX11_longPower_13 ?_
        refine wc_lstore_n X 14 (L' := [(0, .long 100000), (2, .int (nI n)), (3, .long ((lN (100000 ^ i)) * 100000)), (5, .int (nI i))]) dX11_longPower_14 (by decide) rfl ?_
        refine wc_iincN X 15 3 (L' := [(0, .long 100000), (2, .int (nI n)), (3, .long ((lN (100000 ^ i)) * 100000)), (5, .int (nI (i + 1)))]) dX11_longPower_15 rfl (by decide) rfl ?_
        refine wc_goto X 18 5 dX11_longPower_18 (by decide) ?_
        have e_6 : (lN (100000 ^ i)) * 100000 = lN (100000 ^ (i + 1)) := by rw [Nat.pow_succ, ← lN_mul]; rfl
        refine wc_L (L' := [(0, .long 100000), (2, .int (nI n)), (3, .long (lN (100000 ^ (i + 1)))), (5, .int (nI (i + 1)))]) (by first | (rw [e_6]; done) | (rw [e_6]; rfl) | (rw [← e_6]; done) | rfl) ?_
        exact ih_3 (i + 1) (by omega) (by omega)
  have e_7 : 1 = lN (100000 ^ 0) := rfl
  refine wc_L (L' := [(0, .long 100000), (2, .int (nI n)), (3, .long (lN (100000 ^ 0))), (5, .int (nI 0))]) (by first | (rw [e_7]; done) | (rw [e_7]; rfl) | (rw [← e_7]; done) | rfl) ?_
  exact LP_2 (n - 0 + 1) 0 (by omega) (Nat.lt_succ_self _)

set_option maxHeartbeats 4000000 in
set_option maxRecDepth 100000 in
theorem c_X11_does (l : Launch) (G : GG) (o : Nat) (th : Int32) (qtx ts pl qrp qpg qtr qbk dn qkp qik sn qsw qsi : Nat) (sd : Int64) (qln qfm qby qwy wz qfo qon qmn qpr qle qst qwt rc tk ps gn : Nat) (bd : Int32) (qwo : Nat) (p : Nat → Nat) (ln0 : Nat → Nat) (fm0 : Nat → Int32) (bf0 wy0 : Nat → Nat) (fo : Nat → Bool) (f : Nat) (hr : pgOk p) (hf : f < 100000) : MM l G yX11_does (Cond.code yX11_does cX11_does 10 (some .boolean)) { frames := 5, cells := 0, slots := 0, locals := 117 } [.ref o, .int (nI f)] [ob o 11 [.int th, .ref qtx, .int (nI ts), .int (nI pl), .ref qrp, .ref qpg, .ref qtr, .ref qbk, .int (nI dn), .ref qkp, .ref qik, .int (nI sn), .ref qsw, .ref qsi, .long sd, .ref qln, .ref qfm, .ref qby, .ref qwy, .int (nI wz), .ref qfo, .ref qon, .ref qmn, .ref qpr, .ref qle, .ref qst, .ref qwt, .int (nI rc), .int (nI tk), .int (nI ps), .int (nI gn), .int bd, .ref qwo], aI G qtr 22 (nF p), aI G qln 512 (nF ln0), aI G qfm 512 fm0, aI G qby 512 (nF bf0), aI G qwy 512 (nF wy0), aZ G qfo 81 (bF fo)] (fun (v : Option Value) (w : va_W) => ∃ (wz2 : Nat) (ln2 : Nat → Nat) (fm2 : Nat → Int32) (bf2 wy2 : Nat → Nat) (fo2 : Nat → Bool), v = some (.int (b2i ((doK p f).1))) ∧ w = [ob o 11 [.int th, .ref qtx, .int (nI ts), .int (nI pl), .ref qrp, .ref qpg, .ref qtr, .ref qbk, .int (nI dn), .ref qkp, .ref qik, .int (nI sn), .ref qsw, .ref qsi, .long sd, .ref qln, .ref qfm, .ref qby, .ref qwy, .int (nI wz2), .ref qfo, .ref qon, .ref qmn, .ref qpr, .ref qle, .ref qst, .ref qwt, .int (nI rc), .int (nI tk), .int (nI ps), .int (nI gn), .int bd, .ref qwo], aI G qtr 22 (nF ((doK p f).2)), aI G qln 512 (nF ln2), aI G qfm 512 fm2, aI G qby 512 (nF bf2), aI G qwy 512 (nF wy2), aZ G qfo 81 (bF fo2)]) 0 0 := by
  refine MM.ofZ (by decide) rfl (fun Γ X Y hnm ret => ?_)
  show Wc Γ 0 0 0 [(0, .ref o), (1, .int (nI f))] [] [ob o 11 [.int th, .ref qtx, .int (nI ts), .int (nI pl), .ref qrp, .ref qpg, .ref qtr, .ref qbk, .int (nI dn), .ref qkp, .ref qik, .int (nI sn), .ref qsw, .ref qsi, .long sd, .ref qln, .ref qfm, .ref qby, .ref qwy, .int (nI wz), .ref qfo, .ref qon, .ref qmn, .ref qpr, .ref qle, .ref qst, .ref qwt, .int (nI rc), .int (nI tk), .int (nI ps), .int (nI gn), .int bd, .ref qwo], aI G qtr 22 (nF p), aI G qln 512 (nF ln0), aI G qfm 512 fm0, aI G qby 512 (nF bf0), aI G qwy 512 (nF wy0), aZ G qfo 81 (bF fo)]
  have hA := dA_lt f
  have hB := dB_lt f
  have hCc := dC_lt f
  have hD := dD_lt f
  have hb0 := pgOk_m hr (show 0 < 2 by decide)
  have hb1 := pgOk_m hr (show 1 < 2 by decide)
  have hn0 := hr.2.1
  have hn1 := hr.2.2.2.1
  refine wc_iload_n X 0 1 dX11_does_0 rfl ?_
  refine wc_sipush X 1 (nI 1000) dX11_does_1 (by decide) ?_
  refine wc_idivN X 4 dX11_does_4 (by omega) (by decide) (by decide) ?_
  refine wc_bipush X 5 (nI 10) dX11_does_5 (by decide) ?_
  refine wc_iremN X 7 dX11_does_7 (by omega) (by decide) (by decide) ?_
  refine wc_topi (nI (dA f)) (congrArg nI (rfl)) ?_
  refine wc_istore_n X 8 (L' := [(0, .ref o), (1, .int (nI f)), (2, .int (nI (dA f)))]) dX11_does_8 (by decide) rfl ?_
  refine wc_iload_n X 9 1 dX11_does_9 rfl ?_
  refine wc_bipush X 10 (nI 100) dX11_does_10 (by decide) ?_
  refine wc_idivN X 12 dX11_does_12 (by omega) (by decide) (by decide) ?_
  refine wc_bipush X 13 (nI 10) dX11_does_13 (by decide) ?_
  refine wc_iremN X 15 dX11_does_15 (by omega) (by decide) (by decide) ?_
  refine wc_topi (nI (dB f)) (congrArg nI (rfl)) ?_
  refine wc_istore_n X 16 (L' := [(0, .ref o), (1, .int (nI f)), (2, .int (nI (dA f))), (3, .int (nI (dB f)))]) dX11_does_16 (by decide) rfl ?_
  refine wc_iload_n X 17 1 dX11_does_17 rfl ?_
  refine wc_bipush X 18 (nI 10) dX11_does_18 (by decide) ?_
  refine wc_idivN X 20 dX11_does_20 (by omega) (by decide) (by decide) ?_
  refine wc_bipush X 21 (nI 10) dX11_does_21 (by decide) ?_
  refine wc_iremN X 23 dX11_does_23 (by omega) (by decide) (by decide) ?_
  refine wc_topi (nI (dC f)) (congrArg nI (rfl)) ?_
  refine wc_istore X 24 (L' := [(0, .ref o), (1, .int (nI f)), (2, .int (nI (dA f))), (3, .int (nI (dB f))), (4, .int (nI (dC f)))]) dX11_does_24 (by decide) rfl ?_
  refine wc_iload_n X 26 1 dX11_does_26 rfl ?_
  refine wc_bipush X 27 (nI 10) dX11_does_27 (by decide) ?_
  refine wc_iremN X 29 dX11_does_29 (by omega) (by decide) (by decide) ?_
  refine wc_topi (nI (dD f)) (congrArg nI (rfl)) ?_
  refine wc_istore X 30 (L' := [(0, .ref o), (1, .int (nI f)), (2, .int (nI (dA f))), (3, .int (nI (dB f))), (4, .int (nI (dC f))), (5, .int (nI (dD f)))]) dX11_does_30 (by decide) rfl ?_
  refine wc_iload_n X 32 2 dX11_does_32 rfl ?_
  refine wc_iconstN X 33 2 dX11_does_33 ?_
  refine wc_icmp_geN X 34 41 dX11_does_34 (by decide) (by omega) (by decide) (fun c34_1 => ?_) (fun c34_1 => ?_)
  ·
    refine wc_iconstN X 41 0 dX11_does_41 ?_
    refine wc_istore X 42 (L' := [(0, .ref o), (1, .int (nI f)), (2, .int (nI (dA f))), (3, .int (nI (dB f))), (4, .int (nI (dC f))), (5, .int (nI (dD f))), (6, .int (nI 0))]) dX11_does_42 (by decide) rfl ?_
    refine wc_iload_n X 44 2 dX11_does_44 rfl ?_
    refine wc_iconstN X 45 2 dX11_does_45 ?_
    refine wc_icmp_geN X 46 64 dX11_does_46 (by decide) (by omega) (by decide) (fun c46_2 => ?_) (fun c46_2 => ?_)
    ·
      have hns : ¬ (dA f < 2 ∧ dB f < p (dA f)) := fun z => by omega
      refine wc_iconstN X 64 0 dX11_does_64 ?_
      refine wc_istore X 65 (L' := [(0, .ref o), (1, .int (nI f)), (2, .int (nI (dA f))), (3, .int (nI (dB f))), (4, .int (nI (dC f))), (5, .int (nI (dD f))), (6, .int (nI 0)), (7, .int (nI 0))]) dX11_does_65 (by decide) rfl ?_
      refine wc_iload_n X 67 1 dX11_does_67 rfl ?_
      refine wc_sipush X 68 (nI 10000) dX11_does_68 (by decide) ?_
      refine wc_idivN X 71 dX11_does_71 (by omega) (by decide) (by decide) ?_
      by_cases s72_3 : nI (f / 10000) = nI 1
      ·
        refine wc_tsI X 72 108 0 (nI 1) (off := 36) dX11_does_72 s72_3 (by decide) (by decide) (by decide) (by decide) ?_
        have hk : f / 10000 = 1 := (nI_eq (by omega) (by decide)).mp s72_3
        refine wc_iload X 108 7 dX11_does_108 rfl ?_
        refine wc_if_eqN X 110 142 dX11_does_110 (by decide) (by decide) (fun c110_4 => ?_) (fun c110_4 => ?_)
        ·
          refine wc_iconstN X 142 0 dX11_does_142 ?_
          refine wc_istore X 143 (L' := [(0, .ref o), (1, .int (nI f)), (2, .int (nI (dA f))), (3, .int (nI (dB f))), (4, .int (nI (dC f))), (5, .int (nI (dD f))), (6, .int (nI 0)), (7, .int (nI 0)), (8, .int (nI 0))]) dX11_does_143 (by decide) rfl ?_
          refine wc_iload X 145 8 dX11_does_145 rfl ?_
          refine wc_if_eqN X 147 170 dX11_does_147 (by decide) (by decide) (fun c147_5 => ?_) (fun c147_5 => ?_)
          ·
            refine wc_iload X 170 8 dX11_does_170 rfl ?_
            refine wc_st (st' := [.int (b2i false)]) rfl ?_
            exact ret 172 _ false _ dX11_does_172 (⟨_, _, _, _, _, _, by rw [doK1 hk, show edB p (dA f) (dB f) (dC f) (dD f) = false from decide_eq_false (fun z => hns ⟨z.1, z.2.1⟩)], by rw [doK1 hk, show edB p (dA f) (dB f) (dC f) (dD f) = false from decide_eq_false (fun z => hns ⟨z.1, z.2.1⟩)]; rfl⟩)
          ·
            exact absurd c147_5 (by decide)
        ·
          exact absurd c110_4 (by decide)
      ·
        by_cases s72_6 : nI (f / 10000) = nI 2
        ·
          refine wc_tsI X 72 173 1 (nI 2) (off := 101) dX11_does_72 s72_6 (by decide) (by decide) (by decide) (by decide) ?_
          have hk : f / 10000 = 2 := (nI_eq (by omega) (by decide)).mp s72_6
          refine wc_iload X 173 7 dX11_does_173 rfl ?_
          refine wc_if_eqN X 175 192 dX11_does_175 (by decide) (by decide) (fun c175_7 => ?_) (fun c175_7 => ?_)
          ·
            refine wc_iconstN X 192 0 dX11_does_192 ?_
            refine wc_istore X 193 (L' := [(0, .ref o), (1, .int (nI f)), (2, .int (nI (dA f))), (3, .int (nI (dB f))), (4, .int (nI (dC f))), (5, .int (nI (dD f))), (6, .int (nI 0)), (7, .int (nI 0)), (9, .int (nI 0))]) dX11_does_193 (by decide) rfl ?_
            refine wc_aload_n X 195 0 dX11_does_195 rfl ?_
            refine wc_get X 196 0 6 kd11 rfl (by decide) q_771 rfl dX11_does_196 ?_
            refine wc_iconstN X 199 2 dX11_does_199 ?_
            refine wc_iload X 200 6 dX11_does_200 rfl ?_
            refine wc_iaddN X 202 dX11_does_202 ?_
            refine wc_dup2 X 203 dX11_does_203 rfl rfl ?_
            refine wc_ialdG X 204 1 rfl (by omega) (by decide) dX11_does_204 ?_
            refine wc_iload X 205 8 dX11_does_205 rfl ?_
            refine wc_if_eqN X 207 216 dX11_does_207 (by decide) (by decide) (fun c207_8 => ?_) (fun c207_8 => ?_)
            ·
              refine wc_iconstN X 216 0 dX11_does_216 ?_
              refine wc_ixorN X 217 dX11_does_217 ?_
              refine wc_iastG X Y 218 1 rfl (by omega) (by decide) (ws' := [ob o 11 [.int th, .ref qtx, .int (nI ts), .int (nI pl), .ref qrp, .ref qpg, .ref qtr, .ref qbk, .int (nI dn), .ref qkp, .ref qik, .int (nI sn), .ref qsw, .ref qsi, .long sd, .ref qln, .ref qfm, .ref qby, .ref qwy, .int (nI wz), .ref qfo, .ref qon, .ref qmn, .ref qpr, .ref qle, .ref qst, .ref qwt, .int (nI rc), .int (nI tk), .int (nI ps), .int (nI gn), .int bd, .ref qwo], aI G qtr 22 (nF (up p (2 + 0) ((p (2 + 0)) ^^^ 0))), aI G qln 512 (nF ln0), aI G qfm 512 fm0, aI G qby 512 (nF bf0), aI G qwy 512 (nF wy0), aZ G qfo 81 (bF fo)]) rfl dX11_does_218 ?_
              refine wc_ws (ws' := [ob o 11 [.int th, .ref qtx, .int (nI ts), .int (nI pl), .ref qrp, .ref qpg, .ref qtr, .ref qbk, .int (nI dn), .ref qkp, .ref qik, .int (nI sn), .ref qsw, .ref qsi, .long sd, .ref qln, .ref qfm, .ref qby, .ref qwy, .int (nI wz), .ref qfo, .ref qon, .ref qmn, .ref qpr, .ref qle, .ref qst, .ref qwt, .int (nI rc), .int (nI tk), .int (nI ps), .int (nI gn), .int bd, .ref qwo], aI G qtr 22 (nF p), aI G qln 512 (nF ln0), aI G qfm 512 fm0, aI G qby 512 (nF bf0), aI G qwy 512 (nF wy0), aZ G qfo 81 (bF fo)]) (by rw [up_x0]) ?_
              refine wc_iload X 219 8 dX11_does_219 rfl ?_
              refine wc_st (st' := [.int (b2i false)]) rfl ?_
              exact ret 221 _ false _ dX11_does_221 (⟨_, _, _, _, _, _, by rw [doK2 hk, show (decide (dC f = 0) && decide (dD f = 0) && enB p (dA f) (dB f)) = false from by rw [show enB p (dA f) (dB f) = false from decide_eq_false (fun z => hns ⟨z.1, z.2⟩)]; simp], by rw [doK2 hk, show (decide (dC f = 0) && decide (dD f = 0) && enB p (dA f) (dB f)) = false from by rw [show enB p (dA f) (dB f) = false from decide_eq_false (fun z => hns ⟨z.1, z.2⟩)]; simp]; rfl⟩)
            ·
              exact absurd c207_8 (by decide)
          ·
            exact absurd c175_7 (by decide)
        ·
          by_cases s72_9 : nI (f / 10000) = nI 3
          ·
            refine wc_tsI X 72 222 2 (nI 3) (off := 150) dX11_does_72 s72_9 (by decide) (by decide) (by decide) (by decide) ?_
            have hk : f / 10000 = 3 := (nI_eq (by omega) (by decide)).mp s72_9
            refine wc_iload_n X 222 2 dX11_does_222 rfl ?_
            refine wc_iconstN X 223 2 dX11_does_223 ?_
            refine wc_icmp_geN X 224 260 dX11_does_224 (by decide) (by omega) (by decide) (fun c224_10 => ?_) (fun c224_10 => ?_)
            ·
              refine wc_iconstN X 260 0 dX11_does_260 ?_
              refine wc_st (st' := [.int (b2i false)]) rfl ?_
              exact ret 261 _ false _ dX11_does_261 (⟨_, _, _, _, _, _, by rw [doK3 hk, show (decide (dA f < 2) && wordOk (f % 1000) && (walkD (mG p (dA f)) (p (dA f)) (f % 1000) 1 9 &&& p (2 + dA f) != 0)) = false from by rw [decide_eq_false (show ¬ dA f < 2 by omega)]; rfl], by rw [doK3 hk]⟩)
            ·
              exact absurd c224_10 (by omega)
          ·
            by_cases s72_11 : nI (f / 10000) = nI 4
            ·
              refine wc_tsI X 72 262 3 (nI 4) (off := 190) dX11_does_72 s72_11 (by decide) (by decide) (by decide) (by decide) ?_
              have hk : f / 10000 = 4 := (nI_eq (by omega) (by decide)).mp s72_11
              refine wc_iload_n X 262 1 dX11_does_262 rfl ?_
              refine wc_sipush X 263 (nI 10000) dX11_does_263 (by decide) ?_
              refine wc_iremN X 266 dX11_does_266 (by omega) (by decide) (by decide) ?_
              refine wc_iconstN X 267 2 dX11_does_267 ?_
              refine wc_icmp_geN X 268 297 dX11_does_268 (by decide) (by omega) (by decide) (fun c268_12 => ?_) (fun c268_12 => ?_)
              ·
                refine wc_iconstN X 297 0 dX11_does_297 ?_
                refine wc_st (st' := [.int (b2i false)]) rfl ?_
                exact ret 298 _ false _ dX11_does_298 (⟨_, _, _, _, _, _, by rw [doK4 hk, show (decide (f % 10000 < 2) && (withP p == decide (dD f = 1))) = false from by rw [decide_eq_false (show ¬ f % 10000 < 2 by omega)]; rfl], by rw [doK4 hk]⟩)
              ·
                refine wc_aload_n X 271 0 dX11_does_271 rfl ?_
                refine wc_aload_n X 272 0 dX11_does_272 rfl ?_
                refine wc_get X 273 0 6 kd11 rfl (by decide) q_771 rfl dX11_does_273 ?_
                refine wc_mutV X Y 276 [0, 1, 2, 3, 4, 5] [6] 0 (c_X11_isWithin l G o th qtx ts pl qrp qpg qtr qbk dn qkp qik sn qsw qsi sd qln qfm qby qwy wz qfo qon qmn qpr qle qst qwt rc tk ps gn bd qwo qtr p ln0 fm0 bf0 wy0 (by first | assumption | omega)) yv_X11_isWithin kd11 rfl rfl (wr := [aZ G qfo 81 (bF fo)]) rfl ⟨rfl, rfl, rfl⟩ q_1005 ⟨rfl, rfl⟩ ⟨rfl, rfl⟩ ⟨rfl, rfl⟩ rfl rfl rfl dX11_does_276 (fun v w hp_13 => ?_)
                obtain ⟨wz2_14, ln2_15, fm2_16, bf2_17, wy2_18, rfl, rfl⟩ := hp_13
                refine wc_perm Y [1, 2, 3, 4, 5, 6, 0] [ob o 11 [.int th, .ref qtx, .int (nI ts), .int (nI pl), .ref qrp, .ref qpg, .ref qtr, .ref qbk, .int (nI dn), .ref qkp, .ref qik, .int (nI sn), .ref qsw, .ref qsi, .long sd, .ref qln, .ref qfm, .ref qby, .ref qwy, .int (nI wz2_14), .ref qfo, .ref qon, .ref qmn, .ref qpr, .ref qle, .ref qst, .ref qwt, .int (nI rc), .int (nI tk), .int (nI ps), .int (nI gn), .int bd, .ref qwo], aI G qtr 22 (nF p), aI G qln 512 (nF ln2_15), aI G qfm 512 fm2_16, aI G qby 512 (nF bf2_17), aI G qwy 512 (nF wy2_18), aZ G qfo 81 (bF fo)] rfl rfl ?_
                show Wc Γ 0 0 279 [(0, .ref o), (1, .int (nI f)), (2, .int (nI (dA f))), (3, .int (nI (dB f))), (4, .int (nI (dC f))), (5, .int (nI (dD f))), (6, .int (nI 0)), (7, .int (nI 0))] [.int (b2i (withB (gz p) (p 0) (p 2) (go p) (p 1) (p 3)))] [ob o 11 [.int th, .ref qtx, .int (nI ts), .int (nI pl), .ref qrp, .ref qpg, .ref qtr, .ref qbk, .int (nI dn), .ref qkp, .ref qik, .int (nI sn), .ref qsw, .ref qsi, .long sd, .ref qln, .ref qfm, .ref qby, .ref qwy, .int (nI wz2_14), .ref qfo, .ref qon, .ref qmn, .ref qpr, .ref qle, .ref qst, .ref qwt, .int (nI rc), .int (nI tk), .int (nI ps), .int (nI gn), .int bd, .ref qwo], aI G qtr 22 (nF p), aI G qln 512 (nF ln2_15), aI G qfm 512 fm2_16, aI G qby 512 (nF bf2_17), aI G qwy 512 (nF wy2_18), aZ G qfo 81 (bF fo)]
                refine wc_topi (b2i (withP p)) (rfl) ?_
                refine wc_iload X 279 5 dX11_does_279 rfl ?_
                refine wc_iconstN X 281 1 dX11_does_281 ?_
                refine wc_icmp_neN X 282 289 dX11_does_282 (by decide) (by omega) (by decide) (fun c282_19 => ?_) (fun c282_19 => ?_)
                ·
                  refine wc_iconstN X 289 0 dX11_does_289 ?_
                  refine wc_st (st' := [.int (b2i false), .int (b2i (withP p))]) rfl ?_
                  refine wc_icmp_neB X 290 297 dX11_does_290 (by decide) (fun c290_20 => ?_) (fun c290_20 => ?_)
                  ·
                    refine wc_iconstN X 297 0 dX11_does_297 ?_
                    refine wc_st (st' := [.int (b2i false)]) rfl ?_
                    exact ret 298 _ false _ dX11_does_298 (⟨_, _, _, _, _, _, by rw [doK4 hk, show (decide (f % 10000 < 2) && (withP p == decide (dD f = 1))) = false from by rw [decide_eq_true (show f % 10000 < 2 by omega), show withP p = _ from (show withP p = true by simpa using c290_20), show decide (dD f = 1) = _ from decide_eq_false c282_19]; rfl], by rw [doK4 hk]⟩)
                  ·
                    refine wc_iconstN X 293 1 dX11_does_293 ?_
                    refine wc_goto X 294 298 dX11_does_294 (by decide) ?_
                    refine wc_st (st' := [.int (b2i true)]) rfl ?_
                    exact ret 298 _ true _ dX11_does_298 (⟨_, _, _, _, _, _, by rw [doK4 hk, show (decide (f % 10000 < 2) && (withP p == decide (dD f = 1))) = true from by rw [decide_eq_true (show f % 10000 < 2 by omega), show withP p = _ from (show withP p = false by simpa using c290_20), show decide (dD f = 1) = _ from decide_eq_false c282_19]; rfl], by rw [doK4 hk]⟩)
                ·
                  refine wc_iconstN X 285 1 dX11_does_285 ?_
                  refine wc_goto X 286 290 dX11_does_286 (by decide) ?_
                  refine wc_st (st' := [.int (b2i true), .int (b2i (withP p))]) rfl ?_
                  refine wc_icmp_neB X 290 297 dX11_does_290 (by decide) (fun c290_21 => ?_) (fun c290_21 => ?_)
                  ·
                    refine wc_iconstN X 297 0 dX11_does_297 ?_
                    refine wc_st (st' := [.int (b2i false)]) rfl ?_
                    exact ret 298 _ false _ dX11_does_298 (⟨_, _, _, _, _, _, by rw [doK4 hk, show (decide (f % 10000 < 2) && (withP p == decide (dD f = 1))) = false from by rw [decide_eq_true (show f % 10000 < 2 by omega), show withP p = _ from (show withP p = false by simpa using c290_21), show decide (dD f = 1) = _ from decide_eq_true c282_19]; rfl], by rw [doK4 hk]⟩)
                  ·
                    refine wc_iconstN X 293 1 dX11_does_293 ?_
                    refine wc_goto X 294 298 dX11_does_294 (by decide) ?_
                    refine wc_st (st' := [.int (b2i true)]) rfl ?_
                    exact ret 298 _ true _ dX11_does_298 (⟨_, _, _, _, _, _, by rw [doK4 hk, show (decide (f % 10000 < 2) && (withP p == decide (dD f = 1))) = true from by rw [decide_eq_true (show f % 10000 < 2 by omega), show withP p = _ from (show withP p = true by simpa using c290_21), show decide (dD f = 1) = _ from decide_eq_true c282_19]; rfl], by rw [doK4 hk]⟩)
            ·
              by_cases s72_22 : nI (f / 10000) = nI 5
              ·
                refine wc_tsI X 72 299 4 (nI 5) (off := 227) dX11_does_72 s72_22 (by decide) (by decide) (by decide) (by decide) ?_
                have hk : f / 10000 = 5 := (nI_eq (by omega) (by decide)).mp s72_22
                refine wc_aload_n X 299 0 dX11_does_299 rfl ?_
                refine wc_aload_n X 300 0 dX11_does_300 rfl ?_
                refine wc_get X 301 0 6 kd11 rfl (by decide) q_771 rfl dX11_does_301 ?_
                refine wc_mutV X Y 304 [0, 1, 6] [2, 3, 4, 5] 0 (c_X11_findFollows l G o th qtx ts pl qrp qpg qtr qbk dn qkp qik sn qsw qsi sd qln qfm qby qwy wz qfo qon qmn qpr qle qst qwt rc tk ps gn bd qwo qtr p fo (by first | assumption | omega)) yv_X11_findFollows kd11 rfl rfl (wr := [aI G qln 512 (nF ln0), aI G qfm 512 fm0, aI G qby 512 (nF bf0), aI G qwy 512 (nF wy0)]) rfl ⟨rfl, rfl, rfl⟩ q_1040 ⟨rfl, rfl⟩ ⟨rfl, rfl⟩ ⟨rfl, rfl⟩ rfl rfl rfl dX11_does_304 (fun v w hp_23 => ?_)
                obtain ⟨fo2_24, rfl, rfl, hfo⟩ := hp_23
                refine wc_perm Y [4, 5, 0, 1, 2, 3, 6] [ob o 11 [.int th, .ref qtx, .int (nI ts), .int (nI pl), .ref qrp, .ref qpg, .ref qtr, .ref qbk, .int (nI dn), .ref qkp, .ref qik, .int (nI sn), .ref qsw, .ref qsi, .long sd, .ref qln, .ref qfm, .ref qby, .ref qwy, .int (nI wz), .ref qfo, .ref qon, .ref qmn, .ref qpr, .ref qle, .ref qst, .ref qwt, .int (nI rc), .int (nI tk), .int (nI ps), .int (nI gn), .int bd, .ref qwo], aI G qtr 22 (nF p), aI G qln 512 (nF ln0), aI G qfm 512 fm0, aI G qby 512 (nF bf0), aI G qwy 512 (nF wy0), aZ G qfo 81 (bF fo2_24)] rfl rfl ?_
                show Wc Γ 0 0 307 [(0, .ref o), (1, .int (nI f)), (2, .int (nI (dA f))), (3, .int (nI (dB f))), (4, .int (nI (dC f))), (5, .int (nI (dD f))), (6, .int (nI 0)), (7, .int (nI 0))] [] [ob o 11 [.int th, .ref qtx, .int (nI ts), .int (nI pl), .ref qrp, .ref qpg, .ref qtr, .ref qbk, .int (nI dn), .ref qkp, .ref qik, .int (nI sn), .ref qsw, .ref qsi, .long sd, .ref qln, .ref qfm, .ref qby, .ref qwy, .int (nI wz), .ref qfo, .ref qon, .ref qmn, .ref qpr, .ref qle, .ref qst, .ref qwt, .int (nI rc), .int (nI tk), .int (nI ps), .int (nI gn), .int bd, .ref qwo], aI G qtr 22 (nF p), aI G qln 512 (nF ln0), aI G qfm 512 fm0, aI G qby 512 (nF bf0), aI G qwy 512 (nF wy0), aZ G qfo 81 (bF fo2_24)]
                refine wc_iload_n X 307 2 dX11_does_307 rfl ?_
                refine wc_aload_n X 308 0 dX11_does_308 rfl ?_
                refine wc_get X 309 0 6 kd11 rfl (by decide) q_771 rfl dX11_does_309 ?_
                refine wc_iconstN X 312 0 dX11_does_312 ?_
                refine wc_ialdG X 313 1 rfl (by decide) (by decide) dX11_does_313 ?_
                refine wc_icmp_geN X 314 369 dX11_does_314 (by decide) (by omega) (by omega) (fun c314_25 => ?_) (fun c314_25 => ?_)
                ·
                  have hz5 : ¬ dA f < p 0 := by omega
                  refine wc_iconstN X 369 0 dX11_does_369 ?_
                  refine wc_st (st' := [.int (b2i false)]) rfl ?_
                  exact ret 370 _ false _ dX11_does_370 (⟨_, _, _, _, _, _, by rw [doK5 hk, show (decide (dA f < p 0) && decide (dB f < p 1) && decide (dC f = 0) && decide (dD f < 2) && (folB (gz p) (p 0) (p 2) (go p) (p 1) (p 3) (dA f) (4 + dB f) == decide (dD f = 1))) = false from by rw [decide_eq_false hz5]; simp], by rw [doK5 hk]⟩)
                ·
                  have h50 : dA f < p 0 := c314_25
                  refine wc_iload_n X 317 3 dX11_does_317 rfl ?_
                  refine wc_aload_n X 318 0 dX11_does_318 rfl ?_
                  refine wc_get X 319 0 6 kd11 rfl (by decide) q_771 rfl dX11_does_319 ?_
                  refine wc_iconstN X 322 1 dX11_does_322 ?_
                  refine wc_ialdG X 323 1 rfl (by decide) (by decide) dX11_does_323 ?_
                  refine wc_icmp_geN X 324 369 dX11_does_324 (by decide) (by omega) (by omega) (fun c324_26 => ?_) (fun c324_26 => ?_)
                  ·
                    have hz5 : ¬ dB f < p 1 := by omega
                    refine wc_iconstN X 369 0 dX11_does_369 ?_
                    refine wc_st (st' := [.int (b2i false)]) rfl ?_
                    exact ret 370 _ false _ dX11_does_370 (⟨_, _, _, _, _, _, by rw [doK5 hk, show (decide (dA f < p 0) && decide (dB f < p 1) && decide (dC f = 0) && decide (dD f < 2) && (folB (gz p) (p 0) (p 2) (go p) (p 1) (p 3) (dA f) (4 + dB f) == decide (dD f = 1))) = false from by rw [decide_eq_false hz5]; simp], by rw [doK5 hk]⟩)
                  ·
                    have h51 : dB f < p 1 := c324_26
                    refine wc_iload X 327 4 dX11_does_327 rfl ?_
                    refine wc_if_neN X 329 369 dX11_does_329 (by decide) (by omega) (fun c329_27 => ?_) (fun c329_27 => ?_)
                    ·
                      refine wc_iconstN X 369 0 dX11_does_369 ?_
                      refine wc_st (st' := [.int (b2i false)]) rfl ?_
                      exact ret 370 _ false _ dX11_does_370 (⟨_, _, _, _, _, _, by rw [doK5 hk, show (decide (dA f < p 0) && decide (dB f < p 1) && decide (dC f = 0) && decide (dD f < 2) && (folB (gz p) (p 0) (p 2) (go p) (p 1) (p 3) (dA f) (4 + dB f) == decide (dD f = 1))) = false from by rw [decide_eq_false c329_27]; simp], by rw [doK5 hk]⟩)
                    ·
                      refine wc_iload X 332 5 dX11_does_332 rfl ?_
                      refine wc_iconstN X 334 2 dX11_does_334 ?_
                      refine wc_icmp_geN X 335 369 dX11_does_335 (by decide) (by omega) (by decide) (fun c335_28 => ?_) (fun c335_28 => ?_)
                      ·
                        have hd2 : ¬ dD f < 2 := by omega
                        refine wc_iconstN X 369 0 dX11_does_369 ?_
                        refine wc_st (st' := [.int (b2i false)]) rfl ?_
                        exact ret 370 _ false _ dX11_does_370 (⟨_, _, _, _, _, _, by rw [doK5 hk, show (decide (dA f < p 0) && decide (dB f < p 1) && decide (dC f = 0) && decide (dD f < 2) && (folB (gz p) (p 0) (p 2) (go p) (p 1) (p 3) (dA f) (4 + dB f) == decide (dD f = 1))) = false from by rw [decide_eq_false hd2]; simp], by rw [doK5 hk]⟩)
                      ·
                        refine wc_aload_n X 338 0 dX11_does_338 rfl ?_
                        refine wc_get X 339 0 20 kd11 rfl (by decide) q_785 rfl dX11_does_339 ?_
                        refine wc_bipush X 342 (nI 9) dX11_does_342 (by decide) ?_
                        refine wc_iload_n X 344 2 dX11_does_344 rfl ?_
                        refine wc_imulN X 345 dX11_does_345 ?_
                        refine wc_iconstN X 346 4 dX11_does_346 ?_
                        refine wc_iaddN X 347 dX11_does_347 ?_
                        refine wc_iload_n X 348 3 dX11_does_348 rfl ?_
                        refine wc_iaddN X 349 dX11_does_349 ?_
                        refine wc_zaldG X 350 6 rfl (by omega) (by decide) dX11_does_350 ?_
                        refine wc_topi (b2i (folB (gz p) (p 0) (p 2) (go p) (p 1) (p 3) (dA f) (4 + dB f))) (congrArg b2i (by rw [Nat.add_assoc]; exact hfo _ _ (by omega) (by omega))) ?_
                        refine wc_iload X 351 5 dX11_does_351 rfl ?_
                        refine wc_iconstN X 353 1 dX11_does_353 ?_
                        refine wc_icmp_neN X 354 361 dX11_does_354 (by decide) (by omega) (by decide) (fun c354_29 => ?_) (fun c354_29 => ?_)
                        ·
                          refine wc_iconstN X 361 0 dX11_does_361 ?_
                          refine wc_st (st' := [.int (b2i false), .int (b2i (folB (gz p) (p 0) (p 2) (go p) (p 1) (p 3) (dA f) (4 + dB f)))]) rfl ?_
                          refine wc_icmp_neB X 362 369 dX11_does_362 (by decide) (fun c362_30 => ?_) (fun c362_30 => ?_)
                          ·
                            refine wc_iconstN X 369 0 dX11_does_369 ?_
                            refine wc_st (st' := [.int (b2i false)]) rfl ?_
                            exact ret 370 _ false _ dX11_does_370 (⟨_, _, _, _, _, _, by rw [doK5 hk, show (decide (dA f < p 0) && decide (dB f < p 1) && decide (dC f = 0) && decide (dD f < 2) && (folB (gz p) (p 0) (p 2) (go p) (p 1) (p 3) (dA f) (4 + dB f) == decide (dD f = 1))) = false from by rw [decide_eq_true h50, decide_eq_true h51, decide_eq_true (show dC f = 0 by omega), decide_eq_true (show dD f < 2 by omega), show folB (gz p) (p 0) (p 2) (go p) (p 1) (p 3) (dA f) (4 + dB f) = _ from (show folB (gz p) (p 0) (p 2) (go p) (p 1) (p 3) (dA f) (4 + dB f) = true by simpa using c362_30), show decide (dD f = 1) = _ from decide_eq_false c354_29]; rfl], by rw [doK5 hk]⟩)
                          ·
                            refine wc_iconstN X 365 1 dX11_does_365 ?_
                            refine wc_goto X 366 370 dX11_does_366 (by decide) ?_
                            refine wc_st (st' := [.int (b2i true)]) rfl ?_
                            exact ret 370 _ true _ dX11_does_370 (⟨_, _, _, _, _, _, by rw [doK5 hk, show (decide (dA f < p 0) && decide (dB f < p 1) && decide (dC f = 0) && decide (dD f < 2) && (folB (gz p) (p 0) (p 2) (go p) (p 1) (p 3) (dA f) (4 + dB f) == decide (dD f = 1))) = true from by rw [decide_eq_true h50, decide_eq_true h51, decide_eq_true (show dC f = 0 by omega), decide_eq_true (show dD f < 2 by omega), show folB (gz p) (p 0) (p 2) (go p) (p 1) (p 3) (dA f) (4 + dB f) = _ from (show folB (gz p) (p 0) (p 2) (go p) (p 1) (p 3) (dA f) (4 + dB f) = false by simpa using c362_30), show decide (dD f = 1) = _ from decide_eq_false c354_29]; rfl], by rw [doK5 hk]⟩)
                        ·
                          refine wc_iconstN X 357 1 dX11_does_357 ?_
                          refine wc_goto X 358 362 dX11_does_358 (by decide) ?_
                          refine wc_st (st' := [.int (b2i true), .int (b2i (folB (gz p) (p 0) (p 2) (go p) (p 1) (p 3) (dA f) (4 + dB f)))]) rfl ?_
                          refine wc_icmp_neB X 362 369 dX11_does_362 (by decide) (fun c362_31 => ?_) (fun c362_31 => ?_)
                          ·
                            refine wc_iconstN X 369 0 dX11_does_369 ?_
                            refine wc_st (st' := [.int (b2i false)]) rfl ?_
                            exact ret 370 _ false _ dX11_does_370 (⟨_, _, _, _, _, _, by rw [doK5 hk, show (decide (dA f < p 0) && decide (dB f < p 1) && decide (dC f = 0) && decide (dD f < 2) && (folB (gz p) (p 0) (p 2) (go p) (p 1) (p 3) (dA f) (4 + dB f) == decide (dD f = 1))) = false from by rw [decide_eq_true h50, decide_eq_true h51, decide_eq_true (show dC f = 0 by omega), decide_eq_true (show dD f < 2 by omega), show folB (gz p) (p 0) (p 2) (go p) (p 1) (p 3) (dA f) (4 + dB f) = _ from (show folB (gz p) (p 0) (p 2) (go p) (p 1) (p 3) (dA f) (4 + dB f) = false by simpa using c362_31), show decide (dD f = 1) = _ from decide_eq_true c354_29]; rfl], by rw [doK5 hk]⟩)
                          ·
                            refine wc_iconstN X 365 1 dX11_does_365 ?_
                            refine wc_goto X 366 370 dX11_does_366 (by decide) ?_
                            refine wc_st (st' := [.int (b2i true)]) rfl ?_
                            exact ret 370 _ true _ dX11_does_370 (⟨_, _, _, _, _, _, by rw [doK5 hk, show (decide (dA f < p 0) && decide (dB f < p 1) && decide (dC f = 0) && decide (dD f < 2) && (folB (gz p) (p 0) (p 2) (go p) (p 1) (p 3) (dA f) (4 + dB f) == decide (dD f = 1))) = true from by rw [decide_eq_true h50, decide_eq_true h51, decide_eq_true (show dC f = 0 by omega), decide_eq_true (show dD f < 2 by omega), show folB (gz p) (p 0) (p 2) (go p) (p 1) (p 3) (dA f) (4 + dB f) = _ from (show folB (gz p) (p 0) (p 2) (go p) (p 1) (p 3) (dA f) (4 + dB f) = true by simpa using c362_31), show decide (dD f = 1) = _ from decide_eq_true c354_29]; rfl], by rw [doK5 hk]⟩)
              ·
                have hsw1 : f / 10000 ≠ 1 := fun e => s72_3 (by rw [e])
                have hsw2 : f / 10000 ≠ 2 := fun e => s72_6 (by rw [e])
                have hsw3 : f / 10000 ≠ 3 := fun e => s72_9 (by rw [e])
                have hsw4 : f / 10000 ≠ 4 := fun e => s72_11 (by rw [e])
                have hsw5 : f / 10000 ≠ 5 := fun e => s72_22 (by rw [e])
                refine wc_tsO X 72 371 dX11_does_72 (by rw [nI_toInt (by omega)]; omega) (by decide) ?_
                refine wc_iconstN X 371 0 dX11_does_371 ?_
                refine wc_st (st' := [.int (b2i false)]) rfl ?_
                exact ret 372 _ false _ dX11_does_372 (⟨_, _, _, _, _, _, by rw [doK0 hsw1 hsw2 hsw3 hsw4 hsw5], by rw [doK0 hsw1 hsw2 hsw3 hsw4 hsw5]⟩)
    ·
      exact absurd c46_2 (by omega)
  ·
    have hA2 := c34_1
    have hbm := pgOk_m hr hA2
    refine wc_iload_n X 37 2 dX11_does_37 rfl ?_
    refine wc_goto X 38 42 dX11_does_38 (by decide) ?_
    refine wc_istore X 42 (L' := [(0, .ref o), (1, .int (nI f)), (2, .int (nI (dA f))), (3, .int (nI (dB f))), (4, .int (nI (dC f))), (5, .int (nI (dD f))), (6, .int (nI (dA f)))]) dX11_does_42 (by decide) rfl ?_
    refine wc_iload_n X 44 2 dX11_does_44 rfl ?_
    refine wc_iconstN X 45 2 dX11_does_45 ?_
    refine wc_icmp_geN X 46 64 dX11_does_46 (by decide) (by omega) (by decide) (fun c46_32 => ?_) (fun c46_32 => ?_)
    ·
      exact absurd c46_32 (by omega)
    ·
      refine wc_iload_n X 49 3 dX11_does_49 rfl ?_
      refine wc_aload_n X 50 0 dX11_does_50 rfl ?_
      refine wc_get X 51 0 6 kd11 rfl (by decide) q_771 rfl dX11_does_51 ?_
      refine wc_iload X 54 6 dX11_does_54 rfl ?_
      refine wc_ialdG X 56 1 rfl (by omega) (by decide) dX11_does_56 ?_
      refine wc_icmp_geN X 57 64 dX11_does_57 (by decide) (by omega) (Nat.lt_trans (hr.2.2.2.2.1 _) (by decide)) (fun c57_33 => ?_) (fun c57_33 => ?_)
      ·
        have hns : ¬ (dA f < 2 ∧ dB f < p (dA f)) := fun z => by omega
        refine wc_iconstN X 64 0 dX11_does_64 ?_
        refine wc_istore X 65 (L' := [(0, .ref o), (1, .int (nI f)), (2, .int (nI (dA f))), (3, .int (nI (dB f))), (4, .int (nI (dC f))), (5, .int (nI (dD f))), (6, .int (nI (dA f))), (7, .int (nI 0))]) dX11_does_65 (by decide) rfl ?_
        refine wc_iload_n X 67 1 dX11_does_67 rfl ?_
        refine wc_sipush X 68 (nI 10000) dX11_does_68 (by decide) ?_
        refine wc_idivN X 71 dX11_does_71 (by omega) (by decide) (by decide) ?_
        by_cases s72_34 : nI (f / 10000) = nI 1
        ·
          refine wc_tsI X 72 108 0 (nI 1) (off := 36) dX11_does_72 s72_34 (by decide) (by decide) (by decide) (by decide) ?_
          have hk : f / 10000 = 1 := (nI_eq (by omega) (by decide)).mp s72_34
          refine wc_iload X 108 7 dX11_does_108 rfl ?_
          refine wc_if_eqN X 110 142 dX11_does_110 (by decide) (by decide) (fun c110_35 => ?_) (fun c110_35 => ?_)
          ·
            refine wc_iconstN X 142 0 dX11_does_142 ?_
            refine wc_istore X 143 (L' := [(0, .ref o), (1, .int (nI f)), (2, .int (nI (dA f))), (3, .int (nI (dB f))), (4, .int (nI (dC f))), (5, .int (nI (dD f))), (6, .int (nI (dA f))), (7, .int (nI 0)), (8, .int (nI 0))]) dX11_does_143 (by decide) rfl ?_
            refine wc_iload X 145 8 dX11_does_145 rfl ?_
            refine wc_if_eqN X 147 170 dX11_does_147 (by decide) (by decide) (fun c147_36 => ?_) (fun c147_36 => ?_)
            ·
              refine wc_iload X 170 8 dX11_does_170 rfl ?_
              refine wc_st (st' := [.int (b2i false)]) rfl ?_
              exact ret 172 _ false _ dX11_does_172 (⟨_, _, _, _, _, _, by rw [doK1 hk, show edB p (dA f) (dB f) (dC f) (dD f) = false from decide_eq_false (fun z => hns ⟨z.1, z.2.1⟩)], by rw [doK1 hk, show edB p (dA f) (dB f) (dC f) (dD f) = false from decide_eq_false (fun z => hns ⟨z.1, z.2.1⟩)]; rfl⟩)
            ·
              exact absurd c147_36 (by decide)
          ·
            exact absurd c110_35 (by decide)
        ·
          by_cases s72_37 : nI (f / 10000) = nI 2
          ·
            refine wc_tsI X 72 173 1 (nI 2) (off := 101) dX11_does_72 s72_37 (by decide) (by decide) (by decide) (by decide) ?_
            have hk : f / 10000 = 2 := (nI_eq (by omega) (by decide)).mp s72_37
            refine wc_iload X 173 7 dX11_does_173 rfl ?_
            refine wc_if_eqN X 175 192 dX11_does_175 (by decide) (by decide) (fun c175_38 => ?_) (fun c175_38 => ?_)
            ·
              refine wc_iconstN X 192 0 dX11_does_192 ?_
              refine wc_istore X 193 (L' := [(0, .ref o), (1, .int (nI f)), (2, .int (nI (dA f))), (3, .int (nI (dB f))), (4, .int (nI (dC f))), (5, .int (nI (dD f))), (6, .int (nI (dA f))), (7, .int (nI 0)), (9, .int (nI 0))]) dX11_does_193 (by decide) rfl ?_
              refine wc_aload_n X 195 0 dX11_does_195 rfl ?_
              refine wc_get X 196 0 6 kd11 rfl (by decide) q_771 rfl dX11_does_196 ?_
              refine wc_iconstN X 199 2 dX11_does_199 ?_
              refine wc_iload X 200 6 dX11_does_200 rfl ?_
              refine wc_iaddN X 202 dX11_does_202 ?_
              refine wc_dup2 X 203 dX11_does_203 rfl rfl ?_
              refine wc_ialdG X 204 1 rfl (by omega) (by decide) dX11_does_204 ?_
              refine wc_iload X 205 8 dX11_does_205 rfl ?_
              refine wc_if_eqN X 207 216 dX11_does_207 (by decide) (by decide) (fun c207_39 => ?_) (fun c207_39 => ?_)
              ·
                refine wc_iconstN X 216 0 dX11_does_216 ?_
                refine wc_ixorN X 217 dX11_does_217 ?_
                refine wc_iastG X Y 218 1 rfl (by omega) (by decide) (ws' := [ob o 11 [.int th, .ref qtx, .int (nI ts), .int (nI pl), .ref qrp, .ref qpg, .ref qtr, .ref qbk, .int (nI dn), .ref qkp, .ref qik, .int (nI sn), .ref qsw, .ref qsi, .long sd, .ref qln, .ref qfm, .ref qby, .ref qwy, .int (nI wz), .ref qfo, .ref qon, .ref qmn, .ref qpr, .ref qle, .ref qst, .ref qwt, .int (nI rc), .int (nI tk), .int (nI ps), .int (nI gn), .int bd, .ref qwo], aI G qtr 22 (nF (up p (2 + (dA f)) ((p (2 + (dA f))) ^^^ 0))), aI G qln 512 (nF ln0), aI G qfm 512 fm0, aI G qby 512 (nF bf0), aI G qwy 512 (nF wy0), aZ G qfo 81 (bF fo)]) rfl dX11_does_218 ?_
                refine wc_ws (ws' := [ob o 11 [.int th, .ref qtx, .int (nI ts), .int (nI pl), .ref qrp, .ref qpg, .ref qtr, .ref qbk, .int (nI dn), .ref qkp, .ref qik, .int (nI sn), .ref qsw, .ref qsi, .long sd, .ref qln, .ref qfm, .ref qby, .ref qwy, .int (nI wz), .ref qfo, .ref qon, .ref qmn, .ref qpr, .ref qle, .ref qst, .ref qwt, .int (nI rc), .int (nI tk), .int (nI ps), .int (nI gn), .int bd, .ref qwo], aI G qtr 22 (nF p), aI G qln 512 (nF ln0), aI G qfm 512 fm0, aI G qby 512 (nF bf0), aI G qwy 512 (nF wy0), aZ G qfo 81 (bF fo)]) (by rw [up_x0]) ?_
                refine wc_iload X 219 8 dX11_does_219 rfl ?_
                refine wc_st (st' := [.int (b2i false)]) rfl ?_
                exact ret 221 _ false _ dX11_does_221 (⟨_, _, _, _, _, _, by rw [doK2 hk, show (decide (dC f = 0) && decide (dD f = 0) && enB p (dA f) (dB f)) = false from by rw [show enB p (dA f) (dB f) = false from decide_eq_false (fun z => hns ⟨z.1, z.2⟩)]; simp], by rw [doK2 hk, show (decide (dC f = 0) && decide (dD f = 0) && enB p (dA f) (dB f)) = false from by rw [show enB p (dA f) (dB f) = false from decide_eq_false (fun z => hns ⟨z.1, z.2⟩)]; simp]; rfl⟩)
              ·
                exact absurd c207_39 (by decide)
            ·
              exact absurd c175_38 (by decide)
          ·
            by_cases s72_40 : nI (f / 10000) = nI 3
            ·
              refine wc_tsI X 72 222 2 (nI 3) (off := 150) dX11_does_72 s72_40 (by decide) (by decide) (by decide) (by decide) ?_
              have hk : f / 10000 = 3 := (nI_eq (by omega) (by decide)).mp s72_40
              refine wc_iload_n X 222 2 dX11_does_222 rfl ?_
              refine wc_iconstN X 223 2 dX11_does_223 ?_
              refine wc_icmp_geN X 224 260 dX11_does_224 (by decide) (by omega) (by decide) (fun c224_41 => ?_) (fun c224_41 => ?_)
              ·
                exact absurd c224_41 (by omega)
              ·
                refine wc_iload_n X 227 1 dX11_does_227 rfl ?_
                refine wc_sipush X 228 (nI 1000) dX11_does_228 (by decide) ?_
                refine wc_iremN X 231 dX11_does_231 (by omega) (by decide) (by decide) ?_
                refine wc_callS X 232 [] (c_X11_isWordN l G (f % 1000) (by omega)) ys_X11_isWord rfl q_966 ⟨rfl, rfl⟩ ⟨rfl, rfl⟩ ⟨rfl, rfl⟩ rfl rfl rfl dX11_does_232 ?_
                refine wc_if_eqB X 235 260 dX11_does_235 (by decide) (fun c235_42 => ?_) (fun c235_42 => ?_)
                ·
                  refine wc_iconstN X 260 0 dX11_does_260 ?_
                  refine wc_st (st' := [.int (b2i false)]) rfl ?_
                  exact ret 261 _ false _ dX11_does_261 (⟨_, _, _, _, _, _, by rw [doK3 hk, show (decide (dA f < 2) && wordOk (f % 1000) && (walkD (mG p (dA f)) (p (dA f)) (f % 1000) 1 9 &&& p (2 + dA f) != 0)) = false from by rw [show wordOk (f % 1000) = false from c235_42]; simp], by rw [doK3 hk]⟩)
                ·
                  have hw9 := c235_42
                  have hw10 : f % 1000 < 1000000000 := by omega
                  refine wc_aload_n X 238 0 dX11_does_238 rfl ?_
                  refine wc_get X 239 0 6 kd11 rfl (by decide) q_771 rfl dX11_does_239 ?_
                  refine wc_iload X 242 6 dX11_does_242 rfl ?_
                  refine wc_iconstN X 244 1 dX11_does_244 ?_
                  refine wc_iload_n X 245 1 dX11_does_245 rfl ?_
                  refine wc_sipush X 246 (nI 1000) dX11_does_246 (by decide) ?_
                  refine wc_iremN X 249 dX11_does_249 (by omega) (by decide) (by decide) ?_
                  refine wc_callS X 250 [1] (c_X11_takesFrom l G qtr p (dA f) 1 (f % 1000) hr.2.1 hr.2.2.2.1 hr.2.2.2.2.1 hA2 (by decide) hw10 (fun k hk => word_dig hw9 hk)) ys_X11_takesFrom rfl q_970 ⟨rfl, rfl⟩ ⟨rfl, rfl⟩ ⟨rfl, rfl⟩ rfl rfl rfl dX11_does_250 ?_
                  refine wc_if_eqB X 253 260 dX11_does_253 (by decide) (fun c253_43 => ?_) (fun c253_43 => ?_)
                  ·
                    refine wc_iconstN X 260 0 dX11_does_260 ?_
                    refine wc_st (st' := [.int (b2i false)]) rfl ?_
                    exact ret 261 _ false _ dX11_does_261 (⟨_, _, _, _, _, _, by rw [doK3 hk, show (decide (dA f < 2) && wordOk (f % 1000) && (walkD (mG p (dA f)) (p (dA f)) (f % 1000) 1 9 &&& p (2 + dA f) != 0)) = false from by rw [decide_eq_true hA2, show wordOk (f % 1000) = true from hw9, show (walkD (mG p (dA f)) (p (dA f)) (f % 1000) 1 9 &&& p (2 + dA f) != 0) = false from (by rw [← walkD_eq hw9]; exact c253_43)] <;> rfl], by rw [doK3 hk]⟩)
                  ·
                    refine wc_iconstN X 256 1 dX11_does_256 ?_
                    refine wc_goto X 257 261 dX11_does_257 (by decide) ?_
                    refine wc_st (st' := [.int (b2i true)]) rfl ?_
                    exact ret 261 _ true _ dX11_does_261 (⟨_, _, _, _, _, _, by rw [doK3 hk, show (decide (dA f < 2) && wordOk (f % 1000) && (walkD (mG p (dA f)) (p (dA f)) (f % 1000) 1 9 &&& p (2 + dA f) != 0)) = true from by rw [decide_eq_true hA2, show wordOk (f % 1000) = true from hw9, show (walkD (mG p (dA f)) (p (dA f)) (f % 1000) 1 9 &&& p (2 + dA f) != 0) = true from (by rw [← walkD_eq hw9]; exact c253_43)] <;> rfl], by rw [doK3 hk]⟩)
            ·
              by_cases s72_44 : nI (f / 10000) = nI 4
              ·
                refine wc_tsI X 72 262 3 (nI 4) (off := 190) dX11_does_72 s72_44 (by decide) (by decide) (by decide) (by decide) ?_
                have hk : f / 10000 = 4 := (nI_eq (by omega) (by decide)).mp s72_44
                refine wc_iload_n X 262 1 dX11_does_262 rfl ?_
                refine wc_sipush X 263 (nI 10000) dX11_does_263 (by decide) ?_
                refine wc_iremN X 266 dX11_does_266 (by omega) (by decide) (by decide) ?_
                refine wc_iconstN X 267 2 dX11_does_267 ?_
                refine wc_icmp_geN X 268 297 dX11_does_268 (by decide) (by omega) (by decide) (fun c268_45 => ?_) (fun c268_45 => ?_)
                ·
                  refine wc_iconstN X 297 0 dX11_does_297 ?_
                  refine wc_st (st' := [.int (b2i false)]) rfl ?_
                  exact ret 298 _ false _ dX11_does_298 (⟨_, _, _, _, _, _, by rw [doK4 hk, show (decide (f % 10000 < 2) && (withP p == decide (dD f = 1))) = false from by rw [decide_eq_false (show ¬ f % 10000 < 2 by omega)]; rfl], by rw [doK4 hk]⟩)
                ·
                  refine wc_aload_n X 271 0 dX11_does_271 rfl ?_
                  refine wc_aload_n X 272 0 dX11_does_272 rfl ?_
                  refine wc_get X 273 0 6 kd11 rfl (by decide) q_771 rfl dX11_does_273 ?_
                  refine wc_mutV X Y 276 [0, 1, 2, 3, 4, 5] [6] 0 (c_X11_isWithin l G o th qtx ts pl qrp qpg qtr qbk dn qkp qik sn qsw qsi sd qln qfm qby qwy wz qfo qon qmn qpr qle qst qwt rc tk ps gn bd qwo qtr p ln0 fm0 bf0 wy0 (by first | assumption | omega)) yv_X11_isWithin kd11 rfl rfl (wr := [aZ G qfo 81 (bF fo)]) rfl ⟨rfl, rfl, rfl⟩ q_1005 ⟨rfl, rfl⟩ ⟨rfl, rfl⟩ ⟨rfl, rfl⟩ rfl rfl rfl dX11_does_276 (fun v w hp_46 => ?_)
                  obtain ⟨wz2_47, ln2_48, fm2_49, bf2_50, wy2_51, rfl, rfl⟩ := hp_46
                  refine wc_perm Y [1, 2, 3, 4, 5, 6, 0] [ob o 11 [.int th, .ref qtx, .int (nI ts), .int (nI pl), .ref qrp, .ref qpg, .ref qtr, .ref qbk, .int (nI dn), .ref qkp, .ref qik, .int (nI sn), .ref qsw, .ref qsi, .long sd, .ref qln, .ref qfm, .ref qby, .ref qwy, .int (nI wz2_47), .ref qfo, .ref qon, .ref qmn, .ref qpr, .ref qle, .ref qst, .ref qwt, .int (nI rc), .int (nI tk), .int (nI ps), .int (nI gn), .int bd, .ref qwo], aI G qtr 22 (nF p), aI G qln 512 (nF ln2_48), aI G qfm 512 fm2_49, aI G qby 512 (nF bf2_50), aI G qwy 512 (nF wy2_51), aZ G qfo 81 (bF fo)] rfl rfl ?_
                  show Wc Γ 0 0 279 [(0, .ref o), (1, .int (nI f)), (2, .int (nI (dA f))), (3, .int (nI (dB f))), (4, .int (nI (dC f))), (5, .int (nI (dD f))), (6, .int (nI (dA f))), (7, .int (nI 0))] [.int (b2i (withB (gz p) (p 0) (p 2) (go p) (p 1) (p 3)))] [ob o 11 [.int th, .ref qtx, .int (nI ts), .int (nI pl), .ref qrp, .ref qpg, .ref qtr, .ref qbk, .int (nI dn), .ref qkp, .ref qik, .int (nI sn), .ref qsw, .ref qsi, .long sd, .ref qln, .ref qfm, .ref qby, .ref qwy, .int (nI wz2_47), .ref qfo, .ref qon, .ref qmn, .ref qpr, .ref qle, .ref qst, .ref qwt, .int (nI rc), .int (nI tk), .int (nI ps), .int (nI gn), .int bd, .ref qwo], aI G qtr 22 (nF p), aI G qln 512 (nF ln2_48), aI G qfm 512 fm2_49, aI G qby 512 (nF bf2_50), aI G qwy 512 (nF wy2_51), aZ G qfo 81 (bF fo)]
                  refine wc_topi (b2i (withP p)) (rfl) ?_
                  refine wc_iload X 279 5 dX11_does_279 rfl ?_
                  refine wc_iconstN X 281 1 dX11_does_281 ?_
                  refine wc_icmp_neN X 282 289 dX11_does_282 (by decide) (by omega) (by decide) (fun c282_52 => ?_) (fun c282_52 => ?_)
                  ·
                    refine wc_iconstN X 289 0 dX11_does_289 ?_
                    refine wc_st (st' := [.int (b2i false), .int (b2i (withP p))]) rfl ?_
                    refine wc_icmp_neB X 290 297 dX11_does_290 (by decide) (fun c290_53 => ?_) (fun c290_53 => ?_)
                    ·
                      refine wc_iconstN X 297 0 dX11_does_297 ?_
                      refine wc_st (st' := [.int (b2i false)]) rfl ?_
                      exact ret 298 _ false _ dX11_does_298 (⟨_, _, _, _, _, _, by rw [doK4 hk, show (decide (f % 10000 < 2) && (withP p == decide (dD f = 1))) = false from by rw [decide_eq_true (show f % 10000 < 2 by omega), show withP p = _ from (show withP p = true by simpa using c290_53), show decide (dD f = 1) = _ from decide_eq_false c282_52]; rfl], by rw [doK4 hk]⟩)
                    ·
                      refine wc_iconstN X 293 1 dX11_does_293 ?_
                      refine wc_goto X 294 298 dX11_does_294 (by decide) ?_
                      refine wc_st (st' := [.int (b2i true)]) rfl ?_
                      exact ret 298 _ true _ dX11_does_298 (⟨_, _, _, _, _, _, by rw [doK4 hk, show (decide (f % 10000 < 2) && (withP p == decide (dD f = 1))) = true from by rw [decide_eq_true (show f % 10000 < 2 by omega), show withP p = _ from (show withP p = false by simpa using c290_53), show decide (dD f = 1) = _ from decide_eq_false c282_52]; rfl], by rw [doK4 hk]⟩)
                  ·
                    refine wc_iconstN X 285 1 dX11_does_285 ?_
                    refine wc_goto X 286 290 dX11_does_286 (by decide) ?_
                    refine wc_st (st' := [.int (b2i true), .int (b2i (withP p))]) rfl ?_
                    refine wc_icmp_neB X 290 297 dX11_does_290 (by decide) (fun c290_54 => ?_) (fun c290_54 => ?_)
                    ·
                      refine wc_iconstN X 297 0 dX11_does_297 ?_
                      refine wc_st (st' := [.int (b2i false)]) rfl ?_
                      exact ret 298 _ false _ dX11_does_298 (⟨_, _, _, _, _, _, by rw [doK4 hk, show (decide (f % 10000 < 2) && (withP p == decide (dD f = 1))) = false from by rw [decide_eq_true (show f % 10000 < 2 by omega), show withP p = _ from (show withP p = false by simpa using c290_54), show decide (dD f = 1) = _ from decide_eq_true c282_52]; rfl], by rw [doK4 hk]⟩)
                    ·
                      refine wc_iconstN X 293 1 dX11_does_293 ?_
                      refine wc_goto X 294 298 dX11_does_294 (by decide) ?_
                      refine wc_st (st' := [.int (b2i true)]) rfl ?_
                      exact ret 298 _ true _ dX11_does_298 (⟨_, _, _, _, _, _, by rw [doK4 hk, show (decide (f % 10000 < 2) && (withP p == decide (dD f = 1))) = true from by rw [decide_eq_true (show f % 10000 < 2 by omega), show withP p = _ from (show withP p = true by simpa using c290_54), show decide (dD f = 1) = _ from decide_eq_true c282_52]; rfl], by rw [doK4 hk]⟩)
              ·
                by_cases s72_55 : nI (f / 10000) = nI 5
                ·
                  refine wc_tsI X 72 299 4 (nI 5) (off := 227) dX11_does_72 s72_55 (by decide) (by decide) (by decide) (by decide) ?_
                  have hk : f / 10000 = 5 := (nI_eq (by omega) (by decide)).mp s72_55
                  refine wc_aload_n X 299 0 dX11_does_299 rfl ?_
                  refine wc_aload_n X 300 0 dX11_does_300 rfl ?_
                  refine wc_get X 301 0 6 kd11 rfl (by decide) q_771 rfl dX11_does_301 ?_
                  refine wc_mutV X Y 304 [0, 1, 6] [2, 3, 4, 5] 0 (c_X11_findFollows l G o th qtx ts pl qrp qpg qtr qbk dn qkp qik sn qsw qsi sd qln qfm qby qwy wz qfo qon qmn qpr qle qst qwt rc tk ps gn bd qwo qtr p fo (by first | assumption | omega)) yv_X11_findFollows kd11 rfl rfl (wr := [aI G qln 512 (nF ln0), aI G qfm 512 fm0, aI G qby 512 (nF bf0), aI G qwy 512 (nF wy0)]) rfl ⟨rfl, rfl, rfl⟩ q_1040 ⟨rfl, rfl⟩ ⟨rfl, rfl⟩ ⟨rfl, rfl⟩ rfl rfl rfl dX11_does_304 (fun v w hp_56 => ?_)
                  obtain ⟨fo2_57, rfl, rfl, hfo⟩ := hp_56
                  refine wc_perm Y [4, 5, 0, 1, 2, 3, 6] [ob o 11 [.int th, .ref qtx, .int (nI ts), .int (nI pl), .ref qrp, .ref qpg, .ref qtr, .ref qbk, .int (nI dn), .ref qkp, .ref qik, .int (nI sn), .ref qsw, .ref qsi, .long sd, .ref qln, .ref qfm, .ref qby, .ref qwy, .int (nI wz), .ref qfo, .ref qon, .ref qmn, .ref qpr, .ref qle, .ref qst, .ref qwt, .int (nI rc), .int (nI tk), .int (nI ps), .int (nI gn), .int bd, .ref qwo], aI G qtr 22 (nF p), aI G qln 512 (nF ln0), aI G qfm 512 fm0, aI G qby 512 (nF bf0), aI G qwy 512 (nF wy0), aZ G qfo 81 (bF fo2_57)] rfl rfl ?_
                  show Wc Γ 0 0 307 [(0, .ref o), (1, .int (nI f)), (2, .int (nI (dA f))), (3, .int (nI (dB f))), (4, .int (nI (dC f))), (5, .int (nI (dD f))), (6, .int (nI (dA f))), (7, .int (nI 0))] [] [ob o 11 [.int th, .ref qtx, .int (nI ts), .int (nI pl), .ref qrp, .ref qpg, .ref qtr, .ref qbk, .int (nI dn), .ref qkp, .ref qik, .int (nI sn), .ref qsw, .ref qsi, .long sd, .ref qln, .ref qfm, .ref qby, .ref qwy, .int (nI wz), .ref qfo, .ref qon, .ref qmn, .ref qpr, .ref qle, .ref qst, .ref qwt, .int (nI rc), .int (nI tk), .int (nI ps), .int (nI gn), .int bd, .ref qwo], aI G qtr 22 (nF p), aI G qln 512 (nF ln0), aI G qfm 512 fm0, aI G qby 512 (nF bf0), aI G qwy 512 (nF wy0), aZ G qfo 81 (bF fo2_57)]
                  refine wc_iload_n X 307 2 dX11_does_307 rfl ?_
                  refine wc_aload_n X 308 0 dX11_does_308 rfl ?_
                  refine wc_get X 309 0 6 kd11 rfl (by decide) q_771 rfl dX11_does_309 ?_
                  refine wc_iconstN X 312 0 dX11_does_312 ?_
                  refine wc_ialdG X 313 1 rfl (by decide) (by decide) dX11_does_313 ?_
                  refine wc_icmp_geN X 314 369 dX11_does_314 (by decide) (by omega) (by omega) (fun c314_58 => ?_) (fun c314_58 => ?_)
                  ·
                    have hz5 : ¬ dA f < p 0 := by omega
                    refine wc_iconstN X 369 0 dX11_does_369 ?_
                    refine wc_st (st' := [.int (b2i false)]) rfl ?_
                    exact ret 370 _ false _ dX11_does_370 (⟨_, _, _, _, _, _, by rw [doK5 hk, show (decide (dA f < p 0) && decide (dB f < p 1) && decide (dC f = 0) && decide (dD f < 2) && (folB (gz p) (p 0) (p 2) (go p) (p 1) (p 3) (dA f) (4 + dB f) == decide (dD f = 1))) = false from by rw [decide_eq_false hz5]; simp], by rw [doK5 hk]⟩)
                  ·
                    have h50 : dA f < p 0 := c314_58
                    refine wc_iload_n X 317 3 dX11_does_317 rfl ?_
                    refine wc_aload_n X 318 0 dX11_does_318 rfl ?_
                    refine wc_get X 319 0 6 kd11 rfl (by decide) q_771 rfl dX11_does_319 ?_
                    refine wc_iconstN X 322 1 dX11_does_322 ?_
                    refine wc_ialdG X 323 1 rfl (by decide) (by decide) dX11_does_323 ?_
                    refine wc_icmp_geN X 324 369 dX11_does_324 (by decide) (by omega) (by omega) (fun c324_59 => ?_) (fun c324_59 => ?_)
                    ·
                      have hz5 : ¬ dB f < p 1 := by omega
                      refine wc_iconstN X 369 0 dX11_does_369 ?_
                      refine wc_st (st' := [.int (b2i false)]) rfl ?_
                      exact ret 370 _ false _ dX11_does_370 (⟨_, _, _, _, _, _, by rw [doK5 hk, show (decide (dA f < p 0) && decide (dB f < p 1) && decide (dC f = 0) && decide (dD f < 2) && (folB (gz p) (p 0) (p 2) (go p) (p 1) (p 3) (dA f) (4 + dB f) == decide (dD f = 1))) = false from by rw [decide_eq_false hz5]; simp], by rw [doK5 hk]⟩)
                    ·
                      have h51 : dB f < p 1 := c324_59
                      refine wc_iload X 327 4 dX11_does_327 rfl ?_
                      refine wc_if_neN X 329 369 dX11_does_329 (by decide) (by omega) (fun c329_60 => ?_) (fun c329_60 => ?_)
                      ·
                        refine wc_iconstN X 369 0 dX11_does_369 ?_
                        refine wc_st (st' := [.int (b2i false)]) rfl ?_
                        exact ret 370 _ false _ dX11_does_370 (⟨_, _, _, _, _, _, by rw [doK5 hk, show (decide (dA f < p 0) && decide (dB f < p 1) && decide (dC f = 0) && decide (dD f < 2) && (folB (gz p) (p 0) (p 2) (go p) (p 1) (p 3) (dA f) (4 + dB f) == decide (dD f = 1))) = false from by rw [decide_eq_false c329_60]; simp], by rw [doK5 hk]⟩)
                      ·
                        refine wc_iload X 332 5 dX11_does_332 rfl ?_
                        refine wc_iconstN X 334 2 dX11_does_334 ?_
                        refine wc_icmp_geN X 335 369 dX11_does_335 (by decide) (by omega) (by decide) (fun c335_61 => ?_) (fun c335_61 => ?_)
                        ·
                          have hd2 : ¬ dD f < 2 := by omega
                          refine wc_iconstN X 369 0 dX11_does_369 ?_
                          refine wc_st (st' := [.int (b2i false)]) rfl ?_
                          exact ret 370 _ false _ dX11_does_370 (⟨_, _, _, _, _, _, by rw [doK5 hk, show (decide (dA f < p 0) && decide (dB f < p 1) && decide (dC f = 0) && decide (dD f < 2) && (folB (gz p) (p 0) (p 2) (go p) (p 1) (p 3) (dA f) (4 + dB f) == decide (dD f = 1))) = false from by rw [decide_eq_false hd2]; simp], by rw [doK5 hk]⟩)
                        ·
                          refine wc_aload_n X 338 0 dX11_does_338 rfl ?_
                          refine wc_get X 339 0 20 kd11 rfl (by decide) q_785 rfl dX11_does_339 ?_
                          refine wc_bipush X 342 (nI 9) dX11_does_342 (by decide) ?_
                          refine wc_iload_n X 344 2 dX11_does_344 rfl ?_
                          refine wc_imulN X 345 dX11_does_345 ?_
                          refine wc_iconstN X 346 4 dX11_does_346 ?_
                          refine wc_iaddN X 347 dX11_does_347 ?_
                          refine wc_iload_n X 348 3 dX11_does_348 rfl ?_
                          refine wc_iaddN X 349 dX11_does_349 ?_
                          refine wc_zaldG X 350 6 rfl (by omega) (by decide) dX11_does_350 ?_
                          refine wc_topi (b2i (folB (gz p) (p 0) (p 2) (go p) (p 1) (p 3) (dA f) (4 + dB f))) (congrArg b2i (by rw [Nat.add_assoc]; exact hfo _ _ (by omega) (by omega))) ?_
                          refine wc_iload X 351 5 dX11_does_351 rfl ?_
                          refine wc_iconstN X 353 1 dX11_does_353 ?_
                          refine wc_icmp_neN X 354 361 dX11_does_354 (by decide) (by omega) (by decide) (fun c354_62 => ?_) (fun c354_62 => ?_)
                          ·
                            refine wc_iconstN X 361 0 dX11_does_361 ?_
                            refine wc_st (st' := [.int (b2i false), .int (b2i (folB (gz p) (p 0) (p 2) (go p) (p 1) (p 3) (dA f) (4 + dB f)))]) rfl ?_
                            refine wc_icmp_neB X 362 369 dX11_does_362 (by decide) (fun c362_63 => ?_) (fun c362_63 => ?_)
                            ·
                              refine wc_iconstN X 369 0 dX11_does_369 ?_
                              refine wc_st (st' := [.int (b2i false)]) rfl ?_
                              exact ret 370 _ false _ dX11_does_370 (⟨_, _, _, _, _, _, by rw [doK5 hk, show (decide (dA f < p 0) && decide (dB f < p 1) && decide (dC f = 0) && decide (dD f < 2) && (folB (gz p) (p 0) (p 2) (go p) (p 1) (p 3) (dA f) (4 + dB f) == decide (dD f = 1))) = false from by rw [decide_eq_true h50, decide_eq_true h51, decide_eq_true (show dC f = 0 by omega), decide_eq_true (show dD f < 2 by omega), show folB (gz p) (p 0) (p 2) (go p) (p 1) (p 3) (dA f) (4 + dB f) = _ from (show folB (gz p) (p 0) (p 2) (go p) (p 1) (p 3) (dA f) (4 + dB f) = true by simpa using c362_63), show decide (dD f = 1) = _ from decide_eq_false c354_62]; rfl], by rw [doK5 hk]⟩)
                            ·
                              refine wc_iconstN X 365 1 dX11_does_365 ?_
                              refine wc_goto X 366 370 dX11_does_366 (by decide) ?_
                              refine wc_st (st' := [.int (b2i true)]) rfl ?_
                              exact ret 370 _ true _ dX11_does_370 (⟨_, _, _, _, _, _, by rw [doK5 hk, show (decide (dA f < p 0) && decide (dB f < p 1) && decide (dC f = 0) && decide (dD f < 2) && (folB (gz p) (p 0) (p 2) (go p) (p 1) (p 3) (dA f) (4 + dB f) == decide (dD f = 1))) = true from by rw [decide_eq_true h50, decide_eq_true h51, decide_eq_true (show dC f = 0 by omega), decide_eq_true (show dD f < 2 by omega), show folB (gz p) (p 0) (p 2) (go p) (p 1) (p 3) (dA f) (4 + dB f) = _ from (show folB (gz p) (p 0) (p 2) (go p) (p 1) (p 3) (dA f) (4 + dB f) = false by simpa using c362_63), show decide (dD f = 1) = _ from decide_eq_false c354_62]; rfl], by rw [doK5 hk]⟩)
                          ·
                            refine wc_iconstN X 357 1 dX11_does_357 ?_
                            refine wc_goto X 358 362 dX11_does_358 (by decide) ?_
                            refine wc_st (st' := [.int (b2i true), .int (b2i (folB (gz p) (p 0) (p 2) (go p) (p 1) (p 3) (dA f) (4 + dB f)))]) rfl ?_
                            refine wc_icmp_neB X 362 369 dX11_does_362 (by decide) (fun c362_64 => ?_) (fun c362_64 => ?_)
                            ·
                              refine wc_iconstN X 369 0 dX11_does_369 ?_
                              refine wc_st (st' := [.int (b2i false)]) rfl ?_
                              exact ret 370 _ false _ dX11_does_370 (⟨_, _, _, _, _, _, by rw [doK5 hk, show (decide (dA f < p 0) && decide (dB f < p 1) && decide (dC f = 0) && decide (dD f < 2) && (folB (gz p) (p 0) (p 2) (go p) (p 1) (p 3) (dA f) (4 + dB f) == decide (dD f = 1))) = false from by rw [decide_eq_true h50, decide_eq_true h51, decide_eq_true (show dC f = 0 by omega), decide_eq_true (show dD f < 2 by omega), show folB (gz p) (p 0) (p 2) (go p) (p 1) (p 3) (dA f) (4 + dB f) = _ from (show folB (gz p) (p 0) (p 2) (go p) (p 1) (p 3) (dA f) (4 + dB f) = false by simpa using c362_64), show decide (dD f = 1) = _ from decide_eq_true c354_62]; rfl], by rw [doK5 hk]⟩)
                            ·
                              refine wc_iconstN X 365 1 dX11_does_365 ?_
                              refine wc_goto X 366 370 dX11_does_366 (by decide) ?_
                              refine wc_st (st' := [.int (b2i true)]) rfl ?_
                              exact ret 370 _ true _ dX11_does_370 (⟨_, _, _, _, _, _, by rw [doK5 hk, show (decide (dA f < p 0) && decide (dB f < p 1) && decide (dC f = 0) && decide (dD f < 2) && (folB (gz p) (p 0) (p 2) (go p) (p 1) (p 3) (dA f) (4 + dB f) == decide (dD f = 1))) = true from by rw [decide_eq_true h50, decide_eq_true h51, decide_eq_true (show dC f = 0 by omega), decide_eq_true (show dD f < 2 by omega), show folB (gz p) (p 0) (p 2) (go p) (p 1) (p 3) (dA f) (4 + dB f) = _ from (show folB (gz p) (p 0) (p 2) (go p) (p 1) (p 3) (dA f) (4 + dB f) = true by simpa using c362_64), show decide (dD f = 1) = _ from decide_eq_true c354_62]; rfl], by rw [doK5 hk]⟩)
                ·
                  have hsw1 : f / 10000 ≠ 1 := fun e => s72_34 (by rw [e])
                  have hsw2 : f / 10000 ≠ 2 := fun e => s72_37 (by rw [e])
                  have hsw3 : f / 10000 ≠ 3 := fun e => s72_40 (by rw [e])
                  have hsw4 : f / 10000 ≠ 4 := fun e => s72_44 (by rw [e])
                  have hsw5 : f / 10000 ≠ 5 := fun e => s72_55 (by rw [e])
                  refine wc_tsO X 72 371 dX11_does_72 (by rw [nI_toInt (by omega)]; omega) (by decide) ?_
                  refine wc_iconstN X 371 0 dX11_does_371 ?_
                  refine wc_st (st' := [.int (b2i false)]) rfl ?_
                  exact ret 372 _ false _ dX11_does_372 (⟨_, _, _, _, _, _, by rw [doK0 hsw1 hsw2 hsw3 hsw4 hsw5], by rw [doK0 hsw1 hsw2 hsw3 hsw4 hsw5]⟩)
      ·
        have hBs : dB f < p (dA f) := c57_33
        refine wc_iconstN X 60 1 dX11_does_60 ?_
        refine wc_goto X 61 65 dX11_does_61 (by decide) ?_
        refine wc_istore X 65 (L' := [(0, .ref o), (1, .int (nI f)), (2, .int (nI (dA f))), (3, .int (nI (dB f))), (4, .int (nI (dC f))), (5, .int (nI (dD f))), (6, .int (nI (dA f))), (7, .int (nI 1))]) dX11_does_65 (by decide) rfl ?_
        refine wc_iload_n X 67 1 dX11_does_67 rfl ?_
        refine wc_sipush X 68 (nI 10000) dX11_does_68 (by decide) ?_
        refine wc_idivN X 71 dX11_does_71 (by omega) (by decide) (by decide) ?_
        by_cases s72_65 : nI (f / 10000) = nI 1
        ·
          refine wc_tsI X 72 108 0 (nI 1) (off := 36) dX11_does_72 s72_65 (by decide) (by decide) (by decide) (by decide) ?_
          have hk : f / 10000 = 1 := (nI_eq (by omega) (by decide)).mp s72_65
          refine wc_iload X 108 7 dX11_does_108 rfl ?_
          refine wc_if_eqN X 110 142 dX11_does_110 (by decide) (by decide) (fun c110_66 => ?_) (fun c110_66 => ?_)
          ·
            exact absurd c110_66 (by decide)
          ·
            refine wc_iload X 113 4 dX11_does_113 rfl ?_
            refine wc_i2l X 115 dX11_does_115 ?_
            refine wc_lconst X 116 1 dX11_does_116 (by decide) ?_
            refine wc_ldc2 X 117 149 (2) q_945 dX11_does_117 ?_
            refine wc_callS X 120 [] (c_X11_in l G ((nI (dC f)).toInt64) 1 2 ) ys_X11_in rfl q_870 ⟨rfl, rfl⟩ ⟨rfl, rfl⟩ ⟨rfl, rfl⟩ rfl rfl rfl dX11_does_120 ?_
            refine wc_topi (b2i (decide (1 ≤ dC f ∧ dC f ≤ 2))) (congrArg b2i (by rw [inL_12]; exact lt_B _ hCc)) ?_
            refine wc_if_eqB X 123 142 dX11_does_123 (by decide) (fun c123_67 => ?_) (fun c123_67 => ?_)
            ·
              refine wc_iconstN X 142 0 dX11_does_142 ?_
              refine wc_istore X 143 (L' := [(0, .ref o), (1, .int (nI f)), (2, .int (nI (dA f))), (3, .int (nI (dB f))), (4, .int (nI (dC f))), (5, .int (nI (dD f))), (6, .int (nI (dA f))), (7, .int (nI 1)), (8, .int (nI 0))]) dX11_does_143 (by decide) rfl ?_
              refine wc_iload X 145 8 dX11_does_145 rfl ?_
              refine wc_if_eqN X 147 170 dX11_does_147 (by decide) (by decide) (fun c147_68 => ?_) (fun c147_68 => ?_)
              ·
                refine wc_iload X 170 8 dX11_does_170 rfl ?_
                refine wc_st (st' := [.int (b2i false)]) rfl ?_
                exact ret 172 _ false _ dX11_does_172 (⟨_, _, _, _, _, _, by rw [doK1 hk, show edB p (dA f) (dB f) (dC f) (dD f) = false from decide_eq_false (fun z => of_decide_eq_false c123_67 ⟨z.2.2.1, z.2.2.2.1⟩)], by rw [doK1 hk, show edB p (dA f) (dB f) (dC f) (dD f) = false from decide_eq_false (fun z => of_decide_eq_false c123_67 ⟨z.2.2.1, z.2.2.2.1⟩)]; rfl⟩)
              ·
                exact absurd c147_68 (by decide)
            ·
              have hc12 := of_decide_eq_true c123_67
              refine wc_iload X 126 5 dX11_does_126 rfl ?_
              refine wc_aload_n X 128 0 dX11_does_128 rfl ?_
              refine wc_get X 129 0 6 kd11 rfl (by decide) q_771 rfl dX11_does_129 ?_
              refine wc_iload X 132 6 dX11_does_132 rfl ?_
              refine wc_ialdG X 134 1 rfl (by omega) (by decide) dX11_does_134 ?_
              refine wc_icmp_geN X 135 142 dX11_does_135 (by decide) (by omega) (Nat.lt_trans (hr.2.2.2.2.1 _) (by decide)) (fun c135_69 => ?_) (fun c135_69 => ?_)
              ·
                refine wc_iconstN X 142 0 dX11_does_142 ?_
                refine wc_istore X 143 (L' := [(0, .ref o), (1, .int (nI f)), (2, .int (nI (dA f))), (3, .int (nI (dB f))), (4, .int (nI (dC f))), (5, .int (nI (dD f))), (6, .int (nI (dA f))), (7, .int (nI 1)), (8, .int (nI 0))]) dX11_does_143 (by decide) rfl ?_
                refine wc_iload X 145 8 dX11_does_145 rfl ?_
                refine wc_if_eqN X 147 170 dX11_does_147 (by decide) (by decide) (fun c147_70 => ?_) (fun c147_70 => ?_)
                ·
                  refine wc_iload X 170 8 dX11_does_170 rfl ?_
                  refine wc_st (st' := [.int (b2i false)]) rfl ?_
                  exact ret 172 _ false _ dX11_does_172 (⟨_, _, _, _, _, _, by rw [doK1 hk, show edB p (dA f) (dB f) (dC f) (dD f) = false from decide_eq_false (fun z => absurd z.2.2.2.2 (by omega))], by rw [doK1 hk, show edB p (dA f) (dB f) (dC f) (dD f) = false from decide_eq_false (fun z => absurd z.2.2.2.2 (by omega))]; rfl⟩)
                ·
                  exact absurd c147_70 (by decide)
              ·
                have hdj : dD f < p (dA f) := c135_69
                refine wc_iconstN X 138 1 dX11_does_138 ?_
                refine wc_goto X 139 143 dX11_does_139 (by decide) ?_
                refine wc_istore X 143 (L' := [(0, .ref o), (1, .int (nI f)), (2, .int (nI (dA f))), (3, .int (nI (dB f))), (4, .int (nI (dC f))), (5, .int (nI (dD f))), (6, .int (nI (dA f))), (7, .int (nI 1)), (8, .int (nI 1))]) dX11_does_143 (by decide) rfl ?_
                refine wc_iload X 145 8 dX11_does_145 rfl ?_
                refine wc_if_eqN X 147 170 dX11_does_147 (by decide) (by decide) (fun c147_71 => ?_) (fun c147_71 => ?_)
                ·
                  exact absurd c147_71 (by decide)
                ·
                  refine wc_aload_n X 150 0 dX11_does_150 rfl ?_
                  refine wc_get X 151 0 6 kd11 rfl (by decide) q_771 rfl dX11_does_151 ?_
                  refine wc_iload X 154 6 dX11_does_154 rfl ?_
                  refine wc_iload_n X 156 3 dX11_does_156 rfl ?_
                  refine wc_iload X 157 4 dX11_does_157 rfl ?_
                  refine wc_callS X 159 [] (c_X11_at l G (dA f) (dB f) (dC f) hA2 (by omega) hc12.1 hc12.2) ys_X11_at rfl q_896 ⟨rfl, rfl⟩ ⟨rfl, rfl⟩ ⟨rfl, rfl⟩ rfl rfl rfl dX11_does_159 ?_
                  refine wc_dup2 X 162 dX11_does_162 rfl rfl ?_
                  refine wc_ialdG X 163 1 rfl (atN_lt (by omega) hc12.2) (by decide) dX11_does_163 ?_
                  refine wc_iconstN X 164 1 dX11_does_164 ?_
                  refine wc_iload X 165 5 dX11_does_165 rfl ?_
                  refine wc_shl1 X 167 dX11_does_167 (by omega) ?_
                  refine wc_ixorN X 168 dX11_does_168 ?_
                  refine wc_iastG X Y 169 1 rfl (atN_lt (by omega) hc12.2) (by decide) (ws' := [ob o 11 [.int th, .ref qtx, .int (nI ts), .int (nI pl), .ref qrp, .ref qpg, .ref qtr, .ref qbk, .int (nI dn), .ref qkp, .ref qik, .int (nI sn), .ref qsw, .ref qsi, .long sd, .ref qln, .ref qfm, .ref qby, .ref qwy, .int (nI wz), .ref qfo, .ref qon, .ref qmn, .ref qpr, .ref qle, .ref qst, .ref qwt, .int (nI rc), .int (nI tk), .int (nI ps), .int (nI gn), .int bd, .ref qwo], aI G qtr 22 (nF (up p (atN (dA f) (dB f) (dC f)) ((p (atN (dA f) (dB f) (dC f))) ^^^ (2 ^ (dD f))))), aI G qln 512 (nF ln0), aI G qfm 512 fm0, aI G qby 512 (nF bf0), aI G qwy 512 (nF wy0), aZ G qfo 81 (bF fo)]) rfl dX11_does_169 ?_
                  refine wc_ws (ws' := [ob o 11 [.int th, .ref qtx, .int (nI ts), .int (nI pl), .ref qrp, .ref qpg, .ref qtr, .ref qbk, .int (nI dn), .ref qkp, .ref qik, .int (nI sn), .ref qsw, .ref qsi, .long sd, .ref qln, .ref qfm, .ref qby, .ref qwy, .int (nI wz), .ref qfo, .ref qon, .ref qmn, .ref qpr, .ref qle, .ref qst, .ref qwt, .int (nI rc), .int (nI tk), .int (nI ps), .int (nI gn), .int bd, .ref qwo], aI G qtr 22 (nF (flE p (dA f) (dB f) (dC f) (dD f))), aI G qln 512 (nF ln0), aI G qfm 512 fm0, aI G qby 512 (nF bf0), aI G qwy 512 (nF wy0), aZ G qfo 81 (bF fo)]) (rfl) ?_
                  refine wc_iload X 170 8 dX11_does_170 rfl ?_
                  refine wc_st (st' := [.int (b2i true)]) rfl ?_
                  exact ret 172 _ true _ dX11_does_172 (⟨_, _, _, _, _, _, by rw [doK1 hk, show edB p (dA f) (dB f) (dC f) (dD f) = true from decide_eq_true ⟨hA2, hBs, hc12.1, hc12.2, hdj⟩], by rw [doK1 hk, show edB p (dA f) (dB f) (dC f) (dD f) = true from decide_eq_true ⟨hA2, hBs, hc12.1, hc12.2, hdj⟩]; rfl⟩)
        ·
          by_cases s72_72 : nI (f / 10000) = nI 2
          ·
            refine wc_tsI X 72 173 1 (nI 2) (off := 101) dX11_does_72 s72_72 (by decide) (by decide) (by decide) (by decide) ?_
            have hk : f / 10000 = 2 := (nI_eq (by omega) (by decide)).mp s72_72
            refine wc_iload X 173 7 dX11_does_173 rfl ?_
            refine wc_if_eqN X 175 192 dX11_does_175 (by decide) (by decide) (fun c175_73 => ?_) (fun c175_73 => ?_)
            ·
              exact absurd c175_73 (by decide)
            ·
              refine wc_iload X 178 4 dX11_does_178 rfl ?_
              refine wc_if_neN X 180 192 dX11_does_180 (by decide) (by omega) (fun c180_74 => ?_) (fun c180_74 => ?_)
              ·
                refine wc_iconstN X 192 0 dX11_does_192 ?_
                refine wc_istore X 193 (L' := [(0, .ref o), (1, .int (nI f)), (2, .int (nI (dA f))), (3, .int (nI (dB f))), (4, .int (nI (dC f))), (5, .int (nI (dD f))), (6, .int (nI (dA f))), (7, .int (nI 1)), (9, .int (nI 0))]) dX11_does_193 (by decide) rfl ?_
                refine wc_aload_n X 195 0 dX11_does_195 rfl ?_
                refine wc_get X 196 0 6 kd11 rfl (by decide) q_771 rfl dX11_does_196 ?_
                refine wc_iconstN X 199 2 dX11_does_199 ?_
                refine wc_iload X 200 6 dX11_does_200 rfl ?_
                refine wc_iaddN X 202 dX11_does_202 ?_
                refine wc_dup2 X 203 dX11_does_203 rfl rfl ?_
                refine wc_ialdG X 204 1 rfl (by omega) (by decide) dX11_does_204 ?_
                refine wc_iload X 205 8 dX11_does_205 rfl ?_
                refine wc_if_eqN X 207 216 dX11_does_207 (by decide) (by decide) (fun c207_75 => ?_) (fun c207_75 => ?_)
                ·
                  refine wc_iconstN X 216 0 dX11_does_216 ?_
                  refine wc_ixorN X 217 dX11_does_217 ?_
                  refine wc_iastG X Y 218 1 rfl (by omega) (by decide) (ws' := [ob o 11 [.int th, .ref qtx, .int (nI ts), .int (nI pl), .ref qrp, .ref qpg, .ref qtr, .ref qbk, .int (nI dn), .ref qkp, .ref qik, .int (nI sn), .ref qsw, .ref qsi, .long sd, .ref qln, .ref qfm, .ref qby, .ref qwy, .int (nI wz), .ref qfo, .ref qon, .ref qmn, .ref qpr, .ref qle, .ref qst, .ref qwt, .int (nI rc), .int (nI tk), .int (nI ps), .int (nI gn), .int bd, .ref qwo], aI G qtr 22 (nF (up p (2 + (dA f)) ((p (2 + (dA f))) ^^^ 0))), aI G qln 512 (nF ln0), aI G qfm 512 fm0, aI G qby 512 (nF bf0), aI G qwy 512 (nF wy0), aZ G qfo 81 (bF fo)]) rfl dX11_does_218 ?_
                  refine wc_ws (ws' := [ob o 11 [.int th, .ref qtx, .int (nI ts), .int (nI pl), .ref qrp, .ref qpg, .ref qtr, .ref qbk, .int (nI dn), .ref qkp, .ref qik, .int (nI sn), .ref qsw, .ref qsi, .long sd, .ref qln, .ref qfm, .ref qby, .ref qwy, .int (nI wz), .ref qfo, .ref qon, .ref qmn, .ref qpr, .ref qle, .ref qst, .ref qwt, .int (nI rc), .int (nI tk), .int (nI ps), .int (nI gn), .int bd, .ref qwo], aI G qtr 22 (nF p), aI G qln 512 (nF ln0), aI G qfm 512 fm0, aI G qby 512 (nF bf0), aI G qwy 512 (nF wy0), aZ G qfo 81 (bF fo)]) (by rw [up_x0]) ?_
                  refine wc_iload X 219 8 dX11_does_219 rfl ?_
                  refine wc_st (st' := [.int (b2i false)]) rfl ?_
                  exact ret 221 _ false _ dX11_does_221 (⟨_, _, _, _, _, _, by rw [doK2 hk, show (decide (dC f = 0) && decide (dD f = 0) && enB p (dA f) (dB f)) = false from by rw [decide_eq_false c180_74]; simp], by rw [doK2 hk, show (decide (dC f = 0) && decide (dD f = 0) && enB p (dA f) (dB f)) = false from by rw [decide_eq_false c180_74]; simp]; rfl⟩)
                ·
                  exact absurd c207_75 (by decide)
              ·
                refine wc_iload X 183 5 dX11_does_183 rfl ?_
                refine wc_if_neN X 185 192 dX11_does_185 (by decide) (by omega) (fun c185_76 => ?_) (fun c185_76 => ?_)
                ·
                  refine wc_iconstN X 192 0 dX11_does_192 ?_
                  refine wc_istore X 193 (L' := [(0, .ref o), (1, .int (nI f)), (2, .int (nI (dA f))), (3, .int (nI (dB f))), (4, .int (nI (dC f))), (5, .int (nI (dD f))), (6, .int (nI (dA f))), (7, .int (nI 1)), (9, .int (nI 0))]) dX11_does_193 (by decide) rfl ?_
                  refine wc_aload_n X 195 0 dX11_does_195 rfl ?_
                  refine wc_get X 196 0 6 kd11 rfl (by decide) q_771 rfl dX11_does_196 ?_
                  refine wc_iconstN X 199 2 dX11_does_199 ?_
                  refine wc_iload X 200 6 dX11_does_200 rfl ?_
                  refine wc_iaddN X 202 dX11_does_202 ?_
                  refine wc_dup2 X 203 dX11_does_203 rfl rfl ?_
                  refine wc_ialdG X 204 1 rfl (by omega) (by decide) dX11_does_204 ?_
                  refine wc_iload X 205 8 dX11_does_205 rfl ?_
                  refine wc_if_eqN X 207 216 dX11_does_207 (by decide) (by decide) (fun c207_77 => ?_) (fun c207_77 => ?_)
                  ·
                    refine wc_iconstN X 216 0 dX11_does_216 ?_
                    refine wc_ixorN X 217 dX11_does_217 ?_
                    refine wc_iastG X Y 218 1 rfl (by omega) (by decide) (ws' := [ob o 11 [.int th, .ref qtx, .int (nI ts), .int (nI pl), .ref qrp, .ref qpg, .ref qtr, .ref qbk, .int (nI dn), .ref qkp, .ref qik, .int (nI sn), .ref qsw, .ref qsi, .long sd, .ref qln, .ref qfm, .ref qby, .ref qwy, .int (nI wz), .ref qfo, .ref qon, .ref qmn, .ref qpr, .ref qle, .ref qst, .ref qwt, .int (nI rc), .int (nI tk), .int (nI ps), .int (nI gn), .int bd, .ref qwo], aI G qtr 22 (nF (up p (2 + (dA f)) ((p (2 + (dA f))) ^^^ 0))), aI G qln 512 (nF ln0), aI G qfm 512 fm0, aI G qby 512 (nF bf0), aI G qwy 512 (nF wy0), aZ G qfo 81 (bF fo)]) rfl dX11_does_218 ?_
                    refine wc_ws (ws' := [ob o 11 [.int th, .ref qtx, .int (nI ts), .int (nI pl), .ref qrp, .ref qpg, .ref qtr, .ref qbk, .int (nI dn), .ref qkp, .ref qik, .int (nI sn), .ref qsw, .ref qsi, .long sd, .ref qln, .ref qfm, .ref qby, .ref qwy, .int (nI wz), .ref qfo, .ref qon, .ref qmn, .ref qpr, .ref qle, .ref qst, .ref qwt, .int (nI rc), .int (nI tk), .int (nI ps), .int (nI gn), .int bd, .ref qwo], aI G qtr 22 (nF p), aI G qln 512 (nF ln0), aI G qfm 512 fm0, aI G qby 512 (nF bf0), aI G qwy 512 (nF wy0), aZ G qfo 81 (bF fo)]) (by rw [up_x0]) ?_
                    refine wc_iload X 219 8 dX11_does_219 rfl ?_
                    refine wc_st (st' := [.int (b2i false)]) rfl ?_
                    exact ret 221 _ false _ dX11_does_221 (⟨_, _, _, _, _, _, by rw [doK2 hk, show (decide (dC f = 0) && decide (dD f = 0) && enB p (dA f) (dB f)) = false from by rw [decide_eq_false c185_76]; simp], by rw [doK2 hk, show (decide (dC f = 0) && decide (dD f = 0) && enB p (dA f) (dB f)) = false from by rw [decide_eq_false c185_76]; simp]; rfl⟩)
                  ·
                    exact absurd c207_77 (by decide)
                ·
                  refine wc_iconstN X 188 1 dX11_does_188 ?_
                  refine wc_goto X 189 193 dX11_does_189 (by decide) ?_
                  refine wc_istore X 193 (L' := [(0, .ref o), (1, .int (nI f)), (2, .int (nI (dA f))), (3, .int (nI (dB f))), (4, .int (nI (dC f))), (5, .int (nI (dD f))), (6, .int (nI (dA f))), (7, .int (nI 1)), (9, .int (nI 1))]) dX11_does_193 (by decide) rfl ?_
                  refine wc_aload_n X 195 0 dX11_does_195 rfl ?_
                  refine wc_get X 196 0 6 kd11 rfl (by decide) q_771 rfl dX11_does_196 ?_
                  refine wc_iconstN X 199 2 dX11_does_199 ?_
                  refine wc_iload X 200 6 dX11_does_200 rfl ?_
                  refine wc_iaddN X 202 dX11_does_202 ?_
                  refine wc_dup2 X 203 dX11_does_203 rfl rfl ?_
                  refine wc_ialdG X 204 1 rfl (by omega) (by decide) dX11_does_204 ?_
                  refine wc_iload X 205 8 dX11_does_205 rfl ?_
                  refine wc_if_eqN X 207 216 dX11_does_207 (by decide) (by decide) (fun c207_78 => ?_) (fun c207_78 => ?_)
                  ·
                    exact absurd c207_78 (by decide)
                  ·
                    refine wc_iconstN X 210 1 dX11_does_210 ?_
                    refine wc_iload_n X 211 3 dX11_does_211 rfl ?_
                    refine wc_shl1 X 212 dX11_does_212 (by omega) ?_
                    refine wc_goto X 213 217 dX11_does_213 (by decide) ?_
                    refine wc_ixorN X 217 dX11_does_217 ?_
                    refine wc_iastG X Y 218 1 rfl (by omega) (by decide) (ws' := [ob o 11 [.int th, .ref qtx, .int (nI ts), .int (nI pl), .ref qrp, .ref qpg, .ref qtr, .ref qbk, .int (nI dn), .ref qkp, .ref qik, .int (nI sn), .ref qsw, .ref qsi, .long sd, .ref qln, .ref qfm, .ref qby, .ref qwy, .int (nI wz), .ref qfo, .ref qon, .ref qmn, .ref qpr, .ref qle, .ref qst, .ref qwt, .int (nI rc), .int (nI tk), .int (nI ps), .int (nI gn), .int bd, .ref qwo], aI G qtr 22 (nF (up p (2 + (dA f)) ((p (2 + (dA f))) ^^^ (2 ^ (dB f))))), aI G qln 512 (nF ln0), aI G qfm 512 fm0, aI G qby 512 (nF bf0), aI G qwy 512 (nF wy0), aZ G qfo 81 (bF fo)]) rfl dX11_does_218 ?_
                    refine wc_ws (ws' := [ob o 11 [.int th, .ref qtx, .int (nI ts), .int (nI pl), .ref qrp, .ref qpg, .ref qtr, .ref qbk, .int (nI dn), .ref qkp, .ref qik, .int (nI sn), .ref qsw, .ref qsi, .long sd, .ref qln, .ref qfm, .ref qby, .ref qwy, .int (nI wz), .ref qfo, .ref qon, .ref qmn, .ref qpr, .ref qle, .ref qst, .ref qwt, .int (nI rc), .int (nI tk), .int (nI ps), .int (nI gn), .int bd, .ref qwo], aI G qtr 22 (nF (flN p (dA f) (dB f))), aI G qln 512 (nF ln0), aI G qfm 512 fm0, aI G qby 512 (nF bf0), aI G qwy 512 (nF wy0), aZ G qfo 81 (bF fo)]) (rfl) ?_
                    refine wc_iload X 219 8 dX11_does_219 rfl ?_
                    refine wc_st (st' := [.int (b2i true)]) rfl ?_
                    exact ret 221 _ true _ dX11_does_221 (⟨_, _, _, _, _, _, by rw [doK2 hk, show (decide (dC f = 0) && decide (dD f = 0) && enB p (dA f) (dB f)) = true from by rw [decide_eq_true (show dC f = 0 by omega), decide_eq_true (show dD f = 0 by omega), show enB p (dA f) (dB f) = true from decide_eq_true ⟨hA2, hBs⟩]; rfl], by rw [doK2 hk, show (decide (dC f = 0) && decide (dD f = 0) && enB p (dA f) (dB f)) = true from by rw [decide_eq_true (show dC f = 0 by omega), decide_eq_true (show dD f = 0 by omega), show enB p (dA f) (dB f) = true from decide_eq_true ⟨hA2, hBs⟩]; rfl]; rfl⟩)
          ·
            by_cases s72_79 : nI (f / 10000) = nI 3
            ·
              refine wc_tsI X 72 222 2 (nI 3) (off := 150) dX11_does_72 s72_79 (by decide) (by decide) (by decide) (by decide) ?_
              have hk : f / 10000 = 3 := (nI_eq (by omega) (by decide)).mp s72_79
              refine wc_iload_n X 222 2 dX11_does_222 rfl ?_
              refine wc_iconstN X 223 2 dX11_does_223 ?_
              refine wc_icmp_geN X 224 260 dX11_does_224 (by decide) (by omega) (by decide) (fun c224_80 => ?_) (fun c224_80 => ?_)
              ·
                exact absurd c224_80 (by omega)
              ·
                refine wc_iload_n X 227 1 dX11_does_227 rfl ?_
                refine wc_sipush X 228 (nI 1000) dX11_does_228 (by decide) ?_
                refine wc_iremN X 231 dX11_does_231 (by omega) (by decide) (by decide) ?_
                refine wc_callS X 232 [] (c_X11_isWordN l G (f % 1000) (by omega)) ys_X11_isWord rfl q_966 ⟨rfl, rfl⟩ ⟨rfl, rfl⟩ ⟨rfl, rfl⟩ rfl rfl rfl dX11_does_232 ?_
                refine wc_if_eqB X 235 260 dX11_does_235 (by decide) (fun c235_81 => ?_) (fun c235_81 => ?_)
                ·
                  refine wc_iconstN X 260 0 dX11_does_260 ?_
                  refine wc_st (st' := [.int (b2i false)]) rfl ?_
                  exact ret 261 _ false _ dX11_does_261 (⟨_, _, _, _, _, _, by rw [doK3 hk, show (decide (dA f < 2) && wordOk (f % 1000) && (walkD (mG p (dA f)) (p (dA f)) (f % 1000) 1 9 &&& p (2 + dA f) != 0)) = false from by rw [show wordOk (f % 1000) = false from c235_81]; simp], by rw [doK3 hk]⟩)
                ·
                  have hw9 := c235_81
                  have hw10 : f % 1000 < 1000000000 := by omega
                  refine wc_aload_n X 238 0 dX11_does_238 rfl ?_
                  refine wc_get X 239 0 6 kd11 rfl (by decide) q_771 rfl dX11_does_239 ?_
                  refine wc_iload X 242 6 dX11_does_242 rfl ?_
                  refine wc_iconstN X 244 1 dX11_does_244 ?_
                  refine wc_iload_n X 245 1 dX11_does_245 rfl ?_
                  refine wc_sipush X 246 (nI 1000) dX11_does_246 (by decide) ?_
                  refine wc_iremN X 249 dX11_does_249 (by omega) (by decide) (by decide) ?_
                  refine wc_callS X 250 [1] (c_X11_takesFrom l G qtr p (dA f) 1 (f % 1000) hr.2.1 hr.2.2.2.1 hr.2.2.2.2.1 hA2 (by decide) hw10 (fun k hk => word_dig hw9 hk)) ys_X11_takesFrom rfl q_970 ⟨rfl, rfl⟩ ⟨rfl, rfl⟩ ⟨rfl, rfl⟩ rfl rfl rfl dX11_does_250 ?_
                  refine wc_if_eqB X 253 260 dX11_does_253 (by decide) (fun c253_82 => ?_) (fun c253_82 => ?_)
                  ·
                    refine wc_iconstN X 260 0 dX11_does_260 ?_
                    refine wc_st (st' := [.int (b2i false)]) rfl ?_
                    exact ret 261 _ false _ dX11_does_261 (⟨_, _, _, _, _, _, by rw [doK3 hk, show (decide (dA f < 2) && wordOk (f % 1000) && (walkD (mG p (dA f)) (p (dA f)) (f % 1000) 1 9 &&& p (2 + dA f) != 0)) = false from by rw [decide_eq_true hA2, show wordOk (f % 1000) = true from hw9, show (walkD (mG p (dA f)) (p (dA f)) (f % 1000) 1 9 &&& p (2 + dA f) != 0) = false from (by rw [← walkD_eq hw9]; exact c253_82)] <;> rfl], by rw [doK3 hk]⟩)
                  ·
                    refine wc_iconstN X 256 1 dX11_does_256 ?_
                    refine wc_goto X 257 261 dX11_does_257 (by decide) ?_
                    refine wc_st (st' := [.int (b2i true)]) rfl ?_
                    exact ret 261 _ true _ dX11_does_261 (⟨_, _, _, _, _, _, by rw [doK3 hk, show (decide (dA f < 2) && wordOk (f % 1000) && (walkD (mG p (dA f)) (p (dA f)) (f % 1000) 1 9 &&& p (2 + dA f) != 0)) = true from by rw [decide_eq_true hA2, show wordOk (f % 1000) = true from hw9, show (walkD (mG p (dA f)) (p (dA f)) (f % 1000) 1 9 &&& p (2 + dA f) != 0) = true from (by rw [← walkD_eq hw9]; exact c253_82)] <;> rfl], by rw [doK3 hk]⟩)
            ·
              by_cases s72_83 : nI (f / 10000) = nI 4
              ·
                refine wc_tsI X 72 262 3 (nI 4) (off := 190) dX11_does_72 s72_83 (by decide) (by decide) (by decide) (by decide) ?_
                have hk : f / 10000 = 4 := (nI_eq (by omega) (by decide)).mp s72_83
                refine wc_iload_n X 262 1 dX11_does_262 rfl ?_
                refine wc_sipush X 263 (nI 10000) dX11_does_263 (by decide) ?_
                refine wc_iremN X 266 dX11_does_266 (by omega) (by decide) (by decide) ?_
                refine wc_iconstN X 267 2 dX11_does_267 ?_
                refine wc_icmp_geN X 268 297 dX11_does_268 (by decide) (by omega) (by decide) (fun c268_84 => ?_) (fun c268_84 => ?_)
                ·
                  refine wc_iconstN X 297 0 dX11_does_297 ?_
                  refine wc_st (st' := [.int (b2i false)]) rfl ?_
                  exact ret 298 _ false _ dX11_does_298 (⟨_, _, _, _, _, _, by rw [doK4 hk, show (decide (f % 10000 < 2) && (withP p == decide (dD f = 1))) = false from by rw [decide_eq_false (show ¬ f % 10000 < 2 by omega)]; rfl], by rw [doK4 hk]⟩)
                ·
                  refine wc_aload_n X 271 0 dX11_does_271 rfl ?_
                  refine wc_aload_n X 272 0 dX11_does_272 rfl ?_
                  refine wc_get X 273 0 6 kd11 rfl (by decide) q_771 rfl dX11_does_273 ?_
                  refine wc_mutV X Y 276 [0, 1, 2, 3, 4, 5] [6] 0 (c_X11_isWithin l G o th qtx ts pl qrp qpg qtr qbk dn qkp qik sn qsw qsi sd qln qfm qby qwy wz qfo qon qmn qpr qle qst qwt rc tk ps gn bd qwo qtr p ln0 fm0 bf0 wy0 (by first | assumption | omega)) yv_X11_isWithin kd11 rfl rfl (wr := [aZ G qfo 81 (bF fo)]) rfl ⟨rfl, rfl, rfl⟩ q_1005 ⟨rfl, rfl⟩ ⟨rfl, rfl⟩ ⟨rfl, rfl⟩ rfl rfl rfl dX11_does_276 (fun v w hp_85 => ?_)
                  obtain ⟨wz2_86, ln2_87, fm2_88, bf2_89, wy2_90, rfl, rfl⟩ := hp_85
                  refine wc_perm Y [1, 2, 3, 4, 5, 6, 0] [ob o 11 [.int th, .ref qtx, .int (nI ts), .int (nI pl), .ref qrp, .ref qpg, .ref qtr, .ref qbk, .int (nI dn), .ref qkp, .ref qik, .int (nI sn), .ref qsw, .ref qsi, .long sd, .ref qln, .ref qfm, .ref qby, .ref qwy, .int (nI wz2_86), .ref qfo, .ref qon, .ref qmn, .ref qpr, .ref qle, .ref qst, .ref qwt, .int (nI rc), .int (nI tk), .int (nI ps), .int (nI gn), .int bd, .ref qwo], aI G qtr 22 (nF p), aI G qln 512 (nF ln2_87), aI G qfm 512 fm2_88, aI G qby 512 (nF bf2_89), aI G qwy 512 (nF wy2_90), aZ G qfo 81 (bF fo)] rfl rfl ?_
                  show Wc Γ 0 0 279 [(0, .ref o), (1, .int (nI f)), (2, .int (nI (dA f))), (3, .int (nI (dB f))), (4, .int (nI (dC f))), (5, .int (nI (dD f))), (6, .int (nI (dA f))), (7, .int (nI 1))] [.int (b2i (withB (gz p) (p 0) (p 2) (go p) (p 1) (p 3)))] [ob o 11 [.int th, .ref qtx, .int (nI ts), .int (nI pl), .ref qrp, .ref qpg, .ref qtr, .ref qbk, .int (nI dn), .ref qkp, .ref qik, .int (nI sn), .ref qsw, .ref qsi, .long sd, .ref qln, .ref qfm, .ref qby, .ref qwy, .int (nI wz2_86), .ref qfo, .ref qon, .ref qmn, .ref qpr, .ref qle, .ref qst, .ref qwt, .int (nI rc), .int (nI tk), .int (nI ps), .int (nI gn), .int bd, .ref qwo], aI G qtr 22 (nF p), aI G qln 512 (nF ln2_87), aI G qfm 512 fm2_88, aI G qby 512 (nF bf2_89), aI G qwy 512 (nF wy2_90), aZ G qfo 81 (bF fo)]
                  refine wc_topi (b2i (withP p)) (rfl) ?_
                  refine wc_iload X 279 5 dX11_does_279 rfl ?_
                  refine wc_iconstN X 281 1 dX11_does_281 ?_
                  refine wc_icmp_neN X 282 289 dX11_does_282 (by decide) (by omega) (by decide) (fun c282_91 => ?_) (fun c282_91 => ?_)
                  ·
                    refine wc_iconstN X 289 0 dX11_does_289 ?_
                    refine wc_st (st' := [.int (b2i false), .int (b2i (withP p))]) rfl ?_
                    refine wc_icmp_neB X 290 297 dX11_does_290 (by decide) (fun c290_92 => ?_) (fun c290_92 => ?_)
                    ·
                      refine wc_iconstN X 297 0 dX11_does_297 ?_
                      refine wc_st (st' := [.int (b2i false)]) rfl ?_
                      exact ret 298 _ false _ dX11_does_298 (⟨_, _, _, _, _, _, by rw [doK4 hk, show (decide (f % 10000 < 2) && (withP p == decide (dD f = 1))) = false from by rw [decide_eq_true (show f % 10000 < 2 by omega), show withP p = _ from (show withP p = true by simpa using c290_92), show decide (dD f = 1) = _ from decide_eq_false c282_91]; rfl], by rw [doK4 hk]⟩)
                    ·
                      refine wc_iconstN X 293 1 dX11_does_293 ?_
                      refine wc_goto X 294 298 dX11_does_294 (by decide) ?_
                      refine wc_st (st' := [.int (b2i true)]) rfl ?_
                      exact ret 298 _ true _ dX11_does_298 (⟨_, _, _, _, _, _, by rw [doK4 hk, show (decide (f % 10000 < 2) && (withP p == decide (dD f = 1))) = true from by rw [decide_eq_true (show f % 10000 < 2 by omega), show withP p = _ from (show withP p = false by simpa using c290_92), show decide (dD f = 1) = _ from decide_eq_false c282_91]; rfl], by rw [doK4 hk]⟩)
                  ·
                    refine wc_iconstN X 285 1 dX11_does_285 ?_
                    refine wc_goto X 286 290 dX11_does_286 (by decide) ?_
                    refine wc_st (st' := [.int (b2i true), .int (b2i (withP p))]) rfl ?_
                    refine wc_icmp_neB X 290 297 dX11_does_290 (by decide) (fun c290_93 => ?_) (fun c290_93 => ?_)
                    ·
                      refine wc_iconstN X 297 0 dX11_does_297 ?_
                      refine wc_st (st' := [.int (b2i false)]) rfl ?_
                      exact ret 298 _ false _ dX11_does_298 (⟨_, _, _, _, _, _, by rw [doK4 hk, show (decide (f % 10000 < 2) && (withP p == decide (dD f = 1))) = false from by rw [decide_eq_true (show f % 10000 < 2 by omega), show withP p = _ from (show withP p = false by simpa using c290_93), show decide (dD f = 1) = _ from decide_eq_true c282_91]; rfl], by rw [doK4 hk]⟩)
                    ·
                      refine wc_iconstN X 293 1 dX11_does_293 ?_
                      refine wc_goto X 294 298 dX11_does_294 (by decide) ?_
                      refine wc_st (st' := [.int (b2i true)]) rfl ?_
                      exact ret 298 _ true _ dX11_does_298 (⟨_, _, _, _, _, _, by rw [doK4 hk, show (decide (f % 10000 < 2) && (withP p == decide (dD f = 1))) = true from by rw [decide_eq_true (show f % 10000 < 2 by omega), show withP p = _ from (show withP p = true by simpa using c290_93), show decide (dD f = 1) = _ from decide_eq_true c282_91]; rfl], by rw [doK4 hk]⟩)
              ·
                by_cases s72_94 : nI (f / 10000) = nI 5
                ·
                  refine wc_tsI X 72 299 4 (nI 5) (off := 227) dX11_does_72 s72_94 (by decide) (by decide) (by decide) (by decide) ?_
                  have hk : f / 10000 = 5 := (nI_eq (by omega) (by decide)).mp s72_94
                  refine wc_aload_n X 299 0 dX11_does_299 rfl ?_
                  refine wc_aload_n X 300 0 dX11_does_300 rfl ?_
                  refine wc_get X 301 0 6 kd11 rfl (by decide) q_771 rfl dX11_does_301 ?_
                  refine wc_mutV X Y 304 [0, 1, 6] [2, 3, 4, 5] 0 (c_X11_findFollows l G o th qtx ts pl qrp qpg qtr qbk dn qkp qik sn qsw qsi sd qln qfm qby qwy wz qfo qon qmn qpr qle qst qwt rc tk ps gn bd qwo qtr p fo (by first | assumption | omega)) yv_X11_findFollows kd11 rfl rfl (wr := [aI G qln 512 (nF ln0), aI G qfm 512 fm0, aI G qby 512 (nF bf0), aI G qwy 512 (nF wy0)]) rfl ⟨rfl, rfl, rfl⟩ q_1040 ⟨rfl, rfl⟩ ⟨rfl, rfl⟩ ⟨rfl, rfl⟩ rfl rfl rfl dX11_does_304 (fun v w hp_95 => ?_)
                  obtain ⟨fo2_96, rfl, rfl, hfo⟩ := hp_95
                  refine wc_perm Y [4, 5, 0, 1, 2, 3, 6] [ob o 11 [.int th, .ref qtx, .int (nI ts), .int (nI pl), .ref qrp, .ref qpg, .ref qtr, .ref qbk, .int (nI dn), .ref qkp, .ref qik, .int (nI sn), .ref qsw, .ref qsi, .long sd, .ref qln, .ref qfm, .ref qby, .ref qwy, .int (nI wz), .ref qfo, .ref qon, .ref qmn, .ref qpr, .ref qle, .ref qst, .ref qwt, .int (nI rc), .int (nI tk), .int (nI ps), .int (nI gn), .int bd, .ref qwo], aI G qtr 22 (nF p), aI G qln 512 (nF ln0), aI G qfm 512 fm0, aI G qby 512 (nF bf0), aI G qwy 512 (nF wy0), aZ G qfo 81 (bF fo2_96)] rfl rfl ?_
                  show Wc Γ 0 0 307 [(0, .ref o), (1, .int (nI f)), (2, .int (nI (dA f))), (3, .int (nI (dB f))), (4, .int (nI (dC f))), (5, .int (nI (dD f))), (6, .int (nI (dA f))), (7, .int (nI 1))] [] [ob o 11 [.int th, .ref qtx, .int (nI ts), .int (nI pl), .ref qrp, .ref qpg, .ref qtr, .ref qbk, .int (nI dn), .ref qkp, .ref qik, .int (nI sn), .ref qsw, .ref qsi, .long sd, .ref qln, .ref qfm, .ref qby, .ref qwy, .int (nI wz), .ref qfo, .ref qon, .ref qmn, .ref qpr, .ref qle, .ref qst, .ref qwt, .int (nI rc), .int (nI tk), .int (nI ps), .int (nI gn), .int bd, .ref qwo], aI G qtr 22 (nF p), aI G qln 512 (nF ln0), aI G qfm 512 fm0, aI G qby 512 (nF bf0), aI G qwy 512 (nF wy0), aZ G qfo 81 (bF fo2_96)]
                  refine wc_iload_n X 307 2 dX11_does_307 rfl ?_
                  refine wc_aload_n X 308 0 dX11_does_308 rfl ?_
                  refine wc_get X 309 0 6 kd11 rfl (by decide) q_771 rfl dX11_does_309 ?_
                  refine wc_iconstN X 312 0 dX11_does_312 ?_
                  refine wc_ialdG X 313 1 rfl (by decide) (by decide) dX11_does_313 ?_
                  refine wc_icmp_geN X 314 369 dX11_does_314 (by decide) (by omega) (by omega) (fun c314_97 => ?_) (fun c314_97 => ?_)
                  ·
                    have hz5 : ¬ dA f < p 0 := by omega
                    refine wc_iconstN X 369 0 dX11_does_369 ?_
                    refine wc_st (st' := [.int (b2i false)]) rfl ?_
                    exact ret 370 _ false _ dX11_does_370 (⟨_, _, _, _, _, _, by rw [doK5 hk, show (decide (dA f < p 0) && decide (dB f < p 1) && decide (dC f = 0) && decide (dD f < 2) && (folB (gz p) (p 0) (p 2) (go p) (p 1) (p 3) (dA f) (4 + dB f) == decide (dD f = 1))) = false from by rw [decide_eq_false hz5]; simp], by rw [doK5 hk]⟩)
                  ·
                    have h50 : dA f < p 0 := c314_97
                    refine wc_iload_n X 317 3 dX11_does_317 rfl ?_
                    refine wc_aload_n X 318 0 dX11_does_318 rfl ?_
                    refine wc_get X 319 0 6 kd11 rfl (by decide) q_771 rfl dX11_does_319 ?_
                    refine wc_iconstN X 322 1 dX11_does_322 ?_
                    refine wc_ialdG X 323 1 rfl (by decide) (by decide) dX11_does_323 ?_
                    refine wc_icmp_geN X 324 369 dX11_does_324 (by decide) (by omega) (by omega) (fun c324_98 => ?_) (fun c324_98 => ?_)
                    ·
                      have hz5 : ¬ dB f < p 1 := by omega
                      refine wc_iconstN X 369 0 dX11_does_369 ?_
                      refine wc_st (st' := [.int (b2i false)]) rfl ?_
                      exact ret 370 _ false _ dX11_does_370 (⟨_, _, _, _, _, _, by rw [doK5 hk, show (decide (dA f < p 0) && decide (dB f < p 1) && decide (dC f = 0) && decide (dD f < 2) && (folB (gz p) (p 0) (p 2) (go p) (p 1) (p 3) (dA f) (4 + dB f) == decide (dD f = 1))) = false from by rw [decide_eq_false hz5]; simp], by rw [doK5 hk]⟩)
                    ·
                      have h51 : dB f < p 1 := c324_98
                      refine wc_iload X 327 4 dX11_does_327 rfl ?_
                      refine wc_if_neN X 329 369 dX11_does_329 (by decide) (by omega) (fun c329_99 => ?_) (fun c329_99 => ?_)
                      ·
                        refine wc_iconstN X 369 0 dX11_does_369 ?_
                        refine wc_st (st' := [.int (b2i false)]) rfl ?_
                        exact ret 370 _ false _ dX11_does_370 (⟨_, _, _, _, _, _, by rw [doK5 hk, show (decide (dA f < p 0) && decide (dB f < p 1) && decide (dC f = 0) && decide (dD f < 2) && (folB (gz p) (p 0) (p 2) (go p) (p 1) (p 3) (dA f) (4 + dB f) == decide (dD f = 1))) = false from by rw [decide_eq_false c329_99]; simp], by rw [doK5 hk]⟩)
                      ·
                        refine wc_iload X 332 5 dX11_does_332 rfl ?_
                        refine wc_iconstN X 334 2 dX11_does_334 ?_
                        refine wc_icmp_geN X 335 369 dX11_does_335 (by decide) (by omega) (by decide) (fun c335_100 => ?_) (fun c335_100 => ?_)
                        ·
                          have hd2 : ¬ dD f < 2 := by omega
                          refine wc_iconstN X 369 0 dX11_does_369 ?_
                          refine wc_st (st' := [.int (b2i false)]) rfl ?_
                          exact ret 370 _ false _ dX11_does_370 (⟨_, _, _, _, _, _, by rw [doK5 hk, show (decide (dA f < p 0) && decide (dB f < p 1) && decide (dC f = 0) && decide (dD f < 2) && (folB (gz p) (p 0) (p 2) (go p) (p 1) (p 3) (dA f) (4 + dB f) == decide (dD f = 1))) = false from by rw [decide_eq_false hd2]; simp], by rw [doK5 hk]⟩)
                        ·
                          refine wc_aload_n X 338 0 dX11_does_338 rfl ?_
                          refine wc_get X 339 0 20 kd11 rfl (by decide) q_785 rfl dX11_does_339 ?_
                          refine wc_bipush X 342 (nI 9) dX11_does_342 (by decide) ?_
                          refine wc_iload_n X 344 2 dX11_does_344 rfl ?_
                          refine wc_imulN X 345 dX11_does_345 ?_
                          refine wc_iconstN X 346 4 dX11_does_346 ?_
                          refine wc_iaddN X 347 dX11_does_347 ?_
                          refine wc_iload_n X 348 3 dX11_does_348 rfl ?_
                          refine wc_iaddN X 349 dX11_does_349 ?_
                          refine wc_zaldG X 350 6 rfl (by omega) (by decide) dX11_does_350 ?_
                          refine wc_topi (b2i (folB (gz p) (p 0) (p 2) (go p) (p 1) (p 3) (dA f) (4 + dB f))) (congrArg b2i (by rw [Nat.add_assoc]; exact hfo _ _ (by omega) (by omega))) ?_
                          refine wc_iload X 351 5 dX11_does_351 rfl ?_
                          refine wc_iconstN X 353 1 dX11_does_353 ?_
                          refine wc_icmp_neN X 354 361 dX11_does_354 (by decide) (by omega) (by decide) (fun c354_101 => ?_) (fun c354_101 => ?_)
                          ·
                            refine wc_iconstN X 361 0 dX11_does_361 ?_
                            refine wc_st (st' := [.int (b2i false), .int (b2i (folB (gz p) (p 0) (p 2) (go p) (p 1) (p 3) (dA f) (4 + dB f)))]) rfl ?_
                            refine wc_icmp_neB X 362 369 dX11_does_362 (by decide) (fun c362_102 => ?_) (fun c362_102 => ?_)
                            ·
                              refine wc_iconstN X 369 0 dX11_does_369 ?_
                              refine wc_st (st' := [.int (b2i false)]) rfl ?_
                              exact ret 370 _ false _ dX11_does_370 (⟨_, _, _, _, _, _, by rw [doK5 hk, show (decide (dA f < p 0) && decide (dB f < p 1) && decide (dC f = 0) && decide (dD f < 2) && (folB (gz p) (p 0) (p 2) (go p) (p 1) (p 3) (dA f) (4 + dB f) == decide (dD f = 1))) = false from by rw [decide_eq_true h50, decide_eq_true h51, decide_eq_true (show dC f = 0 by omega), decide_eq_true (show dD f < 2 by omega), show folB (gz p) (p 0) (p 2) (go p) (p 1) (p 3) (dA f) (4 + dB f) = _ from (show folB (gz p) (p 0) (p 2) (go p) (p 1) (p 3) (dA f) (4 + dB f) = true by simpa using c362_102), show decide (dD f = 1) = _ from decide_eq_false c354_101]; rfl], by rw [doK5 hk]⟩)
                            ·
                              refine wc_iconstN X 365 1 dX11_does_365 ?_
                              refine wc_goto X 366 370 dX11_does_366 (by decide) ?_
                              refine wc_st (st' := [.int (b2i true)]) rfl ?_
                              exact ret 370 _ true _ dX11_does_370 (⟨_, _, _, _, _, _, by rw [doK5 hk, show (decide (dA f < p 0) && decide (dB f < p 1) && decide (dC f = 0) && decide (dD f < 2) && (folB (gz p) (p 0) (p 2) (go p) (p 1) (p 3) (dA f) (4 + dB f) == decide (dD f = 1))) = true from by rw [decide_eq_true h50, decide_eq_true h51, decide_eq_true (show dC f = 0 by omega), decide_eq_true (show dD f < 2 by omega), show folB (gz p) (p 0) (p 2) (go p) (p 1) (p 3) (dA f) (4 + dB f) = _ from (show folB (gz p) (p 0) (p 2) (go p) (p 1) (p 3) (dA f) (4 + dB f) = false by simpa using c362_102), show decide (dD f = 1) = _ from decide_eq_false c354_101]; rfl], by rw [doK5 hk]⟩)
                          ·
                            refine wc_iconstN X 357 1 dX11_does_357 ?_
                            refine wc_goto X 358 362 dX11_does_358 (by decide) ?_
                            refine wc_st (st' := [.int (b2i true), .int (b2i (folB (gz p) (p 0) (p 2) (go p) (p 1) (p 3) (dA f) (4 + dB f)))]) rfl ?_
                            refine wc_icmp_neB X 362 369 dX11_does_362 (by decide) (fun c362_103 => ?_) (fun c362_103 => ?_)
                            ·
                              refine wc_iconstN X 369 0 dX11_does_369 ?_
                              refine wc_st (st' := [.int (b2i false)]) rfl ?_
                              exact ret 370 _ false _ dX11_does_370 (⟨_, _, _, _, _, _, by rw [doK5 hk, show (decide (dA f < p 0) && decide (dB f < p 1) && decide (dC f = 0) && decide (dD f < 2) && (folB (gz p) (p 0) (p 2) (go p) (p 1) (p 3) (dA f) (4 + dB f) == decide (dD f = 1))) = false from by rw [decide_eq_true h50, decide_eq_true h51, decide_eq_true (show dC f = 0 by omega), decide_eq_true (show dD f < 2 by omega), show folB (gz p) (p 0) (p 2) (go p) (p 1) (p 3) (dA f) (4 + dB f) = _ from (show folB (gz p) (p 0) (p 2) (go p) (p 1) (p 3) (dA f) (4 + dB f) = false by simpa using c362_103), show decide (dD f = 1) = _ from decide_eq_true c354_101]; rfl], by rw [doK5 hk]⟩)
                            ·
                              refine wc_iconstN X 365 1 dX11_does_365 ?_
                              refine wc_goto X 366 370 dX11_does_366 (by decide) ?_
                              refine wc_st (st' := [.int (b2i true)]) rfl ?_
                              exact ret 370 _ true _ dX11_does_370 (⟨_, _, _, _, _, _, by rw [doK5 hk, show (decide (dA f < p 0) && decide (dB f < p 1) && decide (dC f = 0) && decide (dD f < 2) && (folB (gz p) (p 0) (p 2) (go p) (p 1) (p 3) (dA f) (4 + dB f) == decide (dD f = 1))) = true from by rw [decide_eq_true h50, decide_eq_true h51, decide_eq_true (show dC f = 0 by omega), decide_eq_true (show dD f < 2 by omega), show folB (gz p) (p 0) (p 2) (go p) (p 1) (p 3) (dA f) (4 + dB f) = _ from (show folB (gz p) (p 0) (p 2) (go p) (p 1) (p 3) (dA f) (4 + dB f) = true by simpa using c362_103), show decide (dD f = 1) = _ from decide_eq_true c354_101]; rfl], by rw [doK5 hk]⟩)
                ·
                  have hsw1 : f / 10000 ≠ 1 := fun e => s72_65 (by rw [e])
                  have hsw2 : f / 10000 ≠ 2 := fun e => s72_72 (by rw [e])
                  have hsw3 : f / 10000 ≠ 3 := fun e => s72_79 (by rw [e])
                  have hsw4 : f / 10000 ≠ 4 := fun e => s72_83 (by rw [e])
                  have hsw5 : f / 10000 ≠ 5 := fun e => s72_94 (by rw [e])
                  refine wc_tsO X 72 371 dX11_does_72 (by rw [nI_toInt (by omega)]; omega) (by decide) ?_
                  refine wc_iconstN X 371 0 dX11_does_371 ?_
                  refine wc_st (st' := [.int (b2i false)]) rfl ?_
                  exact ret 372 _ false _ dX11_does_372 (⟨_, _, _, _, _, _, by rw [doK0 hsw1 hsw2 hsw3 hsw4 hsw5], by rw [doK0 hsw1 hsw2 hsw3 hsw4 hsw5]⟩)

set_option maxHeartbeats 4000000 in
set_option maxRecDepth 100000 in
theorem c_X11_judgeF (l : Launch) (G : GG) (o : Nat) (th : Int32) (qtx ts pl qrp qpg qtr qbk dn qkp qik sn qsw qsi : Nat) (sd : Int64) (qln qfm qby qwy wz qfo qon qmn qpr qle qst qwt rc tk ps gn : Nat) (bd : Int32) (qwo : Nat) (n : Int32) (row : Int64) (ho : outR n 1 3) : MM l G yX11_judge (Cond.code yX11_judge cX11_judge 5 (some .int)) { frames := 1, cells := 0, slots := 0, locals := 25 } [.ref o, .int n, .long row] [ob o 11 [.int th, .ref qtx, .int (nI ts), .int (nI pl), .ref qrp, .ref qpg, .ref qtr, .ref qbk, .int (nI dn), .ref qkp, .ref qik, .int (nI sn), .ref qsw, .ref qsi, .long sd, .ref qln, .ref qfm, .ref qby, .ref qwy, .int (nI wz), .ref qfo, .ref qon, .ref qmn, .ref qpr, .ref qle, .ref qst, .ref qwt, .int (nI rc), .int (nI tk), .int (nI ps), .int (nI gn), .int bd, .ref qwo]] (fun (v : Option Value) (w : va_W) => v = some (.int (-2)) ∧ w = [ob o 11 [.int (nI 0), .ref qtx, .int (nI ts), .int (nI pl), .ref qrp, .ref qpg, .ref qtr, .ref qbk, .int (nI dn), .ref qkp, .ref qik, .int (nI sn), .ref qsw, .ref qsi, .long sd, .ref qln, .ref qfm, .ref qby, .ref qwy, .int (nI wz), .ref qfo, .ref qon, .ref qmn, .ref qpr, .ref qle, .ref qst, .ref qwt, .int (nI rc), .int (nI tk), .int (nI ps), .int (nI gn), .int bd, .ref qwo]]) 0 0 := by
  refine MM.ofI (by decide) rfl (fun Γ X Y hnm ret => ?_)
  show Wc Γ 0 0 0 [(0, .ref o), (1, .int n), (2, .long row)] [] [ob o 11 [.int th, .ref qtx, .int (nI ts), .int (nI pl), .ref qrp, .ref qpg, .ref qtr, .ref qbk, .int (nI dn), .ref qkp, .ref qik, .int (nI sn), .ref qsw, .ref qsi, .long sd, .ref qln, .ref qfm, .ref qby, .ref qwy, .int (nI wz), .ref qfo, .ref qon, .ref qmn, .ref qpr, .ref qle, .ref qst, .ref qwt, .int (nI rc), .int (nI tk), .int (nI ps), .int (nI gn), .int bd, .ref qwo]]
  refine wc_aload_n X 0 0 dX11_judge_0 rfl ?_
  refine wc_iconstN X 1 0 dX11_judge_1 ?_
  refine wc_put X Y 2 0 0 kd11 rfl (by decide) q_765 rfl rfl rfl (Nat.le_of_ble_eq_true rfl) (ws' := [ob o 11 [.int (nI 0), .ref qtx, .int (nI ts), .int (nI pl), .ref qrp, .ref qpg, .ref qtr, .ref qbk, .int (nI dn), .ref qkp, .ref qik, .int (nI sn), .ref qsw, .ref qsi, .long sd, .ref qln, .ref qfm, .ref qby, .ref qwy, .int (nI wz), .ref qfo, .ref qon, .ref qmn, .ref qpr, .ref qle, .ref qst, .ref qwt, .int (nI rc), .int (nI tk), .int (nI ps), .int (nI gn), .int bd, .ref qwo]]) rfl dX11_judge_2 ?_
  refine wc_iload_n X 5 1 dX11_judge_5 rfl ?_
  refine wc_i2l X 6 dX11_judge_6 ?_
  refine wc_lconst X 7 1 dX11_judge_7 (by decide) ?_
  refine wc_ldc2 X 8 185 (3) q_997 dX11_judge_8 ?_
  refine wc_callS X 11 [] (c_X11_in l G ((n).toInt64) 1 3 ) ys_X11_in rfl q_870 ⟨rfl, rfl⟩ ⟨rfl, rfl⟩ ⟨rfl, rfl⟩ rfl rfl rfl dX11_judge_11 ?_
  refine wc_topi (b2i false) (congrArg b2i (inL_out rfl rfl ho)) ?_
  refine wc_if_eqB X 14 34 dX11_judge_14 (by decide) (fun c14_1 => ?_) (fun c14_1 => ?_)
  ·
    refine wc_bipush X 34 (-2) dX11_judge_34 (by decide) ?_
    exact ret 36 _ (-2) _ dX11_judge_36 (⟨rfl, rfl⟩)
  ·
    exact absurd c14_1 (by decide)

set_option maxHeartbeats 4000000 in
set_option maxRecDepth 100000 in
theorem c_X11_judgeG (l : Launch) (G : GG) (o : Nat) (th : Int32) (qtx ts pl qrp qpg qtr qbk dn qkp qik sn qsw qsi : Nat) (sd : Int64) (qln qfm qby qwy wz qfo qon qmn qpr qle qst qwt rc tk ps gn : Nat) (bd : Int32) (qwo : Nat) (n : Nat) (row : Int64) (h1 : 1 ≤ n) (h2 : n ≤ 3) (ho : outJ row n) : MM l G yX11_judge (Cond.code yX11_judge cX11_judge 5 (some .int)) { frames := 1, cells := 0, slots := 0, locals := 25 } [.ref o, .int (nI n), .long row] [ob o 11 [.int th, .ref qtx, .int (nI ts), .int (nI pl), .ref qrp, .ref qpg, .ref qtr, .ref qbk, .int (nI dn), .ref qkp, .ref qik, .int (nI sn), .ref qsw, .ref qsi, .long sd, .ref qln, .ref qfm, .ref qby, .ref qwy, .int (nI wz), .ref qfo, .ref qon, .ref qmn, .ref qpr, .ref qle, .ref qst, .ref qwt, .int (nI rc), .int (nI tk), .int (nI ps), .int (nI gn), .int bd, .ref qwo]] (fun (v : Option Value) (w : va_W) => v = some (.int (-2)) ∧ w = [ob o 11 [.int (nI 0), .ref qtx, .int (nI ts), .int (nI pl), .ref qrp, .ref qpg, .ref qtr, .ref qbk, .int (nI dn), .ref qkp, .ref qik, .int (nI sn), .ref qsw, .ref qsi, .long sd, .ref qln, .ref qfm, .ref qby, .ref qwy, .int (nI wz), .ref qfo, .ref qon, .ref qmn, .ref qpr, .ref qle, .ref qst, .ref qwt, .int (nI rc), .int (nI tk), .int (nI ps), .int (nI gn), .int bd, .ref qwo]]) 0 0 := by
  refine MM.ofI (by decide) rfl (fun Γ X Y hnm ret => ?_)
  show Wc Γ 0 0 0 [(0, .ref o), (1, .int (nI n)), (2, .long row)] [] [ob o 11 [.int th, .ref qtx, .int (nI ts), .int (nI pl), .ref qrp, .ref qpg, .ref qtr, .ref qbk, .int (nI dn), .ref qkp, .ref qik, .int (nI sn), .ref qsw, .ref qsi, .long sd, .ref qln, .ref qfm, .ref qby, .ref qwy, .int (nI wz), .ref qfo, .ref qon, .ref qmn, .ref qpr, .ref qle, .ref qst, .ref qwt, .int (nI rc), .int (nI tk), .int (nI ps), .int (nI gn), .int bd, .ref qwo]]
  refine wc_aload_n X 0 0 dX11_judge_0 rfl ?_
  refine wc_iconstN X 1 0 dX11_judge_1 ?_
  refine wc_put X Y 2 0 0 kd11 rfl (by decide) q_765 rfl rfl rfl (Nat.le_of_ble_eq_true rfl) (ws' := [ob o 11 [.int (nI 0), .ref qtx, .int (nI ts), .int (nI pl), .ref qrp, .ref qpg, .ref qtr, .ref qbk, .int (nI dn), .ref qkp, .ref qik, .int (nI sn), .ref qsw, .ref qsi, .long sd, .ref qln, .ref qfm, .ref qby, .ref qwy, .int (nI wz), .ref qfo, .ref qon, .ref qmn, .ref qpr, .ref qle, .ref qst, .ref qwt, .int (nI rc), .int (nI tk), .int (nI ps), .int (nI gn), .int bd, .ref qwo]]) rfl dX11_judge_2 ?_
  refine wc_iload_n X 5 1 dX11_judge_5 rfl ?_
  refine wc_i2l X 6 dX11_judge_6 ?_
  refine wc_lconst X 7 1 dX11_judge_7 (by decide) ?_
  refine wc_ldc2 X 8 185 (3) q_997 dX11_judge_8 ?_
  refine wc_callS X 11 [] (c_X11_in l G ((nI n).toInt64) 1 3 ) ys_X11_in rfl q_870 ⟨rfl, rfl⟩ ⟨rfl, rfl⟩ ⟨rfl, rfl⟩ rfl rfl rfl dX11_judge_11 ?_
  refine wc_topi (b2i true) (congrArg b2i (inL_in (a := 1) (b := 3) rfl rfl (by omega) (by omega) (by omega))) ?_
  refine wc_if_eqB X 14 34 dX11_judge_14 (by decide) (fun c14_1 => ?_) (fun c14_1 => ?_)
  ·
    exact absurd c14_1 (by decide)
  ·
    refine wc_lload_n X 17 2 dX11_judge_17 rfl ?_
    refine wc_lconst X 18 0 dX11_judge_18 (by decide) ?_
    refine wc_ldc2 X 19 281 (100000) q_1114 dX11_judge_19 ?_
    refine wc_iload_n X 22 1 dX11_judge_22 rfl ?_
    refine wc_callS X 23 [] (c_X11_longPower l G n (by omega)) ys_X11_longPower rfl q_1115 ⟨rfl, rfl⟩ ⟨rfl, rfl⟩ ⟨rfl, rfl⟩ rfl rfl rfl dX11_judge_23 ?_
    refine wc_lconst X 26 1 dX11_judge_26 (by decide) ?_
    refine wc_lsub X 27 dX11_judge_27 ?_
    refine wc_callS X 28 [] (c_X11_in l G row 0 ((lN (100000 ^ n)) - 1) ) ys_X11_in rfl q_870 ⟨rfl, rfl⟩ ⟨rfl, rfl⟩ ⟨rfl, rfl⟩ rfl rfl rfl dX11_judge_28 ?_
    refine wc_topi (b2i false) (congrArg b2i (inJ_f ho h2)) ?_
    refine wc_if_neB X 31 37 dX11_judge_31 (by decide) (fun c31_2 => ?_) (fun c31_2 => ?_)
    ·
      exact absurd c31_2 (by decide)
    ·
      refine wc_bipush X 34 (-2) dX11_judge_34 (by decide) ?_
      exact ret 36 _ (-2) _ dX11_judge_36 (⟨rfl, rfl⟩)

set_option maxHeartbeats 4000000 in
set_option maxRecDepth 100000 in
theorem c_X11_judgeS (l : Launch) (G : GG) (o : Nat) (th : Int32) (qtx ts pl qrp qpg qtr qbk dn qkp qik sn qsw qsi : Nat) (sd : Int64) (qln qfm qby qwy wz qfo qon qmn qpr qle qst qwt rc tk ps gn : Nat) (bd : Int32) (qwo : Nat) (p tr : Nat → Nat) (ln0 : Nat → Nat) (fm0 : Nat → Int32) (bf0 wy0 : Nat → Nat) (fo : Nat → Bool) (n r : Nat) (hr : pgOk p) (h1 : 1 ≤ n) (h2 : n ≤ 3) (hrow : r < 100000 ^ n) : MM l G yX11_judge (Cond.code yX11_judge cX11_judge 5 (some .int)) { frames := 6, cells := 0, slots := 0, locals := 146 } [.ref o, .int (nI n), .long (lN r)] [ob o 11 [.int th, .ref qtx, .int (nI ts), .int (nI pl), .ref qrp, .ref qpg, .ref qtr, .ref qbk, .int (nI dn), .ref qkp, .ref qik, .int (nI sn), .ref qsw, .ref qsi, .long sd, .ref qln, .ref qfm, .ref qby, .ref qwy, .int (nI wz), .ref qfo, .ref qon, .ref qmn, .ref qpr, .ref qle, .ref qst, .ref qwt, .int (nI rc), .int (nI tk), .int (nI ps), .int (nI gn), .int bd, .ref qwo], aI G qpg 22 (nF p), aI G qtr 22 (nF tr), aI G qln 512 (nF ln0), aI G qfm 512 fm0, aI G qby 512 (nF bf0), aI G qwy 512 (nF wy0), aZ G qfo 81 (bF fo)] (fun (v : Option Value) (w : va_W) => ∃ (tr2 : Nat → Nat) (wz2 : Nat) (ln2 : Nat → Nat) (fm2 : Nat → Int32) (bf2 wy2 : Nat → Nat) (fo2 : Nat → Bool), v = some (.int (jR p n r)) ∧ w = [ob o 11 [.int (nI 0), .ref qtx, .int (nI ts), .int (nI pl), .ref qrp, .ref qpg, .ref qtr, .ref qbk, .int (nI dn), .ref qkp, .ref qik, .int (nI sn), .ref qsw, .ref qsi, .long sd, .ref qln, .ref qfm, .ref qby, .ref qwy, .int (nI wz2), .ref qfo, .ref qon, .ref qmn, .ref qpr, .ref qle, .ref qst, .ref qwt, .int (nI rc), .int (nI tk), .int (nI ps), .int (nI gn), .int bd, .ref qwo], aI G qpg 22 (nF p), aI G qtr 22 (nF tr2), aI G qln 512 (nF ln2), aI G qfm 512 fm2, aI G qby 512 (nF bf2), aI G qwy 512 (nF wy2), aZ G qfo 81 (bF fo2)]) 0 0 := by
  refine MM.ofI (by decide) rfl (fun Γ X Y hnm ret => ?_)
  show Wc Γ 0 0 0 [(0, .ref o), (1, .int (nI n)), (2, .long (lN r))] [] [ob o 11 [.int th, .ref qtx, .int (nI ts), .int (nI pl), .ref qrp, .ref qpg, .ref qtr, .ref qbk, .int (nI dn), .ref qkp, .ref qik, .int (nI sn), .ref qsw, .ref qsi, .long sd, .ref qln, .ref qfm, .ref qby, .ref qwy, .int (nI wz), .ref qfo, .ref qon, .ref qmn, .ref qpr, .ref qle, .ref qst, .ref qwt, .int (nI rc), .int (nI tk), .int (nI ps), .int (nI gn), .int bd, .ref qwo], aI G qpg 22 (nF p), aI G qtr 22 (nF tr), aI G qln 512 (nF ln0), aI G qfm 512 fm0, aI G qby 512 (nF bf0), aI G qwy 512 (nF wy0), aZ G qfo 81 (bF fo)]
  refine wc_aload_n X 0 0 dX11_judge_0 rfl ?_
  refine wc_iconstN X 1 0 dX11_judge_1 ?_
  refine wc_put X Y 2 0 0 kd11 rfl (by decide) q_765 rfl rfl rfl (Nat.le_of_ble_eq_true rfl) (ws' := [ob o 11 [.int (nI 0), .ref qtx, .int (nI ts), .int (nI pl), .ref qrp, .ref qpg, .ref qtr, .ref qbk, .int (nI dn), .ref qkp, .ref qik, .int (nI sn), .ref qsw, .ref qsi, .long sd, .ref qln, .ref qfm, .ref qby, .ref qwy, .int (nI wz), .ref qfo, .ref qon, .ref qmn, .ref qpr, .ref qle, .ref qst, .ref qwt, .int (nI rc), .int (nI tk), .int (nI ps), .int (nI gn), .int bd, .ref qwo], aI G qpg 22 (nF p), aI G qtr 22 (nF tr), aI G qln 512 (nF ln0), aI G qfm 512 fm0, aI G qby 512 (nF bf0), aI G qwy 512 (nF wy0), aZ G qfo 81 (bF fo)]) rfl dX11_judge_2 ?_
  refine wc_iload_n X 5 1 dX11_judge_5 rfl ?_
  refine wc_i2l X 6 dX11_judge_6 ?_
  refine wc_lconst X 7 1 dX11_judge_7 (by decide) ?_
  refine wc_ldc2 X 8 185 (3) q_997 dX11_judge_8 ?_
  refine wc_callS X 11 [] (c_X11_in l G ((nI n).toInt64) 1 3 ) ys_X11_in rfl q_870 ⟨rfl, rfl⟩ ⟨rfl, rfl⟩ ⟨rfl, rfl⟩ rfl rfl rfl dX11_judge_11 ?_
  refine wc_topi (b2i true) (congrArg b2i (inL_in (a := 1) (b := 3) rfl rfl (by omega) (by omega) (by omega))) ?_
  refine wc_if_eqB X 14 34 dX11_judge_14 (by decide) (fun c14_1 => ?_) (fun c14_1 => ?_)
  ·
    exact absurd c14_1 (by decide)
  ·
    refine wc_lload_n X 17 2 dX11_judge_17 rfl ?_
    refine wc_lconst X 18 0 dX11_judge_18 (by decide) ?_
    refine wc_ldc2 X 19 281 (100000) q_1114 dX11_judge_19 ?_
    refine wc_iload_n X 22 1 dX11_judge_22 rfl ?_
    refine wc_callS X 23 [] (c_X11_longPower l G n (by omega)) ys_X11_longPower rfl q_1115 ⟨rfl, rfl⟩ ⟨rfl, rfl⟩ ⟨rfl, rfl⟩ rfl rfl rfl dX11_judge_23 ?_
    refine wc_lconst X 26 1 dX11_judge_26 (by decide) ?_
    refine wc_lsub X 27 dX11_judge_27 ?_
    refine wc_callS X 28 [] (c_X11_in l G (lN r) 0 ((lN (100000 ^ n)) - 1) ) ys_X11_in rfl q_870 ⟨rfl, rfl⟩ ⟨rfl, rfl⟩ ⟨rfl, rfl⟩ rfl rfl rfl dX11_judge_28 ?_
    refine wc_topi (b2i true) (congrArg b2i (inJ_t hrow h2)) ?_
    refine wc_if_neB X 31 37 dX11_judge_31 (by decide) (fun c31_2 => ?_) (fun c31_2 => ?_)
    ·
      refine wc_aload_n X 37 0 dX11_judge_37 rfl ?_
      refine wc_get X 38 0 6 kd11 rfl (by decide) q_771 rfl dX11_judge_38 ?_
      refine wc_aload_n X 41 0 dX11_judge_41 rfl ?_
      refine wc_get X 42 0 5 kd11 rfl (by decide) q_770 rfl dX11_judge_42 ?_
      refine wc_mutS X Y 45 [2, 1] [0, 3, 4, 5, 6, 7] (c_X11_lay l G qtr tr qpg p ) ys_X11_lay rfl (wr := [ob o 11 [.int (nI 0), .ref qtx, .int (nI ts), .int (nI pl), .ref qrp, .ref qpg, .ref qtr, .ref qbk, .int (nI dn), .ref qkp, .ref qik, .int (nI sn), .ref qsw, .ref qsi, .long sd, .ref qln, .ref qfm, .ref qby, .ref qwy, .int (nI wz), .ref qfo, .ref qon, .ref qmn, .ref qpr, .ref qle, .ref qst, .ref qwt, .int (nI rc), .int (nI tk), .int (nI ps), .int (nI gn), .int bd, .ref qwo], aI G qln 512 (nF ln0), aI G qfm 512 fm0, aI G qby 512 (nF bf0), aI G qwy 512 (nF wy0), aZ G qfo 81 (bF fo)]) rfl ⟨rfl, rfl, rfl⟩ q_927 ⟨rfl, rfl⟩ ⟨rfl, rfl⟩ ⟨rfl, rfl⟩ rfl rfl rfl dX11_judge_45 (fun v w hp_3 => ?_)
      obtain ⟨rfl, rfl⟩ := hp_3
      refine wc_perm Y [0, 7, 6, 1, 2, 3, 4, 5] [ob o 11 [.int (nI 0), .ref qtx, .int (nI ts), .int (nI pl), .ref qrp, .ref qpg, .ref qtr, .ref qbk, .int (nI dn), .ref qkp, .ref qik, .int (nI sn), .ref qsw, .ref qsi, .long sd, .ref qln, .ref qfm, .ref qby, .ref qwy, .int (nI wz), .ref qfo, .ref qon, .ref qmn, .ref qpr, .ref qle, .ref qst, .ref qwt, .int (nI rc), .int (nI tk), .int (nI ps), .int (nI gn), .int bd, .ref qwo], aI G qpg 22 (nF p), aI G qtr 22 (nF p), aI G qln 512 (nF ln0), aI G qfm 512 fm0, aI G qby 512 (nF bf0), aI G qwy 512 (nF wy0), aZ G qfo 81 (bF fo)] rfl rfl ?_
      show Wc Γ 0 0 48 [(0, .ref o), (1, .int (nI n)), (2, .long (lN r))] [] [ob o 11 [.int (nI 0), .ref qtx, .int (nI ts), .int (nI pl), .ref qrp, .ref qpg, .ref qtr, .ref qbk, .int (nI dn), .ref qkp, .ref qik, .int (nI sn), .ref qsw, .ref qsi, .long sd, .ref qln, .ref qfm, .ref qby, .ref qwy, .int (nI wz), .ref qfo, .ref qon, .ref qmn, .ref qpr, .ref qle, .ref qst, .ref qwt, .int (nI rc), .int (nI tk), .int (nI ps), .int (nI gn), .int bd, .ref qwo], aI G qpg 22 (nF p), aI G qtr 22 (nF p), aI G qln 512 (nF ln0), aI G qfm 512 fm0, aI G qby 512 (nF bf0), aI G qwy 512 (nF wy0), aZ G qfo 81 (bF fo)]
      refine wc_iconstN X 48 0 dX11_judge_48 ?_
      refine wc_istore X 49 (L' := [(0, .ref o), (1, .int (nI n)), (2, .long (lN r)), (4, .int (nI 0))]) dX11_judge_49 (by decide) rfl ?_
      have LP_5 : ∀ (fuel_4 : Nat) (k : Nat) (z9 : Nat) (l9 : Nat → Nat) (m9 : Nat → Int32) (b9 : Nat → Nat) (y9 : Nat → Nat) (o9 : Nat → Bool), (k ≤ n) → (∀ j, j < k → (doK (jQ p n r j) (fig n r j)).1 = true) → n - k < fuel_4 → Wc Γ 0 0 51 [(0, .ref o), (1, .int (nI n)), (2, .long (lN r)), (4, .int (nI k))] [] [ob o 11 [.int (nI 0), .ref qtx, .int (nI ts), .int (nI pl), .ref qrp, .ref qpg, .ref qtr, .ref qbk, .int (nI dn), .ref qkp, .ref qik, .int (nI sn), .ref qsw, .ref qsi, .long sd, .ref qln, .ref qfm, .ref qby, .ref qwy, .int (nI z9), .ref qfo, .ref qon, .ref qmn, .ref qpr, .ref qle, .ref qst, .ref qwt, .int (nI rc), .int (nI tk), .int (nI ps), .int (nI gn), .int bd, .ref qwo], aI G qpg 22 (nF p), aI G qtr 22 (nF (jQ p n r k)), aI G qln 512 (nF l9), aI G qfm 512 m9, aI G qby 512 (nF b9), aI G qwy 512 (nF y9), aZ G qfo 81 (bF o9)] := by
        intro fuel_4
        induction fuel_4 with
        | zero => intro k z9 l9 m9 b9 y9 o9 hk hA hm; exact absurd hm (Nat.not_lt_zero _)
        | succ fuel_4 ih_6 =>
          intro k z9 l9 m9 b9 y9 o9 hk hA hm_7
          refine wc_iload X 51 3 dX11_judge_51 rfl ?_
          refine wc_iload_n X 53 1 dX11_judge_53 rfl ?_
          refine wc_icmp_geN X 54 92 dX11_judge_54 (by decide) (by omega) (by omega) (fun c54_8 => ?_) (fun c54_8 => ?_)
          ·
            refine wc_bipush X 92 (-9) dX11_judge_92 (by decide) ?_
            exact ret 94 _ (-9) _ dX11_judge_94 (⟨_, _, _, _, _, _, _, by rw [jR_n (fun j hj => hA j (by omega))], rfl⟩)
          ·
            refine wc_aload_n X 57 0 dX11_judge_57 rfl ?_
            refine wc_lload_n X 58 2 dX11_judge_58 rfl ?_
            refine wc_ldc2 X 59 281 (100000) q_1114 dX11_judge_59 ?_
            refine wc_iload_n X 62 1 dX11_judge_62 rfl ?_
            refine wc_iconstN X 63 1 dX11_judge_63 ?_
            refine wc_isubN X 64 dX11_judge_64 (by omega) ?_
            refine wc_iload X 65 3 dX11_judge_65 rfl ?_
            refine wc_isubN X 67 dX11_judge_67 (by omega) ?_
            refine wc_callS X 68 [] (c_X11_longPower l G ((n - 1) - k) (by omega)) ys_X11_longPower rfl q_1115 ⟨rfl, rfl⟩ ⟨rfl, rfl⟩ ⟨rfl, rfl⟩ rfl rfl rfl dX11_judge_68 ?_
            refine wc_ldiv X 71 dX11_judge_71 (lN_ne (Nat.pow_pos (by decide)) (by have := p15 (n := n - 1 - k) (by omega); omega)) ?_
            refine wc_ldc2 X 72 281 (100000) q_1114 dX11_judge_72 ?_
            refine wc_lrem X 75 dX11_judge_75 (by decide) ?_
            refine wc_l2i X 76 dX11_judge_76 ?_
            refine wc_topi (nI (fig n r k)) (fig_C hrow h2 (by omega)) ?_
            refine wc_mutV X Y 77 [0, 2, 3, 4, 5, 6, 7] [1] 0 (c_X11_does l G o (nI 0) qtx ts pl qrp qpg qtr qbk dn qkp qik sn qsw qsi sd qln qfm qby qwy z9 qfo qon qmn qpr qle qst qwt rc tk ps gn bd qwo (jQ p n r k) l9 m9 b9 y9 o9 (fig n r k) (jQ_ok hr n r k) fig_lt) yv_X11_does kd11 rfl rfl (wr := [aI G qpg 22 (nF p)]) rfl ⟨rfl, rfl, rfl⟩ q_1118 ⟨rfl, rfl⟩ ⟨rfl, rfl⟩ ⟨rfl, rfl⟩ rfl rfl rfl dX11_judge_77 (fun v w hp_9 => ?_)
            obtain ⟨wz2_10, ln2_11, fm2_12, bf2_13, wy2_14, fo2_15, rfl, rfl⟩ := hp_9
            refine wc_perm Y [1, 0, 2, 3, 4, 5, 6, 7] [ob o 11 [.int (nI 0), .ref qtx, .int (nI ts), .int (nI pl), .ref qrp, .ref qpg, .ref qtr, .ref qbk, .int (nI dn), .ref qkp, .ref qik, .int (nI sn), .ref qsw, .ref qsi, .long sd, .ref qln, .ref qfm, .ref qby, .ref qwy, .int (nI wz2_10), .ref qfo, .ref qon, .ref qmn, .ref qpr, .ref qle, .ref qst, .ref qwt, .int (nI rc), .int (nI tk), .int (nI ps), .int (nI gn), .int bd, .ref qwo], aI G qpg 22 (nF p), aI G qtr 22 (nF ((doK (jQ p n r k) (fig n r k)).2)), aI G qln 512 (nF ln2_11), aI G qfm 512 fm2_12, aI G qby 512 (nF bf2_13), aI G qwy 512 (nF wy2_14), aZ G qfo 81 (bF fo2_15)] rfl rfl ?_
            show Wc Γ 0 0 80 [(0, .ref o), (1, .int (nI n)), (2, .long (lN r)), (4, .int (nI k))] [.int (b2i ((doK (jQ p n r k) (fig n r k)).1))] [ob o 11 [.int (nI 0), .ref qtx, .int (nI ts), .int (nI pl), .ref qrp, .ref qpg, .ref qtr, .ref qbk, .int (nI dn), .ref qkp, .ref qik, .int (nI sn), .ref qsw, .ref qsi, .long sd, .ref qln, .ref qfm, .ref qby, .ref qwy, .int (nI wz2_10), .ref qfo, .ref qon, .ref qmn, .ref qpr, .ref qle, .ref qst, .ref qwt, .int (nI rc), .int (nI tk), .int (nI ps), .int (nI gn), .int bd, .ref qwo], aI G qpg 22 (nF p), aI G qtr 22 (nF ((doK (jQ p n r k) (fig n r k)).2)), aI G qln 512 (nF ln2_11), aI G qfm 512 fm2_12, aI G qby 512 (nF bf2_13), aI G qwy 512 (nF wy2_14), aZ G qfo 81 (bF fo2_15)]
            refine wc_if_neB X 80 86 dX11_judge_80 (by decide) (fun c80_16 => ?_) (fun c80_16 => ?_)
            ·
              refine wc_iincN X 86 3 (L' := [(0, .ref o), (1, .int (nI n)), (2, .long (lN r)), (4, .int (nI (k + 1)))]) dX11_judge_86 rfl (by decide) rfl ?_
              refine wc_goto X 89 51 dX11_judge_89 (by decide) ?_
              refine wc_L (L' := [(0, .ref o), (1, .int (nI n)), (2, .long (lN r)), (4, .int (nI (k + 1)))]) (by rfl) ?_
              refine wc_ws (ws' := [ob o 11 [.int (nI 0), .ref qtx, .int (nI ts), .int (nI pl), .ref qrp, .ref qpg, .ref qtr, .ref qbk, .int (nI dn), .ref qkp, .ref qik, .int (nI sn), .ref qsw, .ref qsi, .long sd, .ref qln, .ref qfm, .ref qby, .ref qwy, .int (nI wz2_10), .ref qfo, .ref qon, .ref qmn, .ref qpr, .ref qle, .ref qst, .ref qwt, .int (nI rc), .int (nI tk), .int (nI ps), .int (nI gn), .int bd, .ref qwo], aI G qpg 22 (nF p), aI G qtr 22 (nF (jQ p n r (k + 1))), aI G qln 512 (nF ln2_11), aI G qfm 512 fm2_12, aI G qby 512 (nF bf2_13), aI G qwy 512 (nF wy2_14), aZ G qfo 81 (bF fo2_15)]) (rfl) ?_
              exact ih_6 (k + 1) wz2_10 ln2_11 fm2_12 bf2_13 wy2_14 fo2_15 (by omega) (lt_ext hA c80_16) (by omega)
            ·
              refine wc_iload X 83 3 dX11_judge_83 rfl ?_
              exact ret 85 _ (nI k) _ dX11_judge_85 (⟨_, _, _, _, _, _, _, by rw [jR_s (by omega) hA c80_16], rfl⟩)
      refine wc_ws (ws' := [ob o 11 [.int (nI 0), .ref qtx, .int (nI ts), .int (nI pl), .ref qrp, .ref qpg, .ref qtr, .ref qbk, .int (nI dn), .ref qkp, .ref qik, .int (nI sn), .ref qsw, .ref qsi, .long sd, .ref qln, .ref qfm, .ref qby, .ref qwy, .int (nI wz), .ref qfo, .ref qon, .ref qmn, .ref qpr, .ref qle, .ref qst, .ref qwt, .int (nI rc), .int (nI tk), .int (nI ps), .int (nI gn), .int bd, .ref qwo], aI G qpg 22 (nF p), aI G qtr 22 (nF (jQ p n r 0)), aI G qln 512 (nF ln0), aI G qfm 512 fm0, aI G qby 512 (nF bf0), aI G qwy 512 (nF wy0), aZ G qfo 81 (bF fo)]) (rfl) ?_
      exact LP_5 (n - 0 + 1) 0 wz ln0 fm0 bf0 wy0 fo (Nat.zero_le _) (fun j hj => absurd hj (Nat.not_lt_zero _)) (Nat.lt_succ_self _)
    ·
      exact absurd c31_2 (by decide)

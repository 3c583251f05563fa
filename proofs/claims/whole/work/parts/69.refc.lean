set_option maxHeartbeats 4000000 in
set_option maxRecDepth 100000 in
theorem c_X11_manyF (l : Launch) (G : GG) (o : Nat) (th : Int32) (qtx ts pl qrp qpg qtr qbk dn qkp qik sn qsw qsi : Nat) (sd : Int64) (qln qfm qby qwy wz qfo qon qmn qpr qle qst qwt rc tk ps gn : Nat) (bd : Int32) (qwo : Nat) (n k : Int32) (ho : outR n 0 9 ∨ outR k 0 3) : MM l G yX11_many (Cond.code yX11_many cX11_many 8 (some .int)) { frames := 1, cells := 0, slots := 0, locals := 25 } [.ref o, .int n, .int k] [ob o 11 [.int th, .ref qtx, .int (nI ts), .int (nI pl), .ref qrp, .ref qpg, .ref qtr, .ref qbk, .int (nI dn), .ref qkp, .ref qik, .int (nI sn), .ref qsw, .ref qsi, .long sd, .ref qln, .ref qfm, .ref qby, .ref qwy, .int (nI wz), .ref qfo, .ref qon, .ref qmn, .ref qpr, .ref qle, .ref qst, .ref qwt, .int (nI rc), .int (nI tk), .int (nI ps), .int (nI gn), .int bd, .ref qwo]] (fun (v : Option Value) (w : va_W) => v = some (.int (-2)) ∧ w = [ob o 11 [.int (nI 0), .ref qtx, .int (nI ts), .int (nI pl), .ref qrp, .ref qpg, .ref qtr, .ref qbk, .int (nI dn), .ref qkp, .ref qik, .int (nI sn), .ref qsw, .ref qsi, .long sd, .ref qln, .ref qfm, .ref qby, .ref qwy, .int (nI wz), .ref qfo, .ref qon, .ref qmn, .ref qpr, .ref qle, .ref qst, .ref qwt, .int (nI rc), .int (nI tk), .int (nI ps), .int (nI gn), .int bd, .ref qwo]]) 0 0 := by
  refine MM.ofI (by decide) rfl (fun Γ X Y hnm ret => ?_)
  show Wc Γ 0 0 0 [(0, .ref o), (1, .int n), (2, .int k)] [] [ob o 11 [.int th, .ref qtx, .int (nI ts), .int (nI pl), .ref qrp, .ref qpg, .ref qtr, .ref qbk, .int (nI dn), .ref qkp, .ref qik, .int (nI sn), .ref qsw, .ref qsi, .long sd, .ref qln, .ref qfm, .ref qby, .ref qwy, .int (nI wz), .ref qfo, .ref qon, .ref qmn, .ref qpr, .ref qle, .ref qst, .ref qwt, .int (nI rc), .int (nI tk), .int (nI ps), .int (nI gn), .int bd, .ref qwo]]
  refine wc_aload_n X 0 0 dX11_many_0 rfl ?_
  refine wc_iconstN X 1 0 dX11_many_1 ?_
  refine wc_put X Y 2 0 0 kd11 rfl (by decide) q_765 rfl rfl rfl (Nat.le_of_ble_eq_true rfl) (ws' := [ob o 11 [.int (nI 0), .ref qtx, .int (nI ts), .int (nI pl), .ref qrp, .ref qpg, .ref qtr, .ref qbk, .int (nI dn), .ref qkp, .ref qik, .int (nI sn), .ref qsw, .ref qsi, .long sd, .ref qln, .ref qfm, .ref qby, .ref qwy, .int (nI wz), .ref qfo, .ref qon, .ref qmn, .ref qpr, .ref qle, .ref qst, .ref qwt, .int (nI rc), .int (nI tk), .int (nI ps), .int (nI gn), .int bd, .ref qwo]]) rfl dX11_many_2 ?_
  refine wc_iload_n X 5 1 dX11_many_5 rfl ?_
  refine wc_i2l X 6 dX11_many_6 ?_
  refine wc_lconst X 7 0 dX11_many_7 (by decide) ?_
  refine wc_ldc2 X 8 183 (9) q_996 dX11_many_8 ?_
  refine wc_callS X 11 [] (c_X11_in l G ((n).toInt64) 0 9 ) ys_X11_in rfl q_870 ⟨rfl, rfl⟩ ⟨rfl, rfl⟩ ⟨rfl, rfl⟩ rfl rfl rfl dX11_many_11 ?_
  refine wc_if_eqB X 14 29 dX11_many_14 (by decide) (fun c14_1 => ?_) (fun c14_1 => ?_)
  ·
    refine wc_bipush X 29 (-2) dX11_many_29 (by decide) ?_
    exact ret 31 _ (-2) _ dX11_many_31 (⟨rfl, rfl⟩)
  ·
    refine wc_iload_n X 17 2 dX11_many_17 rfl ?_
    refine wc_i2l X 18 dX11_many_18 ?_
    refine wc_lconst X 19 0 dX11_many_19 (by decide) ?_
    refine wc_ldc2 X 20 185 (3) q_997 dX11_many_20 ?_
    refine wc_callS X 23 [] (c_X11_in l G ((k).toInt64) 0 3 ) ys_X11_in rfl q_870 ⟨rfl, rfl⟩ ⟨rfl, rfl⟩ ⟨rfl, rfl⟩ rfl rfl rfl dX11_many_23 ?_
    refine wc_if_neB X 26 32 dX11_many_26 (by decide) (fun c26_2 => ?_) (fun c26_2 => ?_)
    ·
      rcases ho with ho | ho
      · exact absurd c14_1 (by rw [inL_out rfl rfl ho]; decide)
      · exact absurd c26_2 (by rw [inL_out rfl rfl ho]; decide)
    ·
      refine wc_bipush X 29 (-2) dX11_many_29 (by decide) ?_
      exact ret 31 _ (-2) _ dX11_many_31 (⟨rfl, rfl⟩)

set_option maxHeartbeats 4000000 in
set_option maxRecDepth 100000 in
theorem c_X11_many0 (l : Launch) (G : GG) (o : Nat) (th : Int32) (qtx ts pl qrp qpg qtr qbk dn qkp qik sn qsw qsi : Nat) (sd : Int64) (qln qfm qby qwy wz qfo qon qmn qpr qle qst qwt rc tk ps gn : Nat) (bd : Int32) (qwo : Nat) (p : Nat → Nat) (n : Nat) (hr : pgOk p) (hn : n ≤ 9) : MM l G yX11_many (Cond.code yX11_many cX11_many 8 (some .int)) { frames := 3, cells := 0, slots := 0, locals := 72 } [.ref o, .int (nI n), .int (nI 0)] [ob o 11 [.int th, .ref qtx, .int (nI ts), .int (nI pl), .ref qrp, .ref qpg, .ref qtr, .ref qbk, .int (nI dn), .ref qkp, .ref qik, .int (nI sn), .ref qsw, .ref qsi, .long sd, .ref qln, .ref qfm, .ref qby, .ref qwy, .int (nI wz), .ref qfo, .ref qon, .ref qmn, .ref qpr, .ref qle, .ref qst, .ref qwt, .int (nI rc), .int (nI tk), .int (nI ps), .int (nI gn), .int bd, .ref qwo], aI G qpg 22 (nF p)] (fun (v : Option Value) (w : va_W) => v = some (.int (nI (manyV p n 0))) ∧ w = [ob o 11 [.int (nI 0), .ref qtx, .int (nI ts), .int (nI pl), .ref qrp, .ref qpg, .ref qtr, .ref qbk, .int (nI dn), .ref qkp, .ref qik, .int (nI sn), .ref qsw, .ref qsi, .long sd, .ref qln, .ref qfm, .ref qby, .ref qwy, .int (nI wz), .ref qfo, .ref qon, .ref qmn, .ref qpr, .ref qle, .ref qst, .ref qwt, .int (nI rc), .int (nI tk), .int (nI ps), .int (nI gn), .int bd, .ref qwo], aI G qpg 22 (nF p)]) 0 0 := by
  refine MM.ofI (by decide) rfl (fun Γ X Y hnm ret => ?_)
  show Wc Γ 0 0 0 [(0, .ref o), (1, .int (nI n)), (2, .int (nI 0))] [] [ob o 11 [.int th, .ref qtx, .int (nI ts), .int (nI pl), .ref qrp, .ref qpg, .ref qtr, .ref qbk, .int (nI dn), .ref qkp, .ref qik, .int (nI sn), .ref qsw, .ref qsi, .long sd, .ref qln, .ref qfm, .ref qby, .ref qwy, .int (nI wz), .ref qfo, .ref qon, .ref qmn, .ref qpr, .ref qle, .ref qst, .ref qwt, .int (nI rc), .int (nI tk), .int (nI ps), .int (nI gn), .int bd, .ref qwo], aI G qpg 22 (nF p)]
  have hpn := p9 hn
  have hgz : ∀ j, gz p j < 32 := mG_lt hr.2.2.2.2.1 0
  have hgo : ∀ j, go p j < 32 := mG_lt hr.2.2.2.2.1 1
  refine wc_aload_n X 0 0 dX11_many_0 rfl ?_
  refine wc_iconstN X 1 0 dX11_many_1 ?_
  refine wc_put X Y 2 0 0 kd11 rfl (by decide) q_765 rfl rfl rfl (Nat.le_of_ble_eq_true rfl) (ws' := [ob o 11 [.int (nI 0), .ref qtx, .int (nI ts), .int (nI pl), .ref qrp, .ref qpg, .ref qtr, .ref qbk, .int (nI dn), .ref qkp, .ref qik, .int (nI sn), .ref qsw, .ref qsi, .long sd, .ref qln, .ref qfm, .ref qby, .ref qwy, .int (nI wz), .ref qfo, .ref qon, .ref qmn, .ref qpr, .ref qle, .ref qst, .ref qwt, .int (nI rc), .int (nI tk), .int (nI ps), .int (nI gn), .int bd, .ref qwo], aI G qpg 22 (nF p)]) rfl dX11_many_2 ?_
  refine wc_iload_n X 5 1 dX11_many_5 rfl ?_
  refine wc_i2l X 6 dX11_many_6 ?_
  refine wc_lconst X 7 0 dX11_many_7 (by decide) ?_
  refine wc_ldc2 X 8 183 (9) q_996 dX11_many_8 ?_
  refine wc_callS X 11 [] (c_X11_in l G ((nI n).toInt64) 0 9 ) ys_X11_in rfl q_870 ⟨rfl, rfl⟩ ⟨rfl, rfl⟩ ⟨rfl, rfl⟩ rfl rfl rfl dX11_many_11 ?_
  refine wc_topi (b2i true) (congrArg b2i (inL_in (a := 0) (b := 9) rfl rfl (by omega) (by omega) (by omega))) ?_
  refine wc_if_eqB X 14 29 dX11_many_14 (by decide) (fun c14_1 => ?_) (fun c14_1 => ?_)
  ·
    exact absurd c14_1 (by decide)
  ·
    refine wc_iload_n X 17 2 dX11_many_17 rfl ?_
    refine wc_i2l X 18 dX11_many_18 ?_
    refine wc_lconst X 19 0 dX11_many_19 (by decide) ?_
    refine wc_ldc2 X 20 185 (3) q_997 dX11_many_20 ?_
    refine wc_callS X 23 [] (c_X11_in l G ((nI 0).toInt64) 0 3 ) ys_X11_in rfl q_870 ⟨rfl, rfl⟩ ⟨rfl, rfl⟩ ⟨rfl, rfl⟩ rfl rfl rfl dX11_many_23 ?_
    refine wc_topi (b2i true) (by decide) ?_
    refine wc_if_neB X 26 32 dX11_many_26 (by decide) (fun c26_2 => ?_) (fun c26_2 => ?_)
    ·
      refine wc_iconstN X 32 0 dX11_many_32 ?_
      refine wc_istore_n X 33 (L' := [(0, .ref o), (1, .int (nI n)), (2, .int (nI 0)), (3, .int (nI 0))]) dX11_many_33 (by decide) rfl ?_
      refine wc_iconstN X 34 0 dX11_many_34 ?_
      refine wc_istore X 35 (L' := [(0, .ref o), (1, .int (nI n)), (2, .int (nI 0)), (3, .int (nI 0)), (4, .int (nI 0))]) dX11_many_35 (by decide) rfl ?_
      have LP_4 : ∀ (fuel_3 : Nat) (b : Nat), (b ≤ 2 ^ n) → 2 ^ n - b < fuel_3 → Wc Γ 0 0 37 [(0, .ref o), (1, .int (nI n)), (2, .int (nI 0)), (3, .int (nI (manyB p n 0 b))), (4, .int (nI b))] [] [ob o 11 [.int (nI 0), .ref qtx, .int (nI ts), .int (nI pl), .ref qrp, .ref qpg, .ref qtr, .ref qbk, .int (nI dn), .ref qkp, .ref qik, .int (nI sn), .ref qsw, .ref qsi, .long sd, .ref qln, .ref qfm, .ref qby, .ref qwy, .int (nI wz), .ref qfo, .ref qon, .ref qmn, .ref qpr, .ref qle, .ref qst, .ref qwt, .int (nI rc), .int (nI tk), .int (nI ps), .int (nI gn), .int bd, .ref qwo], aI G qpg 22 (nF p)] := by
        intro fuel_3
        induction fuel_3 with
        | zero => intro b hb hm; exact absurd hm (Nat.not_lt_zero _)
        | succ fuel_3 ih_5 =>
          intro b hb hm_6
          refine wc_iload X 37 4 dX11_many_37 rfl ?_
          refine wc_iconstN X 39 1 dX11_many_39 ?_
          refine wc_iload_n X 40 1 dX11_many_40 rfl ?_
          refine wc_shl1 X 41 dX11_many_41 (by omega) ?_
          refine wc_icmp_geN X 42 179 dX11_many_42 (by decide) (by omega) (by omega) (fun c42_7 => ?_) (fun c42_7 => ?_)
          ·
            refine wc_iload_n X 179 3 dX11_many_179 rfl ?_
            exact ret 180 _ (nI (manyB p n 0 b)) _ dX11_many_180 (⟨by rw [show b = 2 ^ n by omega]; rfl, rfl⟩)
          ·
            refine wc_aload_n X 45 0 dX11_many_45 rfl ?_
            refine wc_get X 46 0 5 kd11 rfl (by decide) q_770 rfl dX11_many_46 ?_
            refine wc_iconstN X 49 0 dX11_many_49 ?_
            refine wc_iload X 50 4 dX11_many_50 rfl ?_
            refine wc_iload_n X 52 1 dX11_many_52 rfl ?_
            refine wc_callS X 53 [1] (c_X11_afterBits l G qpg p 0 b n hr.2.1 hr.2.2.2.1 hr.2.2.2.2.1 (by decide) (by omega) (by omega)) ys_X11_afterBits rfl q_998 ⟨rfl, rfl⟩ ⟨rfl, rfl⟩ ⟨rfl, rfl⟩ rfl rfl rfl dX11_many_53 ?_
            refine wc_topi (nI (afterB (gz p) (p 0) b n)) (congrArg nI (rfl)) ?_
            refine wc_aload_n X 56 0 dX11_many_56 rfl ?_
            refine wc_get X 57 0 5 kd11 rfl (by decide) q_770 rfl dX11_many_57 ?_
            refine wc_iconstN X 60 2 dX11_many_60 ?_
            refine wc_ialdG X 61 1 rfl (by decide) (by decide) dX11_many_61 ?_
            refine wc_iandN X 62 dX11_many_62 ?_
            refine wc_if_eqN X 63 70 dX11_many_63 (by decide) (and_lt (Nat.lt_trans (afterB_lt hgz _ _ _) (by decide))) (fun c63_8 => ?_) (fun c63_8 => ?_)
            ·
              refine wc_iconstN X 70 0 dX11_many_70 ?_
              refine wc_istore X 71 (L' := [(0, .ref o), (1, .int (nI n)), (2, .int (nI 0)), (3, .int (nI (manyB p n 0 b))), (4, .int (nI b)), (5, .int (nI 0))]) dX11_many_71 (by decide) rfl ?_
              refine wc_aload_n X 73 0 dX11_many_73 rfl ?_
              refine wc_get X 74 0 5 kd11 rfl (by decide) q_770 rfl dX11_many_74 ?_
              refine wc_iconstN X 77 1 dX11_many_77 ?_
              refine wc_iload X 78 4 dX11_many_78 rfl ?_
              refine wc_iload_n X 80 1 dX11_many_80 rfl ?_
              refine wc_callS X 81 [1] (c_X11_afterBits l G qpg p 1 b n hr.2.1 hr.2.2.2.1 hr.2.2.2.2.1 (by decide) (by omega) (by omega)) ys_X11_afterBits rfl q_998 ⟨rfl, rfl⟩ ⟨rfl, rfl⟩ ⟨rfl, rfl⟩ rfl rfl rfl dX11_many_81 ?_
              refine wc_topi (nI (afterB (go p) (p 1) b n)) (congrArg nI (rfl)) ?_
              refine wc_aload_n X 84 0 dX11_many_84 rfl ?_
              refine wc_get X 85 0 5 kd11 rfl (by decide) q_770 rfl dX11_many_85 ?_
              refine wc_iconstN X 88 3 dX11_many_88 ?_
              refine wc_ialdG X 89 1 rfl (by decide) (by decide) dX11_many_89 ?_
              refine wc_iandN X 90 dX11_many_90 ?_
              refine wc_if_eqN X 91 98 dX11_many_91 (by decide) (and_lt (Nat.lt_trans (afterB_lt hgo _ _ _) (by decide))) (fun c91_9 => ?_) (fun c91_9 => ?_)
              ·
                refine wc_iconstN X 98 0 dX11_many_98 ?_
                refine wc_istore X 99 (L' := [(0, .ref o), (1, .int (nI n)), (2, .int (nI 0)), (3, .int (nI (manyB p n 0 b))), (4, .int (nI b)), (5, .int (nI 0)), (6, .int (nI 0))]) dX11_many_99 (by decide) rfl ?_
                refine wc_iload_n X 101 2 dX11_many_101 rfl ?_
                refine wc_if_neN X 102 110 dX11_many_102 (by decide) (by decide) (fun c102_10 => ?_) (fun c102_10 => ?_)
                ·
                  exact absurd c102_10 (by decide)
                ·
                  refine wc_iload X 105 5 dX11_many_105 rfl ?_
                  refine wc_goto X 107 158 dX11_many_107 (by decide) ?_
                  refine wc_istore X 158 (L' := [(0, .ref o), (1, .int (nI n)), (2, .int (nI 0)), (3, .int (nI (manyB p n 0 b))), (4, .int (nI b)), (5, .int (nI 0)), (6, .int (nI 0)), (7, .int (nI 0))]) dX11_many_158 (by decide) rfl ?_
                  refine wc_iload_n X 160 3 dX11_many_160 rfl ?_
                  refine wc_iload X 161 7 dX11_many_161 rfl ?_
                  refine wc_if_eqN X 163 170 dX11_many_163 (by decide) (by decide) (fun c163_11 => ?_) (fun c163_11 => ?_)
                  ·
                    refine wc_iconstN X 170 0 dX11_many_170 ?_
                    refine wc_iaddN X 171 dX11_many_171 ?_
                    refine wc_istore_n X 172 (L' := [(0, .ref o), (1, .int (nI n)), (2, .int (nI 0)), (3, .int (nI ((manyB p n 0 b) + 0))), (4, .int (nI b)), (5, .int (nI 0)), (6, .int (nI 0)), (7, .int (nI 0))]) dX11_many_172 (by decide) rfl ?_
                    refine wc_iincN X 173 4 (L' := [(0, .ref o), (1, .int (nI n)), (2, .int (nI 0)), (3, .int (nI ((manyB p n 0 b) + 0))), (4, .int (nI (b + 1))), (5, .int (nI 0)), (6, .int (nI 0)), (7, .int (nI 0))]) dX11_many_173 rfl (by decide) rfl ?_
                    refine wc_goto X 176 37 dX11_many_176 (by decide) ?_
                    have ha9 : (afterB (gz p) (p 0) b n &&& p 2 != 0) = false := by simpa using c63_8
                    have hb9 : (afterB (go p) (p 1) b n &&& p 3 != 0) = false := by simpa using c91_9
                    refine wc_loc [0, 1, 2, 3, 4] (L' := [(0, .ref o), (1, .int (nI n)), (2, .int (nI 0)), (3, .int (nI ((manyB p n 0 b) + 0))), (4, .int (nI (b + 1)))]) rfl ?_
                    have e_12 : (manyB p n 0 b) + 0 = manyB p n 0 (b + 1) := many_s ha9 hb9 (by decide)
                    refine wc_L (L' := [(0, .ref o), (1, .int (nI n)), (2, .int (nI 0)), (3, .int (nI (manyB p n 0 (b + 1)))), (4, .int (nI (b + 1)))]) (by first | (rw [e_12]; done) | (rw [e_12]; rfl) | (rw [← e_12]; done) | rfl) ?_
                    exact ih_5 (b + 1) (by omega) (by omega)
                  ·
                    exact absurd c163_11 (by decide)
              ·
                refine wc_iconstN X 94 1 dX11_many_94 ?_
                refine wc_goto X 95 99 dX11_many_95 (by decide) ?_
                refine wc_istore X 99 (L' := [(0, .ref o), (1, .int (nI n)), (2, .int (nI 0)), (3, .int (nI (manyB p n 0 b))), (4, .int (nI b)), (5, .int (nI 0)), (6, .int (nI 1))]) dX11_many_99 (by decide) rfl ?_
                refine wc_iload_n X 101 2 dX11_many_101 rfl ?_
                refine wc_if_neN X 102 110 dX11_many_102 (by decide) (by decide) (fun c102_13 => ?_) (fun c102_13 => ?_)
                ·
                  exact absurd c102_13 (by decide)
                ·
                  refine wc_iload X 105 5 dX11_many_105 rfl ?_
                  refine wc_goto X 107 158 dX11_many_107 (by decide) ?_
                  refine wc_istore X 158 (L' := [(0, .ref o), (1, .int (nI n)), (2, .int (nI 0)), (3, .int (nI (manyB p n 0 b))), (4, .int (nI b)), (5, .int (nI 0)), (6, .int (nI 1)), (7, .int (nI 0))]) dX11_many_158 (by decide) rfl ?_
                  refine wc_iload_n X 160 3 dX11_many_160 rfl ?_
                  refine wc_iload X 161 7 dX11_many_161 rfl ?_
                  refine wc_if_eqN X 163 170 dX11_many_163 (by decide) (by decide) (fun c163_14 => ?_) (fun c163_14 => ?_)
                  ·
                    refine wc_iconstN X 170 0 dX11_many_170 ?_
                    refine wc_iaddN X 171 dX11_many_171 ?_
                    refine wc_istore_n X 172 (L' := [(0, .ref o), (1, .int (nI n)), (2, .int (nI 0)), (3, .int (nI ((manyB p n 0 b) + 0))), (4, .int (nI b)), (5, .int (nI 0)), (6, .int (nI 1)), (7, .int (nI 0))]) dX11_many_172 (by decide) rfl ?_
                    refine wc_iincN X 173 4 (L' := [(0, .ref o), (1, .int (nI n)), (2, .int (nI 0)), (3, .int (nI ((manyB p n 0 b) + 0))), (4, .int (nI (b + 1))), (5, .int (nI 0)), (6, .int (nI 1)), (7, .int (nI 0))]) dX11_many_173 rfl (by decide) rfl ?_
                    refine wc_goto X 176 37 dX11_many_176 (by decide) ?_
                    have ha9 : (afterB (gz p) (p 0) b n &&& p 2 != 0) = false := by simpa using c63_8
                    have hb9 : (afterB (go p) (p 1) b n &&& p 3 != 0) = true := by simpa using c91_9
                    refine wc_loc [0, 1, 2, 3, 4] (L' := [(0, .ref o), (1, .int (nI n)), (2, .int (nI 0)), (3, .int (nI ((manyB p n 0 b) + 0))), (4, .int (nI (b + 1)))]) rfl ?_
                    have e_15 : (manyB p n 0 b) + 0 = manyB p n 0 (b + 1) := many_s ha9 hb9 (by decide)
                    refine wc_L (L' := [(0, .ref o), (1, .int (nI n)), (2, .int (nI 0)), (3, .int (nI (manyB p n 0 (b + 1)))), (4, .int (nI (b + 1)))]) (by first | (rw [e_15]; done) | (rw [e_15]; rfl) | (rw [← e_15]; done) | rfl) ?_
                    exact ih_5 (b + 1) (by omega) (by omega)
                  ·
                    exact absurd c163_14 (by decide)
            ·
              refine wc_iconstN X 66 1 dX11_many_66 ?_
              refine wc_goto X 67 71 dX11_many_67 (by decide) ?_
              refine wc_istore X 71 (L' := [(0, .ref o), (1, .int (nI n)), (2, .int (nI 0)), (3, .int (nI (manyB p n 0 b))), (4, .int (nI b)), (5, .int (nI 1))]) dX11_many_71 (by decide) rfl ?_
              refine wc_aload_n X 73 0 dX11_many_73 rfl ?_
              refine wc_get X 74 0 5 kd11 rfl (by decide) q_770 rfl dX11_many_74 ?_
              refine wc_iconstN X 77 1 dX11_many_77 ?_
              refine wc_iload X 78 4 dX11_many_78 rfl ?_
              refine wc_iload_n X 80 1 dX11_many_80 rfl ?_
              refine wc_callS X 81 [1] (c_X11_afterBits l G qpg p 1 b n hr.2.1 hr.2.2.2.1 hr.2.2.2.2.1 (by decide) (by omega) (by omega)) ys_X11_afterBits rfl q_998 ⟨rfl, rfl⟩ ⟨rfl, rfl⟩ ⟨rfl, rfl⟩ rfl rfl rfl dX11_many_81 ?_
              refine wc_topi (nI (afterB (go p) (p 1) b n)) (congrArg nI (rfl)) ?_
              refine wc_aload_n X 84 0 dX11_many_84 rfl ?_
              refine wc_get X 85 0 5 kd11 rfl (by decide) q_770 rfl dX11_many_85 ?_
              refine wc_iconstN X 88 3 dX11_many_88 ?_
              refine wc_ialdG X 89 1 rfl (by decide) (by decide) dX11_many_89 ?_
              refine wc_iandN X 90 dX11_many_90 ?_
              refine wc_if_eqN X 91 98 dX11_many_91 (by decide) (and_lt (Nat.lt_trans (afterB_lt hgo _ _ _) (by decide))) (fun c91_16 => ?_) (fun c91_16 => ?_)
              ·
                refine wc_iconstN X 98 0 dX11_many_98 ?_
                refine wc_istore X 99 (L' := [(0, .ref o), (1, .int (nI n)), (2, .int (nI 0)), (3, .int (nI (manyB p n 0 b))), (4, .int (nI b)), (5, .int (nI 1)), (6, .int (nI 0))]) dX11_many_99 (by decide) rfl ?_
                refine wc_iload_n X 101 2 dX11_many_101 rfl ?_
                refine wc_if_neN X 102 110 dX11_many_102 (by decide) (by decide) (fun c102_17 => ?_) (fun c102_17 => ?_)
                ·
                  exact absurd c102_17 (by decide)
                ·
                  refine wc_iload X 105 5 dX11_many_105 rfl ?_
                  refine wc_goto X 107 158 dX11_many_107 (by decide) ?_
                  refine wc_istore X 158 (L' := [(0, .ref o), (1, .int (nI n)), (2, .int (nI 0)), (3, .int (nI (manyB p n 0 b))), (4, .int (nI b)), (5, .int (nI 1)), (6, .int (nI 0)), (7, .int (nI 1))]) dX11_many_158 (by decide) rfl ?_
                  refine wc_iload_n X 160 3 dX11_many_160 rfl ?_
                  refine wc_iload X 161 7 dX11_many_161 rfl ?_
                  refine wc_if_eqN X 163 170 dX11_many_163 (by decide) (by decide) (fun c163_18 => ?_) (fun c163_18 => ?_)
                  ·
                    exact absurd c163_18 (by decide)
                  ·
                    refine wc_iconstN X 166 1 dX11_many_166 ?_
                    refine wc_goto X 167 171 dX11_many_167 (by decide) ?_
                    refine wc_iaddN X 171 dX11_many_171 ?_
                    refine wc_istore_n X 172 (L' := [(0, .ref o), (1, .int (nI n)), (2, .int (nI 0)), (3, .int (nI ((manyB p n 0 b) + 1))), (4, .int (nI b)), (5, .int (nI 1)), (6, .int (nI 0)), (7, .int (nI 1))]) dX11_many_172 (by decide) rfl ?_
                    refine wc_iincN X 173 4 (L' := [(0, .ref o), (1, .int (nI n)), (2, .int (nI 0)), (3, .int (nI ((manyB p n 0 b) + 1))), (4, .int (nI (b + 1))), (5, .int (nI 1)), (6, .int (nI 0)), (7, .int (nI 1))]) dX11_many_173 rfl (by decide) rfl ?_
                    refine wc_goto X 176 37 dX11_many_176 (by decide) ?_
                    have ha9 : (afterB (gz p) (p 0) b n &&& p 2 != 0) = true := by simpa using c63_8
                    have hb9 : (afterB (go p) (p 1) b n &&& p 3 != 0) = false := by simpa using c91_16
                    refine wc_loc [0, 1, 2, 3, 4] (L' := [(0, .ref o), (1, .int (nI n)), (2, .int (nI 0)), (3, .int (nI ((manyB p n 0 b) + 1))), (4, .int (nI (b + 1)))]) rfl ?_
                    have e_19 : (manyB p n 0 b) + 1 = manyB p n 0 (b + 1) := many_s ha9 hb9 (by decide)
                    refine wc_L (L' := [(0, .ref o), (1, .int (nI n)), (2, .int (nI 0)), (3, .int (nI (manyB p n 0 (b + 1)))), (4, .int (nI (b + 1)))]) (by first | (rw [e_19]; done) | (rw [e_19]; rfl) | (rw [← e_19]; done) | rfl) ?_
                    exact ih_5 (b + 1) (by omega) (by omega)
              ·
                refine wc_iconstN X 94 1 dX11_many_94 ?_
                refine wc_goto X 95 99 dX11_many_95 (by decide) ?_
                refine wc_istore X 99 (L' := [(0, .ref o), (1, .int (nI n)), (2, .int (nI 0)), (3, .int (nI (manyB p n 0 b))), (4, .int (nI b)), (5, .int (nI 1)), (6, .int (nI 1))]) dX11_many_99 (by decide) rfl ?_
                refine wc_iload_n X 101 2 dX11_many_101 rfl ?_
                refine wc_if_neN X 102 110 dX11_many_102 (by decide) (by decide) (fun c102_20 => ?_) (fun c102_20 => ?_)
                ·
                  exact absurd c102_20 (by decide)
                ·
                  refine wc_iload X 105 5 dX11_many_105 rfl ?_
                  refine wc_goto X 107 158 dX11_many_107 (by decide) ?_
                  refine wc_istore X 158 (L' := [(0, .ref o), (1, .int (nI n)), (2, .int (nI 0)), (3, .int (nI (manyB p n 0 b))), (4, .int (nI b)), (5, .int (nI 1)), (6, .int (nI 1)), (7, .int (nI 1))]) dX11_many_158 (by decide) rfl ?_
                  refine wc_iload_n X 160 3 dX11_many_160 rfl ?_
                  refine wc_iload X 161 7 dX11_many_161 rfl ?_
                  refine wc_if_eqN X 163 170 dX11_many_163 (by decide) (by decide) (fun c163_21 => ?_) (fun c163_21 => ?_)
                  ·
                    exact absurd c163_21 (by decide)
                  ·
                    refine wc_iconstN X 166 1 dX11_many_166 ?_
                    refine wc_goto X 167 171 dX11_many_167 (by decide) ?_
                    refine wc_iaddN X 171 dX11_many_171 ?_
                    refine wc_istore_n X 172 (L' := [(0, .ref o), (1, .int (nI n)), (2, .int (nI 0)), (3, .int (nI ((manyB p n 0 b) + 1))), (4, .int (nI b)), (5, .int (nI 1)), (6, .int (nI 1)), (7, .int (nI 1))]) dX11_many_172 (by decide) rfl ?_
                    refine wc_iincN X 173 4 (L' := [(0, .ref o), (1, .int (nI n)), (2, .int (nI 0)), (3, .int (nI ((manyB p n 0 b) + 1))), (4, .int (nI (b + 1))), (5, .int (nI 1)), (6, .int (nI 1)), (7, .int (nI 1))]) dX11_many_173 rfl (by decide) rfl ?_
                    refine wc_goto X 176 37 dX11_many_176 (by decide) ?_
                    have ha9 : (afterB (gz p) (p 0) b n &&& p 2 != 0) = true := by simpa using c63_8
                    have hb9 : (afterB (go p) (p 1) b n &&& p 3 != 0) = true := by simpa using c91_16
                    refine wc_loc [0, 1, 2, 3, 4] (L' := [(0, .ref o), (1, .int (nI n)), (2, .int (nI 0)), (3, .int (nI ((manyB p n 0 b) + 1))), (4, .int (nI (b + 1)))]) rfl ?_
                    have e_22 : (manyB p n 0 b) + 1 = manyB p n 0 (b + 1) := many_s ha9 hb9 (by decide)
                    refine wc_L (L' := [(0, .ref o), (1, .int (nI n)), (2, .int (nI 0)), (3, .int (nI (manyB p n 0 (b + 1)))), (4, .int (nI (b + 1)))]) (by first | (rw [e_22]; done) | (rw [e_22]; rfl) | (rw [← e_22]; done) | rfl) ?_
                    exact ih_5 (b + 1) (by omega) (by omega)
      have e_23 : 0 = manyB p n 0 0 := rfl
      refine wc_L (L' := [(0, .ref o), (1, .int (nI n)), (2, .int (nI 0)), (3, .int (nI (manyB p n 0 0))), (4, .int (nI 0))]) (by first | (rw [e_23]; done) | (rw [e_23]; rfl) | (rw [← e_23]; done) | rfl) ?_
      exact LP_4 (2 ^ n - 0 + 1) 0 (by omega) (Nat.lt_succ_self _)
    ·
      exact absurd c26_2 (by decide)

set_option maxHeartbeats 4000000 in
set_option maxRecDepth 100000 in
theorem c_X11_many1 (l : Launch) (G : GG) (o : Nat) (th : Int32) (qtx ts pl qrp qpg qtr qbk dn qkp qik sn qsw qsi : Nat) (sd : Int64) (qln qfm qby qwy wz qfo qon qmn qpr qle qst qwt rc tk ps gn : Nat) (bd : Int32) (qwo : Nat) (p : Nat → Nat) (n : Nat) (hr : pgOk p) (hn : n ≤ 9) : MM l G yX11_many (Cond.code yX11_many cX11_many 8 (some .int)) { frames := 3, cells := 0, slots := 0, locals := 72 } [.ref o, .int (nI n), .int (nI 1)] [ob o 11 [.int th, .ref qtx, .int (nI ts), .int (nI pl), .ref qrp, .ref qpg, .ref qtr, .ref qbk, .int (nI dn), .ref qkp, .ref qik, .int (nI sn), .ref qsw, .ref qsi, .long sd, .ref qln, .ref qfm, .ref qby, .ref qwy, .int (nI wz), .ref qfo, .ref qon, .ref qmn, .ref qpr, .ref qle, .ref qst, .ref qwt, .int (nI rc), .int (nI tk), .int (nI ps), .int (nI gn), .int bd, .ref qwo], aI G qpg 22 (nF p)] (fun (v : Option Value) (w : va_W) => v = some (.int (nI (manyV p n 1))) ∧ w = [ob o 11 [.int (nI 0), .ref qtx, .int (nI ts), .int (nI pl), .ref qrp, .ref qpg, .ref qtr, .ref qbk, .int (nI dn), .ref qkp, .ref qik, .int (nI sn), .ref qsw, .ref qsi, .long sd, .ref qln, .ref qfm, .ref qby, .ref qwy, .int (nI wz), .ref qfo, .ref qon, .ref qmn, .ref qpr, .ref qle, .ref qst, .ref qwt, .int (nI rc), .int (nI tk), .int (nI ps), .int (nI gn), .int bd, .ref qwo], aI G qpg 22 (nF p)]) 0 0 := by
  refine MM.ofI (by decide) rfl (fun Γ X Y hnm ret => ?_)
  show Wc Γ 0 0 0 [(0, .ref o), (1, .int (nI n)), (2, .int (nI 1))] [] [ob o 11 [.int th, .ref qtx, .int (nI ts), .int (nI pl), .ref qrp, .ref qpg, .ref qtr, .ref qbk, .int (nI dn), .ref qkp, .ref qik, .int (nI sn), .ref qsw, .ref qsi, .long sd, .ref qln, .ref qfm, .ref qby, .ref qwy, .int (nI wz), .ref qfo, .ref qon, .ref qmn, .ref qpr, .ref qle, .ref qst, .ref qwt, .int (nI rc), .int (nI tk), .int (nI ps), .int (nI gn), .int bd, .ref qwo], aI G qpg 22 (nF p)]
  have hpn := p9 hn
  have hgz : ∀ j, gz p j < 32 := mG_lt hr.2.2.2.2.1 0
  have hgo : ∀ j, go p j < 32 := mG_lt hr.2.2.2.2.1 1
  refine wc_aload_n X 0 0 dX11_many_0 rfl ?_
  refine wc_iconstN X 1 0 dX11_many_1 ?_
  refine wc_put X Y 2 0 0 kd11 rfl (by decide) q_765 rfl rfl rfl (Nat.le_of_ble_eq_true rfl) (ws' := [ob o 11 [.int (nI 0), .ref qtx, .int (nI ts), .int (nI pl), .ref qrp, .ref qpg, .ref qtr, .ref qbk, .int (nI dn), .ref qkp, .ref qik, .int (nI sn), .ref qsw, .ref qsi, .long sd, .ref qln, .ref qfm, .ref qby, .ref qwy, .int (nI wz), .ref qfo, .ref qon, .ref qmn, .ref qpr, .ref qle, .ref qst, .ref qwt, .int (nI rc), .int (nI tk), .int (nI ps), .int (nI gn), .int bd, .ref qwo], aI G qpg 22 (nF p)]) rfl dX11_many_2 ?_
  refine wc_iload_n X 5 1 dX11_many_5 rfl ?_
  refine wc_i2l X 6 dX11_many_6 ?_
  refine wc_lconst X 7 0 dX11_many_7 (by decide) ?_
  refine wc_ldc2 X 8 183 (9) q_996 dX11_many_8 ?_
  refine wc_callS X 11 [] (c_X11_in l G ((nI n).toInt64) 0 9 ) ys_X11_in rfl q_870 ⟨rfl, rfl⟩ ⟨rfl, rfl⟩ ⟨rfl, rfl⟩ rfl rfl rfl dX11_many_11 ?_
  refine wc_topi (b2i true) (congrArg b2i (inL_in (a := 0) (b := 9) rfl rfl (by omega) (by omega) (by omega))) ?_
  refine wc_if_eqB X 14 29 dX11_many_14 (by decide) (fun c14_1 => ?_) (fun c14_1 => ?_)
  ·
    exact absurd c14_1 (by decide)
  ·
    refine wc_iload_n X 17 2 dX11_many_17 rfl ?_
    refine wc_i2l X 18 dX11_many_18 ?_
    refine wc_lconst X 19 0 dX11_many_19 (by decide) ?_
    refine wc_ldc2 X 20 185 (3) q_997 dX11_many_20 ?_
    refine wc_callS X 23 [] (c_X11_in l G ((nI 1).toInt64) 0 3 ) ys_X11_in rfl q_870 ⟨rfl, rfl⟩ ⟨rfl, rfl⟩ ⟨rfl, rfl⟩ rfl rfl rfl dX11_many_23 ?_
    refine wc_topi (b2i true) (by decide) ?_
    refine wc_if_neB X 26 32 dX11_many_26 (by decide) (fun c26_2 => ?_) (fun c26_2 => ?_)
    ·
      refine wc_iconstN X 32 0 dX11_many_32 ?_
      refine wc_istore_n X 33 (L' := [(0, .ref o), (1, .int (nI n)), (2, .int (nI 1)), (3, .int (nI 0))]) dX11_many_33 (by decide) rfl ?_
      refine wc_iconstN X 34 0 dX11_many_34 ?_
      refine wc_istore X 35 (L' := [(0, .ref o), (1, .int (nI n)), (2, .int (nI 1)), (3, .int (nI 0)), (4, .int (nI 0))]) dX11_many_35 (by decide) rfl ?_
      have LP_4 : ∀ (fuel_3 : Nat) (b : Nat), (b ≤ 2 ^ n) → 2 ^ n - b < fuel_3 → Wc Γ 0 0 37 [(0, .ref o), (1, .int (nI n)), (2, .int (nI 1)), (3, .int (nI (manyB p n 1 b))), (4, .int (nI b))] [] [ob o 11 [.int (nI 0), .ref qtx, .int (nI ts), .int (nI pl), .ref qrp, .ref qpg, .ref qtr, .ref qbk, .int (nI dn), .ref qkp, .ref qik, .int (nI sn), .ref qsw, .ref qsi, .long sd, .ref qln, .ref qfm, .ref qby, .ref qwy, .int (nI wz), .ref qfo, .ref qon, .ref qmn, .ref qpr, .ref qle, .ref qst, .ref qwt, .int (nI rc), .int (nI tk), .int (nI ps), .int (nI gn), .int bd, .ref qwo], aI G qpg 22 (nF p)] := by
        intro fuel_3
        induction fuel_3 with
        | zero => intro b hb hm; exact absurd hm (Nat.not_lt_zero _)
        | succ fuel_3 ih_5 =>
          intro b hb hm_6
          refine wc_iload X 37 4 dX11_many_37 rfl ?_
          refine wc_iconstN X 39 1 dX11_many_39 ?_
          refine wc_iload_n X 40 1 dX11_many_40 rfl ?_
          refine wc_shl1 X 41 dX11_many_41 (by omega) ?_
          refine wc_icmp_geN X 42 179 dX11_many_42 (by decide) (by omega) (by omega) (fun c42_7 => ?_) (fun c42_7 => ?_)
          ·
            refine wc_iload_n X 179 3 dX11_many_179 rfl ?_
            exact ret 180 _ (nI (manyB p n 1 b)) _ dX11_many_180 (⟨by rw [show b = 2 ^ n by omega]; rfl, rfl⟩)
          ·
            refine wc_aload_n X 45 0 dX11_many_45 rfl ?_
            refine wc_get X 46 0 5 kd11 rfl (by decide) q_770 rfl dX11_many_46 ?_
            refine wc_iconstN X 49 0 dX11_many_49 ?_
            refine wc_iload X 50 4 dX11_many_50 rfl ?_
            refine wc_iload_n X 52 1 dX11_many_52 rfl ?_
            refine wc_callS X 53 [1] (c_X11_afterBits l G qpg p 0 b n hr.2.1 hr.2.2.2.1 hr.2.2.2.2.1 (by decide) (by omega) (by omega)) ys_X11_afterBits rfl q_998 ⟨rfl, rfl⟩ ⟨rfl, rfl⟩ ⟨rfl, rfl⟩ rfl rfl rfl dX11_many_53 ?_
            refine wc_topi (nI (afterB (gz p) (p 0) b n)) (congrArg nI (rfl)) ?_
            refine wc_aload_n X 56 0 dX11_many_56 rfl ?_
            refine wc_get X 57 0 5 kd11 rfl (by decide) q_770 rfl dX11_many_57 ?_
            refine wc_iconstN X 60 2 dX11_many_60 ?_
            refine wc_ialdG X 61 1 rfl (by decide) (by decide) dX11_many_61 ?_
            refine wc_iandN X 62 dX11_many_62 ?_
            refine wc_if_eqN X 63 70 dX11_many_63 (by decide) (and_lt (Nat.lt_trans (afterB_lt hgz _ _ _) (by decide))) (fun c63_8 => ?_) (fun c63_8 => ?_)
            ·
              refine wc_iconstN X 70 0 dX11_many_70 ?_
              refine wc_istore X 71 (L' := [(0, .ref o), (1, .int (nI n)), (2, .int (nI 1)), (3, .int (nI (manyB p n 1 b))), (4, .int (nI b)), (5, .int (nI 0))]) dX11_many_71 (by decide) rfl ?_
              refine wc_aload_n X 73 0 dX11_many_73 rfl ?_
              refine wc_get X 74 0 5 kd11 rfl (by decide) q_770 rfl dX11_many_74 ?_
              refine wc_iconstN X 77 1 dX11_many_77 ?_
              refine wc_iload X 78 4 dX11_many_78 rfl ?_
              refine wc_iload_n X 80 1 dX11_many_80 rfl ?_
              refine wc_callS X 81 [1] (c_X11_afterBits l G qpg p 1 b n hr.2.1 hr.2.2.2.1 hr.2.2.2.2.1 (by decide) (by omega) (by omega)) ys_X11_afterBits rfl q_998 ⟨rfl, rfl⟩ ⟨rfl, rfl⟩ ⟨rfl, rfl⟩ rfl rfl rfl dX11_many_81 ?_
              refine wc_topi (nI (afterB (go p) (p 1) b n)) (congrArg nI (rfl)) ?_
              refine wc_aload_n X 84 0 dX11_many_84 rfl ?_
              refine wc_get X 85 0 5 kd11 rfl (by decide) q_770 rfl dX11_many_85 ?_
              refine wc_iconstN X 88 3 dX11_many_88 ?_
              refine wc_ialdG X 89 1 rfl (by decide) (by decide) dX11_many_89 ?_
              refine wc_iandN X 90 dX11_many_90 ?_
              refine wc_if_eqN X 91 98 dX11_many_91 (by decide) (and_lt (Nat.lt_trans (afterB_lt hgo _ _ _) (by decide))) (fun c91_9 => ?_) (fun c91_9 => ?_)
              ·
                refine wc_iconstN X 98 0 dX11_many_98 ?_
                refine wc_istore X 99 (L' := [(0, .ref o), (1, .int (nI n)), (2, .int (nI 1)), (3, .int (nI (manyB p n 1 b))), (4, .int (nI b)), (5, .int (nI 0)), (6, .int (nI 0))]) dX11_many_99 (by decide) rfl ?_
                refine wc_iload_n X 101 2 dX11_many_101 rfl ?_
                refine wc_if_neN X 102 110 dX11_many_102 (by decide) (by decide) (fun c102_10 => ?_) (fun c102_10 => ?_)
                ·
                  refine wc_iload_n X 110 2 dX11_many_110 rfl ?_
                  refine wc_iconstN X 111 1 dX11_many_111 ?_
                  refine wc_icmp_neN X 112 120 dX11_many_112 (by decide) (by decide) (by decide) (fun c112_11 => ?_) (fun c112_11 => ?_)
                  ·
                    exact absurd c112_11 (by decide)
                  ·
                    refine wc_iload X 115 6 dX11_many_115 rfl ?_
                    refine wc_goto X 117 158 dX11_many_117 (by decide) ?_
                    refine wc_istore X 158 (L' := [(0, .ref o), (1, .int (nI n)), (2, .int (nI 1)), (3, .int (nI (manyB p n 1 b))), (4, .int (nI b)), (5, .int (nI 0)), (6, .int (nI 0)), (7, .int (nI 0))]) dX11_many_158 (by decide) rfl ?_
                    refine wc_iload_n X 160 3 dX11_many_160 rfl ?_
                    refine wc_iload X 161 7 dX11_many_161 rfl ?_
                    refine wc_if_eqN X 163 170 dX11_many_163 (by decide) (by decide) (fun c163_12 => ?_) (fun c163_12 => ?_)
                    ·
                      refine wc_iconstN X 170 0 dX11_many_170 ?_
                      refine wc_iaddN X 171 dX11_many_171 ?_
                      refine wc_istore_n X 172 (L' := [(0, .ref o), (1, .int (nI n)), (2, .int (nI 1)), (3, .int (nI ((manyB p n 1 b) + 0))), (4, .int (nI b)), (5, .int (nI 0)), (6, .int (nI 0)), (7, .int (nI 0))]) dX11_many_172 (by decide) rfl ?_
                      refine wc_iincN X 173 4 (L' := [(0, .ref o), (1, .int (nI n)), (2, .int (nI 1)), (3, .int (nI ((manyB p n 1 b) + 0))), (4, .int (nI (b + 1))), (5, .int (nI 0)), (6, .int (nI 0)), (7, .int (nI 0))]) dX11_many_173 rfl (by decide) rfl ?_
                      refine wc_goto X 176 37 dX11_many_176 (by decide) ?_
                      have ha9 : (afterB (gz p) (p 0) b n &&& p 2 != 0) = false := by simpa using c63_8
                      have hb9 : (afterB (go p) (p 1) b n &&& p 3 != 0) = false := by simpa using c91_9
                      refine wc_loc [0, 1, 2, 3, 4] (L' := [(0, .ref o), (1, .int (nI n)), (2, .int (nI 1)), (3, .int (nI ((manyB p n 1 b) + 0))), (4, .int (nI (b + 1)))]) rfl ?_
                      have e_13 : (manyB p n 1 b) + 0 = manyB p n 1 (b + 1) := many_s ha9 hb9 (by decide)
                      refine wc_L (L' := [(0, .ref o), (1, .int (nI n)), (2, .int (nI 1)), (3, .int (nI (manyB p n 1 (b + 1)))), (4, .int (nI (b + 1)))]) (by first | (rw [e_13]; done) | (rw [e_13]; rfl) | (rw [← e_13]; done) | rfl) ?_
                      exact ih_5 (b + 1) (by omega) (by omega)
                    ·
                      exact absurd c163_12 (by decide)
                ·
                  exact absurd c102_10 (by decide)
              ·
                refine wc_iconstN X 94 1 dX11_many_94 ?_
                refine wc_goto X 95 99 dX11_many_95 (by decide) ?_
                refine wc_istore X 99 (L' := [(0, .ref o), (1, .int (nI n)), (2, .int (nI 1)), (3, .int (nI (manyB p n 1 b))), (4, .int (nI b)), (5, .int (nI 0)), (6, .int (nI 1))]) dX11_many_99 (by decide) rfl ?_
                refine wc_iload_n X 101 2 dX11_many_101 rfl ?_
                refine wc_if_neN X 102 110 dX11_many_102 (by decide) (by decide) (fun c102_14 => ?_) (fun c102_14 => ?_)
                ·
                  refine wc_iload_n X 110 2 dX11_many_110 rfl ?_
                  refine wc_iconstN X 111 1 dX11_many_111 ?_
                  refine wc_icmp_neN X 112 120 dX11_many_112 (by decide) (by decide) (by decide) (fun c112_15 => ?_) (fun c112_15 => ?_)
                  ·
                    exact absurd c112_15 (by decide)
                  ·
                    refine wc_iload X 115 6 dX11_many_115 rfl ?_
                    refine wc_goto X 117 158 dX11_many_117 (by decide) ?_
                    refine wc_istore X 158 (L' := [(0, .ref o), (1, .int (nI n)), (2, .int (nI 1)), (3, .int (nI (manyB p n 1 b))), (4, .int (nI b)), (5, .int (nI 0)), (6, .int (nI 1)), (7, .int (nI 1))]) dX11_many_158 (by decide) rfl ?_
                    refine wc_iload_n X 160 3 dX11_many_160 rfl ?_
                    refine wc_iload X 161 7 dX11_many_161 rfl ?_
                    refine wc_if_eqN X 163 170 dX11_many_163 (by decide) (by decide) (fun c163_16 => ?_) (fun c163_16 => ?_)
                    ·
                      exact absurd c163_16 (by decide)
                    ·
                      refine wc_iconstN X 166 1 dX11_many_166 ?_
                      refine wc_goto X 167 171 dX11_many_167 (by decide) ?_
                      refine wc_iaddN X 171 dX11_many_171 ?_
                      refine wc_istore_n X 172 (L' := [(0, .ref o), (1, .int (nI n)), (2, .int (nI 1)), (3, .int (nI ((manyB p n 1 b) + 1))), (4, .int (nI b)), (5, .int (nI 0)), (6, .int (nI 1)), (7, .int (nI 1))]) dX11_many_172 (by decide) rfl ?_
                      refine wc_iincN X 173 4 (L' := [(0, .ref o), (1, .int (nI n)), (2, .int (nI 1)), (3, .int (nI ((manyB p n 1 b) + 1))), (4, .int (nI (b + 1))), (5, .int (nI 0)), (6, .int (nI 1)), (7, .int (nI 1))]) dX11_many_173 rfl (by decide) rfl ?_
                      refine wc_goto X 176 37 dX11_many_176 (by decide) ?_
                      have ha9 : (afterB (gz p) (p 0) b n &&& p 2 != 0) = false := by simpa using c63_8
                      have hb9 : (afterB (go p) (p 1) b n &&& p 3 != 0) = true := by simpa using c91_9
                      refine wc_loc [0, 1, 2, 3, 4] (L' := [(0, .ref o), (1, .int (nI n)), (2, .int (nI 1)), (3, .int (nI ((manyB p n 1 b) + 1))), (4, .int (nI (b + 1)))]) rfl ?_
                      have e_17 : (manyB p n 1 b) + 1 = manyB p n 1 (b + 1) := many_s ha9 hb9 (by decide)
                      refine wc_L (L' := [(0, .ref o), (1, .int (nI n)), (2, .int (nI 1)), (3, .int (nI (manyB p n 1 (b + 1)))), (4, .int (nI (b + 1)))]) (by first | (rw [e_17]; done) | (rw [e_17]; rfl) | (rw [← e_17]; done) | rfl) ?_
                      exact ih_5 (b + 1) (by omega) (by omega)
                ·
                  exact absurd c102_14 (by decide)
            ·
              refine wc_iconstN X 66 1 dX11_many_66 ?_
              refine wc_goto X 67 71 dX11_many_67 (by decide) ?_
              refine wc_istore X 71 (L' := [(0, .ref o), (1, .int (nI n)), (2, .int (nI 1)), (3, .int (nI (manyB p n 1 b))), (4, .int (nI b)), (5, .int (nI 1))]) dX11_many_71 (by decide) rfl ?_
              refine wc_aload_n X 73 0 dX11_many_73 rfl ?_
              refine wc_get X 74 0 5 kd11 rfl (by decide) q_770 rfl dX11_many_74 ?_
              refine wc_iconstN X 77 1 dX11_many_77 ?_
              refine wc_iload X 78 4 dX11_many_78 rfl ?_
              refine wc_iload_n X 80 1 dX11_many_80 rfl ?_
              refine wc_callS X 81 [1] (c_X11_afterBits l G qpg p 1 b n hr.2.1 hr.2.2.2.1 hr.2.2.2.2.1 (by decide) (by omega) (by omega)) ys_X11_afterBits rfl q_998 ⟨rfl, rfl⟩ ⟨rfl, rfl⟩ ⟨rfl, rfl⟩ rfl rfl rfl dX11_many_81 ?_
              refine wc_topi (nI (afterB (go p) (p 1) b n)) (congrArg nI (rfl)) ?_
              refine wc_aload_n X 84 0 dX11_many_84 rfl ?_
              refine wc_get X 85 0 5 kd11 rfl (by decide) q_770 rfl dX11_many_85 ?_
              refine wc_iconstN X 88 3 dX11_many_88 ?_
              refine wc_ialdG X 89 1 rfl (by decide) (by decide) dX11_many_89 ?_
              refine wc_iandN X 90 dX11_many_90 ?_
              refine wc_if_eqN X 91 98 dX11_many_91 (by decide) (and_lt (Nat.lt_trans (afterB_lt hgo _ _ _) (by decide))) (fun c91_18 => ?_) (fun c91_18 => ?_)
              ·
                refine wc_iconstN X 98 0 dX11_many_98 ?_
                refine wc_istore X 99 (L' := [(0, .ref o), (1, .int (nI n)), (2, .int (nI 1)), (3, .int (nI (manyB p n 1 b))), (4, .int (nI b)), (5, .int (nI 1)), (6, .int (nI 0))]) dX11_many_99 (by decide) rfl ?_
                refine wc_iload_n X 101 2 dX11_many_101 rfl ?_
                refine wc_if_neN X 102 110 dX11_many_102 (by decide) (by decide) (fun c102_19 => ?_) (fun c102_19 => ?_)
                ·
                  refine wc_iload_n X 110 2 dX11_many_110 rfl ?_
                  refine wc_iconstN X 111 1 dX11_many_111 ?_
                  refine wc_icmp_neN X 112 120 dX11_many_112 (by decide) (by decide) (by decide) (fun c112_20 => ?_) (fun c112_20 => ?_)
                  ·
                    exact absurd c112_20 (by decide)
                  ·
                    refine wc_iload X 115 6 dX11_many_115 rfl ?_
                    refine wc_goto X 117 158 dX11_many_117 (by decide) ?_
                    refine wc_istore X 158 (L' := [(0, .ref o), (1, .int (nI n)), (2, .int (nI 1)), (3, .int (nI (manyB p n 1 b))), (4, .int (nI b)), (5, .int (nI 1)), (6, .int (nI 0)), (7, .int (nI 0))]) dX11_many_158 (by decide) rfl ?_
                    refine wc_iload_n X 160 3 dX11_many_160 rfl ?_
                    refine wc_iload X 161 7 dX11_many_161 rfl ?_
                    refine wc_if_eqN X 163 170 dX11_many_163 (by decide) (by decide) (fun c163_21 => ?_) (fun c163_21 => ?_)
                    ·
                      refine wc_iconstN X 170 0 dX11_many_170 ?_
                      refine wc_iaddN X 171 dX11_many_171 ?_
                      refine wc_istore_n X 172 (L' := [(0, .ref o), (1, .int (nI n)), (2, .int (nI 1)), (3, .int (nI ((manyB p n 1 b) + 0))), (4, .int (nI b)), (5, .int (nI 1)), (6, .int (nI 0)), (7, .int (nI 0))]) dX11_many_172 (by decide) rfl ?_
                      refine wc_iincN X 173 4 (L' := [(0, .ref o), (1, .int (nI n)), (2, .int (nI 1)), (3, .int (nI ((manyB p n 1 b) + 0))), (4, .int (nI (b + 1))), (5, .int (nI 1)), (6, .int (nI 0)), (7, .int (nI 0))]) dX11_many_173 rfl (by decide) rfl ?_
                      refine wc_goto X 176 37 dX11_many_176 (by decide) ?_
                      have ha9 : (afterB (gz p) (p 0) b n &&& p 2 != 0) = true := by simpa using c63_8
                      have hb9 : (afterB (go p) (p 1) b n &&& p 3 != 0) = false := by simpa using c91_18
                      refine wc_loc [0, 1, 2, 3, 4] (L' := [(0, .ref o), (1, .int (nI n)), (2, .int (nI 1)), (3, .int (nI ((manyB p n 1 b) + 0))), (4, .int (nI (b + 1)))]) rfl ?_
                      have e_22 : (manyB p n 1 b) + 0 = manyB p n 1 (b + 1) := many_s ha9 hb9 (by decide)
                      refine wc_L (L' := [(0, .ref o), (1, .int (nI n)), (2, .int (nI 1)), (3, .int (nI (manyB p n 1 (b + 1)))), (4, .int (nI (b + 1)))]) (by first | (rw [e_22]; done) | (rw [e_22]; rfl) | (rw [← e_22]; done) | rfl) ?_
                      exact ih_5 (b + 1) (by omega) (by omega)
                    ·
                      exact absurd c163_21 (by decide)
                ·
                  exact absurd c102_19 (by decide)
              ·
                refine wc_iconstN X 94 1 dX11_many_94 ?_
                refine wc_goto X 95 99 dX11_many_95 (by decide) ?_
                refine wc_istore X 99 (L' := [(0, .ref o), (1, .int (nI n)), (2, .int (nI 1)), (3, .int (nI (manyB p n 1 b))), (4, .int (nI b)), (5, .int (nI 1)), (6, .int (nI 1))]) dX11_many_99 (by decide) rfl ?_
                refine wc_iload_n X 101 2 dX11_many_101 rfl ?_
                refine wc_if_neN X 102 110 dX11_many_102 (by decide) (by decide) (fun c102_23 => ?_) (fun c102_23 => ?_)
                ·
                  refine wc_iload_n X 110 2 dX11_many_110 rfl ?_
                  refine wc_iconstN X 111 1 dX11_many_111 ?_
                  refine wc_icmp_neN X 112 120 dX11_many_112 (by decide) (by decide) (by decide) (fun c112_24 => ?_) (fun c112_24 => ?_)
                  ·
                    exact absurd c112_24 (by decide)
                  ·
                    refine wc_iload X 115 6 dX11_many_115 rfl ?_
                    refine wc_goto X 117 158 dX11_many_117 (by decide) ?_
                    refine wc_istore X 158 (L' := [(0, .ref o), (1, .int (nI n)), (2, .int (nI 1)), (3, .int (nI (manyB p n 1 b))), (4, .int (nI b)), (5, .int (nI 1)), (6, .int (nI 1)), (7, .int (nI 1))]) dX11_many_158 (by decide) rfl ?_
                    refine wc_iload_n X 160 3 dX11_many_160 rfl ?_
                    refine wc_iload X 161 7 dX11_many_161 rfl ?_
                    refine wc_if_eqN X 163 170 dX11_many_163 (by decide) (by decide) (fun c163_25 => ?_) (fun c163_25 => ?_)
                    ·
                      exact absurd c163_25 (by decide)
                    ·
                      refine wc_iconstN X 166 1 dX11_many_166 ?_
                      refine wc_goto X 167 171 dX11_many_167 (by decide) ?_
                      refine wc_iaddN X 171 dX11_many_171 ?_
                      refine wc_istore_n X 172 (L' := [(0, .ref o), (1, .int (nI n)), (2, .int (nI 1)), (3, .int (nI ((manyB p n 1 b) + 1))), (4, .int (nI b)), (5, .int (nI 1)), (6, .int (nI 1)), (7, .int (nI 1))]) dX11_many_172 (by decide) rfl ?_
                      refine wc_iincN X 173 4 (L' := [(0, .ref o), (1, .int (nI n)), (2, .int (nI 1)), (3, .int (nI ((manyB p n 1 b) + 1))), (4, .int (nI (b + 1))), (5, .int (nI 1)), (6, .int (nI 1)), (7, .int (nI 1))]) dX11_many_173 rfl (by decide) rfl ?_
                      refine wc_goto X 176 37 dX11_many_176 (by decide) ?_
                      have ha9 : (afterB (gz p) (p 0) b n &&& p 2 != 0) = true := by simpa using c63_8
                      have hb9 : (afterB (go p) (p 1) b n &&& p 3 != 0) = true := by simpa using c91_18
                      refine wc_loc [0, 1, 2, 3, 4] (L' := [(0, .ref o), (1, .int (nI n)), (2, .int (nI 1)), (3, .int (nI ((manyB p n 1 b) + 1))), (4, .int (nI (b + 1)))]) rfl ?_
                      have e_26 : (manyB p n 1 b) + 1 = manyB p n 1 (b + 1) := many_s ha9 hb9 (by decide)
                      refine wc_L (L' := [(0, .ref o), (1, .int (nI n)), (2, .int (nI 1)), (3, .int (nI (manyB p n 1 (b + 1)))), (4, .int (nI (b + 1)))]) (by first | (rw [e_26]; done) | (rw [e_26]; rfl) | (rw [← e_26]; done) | rfl) ?_
                      exact ih_5 (b + 1) (by omega) (by omega)
                ·
                  exact absurd c102_23 (by decide)
      have e_27 : 0 = manyB p n 1 0 := rfl
      refine wc_L (L' := [(0, .ref o), (1, .int (nI n)), (2, .int (nI 1)), (3, .int (nI (manyB p n 1 0))), (4, .int (nI 0))]) (by first | (rw [e_27]; done) | (rw [e_27]; rfl) | (rw [← e_27]; done) | rfl) ?_
      exact LP_4 (2 ^ n - 0 + 1) 0 (by omega) (Nat.lt_succ_self _)
    ·
      exact absurd c26_2 (by decide)

set_option maxHeartbeats 4000000 in
set_option maxRecDepth 100000 in
theorem c_X11_many2 (l : Launch) (G : GG) (o : Nat) (th : Int32) (qtx ts pl qrp qpg qtr qbk dn qkp qik sn qsw qsi : Nat) (sd : Int64) (qln qfm qby qwy wz qfo qon qmn qpr qle qst qwt rc tk ps gn : Nat) (bd : Int32) (qwo : Nat) (p : Nat → Nat) (n : Nat) (hr : pgOk p) (hn : n ≤ 9) : MM l G yX11_many (Cond.code yX11_many cX11_many 8 (some .int)) { frames := 3, cells := 0, slots := 0, locals := 72 } [.ref o, .int (nI n), .int (nI 2)] [ob o 11 [.int th, .ref qtx, .int (nI ts), .int (nI pl), .ref qrp, .ref qpg, .ref qtr, .ref qbk, .int (nI dn), .ref qkp, .ref qik, .int (nI sn), .ref qsw, .ref qsi, .long sd, .ref qln, .ref qfm, .ref qby, .ref qwy, .int (nI wz), .ref qfo, .ref qon, .ref qmn, .ref qpr, .ref qle, .ref qst, .ref qwt, .int (nI rc), .int (nI tk), .int (nI ps), .int (nI gn), .int bd, .ref qwo], aI G qpg 22 (nF p)] (fun (v : Option Value) (w : va_W) => v = some (.int (nI (manyV p n 2))) ∧ w = [ob o 11 [.int (nI 0), .ref qtx, .int (nI ts), .int (nI pl), .ref qrp, .ref qpg, .ref qtr, .ref qbk, .int (nI dn), .ref qkp, .ref qik, .int (nI sn), .ref qsw, .ref qsi, .long sd, .ref qln, .ref qfm, .ref qby, .ref qwy, .int (nI wz), .ref qfo, .ref qon, .ref qmn, .ref qpr, .ref qle, .ref qst, .ref qwt, .int (nI rc), .int (nI tk), .int (nI ps), .int (nI gn), .int bd, .ref qwo], aI G qpg 22 (nF p)]) 0 0 := by
  refine MM.ofI (by decide) rfl (fun Γ X Y hnm ret => ?_)
  show Wc Γ 0 0 0 [(0, .ref o), (1, .int (nI n)), (2, .int (nI 2))] [] [ob o 11 [.int th, .ref qtx, .int (nI ts), .int (nI pl), .ref qrp, .ref qpg, .ref qtr, .ref qbk, .int (nI dn), .ref qkp, .ref qik, .int (nI sn), .ref qsw, .ref qsi, .long sd, .ref qln, .ref qfm, .ref qby, .ref qwy, .int (nI wz), .ref qfo, .ref qon, .ref qmn, .ref qpr, .ref qle, .ref qst, .ref qwt, .int (nI rc), .int (nI tk), .int (nI ps), .int (nI gn), .int bd, .ref qwo], aI G qpg 22 (nF p)]
  have hpn := p9 hn
  have hgz : ∀ j, gz p j < 32 := mG_lt hr.2.2.2.2.1 0
  have hgo : ∀ j, go p j < 32 := mG_lt hr.2.2.2.2.1 1
  refine wc_aload_n X 0 0 dX11_many_0 rfl ?_
  refine wc_iconstN X 1 0 dX11_many_1 ?_
  refine wc_put X Y 2 0 0 kd11 rfl (by decide) q_765 rfl rfl rfl (Nat.le_of_ble_eq_true rfl) (ws' := [ob o 11 [.int (nI 0), .ref qtx, .int (nI ts), .int (nI pl), .ref qrp, .ref qpg, .ref qtr, .ref qbk, .int (nI dn), .ref qkp, .ref qik, .int (nI sn), .ref qsw, .ref qsi, .long sd, .ref qln, .ref qfm, .ref qby, .ref qwy, .int (nI wz), .ref qfo, .ref qon, .ref qmn, .ref qpr, .ref qle, .ref qst, .ref qwt, .int (nI rc), .int (nI tk), .int (nI ps), .int (nI gn), .int bd, .ref qwo], aI G qpg 22 (nF p)]) rfl dX11_many_2 ?_
  refine wc_iload_n X 5 1 dX11_many_5 rfl ?_
  refine wc_i2l X 6 dX11_many_6 ?_
  refine wc_lconst X 7 0 dX11_many_7 (by decide) ?_
  refine wc_ldc2 X 8 183 (9) q_996 dX11_many_8 ?_
  refine wc_callS X 11 [] (c_X11_in l G ((nI n).toInt64) 0 9 ) ys_X11_in rfl q_870 ⟨rfl, rfl⟩ ⟨rfl, rfl⟩ ⟨rfl, rfl⟩ rfl rfl rfl dX11_many_11 ?_
  refine wc_topi (b2i true) (congrArg b2i (inL_in (a := 0) (b := 9) rfl rfl (by omega) (by omega) (by omega))) ?_
  refine wc_if_eqB X 14 29 dX11_many_14 (by decide) (fun c14_1 => ?_) (fun c14_1 => ?_)
  ·
    exact absurd c14_1 (by decide)
  ·
    refine wc_iload_n X 17 2 dX11_many_17 rfl ?_
    refine wc_i2l X 18 dX11_many_18 ?_
    refine wc_lconst X 19 0 dX11_many_19 (by decide) ?_
    refine wc_ldc2 X 20 185 (3) q_997 dX11_many_20 ?_
    refine wc_callS X 23 [] (c_X11_in l G ((nI 2).toInt64) 0 3 ) ys_X11_in rfl q_870 ⟨rfl, rfl⟩ ⟨rfl, rfl⟩ ⟨rfl, rfl⟩ rfl rfl rfl dX11_many_23 ?_
    refine wc_topi (b2i true) (by decide) ?_
    refine wc_if_neB X 26 32 dX11_many_26 (by decide) (fun c26_2 => ?_) (fun c26_2 => ?_)
    ·
      refine wc_iconstN X 32 0 dX11_many_32 ?_
      refine wc_istore_n X 33 (L' := [(0, .ref o), (1, .int (nI n)), (2, .int (nI 2)), (3, .int (nI 0))]) dX11_many_33 (by decide) rfl ?_
      refine wc_iconstN X 34 0 dX11_many_34 ?_
      refine wc_istore X 35 (L' := [(0, .ref o), (1, .int (nI n)), (2, .int (nI 2)), (3, .int (nI 0)), (4, .int (nI 0))]) dX11_many_35 (by decide) rfl ?_
      have LP_4 : ∀ (fuel_3 : Nat) (b : Nat), (b ≤ 2 ^ n) → 2 ^ n - b < fuel_3 → Wc Γ 0 0 37 [(0, .ref o), (1, .int (nI n)), (2, .int (nI 2)), (3, .int (nI (manyB p n 2 b))), (4, .int (nI b))] [] [ob o 11 [.int (nI 0), .ref qtx, .int (nI ts), .int (nI pl), .ref qrp, .ref qpg, .ref qtr, .ref qbk, .int (nI dn), .ref qkp, .ref qik, .int (nI sn), .ref qsw, .ref qsi, .long sd, .ref qln, .ref qfm, .ref qby, .ref qwy, .int (nI wz), .ref qfo, .ref qon, .ref qmn, .ref qpr, .ref qle, .ref qst, .ref qwt, .int (nI rc), .int (nI tk), .int (nI ps), .int (nI gn), .int bd, .ref qwo], aI G qpg 22 (nF p)] := by
        intro fuel_3
        induction fuel_3 with
        | zero => intro b hb hm; exact absurd hm (Nat.not_lt_zero _)
        | succ fuel_3 ih_5 =>
          intro b hb hm_6
          refine wc_iload X 37 4 dX11_many_37 rfl ?_
          refine wc_iconstN X 39 1 dX11_many_39 ?_
          refine wc_iload_n X 40 1 dX11_many_40 rfl ?_
          refine wc_shl1 X 41 dX11_many_41 (by omega) ?_
          refine wc_icmp_geN X 42 179 dX11_many_42 (by decide) (by omega) (by omega) (fun c42_7 => ?_) (fun c42_7 => ?_)
          ·
            refine wc_iload_n X 179 3 dX11_many_179 rfl ?_
            exact ret 180 _ (nI (manyB p n 2 b)) _ dX11_many_180 (⟨by rw [show b = 2 ^ n by omega]; rfl, rfl⟩)
          ·
            refine wc_aload_n X 45 0 dX11_many_45 rfl ?_
            refine wc_get X 46 0 5 kd11 rfl (by decide) q_770 rfl dX11_many_46 ?_
            refine wc_iconstN X 49 0 dX11_many_49 ?_
            refine wc_iload X 50 4 dX11_many_50 rfl ?_
            refine wc_iload_n X 52 1 dX11_many_52 rfl ?_
            refine wc_callS X 53 [1] (c_X11_afterBits l G qpg p 0 b n hr.2.1 hr.2.2.2.1 hr.2.2.2.2.1 (by decide) (by omega) (by omega)) ys_X11_afterBits rfl q_998 ⟨rfl, rfl⟩ ⟨rfl, rfl⟩ ⟨rfl, rfl⟩ rfl rfl rfl dX11_many_53 ?_
            refine wc_topi (nI (afterB (gz p) (p 0) b n)) (congrArg nI (rfl)) ?_
            refine wc_aload_n X 56 0 dX11_many_56 rfl ?_
            refine wc_get X 57 0 5 kd11 rfl (by decide) q_770 rfl dX11_many_57 ?_
            refine wc_iconstN X 60 2 dX11_many_60 ?_
            refine wc_ialdG X 61 1 rfl (by decide) (by decide) dX11_many_61 ?_
            refine wc_iandN X 62 dX11_many_62 ?_
            refine wc_if_eqN X 63 70 dX11_many_63 (by decide) (and_lt (Nat.lt_trans (afterB_lt hgz _ _ _) (by decide))) (fun c63_8 => ?_) (fun c63_8 => ?_)
            ·
              refine wc_iconstN X 70 0 dX11_many_70 ?_
              refine wc_istore X 71 (L' := [(0, .ref o), (1, .int (nI n)), (2, .int (nI 2)), (3, .int (nI (manyB p n 2 b))), (4, .int (nI b)), (5, .int (nI 0))]) dX11_many_71 (by decide) rfl ?_
              refine wc_aload_n X 73 0 dX11_many_73 rfl ?_
              refine wc_get X 74 0 5 kd11 rfl (by decide) q_770 rfl dX11_many_74 ?_
              refine wc_iconstN X 77 1 dX11_many_77 ?_
              refine wc_iload X 78 4 dX11_many_78 rfl ?_
              refine wc_iload_n X 80 1 dX11_many_80 rfl ?_
              refine wc_callS X 81 [1] (c_X11_afterBits l G qpg p 1 b n hr.2.1 hr.2.2.2.1 hr.2.2.2.2.1 (by decide) (by omega) (by omega)) ys_X11_afterBits rfl q_998 ⟨rfl, rfl⟩ ⟨rfl, rfl⟩ ⟨rfl, rfl⟩ rfl rfl rfl dX11_many_81 ?_
              refine wc_topi (nI (afterB (go p) (p 1) b n)) (congrArg nI (rfl)) ?_
              refine wc_aload_n X 84 0 dX11_many_84 rfl ?_
              refine wc_get X 85 0 5 kd11 rfl (by decide) q_770 rfl dX11_many_85 ?_
              refine wc_iconstN X 88 3 dX11_many_88 ?_
              refine wc_ialdG X 89 1 rfl (by decide) (by decide) dX11_many_89 ?_
              refine wc_iandN X 90 dX11_many_90 ?_
              refine wc_if_eqN X 91 98 dX11_many_91 (by decide) (and_lt (Nat.lt_trans (afterB_lt hgo _ _ _) (by decide))) (fun c91_9 => ?_) (fun c91_9 => ?_)
              ·
                refine wc_iconstN X 98 0 dX11_many_98 ?_
                refine wc_istore X 99 (L' := [(0, .ref o), (1, .int (nI n)), (2, .int (nI 2)), (3, .int (nI (manyB p n 2 b))), (4, .int (nI b)), (5, .int (nI 0)), (6, .int (nI 0))]) dX11_many_99 (by decide) rfl ?_
                refine wc_iload_n X 101 2 dX11_many_101 rfl ?_
                refine wc_if_neN X 102 110 dX11_many_102 (by decide) (by decide) (fun c102_10 => ?_) (fun c102_10 => ?_)
                ·
                  refine wc_iload_n X 110 2 dX11_many_110 rfl ?_
                  refine wc_iconstN X 111 1 dX11_many_111 ?_
                  refine wc_icmp_neN X 112 120 dX11_many_112 (by decide) (by decide) (by decide) (fun c112_11 => ?_) (fun c112_11 => ?_)
                  ·
                    refine wc_iload_n X 120 2 dX11_many_120 rfl ?_
                    refine wc_iconstN X 121 2 dX11_many_121 ?_
                    refine wc_icmp_neN X 122 143 dX11_many_122 (by decide) (by decide) (by decide) (fun c122_12 => ?_) (fun c122_12 => ?_)
                    ·
                      exact absurd c122_12 (by decide)
                    ·
                      refine wc_iload X 125 5 dX11_many_125 rfl ?_
                      refine wc_if_eqN X 127 139 dX11_many_127 (by decide) (by decide) (fun c127_13 => ?_) (fun c127_13 => ?_)
                      ·
                        refine wc_iconstN X 139 0 dX11_many_139 ?_
                        refine wc_goto X 140 158 dX11_many_140 (by decide) ?_
                        refine wc_istore X 158 (L' := [(0, .ref o), (1, .int (nI n)), (2, .int (nI 2)), (3, .int (nI (manyB p n 2 b))), (4, .int (nI b)), (5, .int (nI 0)), (6, .int (nI 0)), (7, .int (nI 0))]) dX11_many_158 (by decide) rfl ?_
                        refine wc_iload_n X 160 3 dX11_many_160 rfl ?_
                        refine wc_iload X 161 7 dX11_many_161 rfl ?_
                        refine wc_if_eqN X 163 170 dX11_many_163 (by decide) (by decide) (fun c163_14 => ?_) (fun c163_14 => ?_)
                        ·
                          refine wc_iconstN X 170 0 dX11_many_170 ?_
                          refine wc_iaddN X 171 dX11_many_171 ?_
                          refine wc_istore_n X 172 (L' := [(0, .ref o), (1, .int (nI n)), (2, .int (nI 2)), (3, .int (nI ((manyB p n 2 b) + 0))), (4, .int (nI b)), (5, .int (nI 0)), (6, .int (nI 0)), (7, .int (nI 0))]) dX11_many_172 (by decide) rfl ?_
                          refine wc_iincN X 173 4 (L' := [(0, .ref o), (1, .int (nI n)), (2, .int (nI 2)), (3, .int (nI ((manyB p n 2 b) + 0))), (4, .int (nI (b + 1))), (5, .int (nI 0)), (6, .int (nI 0)), (7, .int (nI 0))]) dX11_many_173 rfl (by decide) rfl ?_
                          refine wc_goto X 176 37 dX11_many_176 (by decide) ?_
                          have ha9 : (afterB (gz p) (p 0) b n &&& p 2 != 0) = false := by simpa using c63_8
                          have hb9 : (afterB (go p) (p 1) b n &&& p 3 != 0) = false := by simpa using c91_9
                          refine wc_loc [0, 1, 2, 3, 4] (L' := [(0, .ref o), (1, .int (nI n)), (2, .int (nI 2)), (3, .int (nI ((manyB p n 2 b) + 0))), (4, .int (nI (b + 1)))]) rfl ?_
                          have e_15 : (manyB p n 2 b) + 0 = manyB p n 2 (b + 1) := many_s ha9 hb9 (by decide)
                          refine wc_L (L' := [(0, .ref o), (1, .int (nI n)), (2, .int (nI 2)), (3, .int (nI (manyB p n 2 (b + 1)))), (4, .int (nI (b + 1)))]) (by first | (rw [e_15]; done) | (rw [e_15]; rfl) | (rw [← e_15]; done) | rfl) ?_
                          exact ih_5 (b + 1) (by omega) (by omega)
                        ·
                          exact absurd c163_14 (by decide)
                      ·
                        exact absurd c127_13 (by decide)
                  ·
                    exact absurd c112_11 (by decide)
                ·
                  exact absurd c102_10 (by decide)
              ·
                refine wc_iconstN X 94 1 dX11_many_94 ?_
                refine wc_goto X 95 99 dX11_many_95 (by decide) ?_
                refine wc_istore X 99 (L' := [(0, .ref o), (1, .int (nI n)), (2, .int (nI 2)), (3, .int (nI (manyB p n 2 b))), (4, .int (nI b)), (5, .int (nI 0)), (6, .int (nI 1))]) dX11_many_99 (by decide) rfl ?_
                refine wc_iload_n X 101 2 dX11_many_101 rfl ?_
                refine wc_if_neN X 102 110 dX11_many_102 (by decide) (by decide) (fun c102_16 => ?_) (fun c102_16 => ?_)
                ·
                  refine wc_iload_n X 110 2 dX11_many_110 rfl ?_
                  refine wc_iconstN X 111 1 dX11_many_111 ?_
                  refine wc_icmp_neN X 112 120 dX11_many_112 (by decide) (by decide) (by decide) (fun c112_17 => ?_) (fun c112_17 => ?_)
                  ·
                    refine wc_iload_n X 120 2 dX11_many_120 rfl ?_
                    refine wc_iconstN X 121 2 dX11_many_121 ?_
                    refine wc_icmp_neN X 122 143 dX11_many_122 (by decide) (by decide) (by decide) (fun c122_18 => ?_) (fun c122_18 => ?_)
                    ·
                      exact absurd c122_18 (by decide)
                    ·
                      refine wc_iload X 125 5 dX11_many_125 rfl ?_
                      refine wc_if_eqN X 127 139 dX11_many_127 (by decide) (by decide) (fun c127_19 => ?_) (fun c127_19 => ?_)
                      ·
                        refine wc_iconstN X 139 0 dX11_many_139 ?_
                        refine wc_goto X 140 158 dX11_many_140 (by decide) ?_
                        refine wc_istore X 158 (L' := [(0, .ref o), (1, .int (nI n)), (2, .int (nI 2)), (3, .int (nI (manyB p n 2 b))), (4, .int (nI b)), (5, .int (nI 0)), (6, .int (nI 1)), (7, .int (nI 0))]) dX11_many_158 (by decide) rfl ?_
                        refine wc_iload_n X 160 3 dX11_many_160 rfl ?_
                        refine wc_iload X 161 7 dX11_many_161 rfl ?_
                        refine wc_if_eqN X 163 170 dX11_many_163 (by decide) (by decide) (fun c163_20 => ?_) (fun c163_20 => ?_)
                        ·
                          refine wc_iconstN X 170 0 dX11_many_170 ?_
                          refine wc_iaddN X 171 dX11_many_171 ?_
                          refine wc_istore_n X 172 (L' := [(0, .ref o), (1, .int (nI n)), (2, .int (nI 2)), (3, .int (nI ((manyB p n 2 b) + 0))), (4, .int (nI b)), (5, .int (nI 0)), (6, .int (nI 1)), (7, .int (nI 0))]) dX11_many_172 (by decide) rfl ?_
                          refine wc_iincN X 173 4 (L' := [(0, .ref o), (1, .int (nI n)), (2, .int (nI 2)), (3, .int (nI ((manyB p n 2 b) + 0))), (4, .int (nI (b + 1))), (5, .int (nI 0)), (6, .int (nI 1)), (7, .int (nI 0))]) dX11_many_173 rfl (by decide) rfl ?_
                          refine wc_goto X 176 37 dX11_many_176 (by decide) ?_
                          have ha9 : (afterB (gz p) (p 0) b n &&& p 2 != 0) = false := by simpa using c63_8
                          have hb9 : (afterB (go p) (p 1) b n &&& p 3 != 0) = true := by simpa using c91_9
                          refine wc_loc [0, 1, 2, 3, 4] (L' := [(0, .ref o), (1, .int (nI n)), (2, .int (nI 2)), (3, .int (nI ((manyB p n 2 b) + 0))), (4, .int (nI (b + 1)))]) rfl ?_
                          have e_21 : (manyB p n 2 b) + 0 = manyB p n 2 (b + 1) := many_s ha9 hb9 (by decide)
                          refine wc_L (L' := [(0, .ref o), (1, .int (nI n)), (2, .int (nI 2)), (3, .int (nI (manyB p n 2 (b + 1)))), (4, .int (nI (b + 1)))]) (by first | (rw [e_21]; done) | (rw [e_21]; rfl) | (rw [← e_21]; done) | rfl) ?_
                          exact ih_5 (b + 1) (by omega) (by omega)
                        ·
                          exact absurd c163_20 (by decide)
                      ·
                        exact absurd c127_19 (by decide)
                  ·
                    exact absurd c112_17 (by decide)
                ·
                  exact absurd c102_16 (by decide)
            ·
              refine wc_iconstN X 66 1 dX11_many_66 ?_
              refine wc_goto X 67 71 dX11_many_67 (by decide) ?_
              refine wc_istore X 71 (L' := [(0, .ref o), (1, .int (nI n)), (2, .int (nI 2)), (3, .int (nI (manyB p n 2 b))), (4, .int (nI b)), (5, .int (nI 1))]) dX11_many_71 (by decide) rfl ?_
              refine wc_aload_n X 73 0 dX11_many_73 rfl ?_
              refine wc_get X 74 0 5 kd11 rfl (by decide) q_770 rfl dX11_many_74 ?_
              refine wc_iconstN X 77 1 dX11_many_77 ?_
              refine wc_iload X 78 4 dX11_many_78 rfl ?_
              refine wc_iload_n X 80 1 dX11_many_80 rfl ?_
              refine wc_callS X 81 [1] (c_X11_afterBits l G qpg p 1 b n hr.2.1 hr.2.2.2.1 hr.2.2.2.2.1 (by decide) (by omega) (by omega)) ys_X11_afterBits rfl q_998 ⟨rfl, rfl⟩ ⟨rfl, rfl⟩ ⟨rfl, rfl⟩ rfl rfl rfl dX11_many_81 ?_
              refine wc_topi (nI (afterB (go p) (p 1) b n)) (congrArg nI (rfl)) ?_
              refine wc_aload_n X 84 0 dX11_many_84 rfl ?_
              refine wc_get X 85 0 5 kd11 rfl (by decide) q_770 rfl dX11_many_85 ?_
              refine wc_iconstN X 88 3 dX11_many_88 ?_
              refine wc_ialdG X 89 1 rfl (by decide) (by decide) dX11_many_89 ?_
              refine wc_iandN X 90 dX11_many_90 ?_
              refine wc_if_eqN X 91 98 dX11_many_91 (by decide) (and_lt (Nat.lt_trans (afterB_lt hgo _ _ _) (by decide))) (fun c91_22 => ?_) (fun c91_22 => ?_)
              ·
                refine wc_iconstN X 98 0 dX11_many_98 ?_
                refine wc_istore X 99 (L' := [(0, .ref o), (1, .int (nI n)), (2, .int (nI 2)), (3, .int (nI (manyB p n 2 b))), (4, .int (nI b)), (5, .int (nI 1)), (6, .int (nI 0))]) dX11_many_99 (by decide) rfl ?_
                refine wc_iload_n X 101 2 dX11_many_101 rfl ?_
                refine wc_if_neN X 102 110 dX11_many_102 (by decide) (by decide) (fun c102_23 => ?_) (fun c102_23 => ?_)
                ·
                  refine wc_iload_n X 110 2 dX11_many_110 rfl ?_
                  refine wc_iconstN X 111 1 dX11_many_111 ?_
                  refine wc_icmp_neN X 112 120 dX11_many_112 (by decide) (by decide) (by decide) (fun c112_24 => ?_) (fun c112_24 => ?_)
                  ·
                    refine wc_iload_n X 120 2 dX11_many_120 rfl ?_
                    refine wc_iconstN X 121 2 dX11_many_121 ?_
                    refine wc_icmp_neN X 122 143 dX11_many_122 (by decide) (by decide) (by decide) (fun c122_25 => ?_) (fun c122_25 => ?_)
                    ·
                      exact absurd c122_25 (by decide)
                    ·
                      refine wc_iload X 125 5 dX11_many_125 rfl ?_
                      refine wc_if_eqN X 127 139 dX11_many_127 (by decide) (by decide) (fun c127_26 => ?_) (fun c127_26 => ?_)
                      ·
                        exact absurd c127_26 (by decide)
                      ·
                        refine wc_iload X 130 6 dX11_many_130 rfl ?_
                        refine wc_if_eqN X 132 139 dX11_many_132 (by decide) (by decide) (fun c132_27 => ?_) (fun c132_27 => ?_)
                        ·
                          refine wc_iconstN X 139 0 dX11_many_139 ?_
                          refine wc_goto X 140 158 dX11_many_140 (by decide) ?_
                          refine wc_istore X 158 (L' := [(0, .ref o), (1, .int (nI n)), (2, .int (nI 2)), (3, .int (nI (manyB p n 2 b))), (4, .int (nI b)), (5, .int (nI 1)), (6, .int (nI 0)), (7, .int (nI 0))]) dX11_many_158 (by decide) rfl ?_
                          refine wc_iload_n X 160 3 dX11_many_160 rfl ?_
                          refine wc_iload X 161 7 dX11_many_161 rfl ?_
                          refine wc_if_eqN X 163 170 dX11_many_163 (by decide) (by decide) (fun c163_28 => ?_) (fun c163_28 => ?_)
                          ·
                            refine wc_iconstN X 170 0 dX11_many_170 ?_
                            refine wc_iaddN X 171 dX11_many_171 ?_
                            refine wc_istore_n X 172 (L' := [(0, .ref o), (1, .int (nI n)), (2, .int (nI 2)), (3, .int (nI ((manyB p n 2 b) + 0))), (4, .int (nI b)), (5, .int (nI 1)), (6, .int (nI 0)), (7, .int (nI 0))]) dX11_many_172 (by decide) rfl ?_
                            refine wc_iincN X 173 4 (L' := [(0, .ref o), (1, .int (nI n)), (2, .int (nI 2)), (3, .int (nI ((manyB p n 2 b) + 0))), (4, .int (nI (b + 1))), (5, .int (nI 1)), (6, .int (nI 0)), (7, .int (nI 0))]) dX11_many_173 rfl (by decide) rfl ?_
                            refine wc_goto X 176 37 dX11_many_176 (by decide) ?_
                            have ha9 : (afterB (gz p) (p 0) b n &&& p 2 != 0) = true := by simpa using c63_8
                            have hb9 : (afterB (go p) (p 1) b n &&& p 3 != 0) = false := by simpa using c91_22
                            refine wc_loc [0, 1, 2, 3, 4] (L' := [(0, .ref o), (1, .int (nI n)), (2, .int (nI 2)), (3, .int (nI ((manyB p n 2 b) + 0))), (4, .int (nI (b + 1)))]) rfl ?_
                            have e_29 : (manyB p n 2 b) + 0 = manyB p n 2 (b + 1) := many_s ha9 hb9 (by decide)
                            refine wc_L (L' := [(0, .ref o), (1, .int (nI n)), (2, .int (nI 2)), (3, .int (nI (manyB p n 2 (b + 1)))), (4, .int (nI (b + 1)))]) (by first | (rw [e_29]; done) | (rw [e_29]; rfl) | (rw [← e_29]; done) | rfl) ?_
                            exact ih_5 (b + 1) (by omega) (by omega)
                          ·
                            exact absurd c163_28 (by decide)
                        ·
                          exact absurd c132_27 (by decide)
                  ·
                    exact absurd c112_24 (by decide)
                ·
                  exact absurd c102_23 (by decide)
              ·
                refine wc_iconstN X 94 1 dX11_many_94 ?_
                refine wc_goto X 95 99 dX11_many_95 (by decide) ?_
                refine wc_istore X 99 (L' := [(0, .ref o), (1, .int (nI n)), (2, .int (nI 2)), (3, .int (nI (manyB p n 2 b))), (4, .int (nI b)), (5, .int (nI 1)), (6, .int (nI 1))]) dX11_many_99 (by decide) rfl ?_
                refine wc_iload_n X 101 2 dX11_many_101 rfl ?_
                refine wc_if_neN X 102 110 dX11_many_102 (by decide) (by decide) (fun c102_30 => ?_) (fun c102_30 => ?_)
                ·
                  refine wc_iload_n X 110 2 dX11_many_110 rfl ?_
                  refine wc_iconstN X 111 1 dX11_many_111 ?_
                  refine wc_icmp_neN X 112 120 dX11_many_112 (by decide) (by decide) (by decide) (fun c112_31 => ?_) (fun c112_31 => ?_)
                  ·
                    refine wc_iload_n X 120 2 dX11_many_120 rfl ?_
                    refine wc_iconstN X 121 2 dX11_many_121 ?_
                    refine wc_icmp_neN X 122 143 dX11_many_122 (by decide) (by decide) (by decide) (fun c122_32 => ?_) (fun c122_32 => ?_)
                    ·
                      exact absurd c122_32 (by decide)
                    ·
                      refine wc_iload X 125 5 dX11_many_125 rfl ?_
                      refine wc_if_eqN X 127 139 dX11_many_127 (by decide) (by decide) (fun c127_33 => ?_) (fun c127_33 => ?_)
                      ·
                        exact absurd c127_33 (by decide)
                      ·
                        refine wc_iload X 130 6 dX11_many_130 rfl ?_
                        refine wc_if_eqN X 132 139 dX11_many_132 (by decide) (by decide) (fun c132_34 => ?_) (fun c132_34 => ?_)
                        ·
                          exact absurd c132_34 (by decide)
                        ·
                          refine wc_iconstN X 135 1 dX11_many_135 ?_
                          refine wc_goto X 136 158 dX11_many_136 (by decide) ?_
                          refine wc_istore X 158 (L' := [(0, .ref o), (1, .int (nI n)), (2, .int (nI 2)), (3, .int (nI (manyB p n 2 b))), (4, .int (nI b)), (5, .int (nI 1)), (6, .int (nI 1)), (7, .int (nI 1))]) dX11_many_158 (by decide) rfl ?_
                          refine wc_iload_n X 160 3 dX11_many_160 rfl ?_
                          refine wc_iload X 161 7 dX11_many_161 rfl ?_
                          refine wc_if_eqN X 163 170 dX11_many_163 (by decide) (by decide) (fun c163_35 => ?_) (fun c163_35 => ?_)
                          ·
                            exact absurd c163_35 (by decide)
                          ·
                            refine wc_iconstN X 166 1 dX11_many_166 ?_
                            refine wc_goto X 167 171 dX11_many_167 (by decide) ?_
                            refine wc_iaddN X 171 dX11_many_171 ?_
                            refine wc_istore_n X 172 (L' := [(0, .ref o), (1, .int (nI n)), (2, .int (nI 2)), (3, .int (nI ((manyB p n 2 b) + 1))), (4, .int (nI b)), (5, .int (nI 1)), (6, .int (nI 1)), (7, .int (nI 1))]) dX11_many_172 (by decide) rfl ?_
                            refine wc_iincN X 173 4 (L' := [(0, .ref o), (1, .int (nI n)), (2, .int (nI 2)), (3, .int (nI ((manyB p n 2 b) + 1))), (4, .int (nI (b + 1))), (5, .int (nI 1)), (6, .int (nI 1)), (7, .int (nI 1))]) dX11_many_173 rfl (by decide) rfl ?_
                            refine wc_goto X 176 37 dX11_many_176 (by decide) ?_
                            have ha9 : (afterB (gz p) (p 0) b n &&& p 2 != 0) = true := by simpa using c63_8
                            have hb9 : (afterB (go p) (p 1) b n &&& p 3 != 0) = true := by simpa using c91_22
                            refine wc_loc [0, 1, 2, 3, 4] (L' := [(0, .ref o), (1, .int (nI n)), (2, .int (nI 2)), (3, .int (nI ((manyB p n 2 b) + 1))), (4, .int (nI (b + 1)))]) rfl ?_
                            have e_36 : (manyB p n 2 b) + 1 = manyB p n 2 (b + 1) := many_s ha9 hb9 (by decide)
                            refine wc_L (L' := [(0, .ref o), (1, .int (nI n)), (2, .int (nI 2)), (3, .int (nI (manyB p n 2 (b + 1)))), (4, .int (nI (b + 1)))]) (by first | (rw [e_36]; done) | (rw [e_36]; rfl) | (rw [← e_36]; done) | rfl) ?_
                            exact ih_5 (b + 1) (by omega) (by omega)
                  ·
                    exact absurd c112_31 (by decide)
                ·
                  exact absurd c102_30 (by decide)
      have e_37 : 0 = manyB p n 2 0 := rfl
      refine wc_L (L' := [(0, .ref o), (1, .int (nI n)), (2, .int (nI 2)), (3, .int (nI (manyB p n 2 0))), (4, .int (nI 0))]) (by first | (rw [e_37]; done) | (rw [e_37]; rfl) | (rw [← e_37]; done) | rfl) ?_
      exact LP_4 (2 ^ n - 0 + 1) 0 (by omega) (Nat.lt_succ_self _)
    ·
      exact absurd c26_2 (by decide)

set_option maxHeartbeats 4000000 in
set_option maxRecDepth 100000 in
theorem c_X11_many3 (l : Launch) (G : GG) (o : Nat) (th : Int32) (qtx ts pl qrp qpg qtr qbk dn qkp qik sn qsw qsi : Nat) (sd : Int64) (qln qfm qby qwy wz qfo qon qmn qpr qle qst qwt rc tk ps gn : Nat) (bd : Int32) (qwo : Nat) (p : Nat → Nat) (n : Nat) (hr : pgOk p) (hn : n ≤ 9) : MM l G yX11_many (Cond.code yX11_many cX11_many 8 (some .int)) { frames := 3, cells := 0, slots := 0, locals := 72 } [.ref o, .int (nI n), .int (nI 3)] [ob o 11 [.int th, .ref qtx, .int (nI ts), .int (nI pl), .ref qrp, .ref qpg, .ref qtr, .ref qbk, .int (nI dn), .ref qkp, .ref qik, .int (nI sn), .ref qsw, .ref qsi, .long sd, .ref qln, .ref qfm, .ref qby, .ref qwy, .int (nI wz), .ref qfo, .ref qon, .ref qmn, .ref qpr, .ref qle, .ref qst, .ref qwt, .int (nI rc), .int (nI tk), .int (nI ps), .int (nI gn), .int bd, .ref qwo], aI G qpg 22 (nF p)] (fun (v : Option Value) (w : va_W) => v = some (.int (nI (manyV p n 3))) ∧ w = [ob o 11 [.int (nI 0), .ref qtx, .int (nI ts), .int (nI pl), .ref qrp, .ref qpg, .ref qtr, .ref qbk, .int (nI dn), .ref qkp, .ref qik, .int (nI sn), .ref qsw, .ref qsi, .long sd, .ref qln, .ref qfm, .ref qby, .ref qwy, .int (nI wz), .ref qfo, .ref qon, .ref qmn, .ref qpr, .ref qle, .ref qst, .ref qwt, .int (nI rc), .int (nI tk), .int (nI ps), .int (nI gn), .int bd, .ref qwo], aI G qpg 22 (nF p)]) 0 0 := by
  refine MM.ofI (by decide) rfl (fun Γ X Y hnm ret => ?_)
  show Wc Γ 0 0 0 [(0, .ref o), (1, .int (nI n)), (2, .int (nI 3))] [] [ob o 11 [.int th, .ref qtx, .int (nI ts), .int (nI pl), .ref qrp, .ref qpg, .ref qtr, .ref qbk, .int (nI dn), .ref qkp, .ref qik, .int (nI sn), .ref qsw, .ref qsi, .long sd, .ref qln, .ref qfm, .ref qby, .ref qwy, .int (nI wz), .ref qfo, .ref qon, .ref qmn, .ref qpr, .ref qle, .ref qst, .ref qwt, .int (nI rc), .int (nI tk), .int (nI ps), .int (nI gn), .int bd, .ref qwo], aI G qpg 22 (nF p)]
  have hpn := p9 hn
  have hgz : ∀ j, gz p j < 32 := mG_lt hr.2.2.2.2.1 0
  have hgo : ∀ j, go p j < 32 := mG_lt hr.2.2.2.2.1 1
  refine wc_aload_n X 0 0 dX11_many_0 rfl ?_
  refine wc_iconstN X 1 0 dX11_many_1 ?_
  refine wc_put X Y 2 0 0 kd11 rfl (by decide) q_765 rfl rfl rfl (Nat.le_of_ble_eq_true rfl) (ws' := [ob o 11 [.int (nI 0), .ref qtx, .int (nI ts), .int (nI pl), .ref qrp, .ref qpg, .ref qtr, .ref qbk, .int (nI dn), .ref qkp, .ref qik, .int (nI sn), .ref qsw, .ref qsi, .long sd, .ref qln, .ref qfm, .ref qby, .ref qwy, .int (nI wz), .ref qfo, .ref qon, .ref qmn, .ref qpr, .ref qle, .ref qst, .ref qwt, .int (nI rc), .int (nI tk), .int (nI ps), .int (nI gn), .int bd, .ref qwo], aI G qpg 22 (nF p)]) rfl dX11_many_2 ?_
  refine wc_iload_n X 5 1 dX11_many_5 rfl ?_
  refine wc_i2l X 6 dX11_many_6 ?_
  refine wc_lconst X 7 0 dX11_many_7 (by decide) ?_
  refine wc_ldc2 X 8 183 (9) q_996 dX11_many_8 ?_
  refine wc_callS X 11 [] (c_X11_in l G ((nI n).toInt64) 0 9 ) ys_X11_in rfl q_870 ⟨rfl, rfl⟩ ⟨rfl, rfl⟩ ⟨rfl, rfl⟩ rfl rfl rfl dX11_many_11 ?_
  refine wc_topi (b2i true) (congrArg b2i (inL_in (a := 0) (b := 9) rfl rfl (by omega) (by omega) (by omega))) ?_
  refine wc_if_eqB X 14 29 dX11_many_14 (by decide) (fun c14_1 => ?_) (fun c14_1 => ?_)
  ·
    exact absurd c14_1 (by decide)
  ·
    refine wc_iload_n X 17 2 dX11_many_17 rfl ?_
    refine wc_i2l X 18 dX11_many_18 ?_
    refine wc_lconst X 19 0 dX11_many_19 (by decide) ?_
    refine wc_ldc2 X 20 185 (3) q_997 dX11_many_20 ?_
    refine wc_callS X 23 [] (c_X11_in l G ((nI 3).toInt64) 0 3 ) ys_X11_in rfl q_870 ⟨rfl, rfl⟩ ⟨rfl, rfl⟩ ⟨rfl, rfl⟩ rfl rfl rfl dX11_many_23 ?_
    refine wc_topi (b2i true) (by decide) ?_
    refine wc_if_neB X 26 32 dX11_many_26 (by decide) (fun c26_2 => ?_) (fun c26_2 => ?_)
    ·
      refine wc_iconstN X 32 0 dX11_many_32 ?_
      refine wc_istore_n X 33 (L' := [(0, .ref o), (1, .int (nI n)), (2, .int (nI 3)), (3, .int (nI 0))]) dX11_many_33 (by decide) rfl ?_
      refine wc_iconstN X 34 0 dX11_many_34 ?_
      refine wc_istore X 35 (L' := [(0, .ref o), (1, .int (nI n)), (2, .int (nI 3)), (3, .int (nI 0)), (4, .int (nI 0))]) dX11_many_35 (by decide) rfl ?_
      have LP_4 : ∀ (fuel_3 : Nat) (b : Nat), (b ≤ 2 ^ n) → 2 ^ n - b < fuel_3 → Wc Γ 0 0 37 [(0, .ref o), (1, .int (nI n)), (2, .int (nI 3)), (3, .int (nI (manyB p n 3 b))), (4, .int (nI b))] [] [ob o 11 [.int (nI 0), .ref qtx, .int (nI ts), .int (nI pl), .ref qrp, .ref qpg, .ref qtr, .ref qbk, .int (nI dn), .ref qkp, .ref qik, .int (nI sn), .ref qsw, .ref qsi, .long sd, .ref qln, .ref qfm, .ref qby, .ref qwy, .int (nI wz), .ref qfo, .ref qon, .ref qmn, .ref qpr, .ref qle, .ref qst, .ref qwt, .int (nI rc), .int (nI tk), .int (nI ps), .int (nI gn), .int bd, .ref qwo], aI G qpg 22 (nF p)] := by
        intro fuel_3
        induction fuel_3 with
        | zero => intro b hb hm; exact absurd hm (Nat.not_lt_zero _)
        | succ fuel_3 ih_5 =>
          intro b hb hm_6
          refine wc_iload X 37 4 dX11_many_37 rfl ?_
          refine wc_iconstN X 39 1 dX11_many_39 ?_
          refine wc_iload_n X 40 1 dX11_many_40 rfl ?_
          refine wc_shl1 X 41 dX11_many_41 (by omega) ?_
          refine wc_icmp_geN X 42 179 dX11_many_42 (by decide) (by omega) (by omega) (fun c42_7 => ?_) (fun c42_7 => ?_)
          ·
            refine wc_iload_n X 179 3 dX11_many_179 rfl ?_
            exact ret 180 _ (nI (manyB p n 3 b)) _ dX11_many_180 (⟨by rw [show b = 2 ^ n by omega]; rfl, rfl⟩)
          ·
            refine wc_aload_n X 45 0 dX11_many_45 rfl ?_
            refine wc_get X 46 0 5 kd11 rfl (by decide) q_770 rfl dX11_many_46 ?_
            refine wc_iconstN X 49 0 dX11_many_49 ?_
            refine wc_iload X 50 4 dX11_many_50 rfl ?_
            refine wc_iload_n X 52 1 dX11_many_52 rfl ?_
            refine wc_callS X 53 [1] (c_X11_afterBits l G qpg p 0 b n hr.2.1 hr.2.2.2.1 hr.2.2.2.2.1 (by decide) (by omega) (by omega)) ys_X11_afterBits rfl q_998 ⟨rfl, rfl⟩ ⟨rfl, rfl⟩ ⟨rfl, rfl⟩ rfl rfl rfl dX11_many_53 ?_
            refine wc_topi (nI (afterB (gz p) (p 0) b n)) (congrArg nI (rfl)) ?_
            refine wc_aload_n X 56 0 dX11_many_56 rfl ?_
            refine wc_get X 57 0 5 kd11 rfl (by decide) q_770 rfl dX11_many_57 ?_
            refine wc_iconstN X 60 2 dX11_many_60 ?_
            refine wc_ialdG X 61 1 rfl (by decide) (by decide) dX11_many_61 ?_
            refine wc_iandN X 62 dX11_many_62 ?_
            refine wc_if_eqN X 63 70 dX11_many_63 (by decide) (and_lt (Nat.lt_trans (afterB_lt hgz _ _ _) (by decide))) (fun c63_8 => ?_) (fun c63_8 => ?_)
            ·
              refine wc_iconstN X 70 0 dX11_many_70 ?_
              refine wc_istore X 71 (L' := [(0, .ref o), (1, .int (nI n)), (2, .int (nI 3)), (3, .int (nI (manyB p n 3 b))), (4, .int (nI b)), (5, .int (nI 0))]) dX11_many_71 (by decide) rfl ?_
              refine wc_aload_n X 73 0 dX11_many_73 rfl ?_
              refine wc_get X 74 0 5 kd11 rfl (by decide) q_770 rfl dX11_many_74 ?_
              refine wc_iconstN X 77 1 dX11_many_77 ?_
              refine wc_iload X 78 4 dX11_many_78 rfl ?_
              refine wc_iload_n X 80 1 dX11_many_80 rfl ?_
              refine wc_callS X 81 [1] (c_X11_afterBits l G qpg p 1 b n hr.2.1 hr.2.2.2.1 hr.2.2.2.2.1 (by decide) (by omega) (by omega)) ys_X11_afterBits rfl q_998 ⟨rfl, rfl⟩ ⟨rfl, rfl⟩ ⟨rfl, rfl⟩ rfl rfl rfl dX11_many_81 ?_
              refine wc_topi (nI (afterB (go p) (p 1) b n)) (congrArg nI (rfl)) ?_
              refine wc_aload_n X 84 0 dX11_many_84 rfl ?_
              refine wc_get X 85 0 5 kd11 rfl (by decide) q_770 rfl dX11_many_85 ?_
              refine wc_iconstN X 88 3 dX11_many_88 ?_
              refine wc_ialdG X 89 1 rfl (by decide) (by decide) dX11_many_89 ?_
              refine wc_iandN X 90 dX11_many_90 ?_
              refine wc_if_eqN X 91 98 dX11_many_91 (by decide) (and_lt (Nat.lt_trans (afterB_lt hgo _ _ _) (by decide))) (fun c91_9 => ?_) (fun c91_9 => ?_)
              ·
                refine wc_iconstN X 98 0 dX11_many_98 ?_
                refine wc_istore X 99 (L' := [(0, .ref o), (1, .int (nI n)), (2, .int (nI 3)), (3, .int (nI (manyB p n 3 b))), (4, .int (nI b)), (5, .int (nI 0)), (6, .int (nI 0))]) dX11_many_99 (by decide) rfl ?_
                refine wc_iload_n X 101 2 dX11_many_101 rfl ?_
                refine wc_if_neN X 102 110 dX11_many_102 (by decide) (by decide) (fun c102_10 => ?_) (fun c102_10 => ?_)
                ·
                  refine wc_iload_n X 110 2 dX11_many_110 rfl ?_
                  refine wc_iconstN X 111 1 dX11_many_111 ?_
                  refine wc_icmp_neN X 112 120 dX11_many_112 (by decide) (by decide) (by decide) (fun c112_11 => ?_) (fun c112_11 => ?_)
                  ·
                    refine wc_iload_n X 120 2 dX11_many_120 rfl ?_
                    refine wc_iconstN X 121 2 dX11_many_121 ?_
                    refine wc_icmp_neN X 122 143 dX11_many_122 (by decide) (by decide) (by decide) (fun c122_12 => ?_) (fun c122_12 => ?_)
                    ·
                      refine wc_iload X 143 5 dX11_many_143 rfl ?_
                      refine wc_if_eqN X 145 157 dX11_many_145 (by decide) (by decide) (fun c145_13 => ?_) (fun c145_13 => ?_)
                      ·
                        refine wc_iconstN X 157 0 dX11_many_157 ?_
                        refine wc_istore X 158 (L' := [(0, .ref o), (1, .int (nI n)), (2, .int (nI 3)), (3, .int (nI (manyB p n 3 b))), (4, .int (nI b)), (5, .int (nI 0)), (6, .int (nI 0)), (7, .int (nI 0))]) dX11_many_158 (by decide) rfl ?_
                        refine wc_iload_n X 160 3 dX11_many_160 rfl ?_
                        refine wc_iload X 161 7 dX11_many_161 rfl ?_
                        refine wc_if_eqN X 163 170 dX11_many_163 (by decide) (by decide) (fun c163_14 => ?_) (fun c163_14 => ?_)
                        ·
                          refine wc_iconstN X 170 0 dX11_many_170 ?_
                          refine wc_iaddN X 171 dX11_many_171 ?_
                          refine wc_istore_n X 172 (L' := [(0, .ref o), (1, .int (nI n)), (2, .int (nI 3)), (3, .int (nI ((manyB p n 3 b) + 0))), (4, .int (nI b)), (5, .int (nI 0)), (6, .int (nI 0)), (7, .int (nI 0))]) dX11_many_172 (by decide) rfl ?_
                          refine wc_iincN X 173 4 (L' := [(0, .ref o), (1, .int (nI n)), (2, .int (nI 3)), (3, .int (nI ((manyB p n 3 b) + 0))), (4, .int (nI (b + 1))), (5, .int (nI 0)), (6, .int (nI 0)), (7, .int (nI 0))]) dX11_many_173 rfl (by decide) rfl ?_
                          refine wc_goto X 176 37 dX11_many_176 (by decide) ?_
                          have ha9 : (afterB (gz p) (p 0) b n &&& p 2 != 0) = false := by simpa using c63_8
                          have hb9 : (afterB (go p) (p 1) b n &&& p 3 != 0) = false := by simpa using c91_9
                          refine wc_loc [0, 1, 2, 3, 4] (L' := [(0, .ref o), (1, .int (nI n)), (2, .int (nI 3)), (3, .int (nI ((manyB p n 3 b) + 0))), (4, .int (nI (b + 1)))]) rfl ?_
                          have e_15 : (manyB p n 3 b) + 0 = manyB p n 3 (b + 1) := many_s ha9 hb9 (by decide)
                          refine wc_L (L' := [(0, .ref o), (1, .int (nI n)), (2, .int (nI 3)), (3, .int (nI (manyB p n 3 (b + 1)))), (4, .int (nI (b + 1)))]) (by first | (rw [e_15]; done) | (rw [e_15]; rfl) | (rw [← e_15]; done) | rfl) ?_
                          exact ih_5 (b + 1) (by omega) (by omega)
                        ·
                          exact absurd c163_14 (by decide)
                      ·
                        exact absurd c145_13 (by decide)
                    ·
                      exact absurd c122_12 (by decide)
                  ·
                    exact absurd c112_11 (by decide)
                ·
                  exact absurd c102_10 (by decide)
              ·
                refine wc_iconstN X 94 1 dX11_many_94 ?_
                refine wc_goto X 95 99 dX11_many_95 (by decide) ?_
                refine wc_istore X 99 (L' := [(0, .ref o), (1, .int (nI n)), (2, .int (nI 3)), (3, .int (nI (manyB p n 3 b))), (4, .int (nI b)), (5, .int (nI 0)), (6, .int (nI 1))]) dX11_many_99 (by decide) rfl ?_
                refine wc_iload_n X 101 2 dX11_many_101 rfl ?_
                refine wc_if_neN X 102 110 dX11_many_102 (by decide) (by decide) (fun c102_16 => ?_) (fun c102_16 => ?_)
                ·
                  refine wc_iload_n X 110 2 dX11_many_110 rfl ?_
                  refine wc_iconstN X 111 1 dX11_many_111 ?_
                  refine wc_icmp_neN X 112 120 dX11_many_112 (by decide) (by decide) (by decide) (fun c112_17 => ?_) (fun c112_17 => ?_)
                  ·
                    refine wc_iload_n X 120 2 dX11_many_120 rfl ?_
                    refine wc_iconstN X 121 2 dX11_many_121 ?_
                    refine wc_icmp_neN X 122 143 dX11_many_122 (by decide) (by decide) (by decide) (fun c122_18 => ?_) (fun c122_18 => ?_)
                    ·
                      refine wc_iload X 143 5 dX11_many_143 rfl ?_
                      refine wc_if_eqN X 145 157 dX11_many_145 (by decide) (by decide) (fun c145_19 => ?_) (fun c145_19 => ?_)
                      ·
                        refine wc_iconstN X 157 0 dX11_many_157 ?_
                        refine wc_istore X 158 (L' := [(0, .ref o), (1, .int (nI n)), (2, .int (nI 3)), (3, .int (nI (manyB p n 3 b))), (4, .int (nI b)), (5, .int (nI 0)), (6, .int (nI 1)), (7, .int (nI 0))]) dX11_many_158 (by decide) rfl ?_
                        refine wc_iload_n X 160 3 dX11_many_160 rfl ?_
                        refine wc_iload X 161 7 dX11_many_161 rfl ?_
                        refine wc_if_eqN X 163 170 dX11_many_163 (by decide) (by decide) (fun c163_20 => ?_) (fun c163_20 => ?_)
                        ·
                          refine wc_iconstN X 170 0 dX11_many_170 ?_
                          refine wc_iaddN X 171 dX11_many_171 ?_
                          refine wc_istore_n X 172 (L' := [(0, .ref o), (1, .int (nI n)), (2, .int (nI 3)), (3, .int (nI ((manyB p n 3 b) + 0))), (4, .int (nI b)), (5, .int (nI 0)), (6, .int (nI 1)), (7, .int (nI 0))]) dX11_many_172 (by decide) rfl ?_
                          refine wc_iincN X 173 4 (L' := [(0, .ref o), (1, .int (nI n)), (2, .int (nI 3)), (3, .int (nI ((manyB p n 3 b) + 0))), (4, .int (nI (b + 1))), (5, .int (nI 0)), (6, .int (nI 1)), (7, .int (nI 0))]) dX11_many_173 rfl (by decide) rfl ?_
                          refine wc_goto X 176 37 dX11_many_176 (by decide) ?_
                          have ha9 : (afterB (gz p) (p 0) b n &&& p 2 != 0) = false := by simpa using c63_8
                          have hb9 : (afterB (go p) (p 1) b n &&& p 3 != 0) = true := by simpa using c91_9
                          refine wc_loc [0, 1, 2, 3, 4] (L' := [(0, .ref o), (1, .int (nI n)), (2, .int (nI 3)), (3, .int (nI ((manyB p n 3 b) + 0))), (4, .int (nI (b + 1)))]) rfl ?_
                          have e_21 : (manyB p n 3 b) + 0 = manyB p n 3 (b + 1) := many_s ha9 hb9 (by decide)
                          refine wc_L (L' := [(0, .ref o), (1, .int (nI n)), (2, .int (nI 3)), (3, .int (nI (manyB p n 3 (b + 1)))), (4, .int (nI (b + 1)))]) (by first | (rw [e_21]; done) | (rw [e_21]; rfl) | (rw [← e_21]; done) | rfl) ?_
                          exact ih_5 (b + 1) (by omega) (by omega)
                        ·
                          exact absurd c163_20 (by decide)
                      ·
                        exact absurd c145_19 (by decide)
                    ·
                      exact absurd c122_18 (by decide)
                  ·
                    exact absurd c112_17 (by decide)
                ·
                  exact absurd c102_16 (by decide)
            ·
              refine wc_iconstN X 66 1 dX11_many_66 ?_
              refine wc_goto X 67 71 dX11_many_67 (by decide) ?_
              refine wc_istore X 71 (L' := [(0, .ref o), (1, .int (nI n)), (2, .int (nI 3)), (3, .int (nI (manyB p n 3 b))), (4, .int (nI b)), (5, .int (nI 1))]) dX11_many_71 (by decide) rfl ?_
              refine wc_aload_n X 73 0 dX11_many_73 rfl ?_
              refine wc_get X 74 0 5 kd11 rfl (by decide) q_770 rfl dX11_many_74 ?_
              refine wc_iconstN X 77 1 dX11_many_77 ?_
              refine wc_iload X 78 4 dX11_many_78 rfl ?_
              refine wc_iload_n X 80 1 dX11_many_80 rfl ?_
              refine wc_callS X 81 [1] (c_X11_afterBits l G qpg p 1 b n hr.2.1 hr.2.2.2.1 hr.2.2.2.2.1 (by decide) (by omega) (by omega)) ys_X11_afterBits rfl q_998 ⟨rfl, rfl⟩ ⟨rfl, rfl⟩ ⟨rfl, rfl⟩ rfl rfl rfl dX11_many_81 ?_
              refine wc_topi (nI (afterB (go p) (p 1) b n)) (congrArg nI (rfl)) ?_
              refine wc_aload_n X 84 0 dX11_many_84 rfl ?_
              refine wc_get X 85 0 5 kd11 rfl (by decide) q_770 rfl dX11_many_85 ?_
              refine wc_iconstN X 88 3 dX11_many_88 ?_
              refine wc_ialdG X 89 1 rfl (by decide) (by decide) dX11_many_89 ?_
              refine wc_iandN X 90 dX11_many_90 ?_
              refine wc_if_eqN X 91 98 dX11_many_91 (by decide) (and_lt (Nat.lt_trans (afterB_lt hgo _ _ _) (by decide))) (fun c91_22 => ?_) (fun c91_22 => ?_)
              ·
                refine wc_iconstN X 98 0 dX11_many_98 ?_
                refine wc_istore X 99 (L' := [(0, .ref o), (1, .int (nI n)), (2, .int (nI 3)), (3, .int (nI (manyB p n 3 b))), (4, .int (nI b)), (5, .int (nI 1)), (6, .int (nI 0))]) dX11_many_99 (by decide) rfl ?_
                refine wc_iload_n X 101 2 dX11_many_101 rfl ?_
                refine wc_if_neN X 102 110 dX11_many_102 (by decide) (by decide) (fun c102_23 => ?_) (fun c102_23 => ?_)
                ·
                  refine wc_iload_n X 110 2 dX11_many_110 rfl ?_
                  refine wc_iconstN X 111 1 dX11_many_111 ?_
                  refine wc_icmp_neN X 112 120 dX11_many_112 (by decide) (by decide) (by decide) (fun c112_24 => ?_) (fun c112_24 => ?_)
                  ·
                    refine wc_iload_n X 120 2 dX11_many_120 rfl ?_
                    refine wc_iconstN X 121 2 dX11_many_121 ?_
                    refine wc_icmp_neN X 122 143 dX11_many_122 (by decide) (by decide) (by decide) (fun c122_25 => ?_) (fun c122_25 => ?_)
                    ·
                      refine wc_iload X 143 5 dX11_many_143 rfl ?_
                      refine wc_if_eqN X 145 157 dX11_many_145 (by decide) (by decide) (fun c145_26 => ?_) (fun c145_26 => ?_)
                      ·
                        exact absurd c145_26 (by decide)
                      ·
                        refine wc_iload X 148 6 dX11_many_148 rfl ?_
                        refine wc_if_neN X 150 157 dX11_many_150 (by decide) (by decide) (fun c150_27 => ?_) (fun c150_27 => ?_)
                        ·
                          exact absurd c150_27 (by decide)
                        ·
                          refine wc_iconstN X 153 1 dX11_many_153 ?_
                          refine wc_goto X 154 158 dX11_many_154 (by decide) ?_
                          refine wc_istore X 158 (L' := [(0, .ref o), (1, .int (nI n)), (2, .int (nI 3)), (3, .int (nI (manyB p n 3 b))), (4, .int (nI b)), (5, .int (nI 1)), (6, .int (nI 0)), (7, .int (nI 1))]) dX11_many_158 (by decide) rfl ?_
                          refine wc_iload_n X 160 3 dX11_many_160 rfl ?_
                          refine wc_iload X 161 7 dX11_many_161 rfl ?_
                          refine wc_if_eqN X 163 170 dX11_many_163 (by decide) (by decide) (fun c163_28 => ?_) (fun c163_28 => ?_)
                          ·
                            exact absurd c163_28 (by decide)
                          ·
                            refine wc_iconstN X 166 1 dX11_many_166 ?_
                            refine wc_goto X 167 171 dX11_many_167 (by decide) ?_
                            refine wc_iaddN X 171 dX11_many_171 ?_
                            refine wc_istore_n X 172 (L' := [(0, .ref o), (1, .int (nI n)), (2, .int (nI 3)), (3, .int (nI ((manyB p n 3 b) + 1))), (4, .int (nI b)), (5, .int (nI 1)), (6, .int (nI 0)), (7, .int (nI 1))]) dX11_many_172 (by decide) rfl ?_
                            refine wc_iincN X 173 4 (L' := [(0, .ref o), (1, .int (nI n)), (2, .int (nI 3)), (3, .int (nI ((manyB p n 3 b) + 1))), (4, .int (nI (b + 1))), (5, .int (nI 1)), (6, .int (nI 0)), (7, .int (nI 1))]) dX11_many_173 rfl (by decide) rfl ?_
                            refine wc_goto X 176 37 dX11_many_176 (by decide) ?_
                            have ha9 : (afterB (gz p) (p 0) b n &&& p 2 != 0) = true := by simpa using c63_8
                            have hb9 : (afterB (go p) (p 1) b n &&& p 3 != 0) = false := by simpa using c91_22
                            refine wc_loc [0, 1, 2, 3, 4] (L' := [(0, .ref o), (1, .int (nI n)), (2, .int (nI 3)), (3, .int (nI ((manyB p n 3 b) + 1))), (4, .int (nI (b + 1)))]) rfl ?_
                            have e_29 : (manyB p n 3 b) + 1 = manyB p n 3 (b + 1) := many_s ha9 hb9 (by decide)
                            refine wc_L (L' := [(0, .ref o), (1, .int (nI n)), (2, .int (nI 3)), (3, .int (nI (manyB p n 3 (b + 1)))), (4, .int (nI (b + 1)))]) (by first | (rw [e_29]; done) | (rw [e_29]; rfl) | (rw [← e_29]; done) | rfl) ?_
                            exact ih_5 (b + 1) (by omega) (by omega)
                    ·
                      exact absurd c122_25 (by decide)
                  ·
                    exact absurd c112_24 (by decide)
                ·
                  exact absurd c102_23 (by decide)
              ·
                refine wc_iconstN X 94 1 dX11_many_94 ?_
                refine wc_goto X 95 99 dX11_many_95 (by decide) ?_
                refine wc_istore X 99 (L' := [(0, .ref o), (1, .int (nI n)), (2, .int (nI 3)), (3, .int (nI (manyB p n 3 b))), (4, .int (nI b)), (5, .int (nI 1)), (6, .int (nI 1))]) dX11_many_99 (by decide) rfl ?_
                refine wc_iload_n X 101 2 dX11_many_101 rfl ?_
                refine wc_if_neN X 102 110 dX11_many_102 (by decide) (by decide) (fun c102_30 => ?_) (fun c102_30 => ?_)
                ·
                  refine wc_iload_n X 110 2 dX11_many_110 rfl ?_
                  refine wc_iconstN X 111 1 dX11_many_111 ?_
                  refine wc_icmp_neN X 112 120 dX11_many_112 (by decide) (by decide) (by decide) (fun c112_31 => ?_) (fun c112_31 => ?_)
                  ·
                    refine wc_iload_n X 120 2 dX11_many_120 rfl ?_
                    refine wc_iconstN X 121 2 dX11_many_121 ?_
                    refine wc_icmp_neN X 122 143 dX11_many_122 (by decide) (by decide) (by decide) (fun c122_32 => ?_) (fun c122_32 => ?_)
                    ·
                      refine wc_iload X 143 5 dX11_many_143 rfl ?_
                      refine wc_if_eqN X 145 157 dX11_many_145 (by decide) (by decide) (fun c145_33 => ?_) (fun c145_33 => ?_)
                      ·
                        exact absurd c145_33 (by decide)
                      ·
                        refine wc_iload X 148 6 dX11_many_148 rfl ?_
                        refine wc_if_neN X 150 157 dX11_many_150 (by decide) (by decide) (fun c150_34 => ?_) (fun c150_34 => ?_)
                        ·
                          refine wc_iconstN X 157 0 dX11_many_157 ?_
                          refine wc_istore X 158 (L' := [(0, .ref o), (1, .int (nI n)), (2, .int (nI 3)), (3, .int (nI (manyB p n 3 b))), (4, .int (nI b)), (5, .int (nI 1)), (6, .int (nI 1)), (7, .int (nI 0))]) dX11_many_158 (by decide) rfl ?_
                          refine wc_iload_n X 160 3 dX11_many_160 rfl ?_
                          refine wc_iload X 161 7 dX11_many_161 rfl ?_
                          refine wc_if_eqN X 163 170 dX11_many_163 (by decide) (by decide) (fun c163_35 => ?_) (fun c163_35 => ?_)
                          ·
                            refine wc_iconstN X 170 0 dX11_many_170 ?_
                            refine wc_iaddN X 171 dX11_many_171 ?_
                            refine wc_istore_n X 172 (L' := [(0, .ref o), (1, .int (nI n)), (2, .int (nI 3)), (3, .int (nI ((manyB p n 3 b) + 0))), (4, .int (nI b)), (5, .int (nI 1)), (6, .int (nI 1)), (7, .int (nI 0))]) dX11_many_172 (by decide) rfl ?_
                            refine wc_iincN X 173 4 (L' := [(0, .ref o), (1, .int (nI n)), (2, .int (nI 3)), (3, .int (nI ((manyB p n 3 b) + 0))), (4, .int (nI (b + 1))), (5, .int (nI 1)), (6, .int (nI 1)), (7, .int (nI 0))]) dX11_many_173 rfl (by decide) rfl ?_
                            refine wc_goto X 176 37 dX11_many_176 (by decide) ?_
                            have ha9 : (afterB (gz p) (p 0) b n &&& p 2 != 0) = true := by simpa using c63_8
                            have hb9 : (afterB (go p) (p 1) b n &&& p 3 != 0) = true := by simpa using c91_22
                            refine wc_loc [0, 1, 2, 3, 4] (L' := [(0, .ref o), (1, .int (nI n)), (2, .int (nI 3)), (3, .int (nI ((manyB p n 3 b) + 0))), (4, .int (nI (b + 1)))]) rfl ?_
                            have e_36 : (manyB p n 3 b) + 0 = manyB p n 3 (b + 1) := many_s ha9 hb9 (by decide)
                            refine wc_L (L' := [(0, .ref o), (1, .int (nI n)), (2, .int (nI 3)), (3, .int (nI (manyB p n 3 (b + 1)))), (4, .int (nI (b + 1)))]) (by first | (rw [e_36]; done) | (rw [e_36]; rfl) | (rw [← e_36]; done) | rfl) ?_
                            exact ih_5 (b + 1) (by omega) (by omega)
                          ·
                            exact absurd c163_35 (by decide)
                        ·
                          exact absurd c150_34 (by decide)
                    ·
                      exact absurd c122_32 (by decide)
                  ·
                    exact absurd c112_31 (by decide)
                ·
                  exact absurd c102_30 (by decide)
      have e_37 : 0 = manyB p n 3 0 := rfl
      refine wc_L (L' := [(0, .ref o), (1, .int (nI n)), (2, .int (nI 3)), (3, .int (nI (manyB p n 3 0))), (4, .int (nI 0))]) (by first | (rw [e_37]; done) | (rw [e_37]; rfl) | (rw [← e_37]; done) | rfl) ?_
      exact LP_4 (2 ^ n - 0 + 1) 0 (by omega) (Nat.lt_succ_self _)
    ·
      exact absurd c26_2 (by decide)

set_option maxHeartbeats 4000000 in
set_option maxRecDepth 100000 in
theorem c_X11_weigh (l : Launch) (G : GG) (o : Nat) (th : Int32) (qtx ts pl qrp qpg qtr qbk dn qkp qik sn qsw qsi : Nat) (sd : Int64) (qln qfm qby qwy wz qfo qon qmn qpr qle qst qwt rc tk ps gn : Nat) (bd : Int32) (qwo : Nat) (p : Nat → Nat) (wo : Nat → Nat) (hr : pgOk p) : MM l G yX11_weigh (Cond.code yX11_weigh cX11_weigh 5 none) { frames := 3, cells := 0, slots := 0, locals := 72 } [.ref o] [ob o 11 [.int th, .ref qtx, .int (nI ts), .int (nI pl), .ref qrp, .ref qpg, .ref qtr, .ref qbk, .int (nI dn), .ref qkp, .ref qik, .int (nI sn), .ref qsw, .ref qsi, .long sd, .ref qln, .ref qfm, .ref qby, .ref qwy, .int (nI wz), .ref qfo, .ref qon, .ref qmn, .ref qpr, .ref qle, .ref qst, .ref qwt, .int (nI rc), .int (nI tk), .int (nI ps), .int (nI gn), .int bd, .ref qwo], aI G qpg 22 (nF p), aI G qwo 32 (nF wo)] (fun (v : Option Value) (w : va_W) => ∃ (wo2 : Nat → Nat), v = none ∧ w = [ob o 11 [.int th, .ref qtx, .int (nI ts), .int (nI pl), .ref qrp, .ref qpg, .ref qtr, .ref qbk, .int (nI dn), .ref qkp, .ref qik, .int (nI sn), .ref qsw, .ref qsi, .long sd, .ref qln, .ref qfm, .ref qby, .ref qwy, .int (nI wz), .ref qfo, .ref qon, .ref qmn, .ref qpr, .ref qle, .ref qst, .ref qwt, .int (nI rc), .int (nI tk), .int (nI ps), .int (nI gn), .int bd, .ref qwo], aI G qpg 22 (nF p), aI G qwo 32 (nF wo2)] ∧ (∀ S, S < 32 → wo2 S = worR p S 7)) 0 0 := by
  refine MM.ofV (by decide) rfl (fun Γ X Y hnm ret => ?_)
  show Wc Γ 0 0 0 [(0, .ref o)] [] [ob o 11 [.int th, .ref qtx, .int (nI ts), .int (nI pl), .ref qrp, .ref qpg, .ref qtr, .ref qbk, .int (nI dn), .ref qkp, .ref qik, .int (nI sn), .ref qsw, .ref qsi, .long sd, .ref qln, .ref qfm, .ref qby, .ref qwy, .int (nI wz), .ref qfo, .ref qon, .ref qmn, .ref qpr, .ref qle, .ref qst, .ref qwt, .int (nI rc), .int (nI tk), .int (nI ps), .int (nI gn), .int bd, .ref qwo], aI G qpg 22 (nF p), aI G qwo 32 (nF wo)]
  have hgz : ∀ j, gz p j < 32 := mG_lt hr.2.2.2.2.1 0
  have hgo : ∀ j, go p j < 32 := mG_lt hr.2.2.2.2.1 1
  refine wc_iconstN X 0 0 dX11_weigh_0 ?_
  refine wc_istore_n X 1 (L' := [(0, .ref o), (1, .int (nI 0))]) dX11_weigh_1 (by decide) rfl ?_
  have LP_2 : ∀ (fuel_1 : Nat) (i : Nat) (h : Nat → Nat), (i ≤ 32) → (∀ j, j < i → h j = 0) → 32 - i < fuel_1 → Wc Γ 0 0 2 [(0, .ref o), (1, .int (nI i))] [] [ob o 11 [.int th, .ref qtx, .int (nI ts), .int (nI pl), .ref qrp, .ref qpg, .ref qtr, .ref qbk, .int (nI dn), .ref qkp, .ref qik, .int (nI sn), .ref qsw, .ref qsi, .long sd, .ref qln, .ref qfm, .ref qby, .ref qwy, .int (nI wz), .ref qfo, .ref qon, .ref qmn, .ref qpr, .ref qle, .ref qst, .ref qwt, .int (nI rc), .int (nI tk), .int (nI ps), .int (nI gn), .int bd, .ref qwo], aI G qpg 22 (nF p), aI G qwo 32 (nF h)] := by
    intro fuel_1
    induction fuel_1 with
    | zero => intro i h hi hh hm; exact absurd hm (Nat.not_lt_zero _)
    | succ fuel_1 ih_3 =>
      intro i h hi hh hm_4
      refine wc_iload_n X 2 1 dX11_weigh_2 rfl ?_
      refine wc_bipush X 3 (nI 32) dX11_weigh_3 (by decide) ?_
      refine wc_icmp_geN X 5 21 dX11_weigh_5 (by decide) (by omega) (by decide) (fun c5_5 => ?_) (fun c5_5 => ?_)
      ·
        refine wc_iconstN X 21 0 dX11_weigh_21 ?_
        refine wc_istore_n X 22 (L' := [(0, .ref o), (1, .int (nI 0))]) dX11_weigh_22 (by decide) rfl ?_
        have LP_7 : ∀ (fuel_6 : Nat) (n : Nat) (h2 : Nat → Nat), (n ≤ 7) → (∀ S, S < 32 → h2 S = worR p S n) → 7 - n < fuel_6 → Wc Γ 0 0 23 [(0, .ref o), (1, .int (nI n))] [] [ob o 11 [.int th, .ref qtx, .int (nI ts), .int (nI pl), .ref qrp, .ref qpg, .ref qtr, .ref qbk, .int (nI dn), .ref qkp, .ref qik, .int (nI sn), .ref qsw, .ref qsi, .long sd, .ref qln, .ref qfm, .ref qby, .ref qwy, .int (nI wz), .ref qfo, .ref qon, .ref qmn, .ref qpr, .ref qle, .ref qst, .ref qwt, .int (nI rc), .int (nI tk), .int (nI ps), .int (nI gn), .int bd, .ref qwo], aI G qpg 22 (nF p), aI G qwo 32 (nF h2)] := by
          intro fuel_6
          induction fuel_6 with
          | zero => intro n h2 hn hh2 hm; exact absurd hm (Nat.not_lt_zero _)
          | succ fuel_6 ih_8 =>
            intro n h2 hn hh2 hm_9
            have hpn : 2 ^ n ≤ 128 := Nat.le_trans (Nat.pow_le_pow_right (by decide) hn) (by decide)
            refine wc_iload_n X 23 1 dX11_weigh_23 rfl ?_
            refine wc_bipush X 24 (nI 7) dX11_weigh_24 (by decide) ?_
            refine wc_icmp_geN X 26 119 dX11_weigh_26 (by decide) (by omega) (by decide) (fun c26_10 => ?_) (fun c26_10 => ?_)
            ·
              exact ret 119 _ _ dX11_weigh_119 (⟨h2, rfl, rfl, fun S hS => by rw [hh2 S hS, show n = 7 by omega]⟩)
            ·
              refine wc_iconstN X 29 0 dX11_weigh_29 ?_
              refine wc_istore_n X 30 (L' := [(0, .ref o), (1, .int (nI n)), (2, .int (nI 0))]) dX11_weigh_30 (by decide) rfl ?_
              have LP_12 : ∀ (fuel_11 : Nat) (b : Nat) (h3 : Nat → Nat), (b ≤ 2 ^ n) → (∀ S, S < 32 → h3 S = worR p S n + worB p S n b) → 2 ^ n - b < fuel_11 → Wc Γ 0 0 31 [(0, .ref o), (1, .int (nI n)), (2, .int (nI b))] [] [ob o 11 [.int th, .ref qtx, .int (nI ts), .int (nI pl), .ref qrp, .ref qpg, .ref qtr, .ref qbk, .int (nI dn), .ref qkp, .ref qik, .int (nI sn), .ref qsw, .ref qsi, .long sd, .ref qln, .ref qfm, .ref qby, .ref qwy, .int (nI wz), .ref qfo, .ref qon, .ref qmn, .ref qpr, .ref qle, .ref qst, .ref qwt, .int (nI rc), .int (nI tk), .int (nI ps), .int (nI gn), .int bd, .ref qwo], aI G qpg 22 (nF p), aI G qwo 32 (nF h3)] := by
                intro fuel_11
                induction fuel_11 with
                | zero => intro b h3 hb hh3 hm; exact absurd hm (Nat.not_lt_zero _)
                | succ fuel_11 ih_13 =>
                  intro b h3 hb hh3 hm_14
                  refine wc_iload_n X 31 2 dX11_weigh_31 rfl ?_
                  refine wc_iconstN X 32 1 dX11_weigh_32 ?_
                  refine wc_iload_n X 33 1 dX11_weigh_33 rfl ?_
                  refine wc_shl1 X 34 dX11_weigh_34 (by omega) ?_
                  refine wc_icmp_geN X 35 113 dX11_weigh_35 (by decide) (by omega) (by omega) (fun c35_15 => ?_) (fun c35_15 => ?_)
                  ·
                    refine wc_iincN X 113 1 (L' := [(0, .ref o), (1, .int (nI (n + 1))), (2, .int (nI b))]) dX11_weigh_113 rfl (by decide) rfl ?_
                    refine wc_goto X 116 23 dX11_weigh_116 (by decide) ?_
                    refine wc_loc [0, 1] (L' := [(0, .ref o), (1, .int (nI (n + 1)))]) rfl ?_
                    refine wc_L (L' := [(0, .ref o), (1, .int (nI (n + 1)))]) (by rfl) ?_
                    exact ih_8 (n + 1) h3 (by omega) (fun S hS => by rw [hh3 S hS, show b = 2 ^ n by omega]; rfl) (by omega)
                  ·
                    refine wc_aload_n X 38 0 dX11_weigh_38 rfl ?_
                    refine wc_get X 39 0 5 kd11 rfl (by decide) q_770 rfl dX11_weigh_39 ?_
                    refine wc_iconstN X 42 0 dX11_weigh_42 ?_
                    refine wc_iload_n X 43 2 dX11_weigh_43 rfl ?_
                    refine wc_iload_n X 44 1 dX11_weigh_44 rfl ?_
                    refine wc_callS X 45 [1] (c_X11_afterBits l G qpg p 0 b n hr.2.1 hr.2.2.2.1 hr.2.2.2.2.1 (by decide) (by omega) (by omega)) ys_X11_afterBits rfl q_998 ⟨rfl, rfl⟩ ⟨rfl, rfl⟩ ⟨rfl, rfl⟩ rfl rfl rfl dX11_weigh_45 ?_
                    refine wc_topi (nI (afterB (gz p) (p 0) b n)) (congrArg nI (rfl)) ?_
                    refine wc_aload_n X 48 0 dX11_weigh_48 rfl ?_
                    refine wc_get X 49 0 5 kd11 rfl (by decide) q_770 rfl dX11_weigh_49 ?_
                    refine wc_iconstN X 52 2 dX11_weigh_52 ?_
                    refine wc_ialdG X 53 1 rfl (by decide) (by decide) dX11_weigh_53 ?_
                    refine wc_iandN X 54 dX11_weigh_54 ?_
                    refine wc_if_eqN X 55 107 dX11_weigh_55 (by decide) (and_lt (Nat.lt_trans (afterB_lt hgz _ _ _) (by decide))) (fun c55_16 => ?_) (fun c55_16 => ?_)
                    ·
                      refine wc_iincN X 107 2 (L' := [(0, .ref o), (1, .int (nI n)), (2, .int (nI (b + 1)))]) dX11_weigh_107 rfl (by decide) rfl ?_
                      refine wc_goto X 110 31 dX11_weigh_110 (by decide) ?_
                      refine wc_L (L' := [(0, .ref o), (1, .int (nI n)), (2, .int (nI (b + 1)))]) (by rfl) ?_
                      exact ih_13 (b + 1) h3 (by omega) (fun S hS => by rw [hh3 S hS]; exact wor_s0 (by simpa using c55_16)) (by omega)
                    ·
                      refine wc_aload_n X 58 0 dX11_weigh_58 rfl ?_
                      refine wc_get X 59 0 5 kd11 rfl (by decide) q_770 rfl dX11_weigh_59 ?_
                      refine wc_iconstN X 62 1 dX11_weigh_62 ?_
                      refine wc_iload_n X 63 2 dX11_weigh_63 rfl ?_
                      refine wc_iload_n X 64 1 dX11_weigh_64 rfl ?_
                      refine wc_callS X 65 [1] (c_X11_afterBits l G qpg p 1 b n hr.2.1 hr.2.2.2.1 hr.2.2.2.2.1 (by decide) (by omega) (by omega)) ys_X11_afterBits rfl q_998 ⟨rfl, rfl⟩ ⟨rfl, rfl⟩ ⟨rfl, rfl⟩ rfl rfl rfl dX11_weigh_65 ?_
                      refine wc_topi (nI (afterB (go p) (p 1) b n)) (congrArg nI (rfl)) ?_
                      refine wc_istore_n X 68 (L' := [(0, .ref o), (1, .int (nI n)), (2, .int (nI b)), (3, .int (nI (afterB (go p) (p 1) b n)))]) dX11_weigh_68 (by decide) rfl ?_
                      refine wc_iconstN X 69 0 dX11_weigh_69 ?_
                      refine wc_istore X 70 (L' := [(0, .ref o), (1, .int (nI n)), (2, .int (nI b)), (3, .int (nI (afterB (go p) (p 1) b n))), (4, .int (nI 0))]) dX11_weigh_70 (by decide) rfl ?_
                      have LP_18 : ∀ (fuel_17 : Nat) (T : Nat) (h4 : Nat → Nat), (T ≤ 32) → (∀ S, S < 32 → (S < T → h4 S = worR p S n + worB p S n b + (afterB (go p) (p 1) b n &&& S != 0).toNat) ∧ (T ≤ S → h4 S = worR p S n + worB p S n b)) → 32 - T < fuel_17 → Wc Γ 0 0 72 [(0, .ref o), (1, .int (nI n)), (2, .int (nI b)), (3, .int (nI (afterB (go p) (p 1) b n))), (4, .int (nI T))] [] [ob o 11 [.int th, .ref qtx, .int (nI ts), .int (nI pl), .ref qrp, .ref qpg, .ref qtr, .ref qbk, .int (nI dn), .ref qkp, .ref qik, .int (nI sn), .ref qsw, .ref qsi, .long sd, .ref qln, .ref qfm, .ref qby, .ref qwy, .int (nI wz), .ref qfo, .ref qon, .ref qmn, .ref qpr, .ref qle, .ref qst, .ref qwt, .int (nI rc), .int (nI tk), .int (nI ps), .int (nI gn), .int bd, .ref qwo], aI G qpg 22 (nF p), aI G qwo 32 (nF h4)] := by
                        intro fuel_17
                        induction fuel_17 with
                        | zero => intro T h4 hT hh4 hm; exact absurd hm (Nat.not_lt_zero _)
                        | succ fuel_17 ih_19 =>
                          intro T h4 hT hh4 hm_20
                          refine wc_iload X 72 4 dX11_weigh_72 rfl ?_
                          refine wc_bipush X 74 (nI 32) dX11_weigh_74 (by decide) ?_
                          refine wc_icmp_geN X 76 107 dX11_weigh_76 (by decide) (by omega) (by decide) (fun c76_21 => ?_) (fun c76_21 => ?_)
                          ·
                            refine wc_iincN X 107 2 (L' := [(0, .ref o), (1, .int (nI n)), (2, .int (nI (b + 1))), (3, .int (nI (afterB (go p) (p 1) b n))), (4, .int (nI T))]) dX11_weigh_107 rfl (by decide) rfl ?_
                            refine wc_goto X 110 31 dX11_weigh_110 (by decide) ?_
                            refine wc_loc [0, 1, 2] (L' := [(0, .ref o), (1, .int (nI n)), (2, .int (nI (b + 1)))]) rfl ?_
                            refine wc_L (L' := [(0, .ref o), (1, .int (nI n)), (2, .int (nI (b + 1)))]) (by rfl) ?_
                            exact ih_13 (b + 1) h4 (by omega) (fun S hS => by rw [(hh4 S hS).1 (by omega)]; exact wor_s1 (by simpa using c55_16)) (by omega)
                          ·
                            refine wc_aload_n X 79 0 dX11_weigh_79 rfl ?_
                            refine wc_get X 80 0 32 kd11 rfl (by decide) q_797 rfl dX11_weigh_80 ?_
                            refine wc_iload X 83 4 dX11_weigh_83 rfl ?_
                            refine wc_dup2 X 85 dX11_weigh_85 rfl rfl ?_
                            refine wc_ialdG X 86 2 rfl (by omega) (by decide) dX11_weigh_86 ?_
                            refine wc_iload_n X 87 3 dX11_weigh_87 rfl ?_
                            refine wc_iload X 88 4 dX11_weigh_88 rfl ?_
                            refine wc_iandN X 90 dX11_weigh_90 ?_
                            refine wc_if_eqN X 91 98 dX11_weigh_91 (by decide) (and_lt (Nat.lt_trans (afterB_lt hgo _ _ _) (by decide))) (fun c91_22 => ?_) (fun c91_22 => ?_)
                            ·
                              refine wc_iconstN X 98 0 dX11_weigh_98 ?_
                              refine wc_iaddN X 99 dX11_weigh_99 ?_
                              refine wc_iastG X Y 100 2 rfl (by omega) (by decide) (ws' := [ob o 11 [.int th, .ref qtx, .int (nI ts), .int (nI pl), .ref qrp, .ref qpg, .ref qtr, .ref qbk, .int (nI dn), .ref qkp, .ref qik, .int (nI sn), .ref qsw, .ref qsi, .long sd, .ref qln, .ref qfm, .ref qby, .ref qwy, .int (nI wz), .ref qfo, .ref qon, .ref qmn, .ref qpr, .ref qle, .ref qst, .ref qwt, .int (nI rc), .int (nI tk), .int (nI ps), .int (nI gn), .int bd, .ref qwo], aI G qpg 22 (nF p), aI G qwo 32 (nF (up h4 T ((h4 T) + 0)))]) rfl dX11_weigh_100 ?_
                              refine wc_iincN X 101 4 (L' := [(0, .ref o), (1, .int (nI n)), (2, .int (nI b)), (3, .int (nI (afterB (go p) (p 1) b n))), (4, .int (nI (T + 1)))]) dX11_weigh_101 rfl (by decide) rfl ?_
                              refine wc_goto X 104 72 dX11_weigh_104 (by decide) ?_
                              refine wc_L (L' := [(0, .ref o), (1, .int (nI n)), (2, .int (nI b)), (3, .int (nI (afterB (go p) (p 1) b n))), (4, .int (nI (T + 1)))]) (by rfl) ?_
                              exact ih_19 (T + 1) (up h4 T ((h4 T) + 0)) (by omega) (wor_in hh4 (by omega) (by simpa using c91_22)) (by omega)
                            ·
                              refine wc_iconstN X 94 1 dX11_weigh_94 ?_
                              refine wc_goto X 95 99 dX11_weigh_95 (by decide) ?_
                              refine wc_iaddN X 99 dX11_weigh_99 ?_
                              refine wc_iastG X Y 100 2 rfl (by omega) (by decide) (ws' := [ob o 11 [.int th, .ref qtx, .int (nI ts), .int (nI pl), .ref qrp, .ref qpg, .ref qtr, .ref qbk, .int (nI dn), .ref qkp, .ref qik, .int (nI sn), .ref qsw, .ref qsi, .long sd, .ref qln, .ref qfm, .ref qby, .ref qwy, .int (nI wz), .ref qfo, .ref qon, .ref qmn, .ref qpr, .ref qle, .ref qst, .ref qwt, .int (nI rc), .int (nI tk), .int (nI ps), .int (nI gn), .int bd, .ref qwo], aI G qpg 22 (nF p), aI G qwo 32 (nF (up h4 T ((h4 T) + 1)))]) rfl dX11_weigh_100 ?_
                              refine wc_iincN X 101 4 (L' := [(0, .ref o), (1, .int (nI n)), (2, .int (nI b)), (3, .int (nI (afterB (go p) (p 1) b n))), (4, .int (nI (T + 1)))]) dX11_weigh_101 rfl (by decide) rfl ?_
                              refine wc_goto X 104 72 dX11_weigh_104 (by decide) ?_
                              refine wc_L (L' := [(0, .ref o), (1, .int (nI n)), (2, .int (nI b)), (3, .int (nI (afterB (go p) (p 1) b n))), (4, .int (nI (T + 1)))]) (by rfl) ?_
                              exact ih_19 (T + 1) (up h4 T ((h4 T) + 1)) (by omega) (wor_in hh4 (by omega) (by simpa using c91_22)) (by omega)
                      exact LP_18 (32 - 0 + 1) 0 h3 (by decide) (fun S hS => ⟨fun z => absurd z (Nat.not_lt_zero _), fun _ => hh3 S hS⟩) (Nat.lt_succ_self _)
              exact LP_12 (2 ^ n - 0 + 1) 0 h2 (Nat.zero_le _) (fun S hS => by rw [hh2 S hS]; rfl) (Nat.lt_succ_self _)
        exact LP_7 (7 - 0 + 1) 0 h (by decide) (fun S hS => hh S (by omega)) (Nat.lt_succ_self _)
      ·
        refine wc_aload_n X 8 0 dX11_weigh_8 rfl ?_
        refine wc_get X 9 0 32 kd11 rfl (by decide) q_797 rfl dX11_weigh_9 ?_
        refine wc_iload_n X 12 1 dX11_weigh_12 rfl ?_
        refine wc_iconstN X 13 0 dX11_weigh_13 ?_
        refine wc_iastG X Y 14 2 rfl (by omega) (by decide) (ws' := [ob o 11 [.int th, .ref qtx, .int (nI ts), .int (nI pl), .ref qrp, .ref qpg, .ref qtr, .ref qbk, .int (nI dn), .ref qkp, .ref qik, .int (nI sn), .ref qsw, .ref qsi, .long sd, .ref qln, .ref qfm, .ref qby, .ref qwy, .int (nI wz), .ref qfo, .ref qon, .ref qmn, .ref qpr, .ref qle, .ref qst, .ref qwt, .int (nI rc), .int (nI tk), .int (nI ps), .int (nI gn), .int bd, .ref qwo], aI G qpg 22 (nF p), aI G qwo 32 (nF (up h i 0))]) rfl dX11_weigh_14 ?_
        refine wc_iincN X 15 1 (L' := [(0, .ref o), (1, .int (nI (i + 1)))]) dX11_weigh_15 rfl (by decide) rfl ?_
        refine wc_goto X 18 2 dX11_weigh_18 (by decide) ?_
        refine wc_L (L' := [(0, .ref o), (1, .int (nI (i + 1)))]) (by rfl) ?_
        exact ih_3 (i + 1) (up h i 0) (by omega) (up_lt (f := fun _ => 0) hh) (by omega)
  exact LP_2 (32 - 0 + 1) 0 wo (by decide) (fun j hj => absurd hj (Nat.not_lt_zero _)) (Nat.lt_succ_self _)

set_option maxHeartbeats 4000000 in
set_option maxRecDepth 100000 in
theorem c_X11_shareF (l : Launch) (G : GG) (o : Nat) (th : Int32) (qtx ts pl qrp qpg qtr qbk dn qkp qik sn qsw qsi : Nat) (sd : Int64) (qln qfm qby qwy wz qfo qon qmn qpr qle qst qwt rc tk ps gn : Nat) (bd : Int32) (qwo : Nat) (p : Nat → Nat) (i : Int32) (u : Bool) (hr : pgOk p) (hb : knB (p 1) i = false) : MM l G yX11_share (Cond.code yX11_share cX11_share 8 (some .int)) { frames := 2, cells := 0, slots := 0, locals := 47 } [.ref o, .int i, .int (b2i u)] [ob o 11 [.int th, .ref qtx, .int (nI ts), .int (nI pl), .ref qrp, .ref qpg, .ref qtr, .ref qbk, .int (nI dn), .ref qkp, .ref qik, .int (nI sn), .ref qsw, .ref qsi, .long sd, .ref qln, .ref qfm, .ref qby, .ref qwy, .int (nI wz), .ref qfo, .ref qon, .ref qmn, .ref qpr, .ref qle, .ref qst, .ref qwt, .int (nI rc), .int (nI tk), .int (nI ps), .int (nI gn), .int bd, .ref qwo], aI G qpg 22 (nF p)] (fun (v : Option Value) (w : va_W) => v = some (.int (-1)) ∧ w = [ob o 11 [.int (nI 0), .ref qtx, .int (nI ts), .int (nI pl), .ref qrp, .ref qpg, .ref qtr, .ref qbk, .int (nI dn), .ref qkp, .ref qik, .int (nI sn), .ref qsw, .ref qsi, .long sd, .ref qln, .ref qfm, .ref qby, .ref qwy, .int (nI wz), .ref qfo, .ref qon, .ref qmn, .ref qpr, .ref qle, .ref qst, .ref qwt, .int (nI rc), .int (nI tk), .int (nI ps), .int (nI gn), .int bd, .ref qwo], aI G qpg 22 (nF p)]) 0 0 := by
  refine MM.ofI (by decide) rfl (fun Γ X Y hnm ret => ?_)
  show Wc Γ 0 0 0 [(0, .ref o), (1, .int i), (2, .int (b2i u))] [] [ob o 11 [.int th, .ref qtx, .int (nI ts), .int (nI pl), .ref qrp, .ref qpg, .ref qtr, .ref qbk, .int (nI dn), .ref qkp, .ref qik, .int (nI sn), .ref qsw, .ref qsi, .long sd, .ref qln, .ref qfm, .ref qby, .ref qwy, .int (nI wz), .ref qfo, .ref qon, .ref qmn, .ref qpr, .ref qle, .ref qst, .ref qwt, .int (nI rc), .int (nI tk), .int (nI ps), .int (nI gn), .int bd, .ref qwo], aI G qpg 22 (nF p)]
  refine wc_aload_n X 0 0 dX11_share_0 rfl ?_
  refine wc_iconstN X 1 0 dX11_share_1 ?_
  refine wc_put X Y 2 0 0 kd11 rfl (by decide) q_765 rfl rfl rfl (Nat.le_of_ble_eq_true rfl) (ws' := [ob o 11 [.int (nI 0), .ref qtx, .int (nI ts), .int (nI pl), .ref qrp, .ref qpg, .ref qtr, .ref qbk, .int (nI dn), .ref qkp, .ref qik, .int (nI sn), .ref qsw, .ref qsi, .long sd, .ref qln, .ref qfm, .ref qby, .ref qwy, .int (nI wz), .ref qfo, .ref qon, .ref qmn, .ref qpr, .ref qle, .ref qst, .ref qwt, .int (nI rc), .int (nI tk), .int (nI ps), .int (nI gn), .int bd, .ref qwo], aI G qpg 22 (nF p)]) rfl dX11_share_2 ?_
  refine wc_aload_n X 5 0 dX11_share_5 rfl ?_
  refine wc_iconstN X 6 1 dX11_share_6 ?_
  refine wc_iload_n X 7 1 dX11_share_7 rfl ?_
  refine wc_callV X 8 [0, 1] 0 (c_X11_noState l G o (nI 0) qtx ts pl qrp qpg qtr qbk dn qkp qik sn qsw qsi sd qln qfm qby qwy wz qfo qon qmn qpr qle qst qwt rc tk ps gn bd qwo p (nI 1) i (by first | assumption | omega)) yv_X11_noState kd11 rfl rfl q_941 ⟨rfl, rfl⟩ ⟨rfl, rfl⟩ ⟨rfl, rfl⟩ rfl rfl rfl dX11_share_8 ?_
  refine wc_topi (b2i true) (congrArg b2i (by rw [show stOf (p 0) (p 1) (nI 1) i = knB (p 1) i from stOf_1 _ _ _, hb]; rfl)) ?_
  refine wc_if_eqB X 11 16 dX11_share_11 (by decide) (fun c11_1 => ?_) (fun c11_1 => ?_)
  ·
    exact absurd c11_1 (by decide)
  ·
    refine wc_iconst X 14 (-1) dX11_share_14 (by decide) ?_
    exact ret 15 _ (-1) _ dX11_share_15 (⟨rfl, rfl⟩)

set_option maxHeartbeats 4000000 in
set_option maxRecDepth 100000 in
theorem c_X11_shareN (l : Launch) (G : GG) (o : Nat) (th : Int32) (qtx ts pl qrp qpg qtr qbk dn qkp qik sn qsw qsi : Nat) (sd : Int64) (qln qfm qby qwy wz qfo qon qmn qpr qle qst qwt rc tk ps gn : Nat) (bd : Int32) (qwo : Nat) (p : Nat → Nat) (i : Nat) (u : Bool) (hr : pgOk p) (hi : i < p 1) (hb : Nat.testBit (p 3) i = false) : MM l G yX11_share (Cond.code yX11_share cX11_share 8 (some .int)) { frames := 2, cells := 0, slots := 0, locals := 47 } [.ref o, .int (nI i), .int (b2i u)] [ob o 11 [.int th, .ref qtx, .int (nI ts), .int (nI pl), .ref qrp, .ref qpg, .ref qtr, .ref qbk, .int (nI dn), .ref qkp, .ref qik, .int (nI sn), .ref qsw, .ref qsi, .long sd, .ref qln, .ref qfm, .ref qby, .ref qwy, .int (nI wz), .ref qfo, .ref qon, .ref qmn, .ref qpr, .ref qle, .ref qst, .ref qwt, .int (nI rc), .int (nI tk), .int (nI ps), .int (nI gn), .int bd, .ref qwo], aI G qpg 22 (nF p)] (fun (v : Option Value) (w : va_W) => v = some (.int (-3)) ∧ w = [ob o 11 [.int (nI 0), .ref qtx, .int (nI ts), .int (nI pl), .ref qrp, .ref qpg, .ref qtr, .ref qbk, .int (nI dn), .ref qkp, .ref qik, .int (nI sn), .ref qsw, .ref qsi, .long sd, .ref qln, .ref qfm, .ref qby, .ref qwy, .int (nI wz), .ref qfo, .ref qon, .ref qmn, .ref qpr, .ref qle, .ref qst, .ref qwt, .int (nI rc), .int (nI tk), .int (nI ps), .int (nI gn), .int bd, .ref qwo], aI G qpg 22 (nF p)]) 0 0 := by
  refine MM.ofI (by decide) rfl (fun Γ X Y hnm ret => ?_)
  show Wc Γ 0 0 0 [(0, .ref o), (1, .int (nI i)), (2, .int (b2i u))] [] [ob o 11 [.int th, .ref qtx, .int (nI ts), .int (nI pl), .ref qrp, .ref qpg, .ref qtr, .ref qbk, .int (nI dn), .ref qkp, .ref qik, .int (nI sn), .ref qsw, .ref qsi, .long sd, .ref qln, .ref qfm, .ref qby, .ref qwy, .int (nI wz), .ref qfo, .ref qon, .ref qmn, .ref qpr, .ref qle, .ref qst, .ref qwt, .int (nI rc), .int (nI tk), .int (nI ps), .int (nI gn), .int bd, .ref qwo], aI G qpg 22 (nF p)]
  have hn1 := hr.2.2.2.1
  refine wc_aload_n X 0 0 dX11_share_0 rfl ?_
  refine wc_iconstN X 1 0 dX11_share_1 ?_
  refine wc_put X Y 2 0 0 kd11 rfl (by decide) q_765 rfl rfl rfl (Nat.le_of_ble_eq_true rfl) (ws' := [ob o 11 [.int (nI 0), .ref qtx, .int (nI ts), .int (nI pl), .ref qrp, .ref qpg, .ref qtr, .ref qbk, .int (nI dn), .ref qkp, .ref qik, .int (nI sn), .ref qsw, .ref qsi, .long sd, .ref qln, .ref qfm, .ref qby, .ref qwy, .int (nI wz), .ref qfo, .ref qon, .ref qmn, .ref qpr, .ref qle, .ref qst, .ref qwt, .int (nI rc), .int (nI tk), .int (nI ps), .int (nI gn), .int bd, .ref qwo], aI G qpg 22 (nF p)]) rfl dX11_share_2 ?_
  refine wc_aload_n X 5 0 dX11_share_5 rfl ?_
  refine wc_iconstN X 6 1 dX11_share_6 ?_
  refine wc_iload_n X 7 1 dX11_share_7 rfl ?_
  refine wc_callV X 8 [0, 1] 0 (c_X11_noState l G o (nI 0) qtx ts pl qrp qpg qtr qbk dn qkp qik sn qsw qsi sd qln qfm qby qwy wz qfo qon qmn qpr qle qst qwt rc tk ps gn bd qwo p (nI 1) (nI i) (by first | assumption | omega)) yv_X11_noState kd11 rfl rfl q_941 ⟨rfl, rfl⟩ ⟨rfl, rfl⟩ ⟨rfl, rfl⟩ rfl rfl rfl dX11_share_8 ?_
  refine wc_topi (b2i false) (congrArg b2i (by rw [stO_p (m := 1) hr (by decide) hi]; rfl)) ?_
  refine wc_if_eqB X 11 16 dX11_share_11 (by decide) (fun c11_1 => ?_) (fun c11_1 => ?_)
  ·
    refine wc_aload_n X 16 0 dX11_share_16 rfl ?_
    refine wc_get X 17 0 5 kd11 rfl (by decide) q_770 rfl dX11_share_17 ?_
    refine wc_iconstN X 20 3 dX11_share_20 ?_
    refine wc_ialdG X 21 1 rfl (by decide) (by decide) dX11_share_21 ?_
    refine wc_istore_n X 22 (L' := [(0, .ref o), (1, .int (nI i)), (2, .int (b2i u)), (3, .int (nI (p 3)))]) dX11_share_22 (by decide) rfl ?_
    refine wc_iload_n X 23 3 dX11_share_23 rfl ?_
    refine wc_iload_n X 24 1 dX11_share_24 rfl ?_
    refine wc_callS X 25 [] (c_X11_has l G (p 3) i (Nat.lt_trans (hr.2.2.2.2.1 _) (by decide)) (by omega)) ys_X11_has rfl q_916 ⟨rfl, rfl⟩ ⟨rfl, rfl⟩ ⟨rfl, rfl⟩ rfl rfl rfl dX11_share_25 ?_
    refine wc_topi (b2i false) (congrArg b2i hb) ?_
    refine wc_if_neB X 28 34 dX11_share_28 (by decide) (fun c28_2 => ?_) (fun c28_2 => ?_)
    ·
      exact absurd c28_2 (by decide)
    ·
      refine wc_bipush X 31 (-3) dX11_share_31 (by decide) ?_
      exact ret 33 _ (-3) _ dX11_share_33 (⟨rfl, rfl⟩)
  ·
    exact absurd c11_1 (by decide)

set_option maxHeartbeats 4000000 in
set_option maxRecDepth 100000 in
theorem c_X11_shareS (l : Launch) (G : GG) (o : Nat) (th : Int32) (qtx ts pl qrp qpg qtr qbk dn qkp qik sn qsw qsi : Nat) (sd : Int64) (qln qfm qby qwy wz qfo qon qmn qpr qle qst qwt rc tk ps gn : Nat) (bd : Int32) (qwo : Nat) (p : Nat → Nat) (wo : Nat → Nat) (i : Nat) (u : Bool) (hr : pgOk p) (hi : i < p 1) (hb : Nat.testBit (p 3) i = true) : MM l G yX11_share (Cond.code yX11_share cX11_share 8 (some .int)) { frames := 4, cells := 0, slots := 0, locals := 96 } [.ref o, .int (nI i), .int (b2i u)] [ob o 11 [.int th, .ref qtx, .int (nI ts), .int (nI pl), .ref qrp, .ref qpg, .ref qtr, .ref qbk, .int (nI dn), .ref qkp, .ref qik, .int (nI sn), .ref qsw, .ref qsi, .long sd, .ref qln, .ref qfm, .ref qby, .ref qwy, .int (nI wz), .ref qfo, .ref qon, .ref qmn, .ref qpr, .ref qle, .ref qst, .ref qwt, .int (nI rc), .int (nI tk), .int (nI ps), .int (nI gn), .int bd, .ref qwo], aI G qpg 22 (nF p), aI G qwo 32 (nF wo)] (fun (v : Option Value) (w : va_W) => ∃ (wo2 : Nat → Nat), v = some (.int (nI (frac (shSum p i (2 ^ 7 - 1)) 60 u))) ∧ w = [ob o 11 [.int (nI 0), .ref qtx, .int (nI ts), .int (nI pl), .ref qrp, .ref qpg, .ref qtr, .ref qbk, .int (nI dn), .ref qkp, .ref qik, .int (nI sn), .ref qsw, .ref qsi, .long sd, .ref qln, .ref qfm, .ref qby, .ref qwy, .int (nI wz), .ref qfo, .ref qon, .ref qmn, .ref qpr, .ref qle, .ref qst, .ref qwt, .int (nI rc), .int (nI tk), .int (nI ps), .int (nI gn), .int bd, .ref qwo], aI G qpg 22 (nF p), aI G qwo 32 (nF wo2)]) 0 0 := by
  refine MM.ofI (by decide) rfl (fun Γ X Y hnm ret => ?_)
  show Wc Γ 0 0 0 [(0, .ref o), (1, .int (nI i)), (2, .int (b2i u))] [] [ob o 11 [.int th, .ref qtx, .int (nI ts), .int (nI pl), .ref qrp, .ref qpg, .ref qtr, .ref qbk, .int (nI dn), .ref qkp, .ref qik, .int (nI sn), .ref qsw, .ref qsi, .long sd, .ref qln, .ref qfm, .ref qby, .ref qwy, .int (nI wz), .ref qfo, .ref qon, .ref qmn, .ref qpr, .ref qle, .ref qst, .ref qwt, .int (nI rc), .int (nI tk), .int (nI ps), .int (nI gn), .int bd, .ref qwo], aI G qpg 22 (nF p), aI G qwo 32 (nF wo)]
  have hn1 := hr.2.2.2.1
  have hi5 : i < 5 := by omega
  have he1 := hr.2.2.2.2.1 3
  have ho1 := ones_bit he1 hi5 hb
  refine wc_aload_n X 0 0 dX11_share_0 rfl ?_
  refine wc_iconstN X 1 0 dX11_share_1 ?_
  refine wc_put X Y 2 0 0 kd11 rfl (by decide) q_765 rfl rfl rfl (Nat.le_of_ble_eq_true rfl) (ws' := [ob o 11 [.int (nI 0), .ref qtx, .int (nI ts), .int (nI pl), .ref qrp, .ref qpg, .ref qtr, .ref qbk, .int (nI dn), .ref qkp, .ref qik, .int (nI sn), .ref qsw, .ref qsi, .long sd, .ref qln, .ref qfm, .ref qby, .ref qwy, .int (nI wz), .ref qfo, .ref qon, .ref qmn, .ref qpr, .ref qle, .ref qst, .ref qwt, .int (nI rc), .int (nI tk), .int (nI ps), .int (nI gn), .int bd, .ref qwo], aI G qpg 22 (nF p), aI G qwo 32 (nF wo)]) rfl dX11_share_2 ?_
  refine wc_aload_n X 5 0 dX11_share_5 rfl ?_
  refine wc_iconstN X 6 1 dX11_share_6 ?_
  refine wc_iload_n X 7 1 dX11_share_7 rfl ?_
  refine wc_callV X 8 [0, 1] 0 (c_X11_noState l G o (nI 0) qtx ts pl qrp qpg qtr qbk dn qkp qik sn qsw qsi sd qln qfm qby qwy wz qfo qon qmn qpr qle qst qwt rc tk ps gn bd qwo p (nI 1) (nI i) (by first | assumption | omega)) yv_X11_noState kd11 rfl rfl q_941 ⟨rfl, rfl⟩ ⟨rfl, rfl⟩ ⟨rfl, rfl⟩ rfl rfl rfl dX11_share_8 ?_
  refine wc_topi (b2i false) (congrArg b2i (by rw [stO_p (m := 1) hr (by decide) hi]; rfl)) ?_
  refine wc_if_eqB X 11 16 dX11_share_11 (by decide) (fun c11_1 => ?_) (fun c11_1 => ?_)
  ·
    refine wc_aload_n X 16 0 dX11_share_16 rfl ?_
    refine wc_get X 17 0 5 kd11 rfl (by decide) q_770 rfl dX11_share_17 ?_
    refine wc_iconstN X 20 3 dX11_share_20 ?_
    refine wc_ialdG X 21 1 rfl (by decide) (by decide) dX11_share_21 ?_
    refine wc_istore_n X 22 (L' := [(0, .ref o), (1, .int (nI i)), (2, .int (b2i u)), (3, .int (nI (p 3)))]) dX11_share_22 (by decide) rfl ?_
    refine wc_iload_n X 23 3 dX11_share_23 rfl ?_
    refine wc_iload_n X 24 1 dX11_share_24 rfl ?_
    refine wc_callS X 25 [] (c_X11_has l G (p 3) i (Nat.lt_trans (hr.2.2.2.2.1 _) (by decide)) (by omega)) ys_X11_has rfl q_916 ⟨rfl, rfl⟩ ⟨rfl, rfl⟩ ⟨rfl, rfl⟩ rfl rfl rfl dX11_share_25 ?_
    refine wc_topi (b2i true) (congrArg b2i hb) ?_
    refine wc_if_neB X 28 34 dX11_share_28 (by decide) (fun c28_2 => ?_) (fun c28_2 => ?_)
    ·
      refine wc_aload_n X 34 0 dX11_share_34 rfl ?_
      refine wc_mutV X Y 35 [0, 1, 2] [] 0 (c_X11_weigh l G o (nI 0) qtx ts pl qrp qpg qtr qbk dn qkp qik sn qsw qsi sd qln qfm qby qwy wz qfo qon qmn qpr qle qst qwt rc tk ps gn bd qwo p wo (by first | assumption | omega)) yv_X11_weigh kd11 rfl rfl (wr := []) rfl ⟨rfl, rfl, rfl⟩ q_1142 ⟨rfl, rfl⟩ ⟨rfl, rfl⟩ ⟨rfl, rfl⟩ rfl rfl rfl dX11_share_35 (fun v w hp_3 => ?_)
      obtain ⟨wo9, rfl, rfl, hw9⟩ := hp_3
      refine wc_perm Y [0, 1, 2] [ob o 11 [.int (nI 0), .ref qtx, .int (nI ts), .int (nI pl), .ref qrp, .ref qpg, .ref qtr, .ref qbk, .int (nI dn), .ref qkp, .ref qik, .int (nI sn), .ref qsw, .ref qsi, .long sd, .ref qln, .ref qfm, .ref qby, .ref qwy, .int (nI wz), .ref qfo, .ref qon, .ref qmn, .ref qpr, .ref qle, .ref qst, .ref qwt, .int (nI rc), .int (nI tk), .int (nI ps), .int (nI gn), .int bd, .ref qwo], aI G qpg 22 (nF p), aI G qwo 32 (nF wo9)] rfl rfl ?_
      show Wc Γ 0 0 38 [(0, .ref o), (1, .int (nI i)), (2, .int (b2i u)), (3, .int (nI (p 3)))] [] [ob o 11 [.int (nI 0), .ref qtx, .int (nI ts), .int (nI pl), .ref qrp, .ref qpg, .ref qtr, .ref qbk, .int (nI dn), .ref qkp, .ref qik, .int (nI sn), .ref qsw, .ref qsi, .long sd, .ref qln, .ref qfm, .ref qby, .ref qwy, .int (nI wz), .ref qfo, .ref qon, .ref qmn, .ref qpr, .ref qle, .ref qst, .ref qwt, .int (nI rc), .int (nI tk), .int (nI ps), .int (nI gn), .int bd, .ref qwo], aI G qpg 22 (nF p), aI G qwo 32 (nF wo9)]
      refine wc_iload_n X 38 3 dX11_share_38 rfl ?_
      refine wc_callS X 39 [] (c_X11_ones l G (p 3) (by omega)) ys_X11_ones rfl q_899 ⟨rfl, rfl⟩ ⟨rfl, rfl⟩ ⟨rfl, rfl⟩ rfl rfl rfl dX11_share_39 ?_
      refine wc_istore X 42 (L' := [(0, .ref o), (1, .int (nI i)), (2, .int (b2i u)), (3, .int (nI (p 3))), (4, .int (nI (ones (p 3))))]) dX11_share_42 (by decide) rfl ?_
      refine wc_iconstN X 44 0 dX11_share_44 ?_
      refine wc_istore X 45 (L' := [(0, .ref o), (1, .int (nI i)), (2, .int (b2i u)), (3, .int (nI (p 3))), (4, .int (nI (ones (p 3)))), (5, .int (nI 0))]) dX11_share_45 (by decide) rfl ?_
      refine wc_iconstN X 47 0 dX11_share_47 ?_
      refine wc_istore X 48 (L' := [(0, .ref o), (1, .int (nI i)), (2, .int (b2i u)), (3, .int (nI (p 3))), (4, .int (nI (ones (p 3)))), (5, .int (nI 0)), (6, .int (nI 0))]) dX11_share_48 (by decide) rfl ?_
      have LP_5 : ∀ (fuel_4 : Nat) (S : Nat), (S ≤ 32) → 32 - S < fuel_4 → Wc Γ 0 0 50 [(0, .ref o), (1, .int (nI i)), (2, .int (b2i u)), (3, .int (nI (p 3))), (4, .int (nI (ones (p 3)))), (5, .int (nI (shUp p i S))), (6, .int (nI S))] [] [ob o 11 [.int (nI 0), .ref qtx, .int (nI ts), .int (nI pl), .ref qrp, .ref qpg, .ref qtr, .ref qbk, .int (nI dn), .ref qkp, .ref qik, .int (nI sn), .ref qsw, .ref qsi, .long sd, .ref qln, .ref qfm, .ref qby, .ref qwy, .int (nI wz), .ref qfo, .ref qon, .ref qmn, .ref qpr, .ref qle, .ref qst, .ref qwt, .int (nI rc), .int (nI tk), .int (nI ps), .int (nI gn), .int bd, .ref qwo], aI G qpg 22 (nF p), aI G qwo 32 (nF wo9)] := by
        intro fuel_4
        induction fuel_4 with
        | zero => intro S hS hm; exact absurd hm (Nat.not_lt_zero _)
        | succ fuel_4 ih_6 =>
          intro S hS hm_7
          refine wc_iload X 50 6 dX11_share_50 rfl ?_
          refine wc_bipush X 52 (nI 32) dX11_share_52 (by decide) ?_
          refine wc_icmp_geN X 54 144 dX11_share_54 (by decide) (by omega) (by decide) (fun c54_8 => ?_) (fun c54_8 => ?_)
          ·
            refine wc_iload X 144 5 dX11_share_144 rfl ?_
            refine wc_iload X 146 4 dX11_share_146 rfl ?_
            refine wc_callS X 148 [] (c_X11_factorial l G (ones (p 3)) (by have := ones_le (p 3); omega)) ys_X11_factorial rfl q_1146 ⟨rfl, rfl⟩ ⟨rfl, rfl⟩ ⟨rfl, rfl⟩ rfl rfl rfl dX11_share_148 ?_
            refine wc_iload_n X 151 2 dX11_share_151 rfl ?_
            refine wc_callS X 152 [] (c_X11_fraction l G (shUp p i S) (factN (ones (p 3))) u (by rw [show S = 32 by omega]; exact shUp_le hr hi5 hb) (by have := fact_ones _ he1; omega) (fact_pos _)) ys_X11_fraction rfl q_1149 ⟨rfl, rfl⟩ ⟨rfl, rfl⟩ ⟨rfl, rfl⟩ rfl rfl rfl dX11_share_152 ?_
            exact ret 155 _ (nI (frac (shUp p i S) (factN (ones (p 3))) u)) _ dX11_share_155 (⟨_, by rw [show S = 32 by omega, frac_eq (share_eq hr hi5 hb) (fact_pos _) (by decide)], rfl⟩)
          ·
            refine wc_iload X 57 6 dX11_share_57 rfl ?_
            refine wc_iload_n X 59 3 dX11_share_59 rfl ?_
            refine wc_iconst X 60 (-1) dX11_share_60 (by decide) ?_
            refine wc_ixor X 61 dX11_share_61 ?_
            refine wc_iand X 62 dX11_share_62 ?_
            refine wc_if_ne X 63 79 dX11_share_63 (by decide) (fun c63_9 => ?_) (fun c63_9 => ?_)
            ·
              refine wc_iconstN X 79 0 dX11_share_79 ?_
              refine wc_istore X 80 (L' := [(0, .ref o), (1, .int (nI i)), (2, .int (b2i u)), (3, .int (nI (p 3))), (4, .int (nI (ones (p 3)))), (5, .int (nI (shUp p i S))), (6, .int (nI S)), (7, .int (nI 0))]) dX11_share_80 (by decide) rfl ?_
              refine wc_iload X 82 5 dX11_share_82 rfl ?_
              refine wc_iload X 84 7 dX11_share_84 rfl ?_
              refine wc_if_eqN X 86 134 dX11_share_86 (by decide) (by decide) (fun c86_10 => ?_) (fun c86_10 => ?_)
              ·
                refine wc_iconstN X 134 0 dX11_share_134 ?_
                refine wc_iaddN X 135 dX11_share_135 ?_
                refine wc_istore X 136 (L' := [(0, .ref o), (1, .int (nI i)), (2, .int (b2i u)), (3, .int (nI (p 3))), (4, .int (nI (ones (p 3)))), (5, .int (nI ((shUp p i S) + 0))), (6, .int (nI S)), (7, .int (nI 0))]) dX11_share_136 (by decide) rfl ?_
                refine wc_iincN X 138 6 (L' := [(0, .ref o), (1, .int (nI i)), (2, .int (b2i u)), (3, .int (nI (p 3))), (4, .int (nI (ones (p 3)))), (5, .int (nI ((shUp p i S) + 0))), (6, .int (nI (S + 1))), (7, .int (nI 0))]) dX11_share_138 rfl (by decide) rfl ?_
                refine wc_goto X 141 50 dX11_share_141 (by decide) ?_
                refine wc_loc [0, 1, 2, 3, 4, 5, 6] (L' := [(0, .ref o), (1, .int (nI i)), (2, .int (b2i u)), (3, .int (nI (p 3))), (4, .int (nI (ones (p 3)))), (5, .int (nI ((shUp p i S) + 0))), (6, .int (nI (S + 1)))]) rfl ?_
                have e_11 : (shUp p i S) + 0 = shUp p i (S + 1) := shUp_n (fun z => c63_9 ((cov_and (p 3) he1 S (by omega)).mpr z.1))
                refine wc_L (L' := [(0, .ref o), (1, .int (nI i)), (2, .int (b2i u)), (3, .int (nI (p 3))), (4, .int (nI (ones (p 3)))), (5, .int (nI (shUp p i (S + 1)))), (6, .int (nI (S + 1)))]) (by first | (rw [e_11]; done) | (rw [e_11]; rfl) | (rw [← e_11]; done) | rfl) ?_
                exact ih_6 (S + 1) (by omega) (by omega)
              ·
                exact absurd c86_10 (by decide)
            ·
              have hsub := (cov_and (p 3) he1 S (by omega)).mp c63_9
              refine wc_iload X 66 6 dX11_share_66 rfl ?_
              refine wc_iload_n X 68 1 dX11_share_68 rfl ?_
              refine wc_callS X 69 [] (c_X11_has l G S i (by omega) (by omega)) ys_X11_has rfl q_916 ⟨rfl, rfl⟩ ⟨rfl, rfl⟩ ⟨rfl, rfl⟩ rfl rfl rfl dX11_share_69 ?_
              refine wc_if_neB X 72 79 dX11_share_72 (by decide) (fun c72_12 => ?_) (fun c72_12 => ?_)
              ·
                refine wc_iconstN X 79 0 dX11_share_79 ?_
                refine wc_istore X 80 (L' := [(0, .ref o), (1, .int (nI i)), (2, .int (b2i u)), (3, .int (nI (p 3))), (4, .int (nI (ones (p 3)))), (5, .int (nI (shUp p i S))), (6, .int (nI S)), (7, .int (nI 0))]) dX11_share_80 (by decide) rfl ?_
                refine wc_iload X 82 5 dX11_share_82 rfl ?_
                refine wc_iload X 84 7 dX11_share_84 rfl ?_
                refine wc_if_eqN X 86 134 dX11_share_86 (by decide) (by decide) (fun c86_13 => ?_) (fun c86_13 => ?_)
                ·
                  refine wc_iconstN X 134 0 dX11_share_134 ?_
                  refine wc_iaddN X 135 dX11_share_135 ?_
                  refine wc_istore X 136 (L' := [(0, .ref o), (1, .int (nI i)), (2, .int (b2i u)), (3, .int (nI (p 3))), (4, .int (nI (ones (p 3)))), (5, .int (nI ((shUp p i S) + 0))), (6, .int (nI S)), (7, .int (nI 0))]) dX11_share_136 (by decide) rfl ?_
                  refine wc_iincN X 138 6 (L' := [(0, .ref o), (1, .int (nI i)), (2, .int (b2i u)), (3, .int (nI (p 3))), (4, .int (nI (ones (p 3)))), (5, .int (nI ((shUp p i S) + 0))), (6, .int (nI (S + 1))), (7, .int (nI 0))]) dX11_share_138 rfl (by decide) rfl ?_
                  refine wc_goto X 141 50 dX11_share_141 (by decide) ?_
                  refine wc_loc [0, 1, 2, 3, 4, 5, 6] (L' := [(0, .ref o), (1, .int (nI i)), (2, .int (b2i u)), (3, .int (nI (p 3))), (4, .int (nI (ones (p 3)))), (5, .int (nI ((shUp p i S) + 0))), (6, .int (nI (S + 1)))]) rfl ?_
                  have e_14 : (shUp p i S) + 0 = shUp p i (S + 1) := shUp_n (fun z => by rw [z.2] at c72_12; cases c72_12)
                  refine wc_L (L' := [(0, .ref o), (1, .int (nI i)), (2, .int (b2i u)), (3, .int (nI (p 3))), (4, .int (nI (ones (p 3)))), (5, .int (nI (shUp p i (S + 1)))), (6, .int (nI (S + 1)))]) (by first | (rw [e_14]; done) | (rw [e_14]; rfl) | (rw [← e_14]; done) | rfl) ?_
                  exact ih_6 (S + 1) (by omega) (by omega)
                ·
                  exact absurd c86_13 (by decide)
              ·
                refine wc_iconstN X 75 1 dX11_share_75 ?_
                refine wc_goto X 76 80 dX11_share_76 (by decide) ?_
                refine wc_istore X 80 (L' := [(0, .ref o), (1, .int (nI i)), (2, .int (b2i u)), (3, .int (nI (p 3))), (4, .int (nI (ones (p 3)))), (5, .int (nI (shUp p i S))), (6, .int (nI S)), (7, .int (nI 1))]) dX11_share_80 (by decide) rfl ?_
                refine wc_iload X 82 5 dX11_share_82 rfl ?_
                refine wc_iload X 84 7 dX11_share_84 rfl ?_
                refine wc_if_eqN X 86 134 dX11_share_86 (by decide) (by decide) (fun c86_15 => ?_) (fun c86_15 => ?_)
                ·
                  exact absurd c86_15 (by decide)
                ·
                  have hoS := ones_sub he1 (show S < 32 by omega) hi5 hb hsub c72_12
                  refine wc_iload X 89 6 dX11_share_89 rfl ?_
                  refine wc_callS X 91 [] (c_X11_ones l G S (by omega)) ys_X11_ones rfl q_899 ⟨rfl, rfl⟩ ⟨rfl, rfl⟩ ⟨rfl, rfl⟩ rfl rfl rfl dX11_share_91 ?_
                  refine wc_callS X 94 [] (c_X11_factorial l G (ones S) (by have := ones_le S; omega)) ys_X11_factorial rfl q_1146 ⟨rfl, rfl⟩ ⟨rfl, rfl⟩ ⟨rfl, rfl⟩ rfl rfl rfl dX11_share_94 ?_
                  refine wc_iload X 97 4 dX11_share_97 rfl ?_
                  refine wc_iconstN X 99 1 dX11_share_99 ?_
                  refine wc_isubN X 100 dX11_share_100 (by omega) ?_
                  refine wc_iload X 101 6 dX11_share_101 rfl ?_
                  refine wc_callS X 103 [] (c_X11_ones l G S (by omega)) ys_X11_ones rfl q_899 ⟨rfl, rfl⟩ ⟨rfl, rfl⟩ ⟨rfl, rfl⟩ rfl rfl rfl dX11_share_103 ?_
                  refine wc_isubN X 106 dX11_share_106 (by omega) ?_
                  refine wc_callS X 107 [] (c_X11_factorial l G (((ones (p 3)) - 1) - (ones S)) (by have := ones_le (p 3); omega)) ys_X11_factorial rfl q_1146 ⟨rfl, rfl⟩ ⟨rfl, rfl⟩ ⟨rfl, rfl⟩ rfl rfl rfl dX11_share_107 ?_
                  refine wc_imulN X 110 dX11_share_110 ?_
                  refine wc_aload_n X 111 0 dX11_share_111 rfl ?_
                  refine wc_get X 112 0 32 kd11 rfl (by decide) q_797 rfl dX11_share_112 ?_
                  refine wc_iload X 115 6 dX11_share_115 rfl ?_
                  refine wc_iconstN X 117 1 dX11_share_117 ?_
                  refine wc_iload_n X 118 1 dX11_share_118 rfl ?_
                  refine wc_shl1 X 119 dX11_share_119 (by omega) ?_
                  refine wc_iorN X 120 dX11_share_120 ?_
                  refine wc_ialdG X 121 2 rfl (or_lt5 (by omega) (Nat.lt_of_lt_of_le (Nat.pow_lt_pow_right (by decide) hi5) (by decide))) (by decide) dX11_share_121 ?_
                  refine wc_topi (nI (worR p (S ||| 2 ^ i) 7)) (congrArg nI (hw9 _ (or_lt5 (by omega) (Nat.lt_of_lt_of_le (Nat.pow_lt_pow_right (by decide) hi5) (by decide))))) ?_
                  refine wc_aload_n X 122 0 dX11_share_122 rfl ?_
                  refine wc_get X 123 0 32 kd11 rfl (by decide) q_797 rfl dX11_share_123 ?_
                  refine wc_iload X 126 6 dX11_share_126 rfl ?_
                  refine wc_ialdG X 128 2 rfl (by omega) (by decide) dX11_share_128 ?_
                  refine wc_topi (nI (worR p S 7)) (congrArg nI (hw9 _ (by omega))) ?_
                  refine wc_isubN X 129 dX11_share_129 (wor_le p S i) ?_
                  refine wc_imulN X 130 dX11_share_130 ?_
                  refine wc_goto X 131 135 dX11_share_131 (by decide) ?_
                  refine wc_iaddN X 135 dX11_share_135 ?_
                  refine wc_istore X 136 (L' := [(0, .ref o), (1, .int (nI i)), (2, .int (b2i u)), (3, .int (nI (p 3))), (4, .int (nI (ones (p 3)))), (5, .int (nI ((shUp p i S) + (((factN (ones S)) * (factN (((ones (p 3)) - 1) - (ones S)))) * ((worR p (S ||| 2 ^ i) 7) - (worR p S 7)))))), (6, .int (nI S)), (7, .int (nI 1))]) dX11_share_136 (by decide) rfl ?_
                  refine wc_iincN X 138 6 (L' := [(0, .ref o), (1, .int (nI i)), (2, .int (b2i u)), (3, .int (nI (p 3))), (4, .int (nI (ones (p 3)))), (5, .int (nI ((shUp p i S) + (((factN (ones S)) * (factN (((ones (p 3)) - 1) - (ones S)))) * ((worR p (S ||| 2 ^ i) 7) - (worR p S 7)))))), (6, .int (nI (S + 1))), (7, .int (nI 1))]) dX11_share_138 rfl (by decide) rfl ?_
                  refine wc_goto X 141 50 dX11_share_141 (by decide) ?_
                  refine wc_loc [0, 1, 2, 3, 4, 5, 6] (L' := [(0, .ref o), (1, .int (nI i)), (2, .int (b2i u)), (3, .int (nI (p 3))), (4, .int (nI (ones (p 3)))), (5, .int (nI ((shUp p i S) + (((factN (ones S)) * (factN (((ones (p 3)) - 1) - (ones S)))) * ((worR p (S ||| 2 ^ i) 7) - (worR p S 7)))))), (6, .int (nI (S + 1)))]) rfl ?_
                  have e_16 : (shUp p i S) + (((factN (ones S)) * (factN (((ones (p 3)) - 1) - (ones S)))) * ((worR p (S ||| 2 ^ i) 7) - (worR p S 7))) = shUp p i (S + 1) := shUp_y ⟨hsub, c72_12⟩
                  refine wc_L (L' := [(0, .ref o), (1, .int (nI i)), (2, .int (b2i u)), (3, .int (nI (p 3))), (4, .int (nI (ones (p 3)))), (5, .int (nI (shUp p i (S + 1)))), (6, .int (nI (S + 1)))]) (by first | (rw [e_16]; done) | (rw [e_16]; rfl) | (rw [← e_16]; done) | rfl) ?_
                  exact ih_6 (S + 1) (by omega) (by omega)
      have e_17 : 0 = shUp p i 0 := rfl
      refine wc_L (L' := [(0, .ref o), (1, .int (nI i)), (2, .int (b2i u)), (3, .int (nI (p 3))), (4, .int (nI (ones (p 3)))), (5, .int (nI (shUp p i 0))), (6, .int (nI 0))]) (by first | (rw [e_17]; done) | (rw [e_17]; rfl) | (rw [← e_17]; done) | rfl) ?_
      exact LP_5 (32 - 0 + 1) 0 (by omega) (Nat.lt_succ_self _)
    ·
      exact absurd c28_2 (by decide)
  ·
    exact absurd c11_1 (by decide)

set_option maxHeartbeats 4000000 in
set_option maxRecDepth 100000 in
theorem c_X11_lostF (l : Launch) (G : GG) (o : Nat) (th : Int32) (qtx ts pl qrp qpg qtr qbk dn qkp qik sn qsw qsi : Nat) (sd : Int64) (qln qfm qby qwy wz qfo qon qmn qpr qle qst qwt rc tk ps gn : Nat) (bd : Int32) (qwo : Nat) (y : Int32) (u : Bool) (ho : outR y 0 10) : MM l G yX11_lost (Cond.code yX11_lost cX11_lost 7 (some .int)) { frames := 1, cells := 0, slots := 0, locals := 25 } [.ref o, .int y, .int (b2i u)] [ob o 11 [.int th, .ref qtx, .int (nI ts), .int (nI pl), .ref qrp, .ref qpg, .ref qtr, .ref qbk, .int (nI dn), .ref qkp, .ref qik, .int (nI sn), .ref qsw, .ref qsi, .long sd, .ref qln, .ref qfm, .ref qby, .ref qwy, .int (nI wz), .ref qfo, .ref qon, .ref qmn, .ref qpr, .ref qle, .ref qst, .ref qwt, .int (nI rc), .int (nI tk), .int (nI ps), .int (nI gn), .int bd, .ref qwo]] (fun (v : Option Value) (w : va_W) => v = some (.int (-2)) ∧ w = [ob o 11 [.int (nI 0), .ref qtx, .int (nI ts), .int (nI pl), .ref qrp, .ref qpg, .ref qtr, .ref qbk, .int (nI dn), .ref qkp, .ref qik, .int (nI sn), .ref qsw, .ref qsi, .long sd, .ref qln, .ref qfm, .ref qby, .ref qwy, .int (nI wz), .ref qfo, .ref qon, .ref qmn, .ref qpr, .ref qle, .ref qst, .ref qwt, .int (nI rc), .int (nI tk), .int (nI ps), .int (nI gn), .int bd, .ref qwo]]) 0 0 := by
  refine MM.ofI (by decide) rfl (fun Γ X Y hnm ret => ?_)
  show Wc Γ 0 0 0 [(0, .ref o), (1, .int y), (2, .int (b2i u))] [] [ob o 11 [.int th, .ref qtx, .int (nI ts), .int (nI pl), .ref qrp, .ref qpg, .ref qtr, .ref qbk, .int (nI dn), .ref qkp, .ref qik, .int (nI sn), .ref qsw, .ref qsi, .long sd, .ref qln, .ref qfm, .ref qby, .ref qwy, .int (nI wz), .ref qfo, .ref qon, .ref qmn, .ref qpr, .ref qle, .ref qst, .ref qwt, .int (nI rc), .int (nI tk), .int (nI ps), .int (nI gn), .int bd, .ref qwo]]
  refine wc_aload_n X 0 0 dX11_lost_0 rfl ?_
  refine wc_iconstN X 1 0 dX11_lost_1 ?_
  refine wc_put X Y 2 0 0 kd11 rfl (by decide) q_765 rfl rfl rfl (Nat.le_of_ble_eq_true rfl) (ws' := [ob o 11 [.int (nI 0), .ref qtx, .int (nI ts), .int (nI pl), .ref qrp, .ref qpg, .ref qtr, .ref qbk, .int (nI dn), .ref qkp, .ref qik, .int (nI sn), .ref qsw, .ref qsi, .long sd, .ref qln, .ref qfm, .ref qby, .ref qwy, .int (nI wz), .ref qfo, .ref qon, .ref qmn, .ref qpr, .ref qle, .ref qst, .ref qwt, .int (nI rc), .int (nI tk), .int (nI ps), .int (nI gn), .int bd, .ref qwo]]) rfl dX11_lost_2 ?_
  refine wc_iload_n X 5 1 dX11_lost_5 rfl ?_
  refine wc_i2l X 6 dX11_lost_6 ?_
  refine wc_lconst X 7 0 dX11_lost_7 (by decide) ?_
  refine wc_ldc2 X 8 309 (10) q_1159 dX11_lost_8 ?_
  refine wc_callS X 11 [] (c_X11_in l G ((y).toInt64) 0 10 ) ys_X11_in rfl q_870 ⟨rfl, rfl⟩ ⟨rfl, rfl⟩ ⟨rfl, rfl⟩ rfl rfl rfl dX11_lost_11 ?_
  refine wc_topi (b2i false) (congrArg b2i (inL_out rfl rfl ho)) ?_
  refine wc_if_neB X 14 20 dX11_lost_14 (by decide) (fun c14_1 => ?_) (fun c14_1 => ?_)
  ·
    exact absurd c14_1 (by decide)
  ·
    refine wc_bipush X 17 (-2) dX11_lost_17 (by decide) ?_
    exact ret 19 _ (-2) _ dX11_lost_19 (⟨rfl, rfl⟩)

set_option maxHeartbeats 4000000 in
set_option maxRecDepth 100000 in
theorem c_X11_lostS (l : Launch) (G : GG) (o : Nat) (th : Int32) (qtx ts pl qrp qpg qtr qbk dn qkp qik sn qsw qsi : Nat) (sd : Int64) (qln qfm qby qwy wz qfo qon qmn qpr qle qst qwt rc tk ps gn : Nat) (bd : Int32) (qwo : Nat) (p : Nat → Nat) (tr : Nat → Nat) (ln0 : Nat → Nat) (fm0 : Nat → Int32) (bf0 wy0 : Nat → Nat) (y : Nat) (u : Bool) (hr : pgOk p) (hy : y ≤ 10) : MM l G yX11_lost (Cond.code yX11_lost cX11_lost 7 (some .int)) { frames := 5, cells := 0, slots := 0, locals := 117 } [.ref o, .int (nI y), .int (b2i u)] [ob o 11 [.int th, .ref qtx, .int (nI ts), .int (nI pl), .ref qrp, .ref qpg, .ref qtr, .ref qbk, .int (nI dn), .ref qkp, .ref qik, .int (nI sn), .ref qsw, .ref qsi, .long sd, .ref qln, .ref qfm, .ref qby, .ref qwy, .int (nI wz), .ref qfo, .ref qon, .ref qmn, .ref qpr, .ref qle, .ref qst, .ref qwt, .int (nI rc), .int (nI tk), .int (nI ps), .int (nI gn), .int bd, .ref qwo], aI G qpg 22 (nF p), aI G qtr 22 (nF tr), aI G qln 512 (nF ln0), aI G qfm 512 fm0, aI G qby 512 (nF bf0), aI G qwy 512 (nF wy0)] (fun (v : Option Value) (w : va_W) => ∃ (tr2 : Nat → Nat) (wz2 : Nat) (ln2 : Nat → Nat) (fm2 : Nat → Int32) (bf2 wy2 : Nat → Nat), v = some (.int (nI (frac (loS p y 32) (10 ^ ones (p 3)) u))) ∧ w = [ob o 11 [.int (nI 0), .ref qtx, .int (nI ts), .int (nI pl), .ref qrp, .ref qpg, .ref qtr, .ref qbk, .int (nI dn), .ref qkp, .ref qik, .int (nI sn), .ref qsw, .ref qsi, .long sd, .ref qln, .ref qfm, .ref qby, .ref qwy, .int (nI wz2), .ref qfo, .ref qon, .ref qmn, .ref qpr, .ref qle, .ref qst, .ref qwt, .int (nI rc), .int (nI tk), .int (nI ps), .int (nI gn), .int bd, .ref qwo], aI G qpg 22 (nF p), aI G qtr 22 (nF tr2), aI G qln 512 (nF ln2), aI G qfm 512 fm2, aI G qby 512 (nF bf2), aI G qwy 512 (nF wy2)]) 0 0 := by
  refine MM.ofI (by decide) rfl (fun Γ X Y hnm ret => ?_)
  show Wc Γ 0 0 0 [(0, .ref o), (1, .int (nI y)), (2, .int (b2i u))] [] [ob o 11 [.int th, .ref qtx, .int (nI ts), .int (nI pl), .ref qrp, .ref qpg, .ref qtr, .ref qbk, .int (nI dn), .ref qkp, .ref qik, .int (nI sn), .ref qsw, .ref qsi, .long sd, .ref qln, .ref qfm, .ref qby, .ref qwy, .int (nI wz), .ref qfo, .ref qon, .ref qmn, .ref qpr, .ref qle, .ref qst, .ref qwt, .int (nI rc), .int (nI tk), .int (nI ps), .int (nI gn), .int bd, .ref qwo], aI G qpg 22 (nF p), aI G qtr 22 (nF tr), aI G qln 512 (nF ln0), aI G qfm 512 fm0, aI G qby 512 (nF bf0), aI G qwy 512 (nF wy0)]
  have he1 := hr.2.2.2.2.1 3
  have hoE := ones_le (p 3)
  refine wc_aload_n X 0 0 dX11_lost_0 rfl ?_
  refine wc_iconstN X 1 0 dX11_lost_1 ?_
  refine wc_put X Y 2 0 0 kd11 rfl (by decide) q_765 rfl rfl rfl (Nat.le_of_ble_eq_true rfl) (ws' := [ob o 11 [.int (nI 0), .ref qtx, .int (nI ts), .int (nI pl), .ref qrp, .ref qpg, .ref qtr, .ref qbk, .int (nI dn), .ref qkp, .ref qik, .int (nI sn), .ref qsw, .ref qsi, .long sd, .ref qln, .ref qfm, .ref qby, .ref qwy, .int (nI wz), .ref qfo, .ref qon, .ref qmn, .ref qpr, .ref qle, .ref qst, .ref qwt, .int (nI rc), .int (nI tk), .int (nI ps), .int (nI gn), .int bd, .ref qwo], aI G qpg 22 (nF p), aI G qtr 22 (nF tr), aI G qln 512 (nF ln0), aI G qfm 512 fm0, aI G qby 512 (nF bf0), aI G qwy 512 (nF wy0)]) rfl dX11_lost_2 ?_
  refine wc_iload_n X 5 1 dX11_lost_5 rfl ?_
  refine wc_i2l X 6 dX11_lost_6 ?_
  refine wc_lconst X 7 0 dX11_lost_7 (by decide) ?_
  refine wc_ldc2 X 8 309 (10) q_1159 dX11_lost_8 ?_
  refine wc_callS X 11 [] (c_X11_in l G ((nI y).toInt64) 0 10 ) ys_X11_in rfl q_870 ⟨rfl, rfl⟩ ⟨rfl, rfl⟩ ⟨rfl, rfl⟩ rfl rfl rfl dX11_lost_11 ?_
  refine wc_topi (b2i true) (congrArg b2i (inL_in (a := 0) (b := 10) rfl rfl (by omega) (by omega) (by omega))) ?_
  refine wc_if_neB X 14 20 dX11_lost_14 (by decide) (fun c14_1 => ?_) (fun c14_1 => ?_)
  ·
    refine wc_aload_n X 20 0 dX11_lost_20 rfl ?_
    refine wc_get X 21 0 5 kd11 rfl (by decide) q_770 rfl dX11_lost_21 ?_
    refine wc_iconstN X 24 3 dX11_lost_24 ?_
    refine wc_ialdG X 25 1 rfl (by decide) (by decide) dX11_lost_25 ?_
    refine wc_istore_n X 26 (L' := [(0, .ref o), (1, .int (nI y)), (2, .int (b2i u)), (3, .int (nI (p 3)))]) dX11_lost_26 (by decide) rfl ?_
    refine wc_iload_n X 27 3 dX11_lost_27 rfl ?_
    refine wc_callS X 28 [] (c_X11_ones l G (p 3) (by omega)) ys_X11_ones rfl q_899 ⟨rfl, rfl⟩ ⟨rfl, rfl⟩ ⟨rfl, rfl⟩ rfl rfl rfl dX11_lost_28 ?_
    refine wc_istore X 31 (L' := [(0, .ref o), (1, .int (nI y)), (2, .int (b2i u)), (3, .int (nI (p 3))), (4, .int (nI (ones (p 3))))]) dX11_lost_31 (by decide) rfl ?_
    refine wc_iconstN X 33 0 dX11_lost_33 ?_
    refine wc_istore X 34 (L' := [(0, .ref o), (1, .int (nI y)), (2, .int (b2i u)), (3, .int (nI (p 3))), (4, .int (nI (ones (p 3)))), (5, .int (nI 0))]) dX11_lost_34 (by decide) rfl ?_
    refine wc_iconstN X 36 0 dX11_lost_36 ?_
    refine wc_istore X 37 (L' := [(0, .ref o), (1, .int (nI y)), (2, .int (b2i u)), (3, .int (nI (p 3))), (4, .int (nI (ones (p 3)))), (5, .int (nI 0)), (6, .int (nI 0))]) dX11_lost_37 (by decide) rfl ?_
    have LP_3 : ∀ (fuel_2 : Nat) (S : Nat) (t9 : Nat → Nat) (z9 : Nat) (l9 : Nat → Nat) (m9 : Nat → Int32) (b9 : Nat → Nat) (y9 : Nat → Nat), (S ≤ 32) → 32 - S < fuel_2 → Wc Γ 0 0 39 [(0, .ref o), (1, .int (nI y)), (2, .int (b2i u)), (3, .int (nI (p 3))), (4, .int (nI (ones (p 3)))), (5, .int (nI (loS p y S))), (6, .int (nI S))] [] [ob o 11 [.int (nI 0), .ref qtx, .int (nI ts), .int (nI pl), .ref qrp, .ref qpg, .ref qtr, .ref qbk, .int (nI dn), .ref qkp, .ref qik, .int (nI sn), .ref qsw, .ref qsi, .long sd, .ref qln, .ref qfm, .ref qby, .ref qwy, .int (nI z9), .ref qfo, .ref qon, .ref qmn, .ref qpr, .ref qle, .ref qst, .ref qwt, .int (nI rc), .int (nI tk), .int (nI ps), .int (nI gn), .int bd, .ref qwo], aI G qpg 22 (nF p), aI G qtr 22 (nF t9), aI G qln 512 (nF l9), aI G qfm 512 m9, aI G qby 512 (nF b9), aI G qwy 512 (nF y9)] := by
      intro fuel_2
      induction fuel_2 with
      | zero => intro S t9 z9 l9 m9 b9 y9 hS hm; exact absurd hm (Nat.not_lt_zero _)
      | succ fuel_2 ih_4 =>
        intro S t9 z9 l9 m9 b9 y9 hS hm_5
        refine wc_iload X 39 6 dX11_lost_39 rfl ?_
        refine wc_bipush X 41 (nI 32) dX11_lost_41 (by decide) ?_
        refine wc_icmp_geN X 43 125 dX11_lost_43 (by decide) (by omega) (by decide) (fun c43_6 => ?_) (fun c43_6 => ?_)
        ·
          refine wc_iload X 125 5 dX11_lost_125 rfl ?_
          refine wc_bipush X 127 (nI 10) dX11_lost_127 (by decide) ?_
          refine wc_iload X 129 4 dX11_lost_129 rfl ?_
          refine wc_callS X 131 [] (c_X11_power l G 10 (ones (p 3)) (by omega)) ys_X11_power rfl q_982 ⟨rfl, rfl⟩ ⟨rfl, rfl⟩ ⟨rfl, rfl⟩ rfl rfl rfl dX11_lost_131 ?_
          refine wc_topi (nI (10 ^ ones (p 3))) (congrArg nI (powN_eq _ _)) ?_
          refine wc_iload_n X 134 2 dX11_lost_134 rfl ?_
          refine wc_callS X 135 [] (c_X11_fraction l G (loS p y S) (10 ^ ones (p 3)) u (by rw [show S = 32 by omega]; have := lo_le hr hy; omega) (by have := ten_le he1; omega) (Nat.pow_pos (by decide))) ys_X11_fraction rfl q_1149 ⟨rfl, rfl⟩ ⟨rfl, rfl⟩ ⟨rfl, rfl⟩ rfl rfl rfl dX11_lost_135 ?_
          exact ret 138 _ (nI (frac (loS p y S) (10 ^ ones (p 3)) u)) _ dX11_lost_138 (⟨_, _, _, _, _, _, by rw [show S = 32 by omega], rfl⟩)
        ·
          refine wc_iload X 46 6 dX11_lost_46 rfl ?_
          refine wc_iload_n X 48 3 dX11_lost_48 rfl ?_
          refine wc_iconst X 49 (-1) dX11_lost_49 (by decide) ?_
          refine wc_ixor X 50 dX11_lost_50 ?_
          refine wc_iand X 51 dX11_lost_51 ?_
          refine wc_if_ne X 52 119 dX11_lost_52 (by decide) (fun c52_7 => ?_) (fun c52_7 => ?_)
          ·
            refine wc_iincN X 119 6 (L' := [(0, .ref o), (1, .int (nI y)), (2, .int (b2i u)), (3, .int (nI (p 3))), (4, .int (nI (ones (p 3)))), (5, .int (nI (loS p y S))), (6, .int (nI (S + 1)))]) dX11_lost_119 rfl (by decide) rfl ?_
            refine wc_goto X 122 39 dX11_lost_122 (by decide) ?_
            have e_8 : loS p y S = loS p y (S + 1) := lo_no (by rw [decide_eq_false (fun z => c52_7 ((cov_and (p 3) he1 S (by omega)).mpr z))]; rfl)
            refine wc_L (L' := [(0, .ref o), (1, .int (nI y)), (2, .int (b2i u)), (3, .int (nI (p 3))), (4, .int (nI (ones (p 3)))), (5, .int (nI (loS p y (S + 1)))), (6, .int (nI (S + 1)))]) (by first | (rw [e_8]; done) | (rw [e_8]; rfl) | (rw [← e_8]; done) | rfl) ?_
            exact ih_4 (S + 1) t9 z9 l9 m9 b9 y9 (by omega) (by omega)
          ·
            have hsub := (cov_and (p 3) he1 S (by omega)).mp c52_7
            have hq := pg_set3 hr hsub
            have hoS := ones_sb (p 3) he1 S (by omega) hsub
            refine wc_aload_n X 55 0 dX11_lost_55 rfl ?_
            refine wc_get X 56 0 6 kd11 rfl (by decide) q_771 rfl dX11_lost_56 ?_
            refine wc_aload_n X 59 0 dX11_lost_59 rfl ?_
            refine wc_get X 60 0 5 kd11 rfl (by decide) q_770 rfl dX11_lost_60 ?_
            refine wc_mutS X Y 63 [2, 1] [0, 3, 4, 5, 6] (c_X11_lay l G qtr t9 qpg p ) ys_X11_lay rfl (wr := [ob o 11 [.int (nI 0), .ref qtx, .int (nI ts), .int (nI pl), .ref qrp, .ref qpg, .ref qtr, .ref qbk, .int (nI dn), .ref qkp, .ref qik, .int (nI sn), .ref qsw, .ref qsi, .long sd, .ref qln, .ref qfm, .ref qby, .ref qwy, .int (nI z9), .ref qfo, .ref qon, .ref qmn, .ref qpr, .ref qle, .ref qst, .ref qwt, .int (nI rc), .int (nI tk), .int (nI ps), .int (nI gn), .int bd, .ref qwo], aI G qln 512 (nF l9), aI G qfm 512 m9, aI G qby 512 (nF b9), aI G qwy 512 (nF y9)]) rfl ⟨rfl, rfl, rfl⟩ q_927 ⟨rfl, rfl⟩ ⟨rfl, rfl⟩ ⟨rfl, rfl⟩ rfl rfl rfl dX11_lost_63 (fun v w hp_9 => ?_)
            obtain ⟨rfl, rfl⟩ := hp_9
            refine wc_perm Y [0, 6, 5, 1, 2, 3, 4] [ob o 11 [.int (nI 0), .ref qtx, .int (nI ts), .int (nI pl), .ref qrp, .ref qpg, .ref qtr, .ref qbk, .int (nI dn), .ref qkp, .ref qik, .int (nI sn), .ref qsw, .ref qsi, .long sd, .ref qln, .ref qfm, .ref qby, .ref qwy, .int (nI z9), .ref qfo, .ref qon, .ref qmn, .ref qpr, .ref qle, .ref qst, .ref qwt, .int (nI rc), .int (nI tk), .int (nI ps), .int (nI gn), .int bd, .ref qwo], aI G qpg 22 (nF p), aI G qtr 22 (nF p), aI G qln 512 (nF l9), aI G qfm 512 m9, aI G qby 512 (nF b9), aI G qwy 512 (nF y9)] rfl rfl ?_
            show Wc Γ 0 0 66 [(0, .ref o), (1, .int (nI y)), (2, .int (b2i u)), (3, .int (nI (p 3))), (4, .int (nI (ones (p 3)))), (5, .int (nI (loS p y S))), (6, .int (nI S))] [] [ob o 11 [.int (nI 0), .ref qtx, .int (nI ts), .int (nI pl), .ref qrp, .ref qpg, .ref qtr, .ref qbk, .int (nI dn), .ref qkp, .ref qik, .int (nI sn), .ref qsw, .ref qsi, .long sd, .ref qln, .ref qfm, .ref qby, .ref qwy, .int (nI z9), .ref qfo, .ref qon, .ref qmn, .ref qpr, .ref qle, .ref qst, .ref qwt, .int (nI rc), .int (nI tk), .int (nI ps), .int (nI gn), .int bd, .ref qwo], aI G qpg 22 (nF p), aI G qtr 22 (nF p), aI G qln 512 (nF l9), aI G qfm 512 m9, aI G qby 512 (nF b9), aI G qwy 512 (nF y9)]
            refine wc_aload_n X 66 0 dX11_lost_66 rfl ?_
            refine wc_get X 67 0 6 kd11 rfl (by decide) q_771 rfl dX11_lost_67 ?_
            refine wc_iconstN X 70 3 dX11_lost_70 ?_
            refine wc_iload X 71 6 dX11_lost_71 rfl ?_
            refine wc_iastG X Y 73 2 rfl (by decide) (by decide) (ws' := [ob o 11 [.int (nI 0), .ref qtx, .int (nI ts), .int (nI pl), .ref qrp, .ref qpg, .ref qtr, .ref qbk, .int (nI dn), .ref qkp, .ref qik, .int (nI sn), .ref qsw, .ref qsi, .long sd, .ref qln, .ref qfm, .ref qby, .ref qwy, .int (nI z9), .ref qfo, .ref qon, .ref qmn, .ref qpr, .ref qle, .ref qst, .ref qwt, .int (nI rc), .int (nI tk), .int (nI ps), .int (nI gn), .int bd, .ref qwo], aI G qpg 22 (nF p), aI G qtr 22 (nF (up p 3 S)), aI G qln 512 (nF l9), aI G qfm 512 m9, aI G qby 512 (nF b9), aI G qwy 512 (nF y9)]) rfl dX11_lost_73 ?_
            refine wc_iload X 74 5 dX11_lost_74 rfl ?_
            refine wc_aload_n X 76 0 dX11_lost_76 rfl ?_
            refine wc_aload_n X 77 0 dX11_lost_77 rfl ?_
            refine wc_get X 78 0 6 kd11 rfl (by decide) q_771 rfl dX11_lost_78 ?_
            refine wc_mutV X Y 81 [0, 2, 3, 4, 5, 6] [1] 0 (c_X11_isWithin l G o (nI 0) qtx ts pl qrp qpg qtr qbk dn qkp qik sn qsw qsi sd qln qfm qby qwy z9 qfo qon qmn qpr qle qst qwt rc tk ps gn bd qwo qtr (up p 3 S) l9 m9 b9 y9 hq) yv_X11_isWithin kd11 rfl rfl (wr := [aI G qpg 22 (nF p)]) rfl ⟨rfl, rfl, rfl⟩ q_1005 ⟨rfl, rfl⟩ ⟨rfl, rfl⟩ ⟨rfl, rfl⟩ rfl rfl rfl dX11_lost_81 (fun v w hp_10 => ?_)
            obtain ⟨wz2_11, ln2_12, fm2_13, bf2_14, wy2_15, rfl, rfl⟩ := hp_10
            refine wc_perm Y [1, 0, 2, 3, 4, 5, 6] [ob o 11 [.int (nI 0), .ref qtx, .int (nI ts), .int (nI pl), .ref qrp, .ref qpg, .ref qtr, .ref qbk, .int (nI dn), .ref qkp, .ref qik, .int (nI sn), .ref qsw, .ref qsi, .long sd, .ref qln, .ref qfm, .ref qby, .ref qwy, .int (nI wz2_11), .ref qfo, .ref qon, .ref qmn, .ref qpr, .ref qle, .ref qst, .ref qwt, .int (nI rc), .int (nI tk), .int (nI ps), .int (nI gn), .int bd, .ref qwo], aI G qpg 22 (nF p), aI G qtr 22 (nF (up p 3 S)), aI G qln 512 (nF ln2_12), aI G qfm 512 fm2_13, aI G qby 512 (nF bf2_14), aI G qwy 512 (nF wy2_15)] rfl rfl ?_
            show Wc Γ 0 0 84 [(0, .ref o), (1, .int (nI y)), (2, .int (b2i u)), (3, .int (nI (p 3))), (4, .int (nI (ones (p 3)))), (5, .int (nI (loS p y S))), (6, .int (nI S))] [.int (b2i (withB (gz (up p 3 S)) ((up p 3 S) 0) ((up p 3 S) 2) (go (up p 3 S)) ((up p 3 S) 1) ((up p 3 S) 3))), .int (nI (loS p y S))] [ob o 11 [.int (nI 0), .ref qtx, .int (nI ts), .int (nI pl), .ref qrp, .ref qpg, .ref qtr, .ref qbk, .int (nI dn), .ref qkp, .ref qik, .int (nI sn), .ref qsw, .ref qsi, .long sd, .ref qln, .ref qfm, .ref qby, .ref qwy, .int (nI wz2_11), .ref qfo, .ref qon, .ref qmn, .ref qpr, .ref qle, .ref qst, .ref qwt, .int (nI rc), .int (nI tk), .int (nI ps), .int (nI gn), .int bd, .ref qwo], aI G qpg 22 (nF p), aI G qtr 22 (nF (up p 3 S)), aI G qln 512 (nF ln2_12), aI G qfm 512 fm2_13, aI G qby 512 (nF bf2_14), aI G qwy 512 (nF wy2_15)]
            refine wc_topi (b2i (withB (gz p) (p 0) (p 2) (go p) (p 1) S)) (congrArg b2i (with_set3 p S)) ?_
            refine wc_if_eqB X 84 115 dX11_lost_84 (by decide) (fun c84_16 => ?_) (fun c84_16 => ?_)
            ·
              refine wc_iconstN X 115 0 dX11_lost_115 ?_
              refine wc_iaddN X 116 dX11_lost_116 ?_
              refine wc_istore X 117 (L' := [(0, .ref o), (1, .int (nI y)), (2, .int (b2i u)), (3, .int (nI (p 3))), (4, .int (nI (ones (p 3)))), (5, .int (nI ((loS p y S) + 0))), (6, .int (nI S))]) dX11_lost_117 (by decide) rfl ?_
              refine wc_iincN X 119 6 (L' := [(0, .ref o), (1, .int (nI y)), (2, .int (b2i u)), (3, .int (nI (p 3))), (4, .int (nI (ones (p 3)))), (5, .int (nI ((loS p y S) + 0))), (6, .int (nI (S + 1)))]) dX11_lost_119 rfl (by decide) rfl ?_
              refine wc_goto X 122 39 dX11_lost_122 (by decide) ?_
              have e_17 : (loS p y S) + 0 = loS p y (S + 1) := lo_no (by rw [c84_16, Bool.and_false])
              refine wc_L (L' := [(0, .ref o), (1, .int (nI y)), (2, .int (b2i u)), (3, .int (nI (p 3))), (4, .int (nI (ones (p 3)))), (5, .int (nI (loS p y (S + 1)))), (6, .int (nI (S + 1)))]) (by first | (rw [e_17]; done) | (rw [e_17]; rfl) | (rw [← e_17]; done) | rfl) ?_
              exact ih_4 (S + 1) (up p 3 S) wz2_11 ln2_12 fm2_13 bf2_14 wy2_15 (by omega) (by omega)
            ·
              refine wc_bipush X 87 (nI 10) dX11_lost_87 (by decide) ?_
              refine wc_iload_n X 89 1 dX11_lost_89 rfl ?_
              refine wc_isubN X 90 dX11_lost_90 (by omega) ?_
              refine wc_iload X 91 6 dX11_lost_91 rfl ?_
              refine wc_callS X 93 [] (c_X11_ones l G S (by omega)) ys_X11_ones rfl q_899 ⟨rfl, rfl⟩ ⟨rfl, rfl⟩ ⟨rfl, rfl⟩ rfl rfl rfl dX11_lost_93 ?_
              refine wc_callS X 96 [] (c_X11_power l G (10 - y) (ones S) (by have := ones_le S; omega)) ys_X11_power rfl q_982 ⟨rfl, rfl⟩ ⟨rfl, rfl⟩ ⟨rfl, rfl⟩ rfl rfl rfl dX11_lost_96 ?_
              refine wc_topi (nI ((10 - y) ^ ones S)) (congrArg nI (powN_eq _ _)) ?_
              refine wc_iload_n X 99 1 dX11_lost_99 rfl ?_
              refine wc_iload X 100 4 dX11_lost_100 rfl ?_
              refine wc_iload X 102 6 dX11_lost_102 rfl ?_
              refine wc_callS X 104 [] (c_X11_ones l G S (by omega)) ys_X11_ones rfl q_899 ⟨rfl, rfl⟩ ⟨rfl, rfl⟩ ⟨rfl, rfl⟩ rfl rfl rfl dX11_lost_104 ?_
              refine wc_isubN X 107 dX11_lost_107 (by omega) ?_
              refine wc_callS X 108 [] (c_X11_power l G y ((ones (p 3)) - (ones S)) (by omega)) ys_X11_power rfl q_982 ⟨rfl, rfl⟩ ⟨rfl, rfl⟩ ⟨rfl, rfl⟩ rfl rfl rfl dX11_lost_108 ?_
              refine wc_topi (nI (y ^ (ones (p 3) - ones S))) (congrArg nI (powN_eq _ _)) ?_
              refine wc_imulN X 111 dX11_lost_111 ?_
              refine wc_goto X 112 116 dX11_lost_112 (by decide) ?_
              refine wc_iaddN X 116 dX11_lost_116 ?_
              refine wc_istore X 117 (L' := [(0, .ref o), (1, .int (nI y)), (2, .int (b2i u)), (3, .int (nI (p 3))), (4, .int (nI (ones (p 3)))), (5, .int (nI ((loS p y S) + (((10 - y) ^ ones S) * (y ^ (ones (p 3) - ones S)))))), (6, .int (nI S))]) dX11_lost_117 (by decide) rfl ?_
              refine wc_iincN X 119 6 (L' := [(0, .ref o), (1, .int (nI y)), (2, .int (b2i u)), (3, .int (nI (p 3))), (4, .int (nI (ones (p 3)))), (5, .int (nI ((loS p y S) + (((10 - y) ^ ones S) * (y ^ (ones (p 3) - ones S)))))), (6, .int (nI (S + 1)))]) dX11_lost_119 rfl (by decide) rfl ?_
              refine wc_goto X 122 39 dX11_lost_122 (by decide) ?_
              have e_18 : (loS p y S) + (((10 - y) ^ ones S) * (y ^ (ones (p 3) - ones S))) = loS p y (S + 1) := lo_yes (by rw [c84_16, decide_eq_true hsub]; rfl)
              refine wc_L (L' := [(0, .ref o), (1, .int (nI y)), (2, .int (b2i u)), (3, .int (nI (p 3))), (4, .int (nI (ones (p 3)))), (5, .int (nI (loS p y (S + 1)))), (6, .int (nI (S + 1)))]) (by first | (rw [e_18]; done) | (rw [e_18]; rfl) | (rw [← e_18]; done) | rfl) ?_
              exact ih_4 (S + 1) (up p 3 S) wz2_11 ln2_12 fm2_13 bf2_14 wy2_15 (by omega) (by omega)
    have e_19 : 0 = loS p y 0 := rfl
    refine wc_L (L' := [(0, .ref o), (1, .int (nI y)), (2, .int (b2i u)), (3, .int (nI (p 3))), (4, .int (nI (ones (p 3)))), (5, .int (nI (loS p y 0))), (6, .int (nI 0))]) (by first | (rw [e_19]; done) | (rw [e_19]; rfl) | (rw [← e_19]; done) | rfl) ?_
    exact LP_3 (32 - 0 + 1) 0 tr wz ln0 fm0 bf0 wy0 (by decide) (Nat.lt_succ_self _)
  ·
    exact absurd c14_1 (by decide)

set_option maxHeartbeats 4000000 in
set_option maxRecDepth 100000 in
theorem c_X11_drawnF (l : Launch) (G : GG) (o : Nat) (th : Int32) (qtx ts pl qrp qpg qtr qbk dn qkp qik sn qsw qsi : Nat) (sd : Int64) (qln qfm qby qwy wz qfo qon qmn qpr qle qst qwt rc tk ps gn : Nat) (bd : Int32) (qwo : Nat) (n : Int32) (ho : outR n 1 20) : MM l G yX11_drawn (Cond.code yX11_drawn cX11_drawn 5 (some .int)) { frames := 1, cells := 0, slots := 0, locals := 25 } [.ref o, .int n] [ob o 11 [.int th, .ref qtx, .int (nI ts), .int (nI pl), .ref qrp, .ref qpg, .ref qtr, .ref qbk, .int (nI dn), .ref qkp, .ref qik, .int (nI sn), .ref qsw, .ref qsi, .long sd, .ref qln, .ref qfm, .ref qby, .ref qwy, .int (nI wz), .ref qfo, .ref qon, .ref qmn, .ref qpr, .ref qle, .ref qst, .ref qwt, .int (nI rc), .int (nI tk), .int (nI ps), .int (nI gn), .int bd, .ref qwo]] (fun (v : Option Value) (w : va_W) => v = some (.int (-2)) ∧ w = [ob o 11 [.int (nI 0), .ref qtx, .int (nI ts), .int (nI pl), .ref qrp, .ref qpg, .ref qtr, .ref qbk, .int (nI dn), .ref qkp, .ref qik, .int (nI sn), .ref qsw, .ref qsi, .long sd, .ref qln, .ref qfm, .ref qby, .ref qwy, .int (nI wz), .ref qfo, .ref qon, .ref qmn, .ref qpr, .ref qle, .ref qst, .ref qwt, .int (nI rc), .int (nI tk), .int (nI ps), .int (nI gn), .int bd, .ref qwo]]) 0 0 := by
  refine MM.ofI (by decide) rfl (fun Γ X Y hnm ret => ?_)
  show Wc Γ 0 0 0 [(0, .ref o), (1, .int n)] [] [ob o 11 [.int th, .ref qtx, .int (nI ts), .int (nI pl), .ref qrp, .ref qpg, .ref qtr, .ref qbk, .int (nI dn), .ref qkp, .ref qik, .int (nI sn), .ref qsw, .ref qsi, .long sd, .ref qln, .ref qfm, .ref qby, .ref qwy, .int (nI wz), .ref qfo, .ref qon, .ref qmn, .ref qpr, .ref qle, .ref qst, .ref qwt, .int (nI rc), .int (nI tk), .int (nI ps), .int (nI gn), .int bd, .ref qwo]]
  refine wc_aload_n X 0 0 dX11_drawn_0 rfl ?_
  refine wc_iconstN X 1 0 dX11_drawn_1 ?_
  refine wc_put X Y 2 0 0 kd11 rfl (by decide) q_765 rfl rfl rfl (Nat.le_of_ble_eq_true rfl) (ws' := [ob o 11 [.int (nI 0), .ref qtx, .int (nI ts), .int (nI pl), .ref qrp, .ref qpg, .ref qtr, .ref qbk, .int (nI dn), .ref qkp, .ref qik, .int (nI sn), .ref qsw, .ref qsi, .long sd, .ref qln, .ref qfm, .ref qby, .ref qwy, .int (nI wz), .ref qfo, .ref qon, .ref qmn, .ref qpr, .ref qle, .ref qst, .ref qwt, .int (nI rc), .int (nI tk), .int (nI ps), .int (nI gn), .int bd, .ref qwo]]) rfl dX11_drawn_2 ?_
  refine wc_iload_n X 5 1 dX11_drawn_5 rfl ?_
  refine wc_i2l X 6 dX11_drawn_6 ?_
  refine wc_lconst X 7 1 dX11_drawn_7 (by decide) ?_
  refine wc_ldc2 X 8 315 (20) q_1168 dX11_drawn_8 ?_
  refine wc_callS X 11 [] (c_X11_in l G ((n).toInt64) 1 20 ) ys_X11_in rfl q_870 ⟨rfl, rfl⟩ ⟨rfl, rfl⟩ ⟨rfl, rfl⟩ rfl rfl rfl dX11_drawn_11 ?_
  refine wc_topi (b2i false) (congrArg b2i (inL_out rfl rfl ho)) ?_
  refine wc_if_neB X 14 20 dX11_drawn_14 (by decide) (fun c14_1 => ?_) (fun c14_1 => ?_)
  ·
    exact absurd c14_1 (by decide)
  ·
    refine wc_bipush X 17 (-2) dX11_drawn_17 (by decide) ?_
    exact ret 19 _ (-2) _ dX11_drawn_19 (⟨rfl, rfl⟩)

set_option maxHeartbeats 4000000 in
set_option maxRecDepth 100000 in
theorem c_X11_drawnS (l : Launch) (G : GG) (o : Nat) (th : Int32) (qtx ts pl qrp qpg qtr qbk dn qkp qik sn qsw qsi : Nat) (sd : Int64) (qln qfm qby qwy wz qfo qon qmn qpr qle qst qwt rc tk ps gn : Nat) (bd : Int32) (qwo : Nat) (p : Nat → Nat) (n : Nat) (hr : pgOk p) (h1 : 1 ≤ n) (h2 : n ≤ 20) : MM l G yX11_drawn (Cond.code yX11_drawn cX11_drawn 5 (some .int)) { frames := 3, cells := 0, slots := 0, locals := 72 } [.ref o, .int (nI n)] [ob o 11 [.int th, .ref qtx, .int (nI ts), .int (nI pl), .ref qrp, .ref qpg, .ref qtr, .ref qbk, .int (nI dn), .ref qkp, .ref qik, .int (nI sn), .ref qsw, .ref qsi, .long sd, .ref qln, .ref qfm, .ref qby, .ref qwy, .int (nI wz), .ref qfo, .ref qon, .ref qmn, .ref qpr, .ref qle, .ref qst, .ref qwt, .int (nI rc), .int (nI tk), .int (nI ps), .int (nI gn), .int bd, .ref qwo], aI G qpg 22 (nF p)] (fun (v : Option Value) (w : va_W) => v = some (.int (nI (drS p sd n))) ∧ w = [ob o 11 [.int (nI 0), .ref qtx, .int (nI ts), .int (nI pl), .ref qrp, .ref qpg, .ref qtr, .ref qbk, .int (nI dn), .ref qkp, .ref qik, .int (nI sn), .ref qsw, .ref qsi, .long (rndI sd n), .ref qln, .ref qfm, .ref qby, .ref qwy, .int (nI wz), .ref qfo, .ref qon, .ref qmn, .ref qpr, .ref qle, .ref qst, .ref qwt, .int (nI rc), .int (nI tk), .int (nI ps), .int (nI gn), .int bd, .ref qwo], aI G qpg 22 (nF p)]) 0 0 := by
  refine MM.ofI (by decide) rfl (fun Γ X Y hnm ret => ?_)
  show Wc Γ 0 0 0 [(0, .ref o), (1, .int (nI n))] [] [ob o 11 [.int th, .ref qtx, .int (nI ts), .int (nI pl), .ref qrp, .ref qpg, .ref qtr, .ref qbk, .int (nI dn), .ref qkp, .ref qik, .int (nI sn), .ref qsw, .ref qsi, .long sd, .ref qln, .ref qfm, .ref qby, .ref qwy, .int (nI wz), .ref qfo, .ref qon, .ref qmn, .ref qpr, .ref qle, .ref qst, .ref qwt, .int (nI rc), .int (nI tk), .int (nI ps), .int (nI gn), .int bd, .ref qwo], aI G qpg 22 (nF p)]
  have hgz : ∀ j, gz p j < 32 := mG_lt hr.2.2.2.2.1 0
  have hgo : ∀ j, go p j < 32 := mG_lt hr.2.2.2.2.1 1
  refine wc_aload_n X 0 0 dX11_drawn_0 rfl ?_
  refine wc_iconstN X 1 0 dX11_drawn_1 ?_
  refine wc_put X Y 2 0 0 kd11 rfl (by decide) q_765 rfl rfl rfl (Nat.le_of_ble_eq_true rfl) (ws' := [ob o 11 [.int (nI 0), .ref qtx, .int (nI ts), .int (nI pl), .ref qrp, .ref qpg, .ref qtr, .ref qbk, .int (nI dn), .ref qkp, .ref qik, .int (nI sn), .ref qsw, .ref qsi, .long sd, .ref qln, .ref qfm, .ref qby, .ref qwy, .int (nI wz), .ref qfo, .ref qon, .ref qmn, .ref qpr, .ref qle, .ref qst, .ref qwt, .int (nI rc), .int (nI tk), .int (nI ps), .int (nI gn), .int bd, .ref qwo], aI G qpg 22 (nF p)]) rfl dX11_drawn_2 ?_
  refine wc_iload_n X 5 1 dX11_drawn_5 rfl ?_
  refine wc_i2l X 6 dX11_drawn_6 ?_
  refine wc_lconst X 7 1 dX11_drawn_7 (by decide) ?_
  refine wc_ldc2 X 8 315 (20) q_1168 dX11_drawn_8 ?_
  refine wc_callS X 11 [] (c_X11_in l G ((nI n).toInt64) 1 20 ) ys_X11_in rfl q_870 ⟨rfl, rfl⟩ ⟨rfl, rfl⟩ ⟨rfl, rfl⟩ rfl rfl rfl dX11_drawn_11 ?_
  refine wc_topi (b2i true) (congrArg b2i (inL_in (a := 1) (b := 20) rfl rfl (by omega) (by omega) (by omega))) ?_
  refine wc_if_neB X 14 20 dX11_drawn_14 (by decide) (fun c14_1 => ?_) (fun c14_1 => ?_)
  ·
    refine wc_iconstN X 20 0 dX11_drawn_20 ?_
    refine wc_istore_n X 21 (L' := [(0, .ref o), (1, .int (nI n)), (2, .int (nI 0))]) dX11_drawn_21 (by decide) rfl ?_
    refine wc_iconstN X 22 0 dX11_drawn_22 ?_
    refine wc_istore_n X 23 (L' := [(0, .ref o), (1, .int (nI n)), (2, .int (nI 0)), (3, .int (nI 0))]) dX11_drawn_23 (by decide) rfl ?_
    have LP_3 : ∀ (fuel_2 : Nat) (i : Nat), (i ≤ n) → n - i < fuel_2 → Wc Γ 0 0 24 [(0, .ref o), (1, .int (nI n)), (2, .int (nI (drS p sd i))), (3, .int (nI i))] [] [ob o 11 [.int (nI 0), .ref qtx, .int (nI ts), .int (nI pl), .ref qrp, .ref qpg, .ref qtr, .ref qbk, .int (nI dn), .ref qkp, .ref qik, .int (nI sn), .ref qsw, .ref qsi, .long (rndI sd i), .ref qln, .ref qfm, .ref qby, .ref qwy, .int (nI wz), .ref qfo, .ref qon, .ref qmn, .ref qpr, .ref qle, .ref qst, .ref qwt, .int (nI rc), .int (nI tk), .int (nI ps), .int (nI gn), .int bd, .ref qwo], aI G qpg 22 (nF p)] := by
      intro fuel_2
      induction fuel_2 with
      | zero => intro i hi hm; exact absurd hm (Nat.not_lt_zero _)
      | succ fuel_2 ih_4 =>
        intro i hi hm_5
        refine wc_iload_n X 24 3 dX11_drawn_24 rfl ?_
        refine wc_iload_n X 25 1 dX11_drawn_25 rfl ?_
        refine wc_icmp_geN X 26 133 dX11_drawn_26 (by decide) (by omega) (by omega) (fun c26_6 => ?_) (fun c26_6 => ?_)
        ·
          refine wc_iload_n X 133 2 dX11_drawn_133 rfl ?_
          exact ret 134 _ (nI (drS p sd i)) _ dX11_drawn_134 (⟨by rw [show i = n by omega], by rw [show i = n by omega]⟩)
        ·
          refine wc_aload_n X 29 0 dX11_drawn_29 rfl ?_
          refine wc_aload_n X 30 0 dX11_drawn_30 rfl ?_
          refine wc_get X 31 0 14 kd11 rfl (by decide) q_779 rfl dX11_drawn_31 ?_
          refine wc_ldc2 X 34 317 (6364136223846793005) q_1169 dX11_drawn_34 ?_
          refine wc_lmul X 37 dX11_drawn_37 ?_
          refine wc_ldc2 X 38 319 (1442695040888963407) q_1170 dX11_drawn_38 ?_
          refine wc_ladd X 41 dX11_drawn_41 ?_
          refine wc_put X Y 42 0 14 kd11 rfl (by decide) q_779 rfl rfl rfl (Nat.le_of_ble_eq_true rfl) (ws' := [ob o 11 [.int (nI 0), .ref qtx, .int (nI ts), .int (nI pl), .ref qrp, .ref qpg, .ref qtr, .ref qbk, .int (nI dn), .ref qkp, .ref qik, .int (nI sn), .ref qsw, .ref qsi, .long (((rndI sd i) * 6364136223846793005) + 1442695040888963407), .ref qln, .ref qfm, .ref qby, .ref qwy, .int (nI wz), .ref qfo, .ref qon, .ref qmn, .ref qpr, .ref qle, .ref qst, .ref qwt, .int (nI rc), .int (nI tk), .int (nI ps), .int (nI gn), .int bd, .ref qwo], aI G qpg 22 (nF p)]) rfl dX11_drawn_42 ?_
          refine wc_ws (ws' := [ob o 11 [.int (nI 0), .ref qtx, .int (nI ts), .int (nI pl), .ref qrp, .ref qpg, .ref qtr, .ref qbk, .int (nI dn), .ref qkp, .ref qik, .int (nI sn), .ref qsw, .ref qsi, .long (rndI sd (i + 1)), .ref qln, .ref qfm, .ref qby, .ref qwy, .int (nI wz), .ref qfo, .ref qon, .ref qmn, .ref qpr, .ref qle, .ref qst, .ref qwt, .int (nI rc), .int (nI tk), .int (nI ps), .int (nI gn), .int bd, .ref qwo], aI G qpg 22 (nF p)]) (rfl) ?_
          refine wc_aload_n X 45 0 dX11_drawn_45 rfl ?_
          refine wc_get X 46 0 14 kd11 rfl (by decide) q_779 rfl dX11_drawn_46 ?_
          refine wc_bipush X 49 (nI 33) dX11_drawn_49 (by decide) ?_
          refine wc_lushr X 51 dX11_drawn_51 ?_
          refine wc_l2i X 52 dX11_drawn_52 ?_
          refine wc_topi (nI (sh33 (rndI sd (i + 1)))) (sh33_eq _) ?_
          have hv := sh33_lt (rndI sd (i + 1))
          refine wc_istore X 53 (L' := [(0, .ref o), (1, .int (nI n)), (2, .int (nI (drS p sd i))), (3, .int (nI i)), (4, .int (nI (sh33 (rndI sd (i + 1)))))]) dX11_drawn_53 (by decide) rfl ?_
          refine wc_iload_n X 55 2 dX11_drawn_55 rfl ?_
          refine wc_aload_n X 56 0 dX11_drawn_56 rfl ?_
          refine wc_get X 57 0 5 kd11 rfl (by decide) q_770 rfl dX11_drawn_57 ?_
          refine wc_iconstN X 60 0 dX11_drawn_60 ?_
          refine wc_iload X 61 4 dX11_drawn_61 rfl ?_
          refine wc_bipush X 63 (nI 16) dX11_drawn_63 (by decide) ?_
          refine wc_idivN X 65 dX11_drawn_65 (by omega) (by decide) (by decide) ?_
          refine wc_iload X 66 4 dX11_drawn_66 rfl ?_
          refine wc_bipush X 68 (nI 10) dX11_drawn_68 (by decide) ?_
          refine wc_iremN X 70 dX11_drawn_70 (by omega) (by decide) (by decide) ?_
          refine wc_callS X 71 [1] (c_X11_afterBits l G qpg p 0 ((sh33 (rndI sd (i + 1))) / 16) ((sh33 (rndI sd (i + 1))) % 10) hr.2.1 hr.2.2.2.1 hr.2.2.2.2.1 (by decide) (by omega) (by omega)) ys_X11_afterBits rfl q_998 ⟨rfl, rfl⟩ ⟨rfl, rfl⟩ ⟨rfl, rfl⟩ rfl rfl rfl dX11_drawn_71 ?_
          refine wc_topi (nI (afterB (gz p) (p 0) (sh33 (rndI sd (i + 1)) / 16) (sh33 (rndI sd (i + 1)) % 10))) (congrArg nI (rfl)) ?_
          refine wc_aload_n X 74 0 dX11_drawn_74 rfl ?_
          refine wc_get X 75 0 5 kd11 rfl (by decide) q_770 rfl dX11_drawn_75 ?_
          refine wc_iconstN X 78 2 dX11_drawn_78 ?_
          refine wc_ialdG X 79 1 rfl (by decide) (by decide) dX11_drawn_79 ?_
          refine wc_iandN X 80 dX11_drawn_80 ?_
          refine wc_if_eqN X 81 88 dX11_drawn_81 (by decide) (and_lt (Nat.lt_trans (afterB_lt hgz _ _ _) (by decide))) (fun c81_7 => ?_) (fun c81_7 => ?_)
          ·
            refine wc_iconstN X 88 0 dX11_drawn_88 ?_
            refine wc_iaddN X 89 dX11_drawn_89 ?_
            refine wc_istore_n X 90 (L' := [(0, .ref o), (1, .int (nI n)), (2, .int (nI ((drS p sd i) + 0))), (3, .int (nI i)), (4, .int (nI (sh33 (rndI sd (i + 1)))))]) dX11_drawn_90 (by decide) rfl ?_
            refine wc_iload_n X 91 2 dX11_drawn_91 rfl ?_
            refine wc_aload_n X 92 0 dX11_drawn_92 rfl ?_
            refine wc_get X 93 0 5 kd11 rfl (by decide) q_770 rfl dX11_drawn_93 ?_
            refine wc_iconstN X 96 1 dX11_drawn_96 ?_
            refine wc_iload X 97 4 dX11_drawn_97 rfl ?_
            refine wc_bipush X 99 (nI 16) dX11_drawn_99 (by decide) ?_
            refine wc_idivN X 101 dX11_drawn_101 (by omega) (by decide) (by decide) ?_
            refine wc_iload X 102 4 dX11_drawn_102 rfl ?_
            refine wc_bipush X 104 (nI 10) dX11_drawn_104 (by decide) ?_
            refine wc_iremN X 106 dX11_drawn_106 (by omega) (by decide) (by decide) ?_
            refine wc_callS X 107 [1] (c_X11_afterBits l G qpg p 1 ((sh33 (rndI sd (i + 1))) / 16) ((sh33 (rndI sd (i + 1))) % 10) hr.2.1 hr.2.2.2.1 hr.2.2.2.2.1 (by decide) (by omega) (by omega)) ys_X11_afterBits rfl q_998 ⟨rfl, rfl⟩ ⟨rfl, rfl⟩ ⟨rfl, rfl⟩ rfl rfl rfl dX11_drawn_107 ?_
            refine wc_topi (nI (afterB (go p) (p 1) (sh33 (rndI sd (i + 1)) / 16) (sh33 (rndI sd (i + 1)) % 10))) (congrArg nI (rfl)) ?_
            refine wc_aload_n X 110 0 dX11_drawn_110 rfl ?_
            refine wc_get X 111 0 5 kd11 rfl (by decide) q_770 rfl dX11_drawn_111 ?_
            refine wc_iconstN X 114 3 dX11_drawn_114 ?_
            refine wc_ialdG X 115 1 rfl (by decide) (by decide) dX11_drawn_115 ?_
            refine wc_iandN X 116 dX11_drawn_116 ?_
            refine wc_if_eqN X 117 124 dX11_drawn_117 (by decide) (and_lt (Nat.lt_trans (afterB_lt hgo _ _ _) (by decide))) (fun c117_8 => ?_) (fun c117_8 => ?_)
            ·
              refine wc_iconstN X 124 0 dX11_drawn_124 ?_
              refine wc_iaddN X 125 dX11_drawn_125 ?_
              refine wc_istore_n X 126 (L' := [(0, .ref o), (1, .int (nI n)), (2, .int (nI (((drS p sd i) + 0) + 0))), (3, .int (nI i)), (4, .int (nI (sh33 (rndI sd (i + 1)))))]) dX11_drawn_126 (by decide) rfl ?_
              refine wc_iincN X 127 3 (L' := [(0, .ref o), (1, .int (nI n)), (2, .int (nI (((drS p sd i) + 0) + 0))), (3, .int (nI (i + 1))), (4, .int (nI (sh33 (rndI sd (i + 1)))))]) dX11_drawn_127 rfl (by decide) rfl ?_
              refine wc_goto X 130 24 dX11_drawn_130 (by decide) ?_
              refine wc_loc [0, 1, 2, 3] (L' := [(0, .ref o), (1, .int (nI n)), (2, .int (nI (((drS p sd i) + 0) + 0))), (3, .int (nI (i + 1)))]) rfl ?_
              have e_9 : ((drS p sd i) + 0) + 0 = drS p sd (i + 1) := dr_s (by simp [c81_7]) (by first | exact tw_f c117_8 | exact tw_t c117_8)
              refine wc_L (L' := [(0, .ref o), (1, .int (nI n)), (2, .int (nI (drS p sd (i + 1)))), (3, .int (nI (i + 1)))]) (by first | (rw [e_9]; done) | (rw [e_9]; rfl) | (rw [← e_9]; done) | rfl) ?_
              exact ih_4 (i + 1) (by omega) (by omega)
            ·
              refine wc_iconstN X 120 2 dX11_drawn_120 ?_
              refine wc_goto X 121 125 dX11_drawn_121 (by decide) ?_
              refine wc_iaddN X 125 dX11_drawn_125 ?_
              refine wc_istore_n X 126 (L' := [(0, .ref o), (1, .int (nI n)), (2, .int (nI (((drS p sd i) + 0) + 2))), (3, .int (nI i)), (4, .int (nI (sh33 (rndI sd (i + 1)))))]) dX11_drawn_126 (by decide) rfl ?_
              refine wc_iincN X 127 3 (L' := [(0, .ref o), (1, .int (nI n)), (2, .int (nI (((drS p sd i) + 0) + 2))), (3, .int (nI (i + 1))), (4, .int (nI (sh33 (rndI sd (i + 1)))))]) dX11_drawn_127 rfl (by decide) rfl ?_
              refine wc_goto X 130 24 dX11_drawn_130 (by decide) ?_
              refine wc_loc [0, 1, 2, 3] (L' := [(0, .ref o), (1, .int (nI n)), (2, .int (nI (((drS p sd i) + 0) + 2))), (3, .int (nI (i + 1)))]) rfl ?_
              have e_10 : ((drS p sd i) + 0) + 2 = drS p sd (i + 1) := dr_s (by simp [c81_7]) (by first | exact tw_f c117_8 | exact tw_t c117_8)
              refine wc_L (L' := [(0, .ref o), (1, .int (nI n)), (2, .int (nI (drS p sd (i + 1)))), (3, .int (nI (i + 1)))]) (by first | (rw [e_10]; done) | (rw [e_10]; rfl) | (rw [← e_10]; done) | rfl) ?_
              exact ih_4 (i + 1) (by omega) (by omega)
          ·
            refine wc_iconstN X 84 1 dX11_drawn_84 ?_
            refine wc_goto X 85 89 dX11_drawn_85 (by decide) ?_
            refine wc_iaddN X 89 dX11_drawn_89 ?_
            refine wc_istore_n X 90 (L' := [(0, .ref o), (1, .int (nI n)), (2, .int (nI ((drS p sd i) + 1))), (3, .int (nI i)), (4, .int (nI (sh33 (rndI sd (i + 1)))))]) dX11_drawn_90 (by decide) rfl ?_
            refine wc_iload_n X 91 2 dX11_drawn_91 rfl ?_
            refine wc_aload_n X 92 0 dX11_drawn_92 rfl ?_
            refine wc_get X 93 0 5 kd11 rfl (by decide) q_770 rfl dX11_drawn_93 ?_
            refine wc_iconstN X 96 1 dX11_drawn_96 ?_
            refine wc_iload X 97 4 dX11_drawn_97 rfl ?_
            refine wc_bipush X 99 (nI 16) dX11_drawn_99 (by decide) ?_
            refine wc_idivN X 101 dX11_drawn_101 (by omega) (by decide) (by decide) ?_
            refine wc_iload X 102 4 dX11_drawn_102 rfl ?_
            refine wc_bipush X 104 (nI 10) dX11_drawn_104 (by decide) ?_
            refine wc_iremN X 106 dX11_drawn_106 (by omega) (by decide) (by decide) ?_
            refine wc_callS X 107 [1] (c_X11_afterBits l G qpg p 1 ((sh33 (rndI sd (i + 1))) / 16) ((sh33 (rndI sd (i + 1))) % 10) hr.2.1 hr.2.2.2.1 hr.2.2.2.2.1 (by decide) (by omega) (by omega)) ys_X11_afterBits rfl q_998 ⟨rfl, rfl⟩ ⟨rfl, rfl⟩ ⟨rfl, rfl⟩ rfl rfl rfl dX11_drawn_107 ?_
            refine wc_topi (nI (afterB (go p) (p 1) (sh33 (rndI sd (i + 1)) / 16) (sh33 (rndI sd (i + 1)) % 10))) (congrArg nI (rfl)) ?_
            refine wc_aload_n X 110 0 dX11_drawn_110 rfl ?_
            refine wc_get X 111 0 5 kd11 rfl (by decide) q_770 rfl dX11_drawn_111 ?_
            refine wc_iconstN X 114 3 dX11_drawn_114 ?_
            refine wc_ialdG X 115 1 rfl (by decide) (by decide) dX11_drawn_115 ?_
            refine wc_iandN X 116 dX11_drawn_116 ?_
            refine wc_if_eqN X 117 124 dX11_drawn_117 (by decide) (and_lt (Nat.lt_trans (afterB_lt hgo _ _ _) (by decide))) (fun c117_11 => ?_) (fun c117_11 => ?_)
            ·
              refine wc_iconstN X 124 0 dX11_drawn_124 ?_
              refine wc_iaddN X 125 dX11_drawn_125 ?_
              refine wc_istore_n X 126 (L' := [(0, .ref o), (1, .int (nI n)), (2, .int (nI (((drS p sd i) + 1) + 0))), (3, .int (nI i)), (4, .int (nI (sh33 (rndI sd (i + 1)))))]) dX11_drawn_126 (by decide) rfl ?_
              refine wc_iincN X 127 3 (L' := [(0, .ref o), (1, .int (nI n)), (2, .int (nI (((drS p sd i) + 1) + 0))), (3, .int (nI (i + 1))), (4, .int (nI (sh33 (rndI sd (i + 1)))))]) dX11_drawn_127 rfl (by decide) rfl ?_
              refine wc_goto X 130 24 dX11_drawn_130 (by decide) ?_
              refine wc_loc [0, 1, 2, 3] (L' := [(0, .ref o), (1, .int (nI n)), (2, .int (nI (((drS p sd i) + 1) + 0))), (3, .int (nI (i + 1)))]) rfl ?_
              have e_12 : ((drS p sd i) + 1) + 0 = drS p sd (i + 1) := dr_s (by simp [c81_7]) (by first | exact tw_f c117_11 | exact tw_t c117_11)
              refine wc_L (L' := [(0, .ref o), (1, .int (nI n)), (2, .int (nI (drS p sd (i + 1)))), (3, .int (nI (i + 1)))]) (by first | (rw [e_12]; done) | (rw [e_12]; rfl) | (rw [← e_12]; done) | rfl) ?_
              exact ih_4 (i + 1) (by omega) (by omega)
            ·
              refine wc_iconstN X 120 2 dX11_drawn_120 ?_
              refine wc_goto X 121 125 dX11_drawn_121 (by decide) ?_
              refine wc_iaddN X 125 dX11_drawn_125 ?_
              refine wc_istore_n X 126 (L' := [(0, .ref o), (1, .int (nI n)), (2, .int (nI (((drS p sd i) + 1) + 2))), (3, .int (nI i)), (4, .int (nI (sh33 (rndI sd (i + 1)))))]) dX11_drawn_126 (by decide) rfl ?_
              refine wc_iincN X 127 3 (L' := [(0, .ref o), (1, .int (nI n)), (2, .int (nI (((drS p sd i) + 1) + 2))), (3, .int (nI (i + 1))), (4, .int (nI (sh33 (rndI sd (i + 1)))))]) dX11_drawn_127 rfl (by decide) rfl ?_
              refine wc_goto X 130 24 dX11_drawn_130 (by decide) ?_
              refine wc_loc [0, 1, 2, 3] (L' := [(0, .ref o), (1, .int (nI n)), (2, .int (nI (((drS p sd i) + 1) + 2))), (3, .int (nI (i + 1)))]) rfl ?_
              have e_13 : ((drS p sd i) + 1) + 2 = drS p sd (i + 1) := dr_s (by simp [c81_7]) (by first | exact tw_f c117_11 | exact tw_t c117_11)
              refine wc_L (L' := [(0, .ref o), (1, .int (nI n)), (2, .int (nI (drS p sd (i + 1)))), (3, .int (nI (i + 1)))]) (by first | (rw [e_13]; done) | (rw [e_13]; rfl) | (rw [← e_13]; done) | rfl) ?_
              exact ih_4 (i + 1) (by omega) (by omega)
    have e_14 : 0 = drS p sd 0 := rfl
    refine wc_L (L' := [(0, .ref o), (1, .int (nI n)), (2, .int (nI (drS p sd 0))), (3, .int (nI 0))]) (by first | (rw [e_14]; done) | (rw [e_14]; rfl) | (rw [← e_14]; done) | rfl) ?_
    refine wc_ws (ws' := [ob o 11 [.int (nI 0), .ref qtx, .int (nI ts), .int (nI pl), .ref qrp, .ref qpg, .ref qtr, .ref qbk, .int (nI dn), .ref qkp, .ref qik, .int (nI sn), .ref qsw, .ref qsi, .long (rndI sd 0), .ref qln, .ref qfm, .ref qby, .ref qwy, .int (nI wz), .ref qfo, .ref qon, .ref qmn, .ref qpr, .ref qle, .ref qst, .ref qwt, .int (nI rc), .int (nI tk), .int (nI ps), .int (nI gn), .int bd, .ref qwo], aI G qpg 22 (nF p)]) (rfl) ?_
    exact LP_3 (n - 0 + 1) 0 (by omega) (Nat.lt_succ_self _)
  ·
    exact absurd c14_1 (by decide)

set_option maxHeartbeats 4000000 in
set_option maxRecDepth 100000 in
theorem c_X11_agrees0 (l : Launch) (G : GG) (o : Nat) (th : Int32) (qtx ts pl qrp qpg qtr qbk dn qkp qik sn qsw qsi : Nat) (sd : Int64) (qln qfm qby qwy wz qfo qon qmn qpr qle qst qwt rc tk ps gn : Nat) (bd : Int32) (qwo : Nat) (sw si : Nat → Nat) (p : Nat → Nat) (i : Nat) (hr : pgOk p) (hs6 : sn ≤ 6) (hsw : ∀ j, j < sn → wordOk (sw j) = true) (hsi : ∀ j, j < sn → si j ≤ 1) (hi : i < p 0) : RM l G yX11_agrees (Cond.code yX11_agrees cX11_agrees 5 (some .boolean)) { frames := 4, cells := 0, slots := 0, locals := 95 } [.ref o, .int (nI 0), .int (nI i)] [ob o 11 [.int th, .ref qtx, .int (nI ts), .int (nI pl), .ref qrp, .ref qpg, .ref qtr, .ref qbk, .int (nI dn), .ref qkp, .ref qik, .int (nI sn), .ref qsw, .ref qsi, .long sd, .ref qln, .ref qfm, .ref qby, .ref qwy, .int (nI wz), .ref qfo, .ref qon, .ref qmn, .ref qpr, .ref qle, .ref qst, .ref qwt, .int (nI rc), .int (nI tk), .int (nI ps), .int (nI gn), .int bd, .ref qwo], aI G qpg 22 (nF p), aI G qsw 6 (nF sw), aI G qsi 6 (nF si)] (.int (b2i (agB (gz p) (p 0) (p 2) sn sw si i))) := by
  refine RM.ofZ (by decide) rfl (fun Γ X ret => ?_)
  show Wc Γ 0 0 0 [(0, .ref o), (1, .int (nI 0)), (2, .int (nI i))] [] [ob o 11 [.int th, .ref qtx, .int (nI ts), .int (nI pl), .ref qrp, .ref qpg, .ref qtr, .ref qbk, .int (nI dn), .ref qkp, .ref qik, .int (nI sn), .ref qsw, .ref qsi, .long sd, .ref qln, .ref qfm, .ref qby, .ref qwy, .int (nI wz), .ref qfo, .ref qon, .ref qmn, .ref qpr, .ref qle, .ref qst, .ref qwt, .int (nI rc), .int (nI tk), .int (nI ps), .int (nI gn), .int bd, .ref qwo], aI G qpg 22 (nF p), aI G qsw 6 (nF sw), aI G qsi 6 (nF si)]
  have hbm := pgOk_m hr (show 0 < 2 by decide)
  refine wc_iconstN X 0 1 dX11_agrees_0 ?_
  refine wc_istore_n X 1 (L' := [(0, .ref o), (1, .int (nI 0)), (2, .int (nI i)), (3, .int (nI 1))]) dX11_agrees_1 (by decide) rfl ?_
  refine wc_iconstN X 2 0 dX11_agrees_2 ?_
  refine wc_istore X 3 (L' := [(0, .ref o), (1, .int (nI 0)), (2, .int (nI i)), (3, .int (nI 1)), (4, .int (nI 0))]) dX11_agrees_3 (by decide) rfl ?_
  have LP_2 : ∀ (fuel_1 : Nat) (t : Nat) (b : Bool), (t ≤ sn) → (b = true ↔ ∀ j, j < t → (walkD (gz p) (p 0) (sw j) (2 ^ i) 9 &&& p 2 != 0).toNat = si j) → sn - t < fuel_1 → Wc Γ 0 0 5 [(0, .ref o), (1, .int (nI 0)), (2, .int (nI i)), (3, .int (b2i b)), (4, .int (nI t))] [] [ob o 11 [.int th, .ref qtx, .int (nI ts), .int (nI pl), .ref qrp, .ref qpg, .ref qtr, .ref qbk, .int (nI dn), .ref qkp, .ref qik, .int (nI sn), .ref qsw, .ref qsi, .long sd, .ref qln, .ref qfm, .ref qby, .ref qwy, .int (nI wz), .ref qfo, .ref qon, .ref qmn, .ref qpr, .ref qle, .ref qst, .ref qwt, .int (nI rc), .int (nI tk), .int (nI ps), .int (nI gn), .int bd, .ref qwo], aI G qpg 22 (nF p), aI G qsw 6 (nF sw), aI G qsi 6 (nF si)] := by
    intro fuel_1
    induction fuel_1 with
    | zero => intro t b ht hb hm; exact absurd hm (Nat.not_lt_zero _)
    | succ fuel_1 ih_3 =>
      intro t b ht hb hm_4
      refine wc_iload X 5 4 dX11_agrees_5 rfl ?_
      refine wc_aload_n X 7 0 dX11_agrees_7 rfl ?_
      refine wc_get X 8 0 11 kd11 rfl (by decide) q_776 rfl dX11_agrees_8 ?_
      refine wc_icmp_geN X 11 67 dX11_agrees_11 (by decide) (by omega) (by omega) (fun c11_5 => ?_) (fun c11_5 => ?_)
      ·
        refine wc_iload_n X 67 3 dX11_agrees_67 rfl ?_
        exact ret 68 _ b dX11_agrees_68 (by unfold agB; rw [show t = sn by omega] at hb; exact iff_decB hb)
      ·
        refine wc_iload_n X 14 3 dX11_agrees_14 rfl ?_
        refine wc_if_eqB X 15 59 dX11_agrees_15 (by decide) (fun c15_6 => ?_) (fun c15_6 => ?_)
        ·
          refine wc_iconstN X 59 0 dX11_agrees_59 ?_
          refine wc_istore_n X 60 (L' := [(0, .ref o), (1, .int (nI 0)), (2, .int (nI i)), (3, .int (nI 0)), (4, .int (nI t))]) dX11_agrees_60 (by decide) rfl ?_
          refine wc_iincN X 61 4 (L' := [(0, .ref o), (1, .int (nI 0)), (2, .int (nI i)), (3, .int (nI 0)), (4, .int (nI (t + 1)))]) dX11_agrees_61 rfl (by decide) rfl ?_
          refine wc_goto X 64 5 dX11_agrees_64 (by decide) ?_
          have e_7 : (.int (nI 0) : Value) = .int (b2i false) := rfl
          refine wc_L (L' := [(0, .ref o), (1, .int (nI 0)), (2, .int (nI i)), (3, .int (b2i false)), (4, .int (nI (t + 1)))]) (by first | (rw [e_7]; done) | (rw [e_7]; rfl) | (rw [← e_7]; done) | rfl) ?_
          exact ih_3 (t + 1) false (by omega) (al_f1 hb c15_6) (by omega)
        ·
          have hw9 := hsw t (by omega)
          have hw10 : sw t < 1000000000 := by have := wordOk_lt hw9; omega
          have hs9 := hsi t (by omega)
          refine wc_aload_n X 18 0 dX11_agrees_18 rfl ?_
          refine wc_get X 19 0 5 kd11 rfl (by decide) q_770 rfl dX11_agrees_19 ?_
          refine wc_iload_n X 22 1 dX11_agrees_22 rfl ?_
          refine wc_iconstN X 23 1 dX11_agrees_23 ?_
          refine wc_iload_n X 24 2 dX11_agrees_24 rfl ?_
          refine wc_shl1 X 25 dX11_agrees_25 (by omega) ?_
          refine wc_aload_n X 26 0 dX11_agrees_26 rfl ?_
          refine wc_get X 27 0 12 kd11 rfl (by decide) q_777 rfl dX11_agrees_27 ?_
          refine wc_iload X 30 4 dX11_agrees_30 rfl ?_
          refine wc_ialdG X 32 2 rfl (by omega) (by decide) dX11_agrees_32 ?_
          refine wc_callS X 33 [1] (c_X11_takesFrom l G qpg p 0 (2 ^ i) (sw t) hr.2.1 hr.2.2.2.1 hr.2.2.2.2.1 (by decide) (Nat.lt_of_lt_of_le (Nat.pow_lt_pow_right (by decide) (show i < 5 by omega)) (by decide : 2 ^ 5 ≤ 32)) hw10 (fun k hk => word_dig hw9 hk)) ys_X11_takesFrom rfl q_970 ⟨rfl, rfl⟩ ⟨rfl, rfl⟩ ⟨rfl, rfl⟩ rfl rfl rfl dX11_agrees_33 ?_
          refine wc_topi (b2i (walkD (gz p) (p 0) (sw t) (2 ^ i) 9 &&& p 2 != 0)) (congrArg b2i (by rw [← walkD_eq (hsw t (by omega))]; rfl)) ?_
          refine wc_aload_n X 36 0 dX11_agrees_36 rfl ?_
          refine wc_get X 37 0 13 kd11 rfl (by decide) q_778 rfl dX11_agrees_37 ?_
          refine wc_iload X 40 4 dX11_agrees_40 rfl ?_
          refine wc_ialdG X 42 3 rfl (by omega) (by decide) dX11_agrees_42 ?_
          refine wc_iconstN X 43 1 dX11_agrees_43 ?_
          refine wc_icmp_neN X 44 51 dX11_agrees_44 (by decide) (by omega) (by decide) (fun c44_8 => ?_) (fun c44_8 => ?_)
          ·
            refine wc_iconstN X 51 0 dX11_agrees_51 ?_
            refine wc_st (st' := [.int (b2i false), .int (b2i (walkD (gz p) (p 0) (sw t) (2 ^ i) 9 &&& p 2 != 0))]) rfl ?_
            refine wc_icmp_neB X 52 59 dX11_agrees_52 (by decide) (fun c52_9 => ?_) (fun c52_9 => ?_)
            ·
              refine wc_iconstN X 59 0 dX11_agrees_59 ?_
              refine wc_istore_n X 60 (L' := [(0, .ref o), (1, .int (nI 0)), (2, .int (nI i)), (3, .int (nI 0)), (4, .int (nI t))]) dX11_agrees_60 (by decide) rfl ?_
              refine wc_iincN X 61 4 (L' := [(0, .ref o), (1, .int (nI 0)), (2, .int (nI i)), (3, .int (nI 0)), (4, .int (nI (t + 1)))]) dX11_agrees_61 rfl (by decide) rfl ?_
              refine wc_goto X 64 5 dX11_agrees_64 (by decide) ?_
              have e_10 : (.int (nI 0) : Value) = .int (b2i false) := rfl
              refine wc_L (L' := [(0, .ref o), (1, .int (nI 0)), (2, .int (nI i)), (3, .int (b2i false)), (4, .int (nI (t + 1)))]) (by first | (rw [e_10]; done) | (rw [e_10]; rfl) | (rw [← e_10]; done) | rfl) ?_
              exact ih_3 (t + 1) false (by omega) (al_f2 (fun z => c52_9 (by rw [← show _ = _ from (decide_eq_false c44_8)]; exact (ag_eq hs9).mpr z))) (by omega)
            ·
              refine wc_iconstN X 55 1 dX11_agrees_55 ?_
              refine wc_goto X 56 60 dX11_agrees_56 (by decide) ?_
              refine wc_istore_n X 60 (L' := [(0, .ref o), (1, .int (nI 0)), (2, .int (nI i)), (3, .int (nI 1)), (4, .int (nI t))]) dX11_agrees_60 (by decide) rfl ?_
              refine wc_iincN X 61 4 (L' := [(0, .ref o), (1, .int (nI 0)), (2, .int (nI i)), (3, .int (nI 1)), (4, .int (nI (t + 1)))]) dX11_agrees_61 rfl (by decide) rfl ?_
              refine wc_goto X 64 5 dX11_agrees_64 (by decide) ?_
              have e_11 : (.int (nI 1) : Value) = .int (b2i true) := rfl
              refine wc_L (L' := [(0, .ref o), (1, .int (nI 0)), (2, .int (nI i)), (3, .int (b2i true)), (4, .int (nI (t + 1)))]) (by first | (rw [e_11]; done) | (rw [e_11]; rfl) | (rw [← e_11]; done) | rfl) ?_
              exact ih_3 (t + 1) true (by omega) (al_t hb c15_6 ((ag_eq hs9).mp (by rw [show decide (si t = 1) = _ from (decide_eq_false c44_8)]; exact c52_9))) (by omega)
          ·
            refine wc_iconstN X 47 1 dX11_agrees_47 ?_
            refine wc_goto X 48 52 dX11_agrees_48 (by decide) ?_
            refine wc_st (st' := [.int (b2i true), .int (b2i (walkD (gz p) (p 0) (sw t) (2 ^ i) 9 &&& p 2 != 0))]) rfl ?_
            refine wc_icmp_neB X 52 59 dX11_agrees_52 (by decide) (fun c52_12 => ?_) (fun c52_12 => ?_)
            ·
              refine wc_iconstN X 59 0 dX11_agrees_59 ?_
              refine wc_istore_n X 60 (L' := [(0, .ref o), (1, .int (nI 0)), (2, .int (nI i)), (3, .int (nI 0)), (4, .int (nI t))]) dX11_agrees_60 (by decide) rfl ?_
              refine wc_iincN X 61 4 (L' := [(0, .ref o), (1, .int (nI 0)), (2, .int (nI i)), (3, .int (nI 0)), (4, .int (nI (t + 1)))]) dX11_agrees_61 rfl (by decide) rfl ?_
              refine wc_goto X 64 5 dX11_agrees_64 (by decide) ?_
              have e_13 : (.int (nI 0) : Value) = .int (b2i false) := rfl
              refine wc_L (L' := [(0, .ref o), (1, .int (nI 0)), (2, .int (nI i)), (3, .int (b2i false)), (4, .int (nI (t + 1)))]) (by first | (rw [e_13]; done) | (rw [e_13]; rfl) | (rw [← e_13]; done) | rfl) ?_
              exact ih_3 (t + 1) false (by omega) (al_f2 (fun z => c52_12 (by rw [← show _ = _ from (decide_eq_true c44_8)]; exact (ag_eq hs9).mpr z))) (by omega)
            ·
              refine wc_iconstN X 55 1 dX11_agrees_55 ?_
              refine wc_goto X 56 60 dX11_agrees_56 (by decide) ?_
              refine wc_istore_n X 60 (L' := [(0, .ref o), (1, .int (nI 0)), (2, .int (nI i)), (3, .int (nI 1)), (4, .int (nI t))]) dX11_agrees_60 (by decide) rfl ?_
              refine wc_iincN X 61 4 (L' := [(0, .ref o), (1, .int (nI 0)), (2, .int (nI i)), (3, .int (nI 1)), (4, .int (nI (t + 1)))]) dX11_agrees_61 rfl (by decide) rfl ?_
              refine wc_goto X 64 5 dX11_agrees_64 (by decide) ?_
              have e_14 : (.int (nI 1) : Value) = .int (b2i true) := rfl
              refine wc_L (L' := [(0, .ref o), (1, .int (nI 0)), (2, .int (nI i)), (3, .int (b2i true)), (4, .int (nI (t + 1)))]) (by first | (rw [e_14]; done) | (rw [e_14]; rfl) | (rw [← e_14]; done) | rfl) ?_
              exact ih_3 (t + 1) true (by omega) (al_t hb c15_6 ((ag_eq hs9).mp (by rw [show decide (si t = 1) = _ from (decide_eq_true c44_8)]; exact c52_12))) (by omega)
  have e_15 : (.int (nI 1) : Value) = .int (b2i true) := rfl
  refine wc_L (L' := [(0, .ref o), (1, .int (nI 0)), (2, .int (nI i)), (3, .int (b2i true)), (4, .int (nI 0))]) (by first | (rw [e_15]; done) | (rw [e_15]; rfl) | (rw [← e_15]; done) | rfl) ?_
  exact LP_2 (sn - 0 + 1) 0 true (Nat.zero_le _) al_0 (Nat.lt_succ_self _)

set_option maxHeartbeats 4000000 in
set_option maxRecDepth 100000 in
theorem c_X11_agrees1 (l : Launch) (G : GG) (o : Nat) (th : Int32) (qtx ts pl qrp qpg qtr qbk dn qkp qik sn qsw qsi : Nat) (sd : Int64) (qln qfm qby qwy wz qfo qon qmn qpr qle qst qwt rc tk ps gn : Nat) (bd : Int32) (qwo : Nat) (sw si : Nat → Nat) (p : Nat → Nat) (i : Nat) (hr : pgOk p) (hs6 : sn ≤ 6) (hsw : ∀ j, j < sn → wordOk (sw j) = true) (hsi : ∀ j, j < sn → si j ≤ 1) (hi : i < p 1) : RM l G yX11_agrees (Cond.code yX11_agrees cX11_agrees 5 (some .boolean)) { frames := 4, cells := 0, slots := 0, locals := 95 } [.ref o, .int (nI 1), .int (nI i)] [ob o 11 [.int th, .ref qtx, .int (nI ts), .int (nI pl), .ref qrp, .ref qpg, .ref qtr, .ref qbk, .int (nI dn), .ref qkp, .ref qik, .int (nI sn), .ref qsw, .ref qsi, .long sd, .ref qln, .ref qfm, .ref qby, .ref qwy, .int (nI wz), .ref qfo, .ref qon, .ref qmn, .ref qpr, .ref qle, .ref qst, .ref qwt, .int (nI rc), .int (nI tk), .int (nI ps), .int (nI gn), .int bd, .ref qwo], aI G qpg 22 (nF p), aI G qsw 6 (nF sw), aI G qsi 6 (nF si)] (.int (b2i (agB (go p) (p 1) (p 3) sn sw si i))) := by
  refine RM.ofZ (by decide) rfl (fun Γ X ret => ?_)
  show Wc Γ 0 0 0 [(0, .ref o), (1, .int (nI 1)), (2, .int (nI i))] [] [ob o 11 [.int th, .ref qtx, .int (nI ts), .int (nI pl), .ref qrp, .ref qpg, .ref qtr, .ref qbk, .int (nI dn), .ref qkp, .ref qik, .int (nI sn), .ref qsw, .ref qsi, .long sd, .ref qln, .ref qfm, .ref qby, .ref qwy, .int (nI wz), .ref qfo, .ref qon, .ref qmn, .ref qpr, .ref qle, .ref qst, .ref qwt, .int (nI rc), .int (nI tk), .int (nI ps), .int (nI gn), .int bd, .ref qwo], aI G qpg 22 (nF p), aI G qsw 6 (nF sw), aI G qsi 6 (nF si)]
  have hbm := pgOk_m hr (show 1 < 2 by decide)
  refine wc_iconstN X 0 1 dX11_agrees_0 ?_
  refine wc_istore_n X 1 (L' := [(0, .ref o), (1, .int (nI 1)), (2, .int (nI i)), (3, .int (nI 1))]) dX11_agrees_1 (by decide) rfl ?_
  refine wc_iconstN X 2 0 dX11_agrees_2 ?_
  refine wc_istore X 3 (L' := [(0, .ref o), (1, .int (nI 1)), (2, .int (nI i)), (3, .int (nI 1)), (4, .int (nI 0))]) dX11_agrees_3 (by decide) rfl ?_
  have LP_2 : ∀ (fuel_1 : Nat) (t : Nat) (b : Bool), (t ≤ sn) → (b = true ↔ ∀ j, j < t → (walkD (go p) (p 1) (sw j) (2 ^ i) 9 &&& p 3 != 0).toNat = si j) → sn - t < fuel_1 → Wc Γ 0 0 5 [(0, .ref o), (1, .int (nI 1)), (2, .int (nI i)), (3, .int (b2i b)), (4, .int (nI t))] [] [ob o 11 [.int th, .ref qtx, .int (nI ts), .int (nI pl), .ref qrp, .ref qpg, .ref qtr, .ref qbk, .int (nI dn), .ref qkp, .ref qik, .int (nI sn), .ref qsw, .ref qsi, .long sd, .ref qln, .ref qfm, .ref qby, .ref qwy, .int (nI wz), .ref qfo, .ref qon, .ref qmn, .ref qpr, .ref qle, .ref qst, .ref qwt, .int (nI rc), .int (nI tk), .int (nI ps), .int (nI gn), .int bd, .ref qwo], aI G qpg 22 (nF p), aI G qsw 6 (nF sw), aI G qsi 6 (nF si)] := by
    intro fuel_1
    induction fuel_1 with
    | zero => intro t b ht hb hm; exact absurd hm (Nat.not_lt_zero _)
    | succ fuel_1 ih_3 =>
      intro t b ht hb hm_4
      refine wc_iload X 5 4 dX11_agrees_5 rfl ?_
      refine wc_aload_n X 7 0 dX11_agrees_7 rfl ?_
      refine wc_get X 8 0 11 kd11 rfl (by decide) q_776 rfl dX11_agrees_8 ?_
      refine wc_icmp_geN X 11 67 dX11_agrees_11 (by decide) (by omega) (by omega) (fun c11_5 => ?_) (fun c11_5 => ?_)
      ·
        refine wc_iload_n X 67 3 dX11_agrees_67 rfl ?_
        exact ret 68 _ b dX11_agrees_68 (by unfold agB; rw [show t = sn by omega] at hb; exact iff_decB hb)
      ·
        refine wc_iload_n X 14 3 dX11_agrees_14 rfl ?_
        refine wc_if_eqB X 15 59 dX11_agrees_15 (by decide) (fun c15_6 => ?_) (fun c15_6 => ?_)
        ·
          refine wc_iconstN X 59 0 dX11_agrees_59 ?_
          refine wc_istore_n X 60 (L' := [(0, .ref o), (1, .int (nI 1)), (2, .int (nI i)), (3, .int (nI 0)), (4, .int (nI t))]) dX11_agrees_60 (by decide) rfl ?_
          refine wc_iincN X 61 4 (L' := [(0, .ref o), (1, .int (nI 1)), (2, .int (nI i)), (3, .int (nI 0)), (4, .int (nI (t + 1)))]) dX11_agrees_61 rfl (by decide) rfl ?_
          refine wc_goto X 64 5 dX11_agrees_64 (by decide) ?_
          have e_7 : (.int (nI 0) : Value) = .int (b2i false) := rfl
          refine wc_L (L' := [(0, .ref o), (1, .int (nI 1)), (2, .int (nI i)), (3, .int (b2i false)), (4, .int (nI (t + 1)))]) (by first | (rw [e_7]; done) | (rw [e_7]; rfl) | (rw [← e_7]; done) | rfl) ?_
          exact ih_3 (t + 1) false (by omega) (al_f1 hb c15_6) (by omega)
        ·
          have hw9 := hsw t (by omega)
          have hw10 : sw t < 1000000000 := by have := wordOk_lt hw9; omega
          have hs9 := hsi t (by omega)
          refine wc_aload_n X 18 0 dX11_agrees_18 rfl ?_
          refine wc_get X 19 0 5 kd11 rfl (by decide) q_770 rfl dX11_agrees_19 ?_
          refine wc_iload_n X 22 1 dX11_agrees_22 rfl ?_
          refine wc_iconstN X 23 1 dX11_agrees_23 ?_
          refine wc_iload_n X 24 2 dX11_agrees_24 rfl ?_
          refine wc_shl1 X 25 dX11_agrees_25 (by omega) ?_
          refine wc_aload_n X 26 0 dX11_agrees_26 rfl ?_
          refine wc_get X 27 0 12 kd11 rfl (by decide) q_777 rfl dX11_agrees_27 ?_
          refine wc_iload X 30 4 dX11_agrees_30 rfl ?_
          refine wc_ialdG X 32 2 rfl (by omega) (by decide) dX11_agrees_32 ?_
          refine wc_callS X 33 [1] (c_X11_takesFrom l G qpg p 1 (2 ^ i) (sw t) hr.2.1 hr.2.2.2.1 hr.2.2.2.2.1 (by decide) (Nat.lt_of_lt_of_le (Nat.pow_lt_pow_right (by decide) (show i < 5 by omega)) (by decide : 2 ^ 5 ≤ 32)) hw10 (fun k hk => word_dig hw9 hk)) ys_X11_takesFrom rfl q_970 ⟨rfl, rfl⟩ ⟨rfl, rfl⟩ ⟨rfl, rfl⟩ rfl rfl rfl dX11_agrees_33 ?_
          refine wc_topi (b2i (walkD (go p) (p 1) (sw t) (2 ^ i) 9 &&& p 3 != 0)) (congrArg b2i (by rw [← walkD_eq (hsw t (by omega))]; rfl)) ?_
          refine wc_aload_n X 36 0 dX11_agrees_36 rfl ?_
          refine wc_get X 37 0 13 kd11 rfl (by decide) q_778 rfl dX11_agrees_37 ?_
          refine wc_iload X 40 4 dX11_agrees_40 rfl ?_
          refine wc_ialdG X 42 3 rfl (by omega) (by decide) dX11_agrees_42 ?_
          refine wc_iconstN X 43 1 dX11_agrees_43 ?_
          refine wc_icmp_neN X 44 51 dX11_agrees_44 (by decide) (by omega) (by decide) (fun c44_8 => ?_) (fun c44_8 => ?_)
          ·
            refine wc_iconstN X 51 0 dX11_agrees_51 ?_
            refine wc_st (st' := [.int (b2i false), .int (b2i (walkD (go p) (p 1) (sw t) (2 ^ i) 9 &&& p 3 != 0))]) rfl ?_
            refine wc_icmp_neB X 52 59 dX11_agrees_52 (by decide) (fun c52_9 => ?_) (fun c52_9 => ?_)
            ·
              refine wc_iconstN X 59 0 dX11_agrees_59 ?_
              refine wc_istore_n X 60 (L' := [(0, .ref o), (1, .int (nI 1)), (2, .int (nI i)), (3, .int (nI 0)), (4, .int (nI t))]) dX11_agrees_60 (by decide) rfl ?_
              refine wc_iincN X 61 4 (L' := [(0, .ref o), (1, .int (nI 1)), (2, .int (nI i)), (3, .int (nI 0)), (4, .int (nI (t + 1)))]) dX11_agrees_61 rfl (by decide) rfl ?_
              refine wc_goto X 64 5 dX11_agrees_64 (by decide) ?_
              have e_10 : (.int (nI 0) : Value) = .int (b2i false) := rfl
              refine wc_L (L' := [(0, .ref o), (1, .int (nI 1)), (2, .int (nI i)), (3, .int (b2i false)), (4, .int (nI (t + 1)))]) (by first | (rw [e_10]; done) | (rw [e_10]; rfl) | (rw [← e_10]; done) | rfl) ?_
              exact ih_3 (t + 1) false (by omega) (al_f2 (fun z => c52_9 (by rw [← show _ = _ from (decide_eq_false c44_8)]; exact (ag_eq hs9).mpr z))) (by omega)
            ·
              refine wc_iconstN X 55 1 dX11_agrees_55 ?_
              refine wc_goto X 56 60 dX11_agrees_56 (by decide) ?_
              refine wc_istore_n X 60 (L' := [(0, .ref o), (1, .int (nI 1)), (2, .int (nI i)), (3, .int (nI 1)), (4, .int (nI t))]) dX11_agrees_60 (by decide) rfl ?_
              refine wc_iincN X 61 4 (L' := [(0, .ref o), (1, .int (nI 1)), (2, .int (nI i)), (3, .int (nI 1)), (4, .int (nI (t + 1)))]) dX11_agrees_61 rfl (by decide) rfl ?_
              refine wc_goto X 64 5 dX11_agrees_64 (by decide) ?_
              have e_11 : (.int (nI 1) : Value) = .int (b2i true) := rfl
              refine wc_L (L' := [(0, .ref o), (1, .int (nI 1)), (2, .int (nI i)), (3, .int (b2i true)), (4, .int (nI (t + 1)))]) (by first | (rw [e_11]; done) | (rw [e_11]; rfl) | (rw [← e_11]; done) | rfl) ?_
              exact ih_3 (t + 1) true (by omega) (al_t hb c15_6 ((ag_eq hs9).mp (by rw [show decide (si t = 1) = _ from (decide_eq_false c44_8)]; exact c52_9))) (by omega)
          ·
            refine wc_iconstN X 47 1 dX11_agrees_47 ?_
            refine wc_goto X 48 52 dX11_agrees_48 (by decide) ?_
            refine wc_st (st' := [.int (b2i true), .int (b2i (walkD (go p) (p 1) (sw t) (2 ^ i) 9 &&& p 3 != 0))]) rfl ?_
            refine wc_icmp_neB X 52 59 dX11_agrees_52 (by decide) (fun c52_12 => ?_) (fun c52_12 => ?_)
            ·
              refine wc_iconstN X 59 0 dX11_agrees_59 ?_
              refine wc_istore_n X 60 (L' := [(0, .ref o), (1, .int (nI 1)), (2, .int (nI i)), (3, .int (nI 0)), (4, .int (nI t))]) dX11_agrees_60 (by decide) rfl ?_
              refine wc_iincN X 61 4 (L' := [(0, .ref o), (1, .int (nI 1)), (2, .int (nI i)), (3, .int (nI 0)), (4, .int (nI (t + 1)))]) dX11_agrees_61 rfl (by decide) rfl ?_
              refine wc_goto X 64 5 dX11_agrees_64 (by decide) ?_
              have e_13 : (.int (nI 0) : Value) = .int (b2i false) := rfl
              refine wc_L (L' := [(0, .ref o), (1, .int (nI 1)), (2, .int (nI i)), (3, .int (b2i false)), (4, .int (nI (t + 1)))]) (by first | (rw [e_13]; done) | (rw [e_13]; rfl) | (rw [← e_13]; done) | rfl) ?_
              exact ih_3 (t + 1) false (by omega) (al_f2 (fun z => c52_12 (by rw [← show _ = _ from (decide_eq_true c44_8)]; exact (ag_eq hs9).mpr z))) (by omega)
            ·
              refine wc_iconstN X 55 1 dX11_agrees_55 ?_
              refine wc_goto X 56 60 dX11_agrees_56 (by decide) ?_
              refine wc_istore_n X 60 (L' := [(0, .ref o), (1, .int (nI 1)), (2, .int (nI i)), (3, .int (nI 1)), (4, .int (nI t))]) dX11_agrees_60 (by decide) rfl ?_
              refine wc_iincN X 61 4 (L' := [(0, .ref o), (1, .int (nI 1)), (2, .int (nI i)), (3, .int (nI 1)), (4, .int (nI (t + 1)))]) dX11_agrees_61 rfl (by decide) rfl ?_
              refine wc_goto X 64 5 dX11_agrees_64 (by decide) ?_
              have e_14 : (.int (nI 1) : Value) = .int (b2i true) := rfl
              refine wc_L (L' := [(0, .ref o), (1, .int (nI 1)), (2, .int (nI i)), (3, .int (b2i true)), (4, .int (nI (t + 1)))]) (by first | (rw [e_14]; done) | (rw [e_14]; rfl) | (rw [← e_14]; done) | rfl) ?_
              exact ih_3 (t + 1) true (by omega) (al_t hb c15_6 ((ag_eq hs9).mp (by rw [show decide (si t = 1) = _ from (decide_eq_true c44_8)]; exact c52_12))) (by omega)
  have e_15 : (.int (nI 1) : Value) = .int (b2i true) := rfl
  refine wc_L (L' := [(0, .ref o), (1, .int (nI 1)), (2, .int (nI i)), (3, .int (b2i true)), (4, .int (nI 0))]) (by first | (rw [e_15]; done) | (rw [e_15]; rfl) | (rw [← e_15]; done) | rfl) ?_
  exact LP_2 (sn - 0 + 1) 0 true (Nat.zero_le _) al_0 (Nat.lt_succ_self _)

set_option maxHeartbeats 4000000 in
set_option maxRecDepth 100000 in
theorem c_X11_which (l : Launch) (G : GG) (o : Nat) (th : Int32) (qtx ts pl qrp qpg qtr qbk dn qkp qik sn qsw qsi : Nat) (sd : Int64) (qln qfm qby qwy wz qfo qon qmn qpr qle qst qwt rc tk ps gn : Nat) (bd : Int32) (qwo : Nat) (sw si : Nat → Nat) (p : Nat → Nat) (hr : pgOk p) (hs6 : sn ≤ 6) (hsw : ∀ j, j < sn → wordOk (sw j) = true) (hsi : ∀ j, j < sn → si j ≤ 1) : MM l G yX11_which (Cond.code yX11_which cX11_which 3 (some .int)) { frames := 5, cells := 0, slots := 0, locals := 119 } [.ref o] [ob o 11 [.int th, .ref qtx, .int (nI ts), .int (nI pl), .ref qrp, .ref qpg, .ref qtr, .ref qbk, .int (nI dn), .ref qkp, .ref qik, .int (nI sn), .ref qsw, .ref qsi, .long sd, .ref qln, .ref qfm, .ref qby, .ref qwy, .int (nI wz), .ref qfo, .ref qon, .ref qmn, .ref qpr, .ref qle, .ref qst, .ref qwt, .int (nI rc), .int (nI tk), .int (nI ps), .int (nI gn), .int bd, .ref qwo], aI G qpg 22 (nF p), aI G qsw 6 (nF sw), aI G qsi 6 (nF si)] (fun (v : Option Value) (w : va_W) => v = some (.int (nI (bitsN (agB (gz p) (p 0) (p 2) sn sw si) (p 0) + 16 * bitsN (agB (go p) (p 1) (p 3) sn sw si) (p 1)))) ∧ w = [ob o 11 [.int (nI 0), .ref qtx, .int (nI ts), .int (nI pl), .ref qrp, .ref qpg, .ref qtr, .ref qbk, .int (nI dn), .ref qkp, .ref qik, .int (nI sn), .ref qsw, .ref qsi, .long sd, .ref qln, .ref qfm, .ref qby, .ref qwy, .int (nI wz), .ref qfo, .ref qon, .ref qmn, .ref qpr, .ref qle, .ref qst, .ref qwt, .int (nI rc), .int (nI tk), .int (nI ps), .int (nI gn), .int bd, .ref qwo], aI G qpg 22 (nF p), aI G qsw 6 (nF sw), aI G qsi 6 (nF si)]) 0 0 := by
  refine MM.ofI (by decide) rfl (fun Γ X Y hnm ret => ?_)
  show Wc Γ 0 0 0 [(0, .ref o)] [] [ob o 11 [.int th, .ref qtx, .int (nI ts), .int (nI pl), .ref qrp, .ref qpg, .ref qtr, .ref qbk, .int (nI dn), .ref qkp, .ref qik, .int (nI sn), .ref qsw, .ref qsi, .long sd, .ref qln, .ref qfm, .ref qby, .ref qwy, .int (nI wz), .ref qfo, .ref qon, .ref qmn, .ref qpr, .ref qle, .ref qst, .ref qwt, .int (nI rc), .int (nI tk), .int (nI ps), .int (nI gn), .int bd, .ref qwo], aI G qpg 22 (nF p), aI G qsw 6 (nF sw), aI G qsi 6 (nF si)]
  have hb0 := pgOk_m hr (show 0 < 2 by decide)
  have hb1 := pgOk_m hr (show 1 < 2 by decide)
  have hn0 := hr.2.1
  refine wc_aload_n X 0 0 dX11_which_0 rfl ?_
  refine wc_iconstN X 1 0 dX11_which_1 ?_
  refine wc_put X Y 2 0 0 kd11 rfl (by decide) q_765 rfl rfl rfl (Nat.le_of_ble_eq_true rfl) (ws' := [ob o 11 [.int (nI 0), .ref qtx, .int (nI ts), .int (nI pl), .ref qrp, .ref qpg, .ref qtr, .ref qbk, .int (nI dn), .ref qkp, .ref qik, .int (nI sn), .ref qsw, .ref qsi, .long sd, .ref qln, .ref qfm, .ref qby, .ref qwy, .int (nI wz), .ref qfo, .ref qon, .ref qmn, .ref qpr, .ref qle, .ref qst, .ref qwt, .int (nI rc), .int (nI tk), .int (nI ps), .int (nI gn), .int bd, .ref qwo], aI G qpg 22 (nF p), aI G qsw 6 (nF sw), aI G qsi 6 (nF si)]) rfl dX11_which_2 ?_
  refine wc_iconstN X 5 0 dX11_which_5 ?_
  refine wc_istore_n X 6 (L' := [(0, .ref o), (1, .int (nI 0))]) dX11_which_6 (by decide) rfl ?_
  refine wc_iconstN X 7 0 dX11_which_7 ?_
  refine wc_istore_n X 8 (L' := [(0, .ref o), (1, .int (nI 0)), (2, .int (nI 0))]) dX11_which_8 (by decide) rfl ?_
  have LP_2 : ∀ (fuel_1 : Nat) (i : Nat), (i ≤ p 0) → p 0 - i < fuel_1 → Wc Γ 0 0 9 [(0, .ref o), (1, .int (nI (bitsN (agB (gz p) (p 0) (p 2) sn sw si) i))), (2, .int (nI i))] [] [ob o 11 [.int (nI 0), .ref qtx, .int (nI ts), .int (nI pl), .ref qrp, .ref qpg, .ref qtr, .ref qbk, .int (nI dn), .ref qkp, .ref qik, .int (nI sn), .ref qsw, .ref qsi, .long sd, .ref qln, .ref qfm, .ref qby, .ref qwy, .int (nI wz), .ref qfo, .ref qon, .ref qmn, .ref qpr, .ref qle, .ref qst, .ref qwt, .int (nI rc), .int (nI tk), .int (nI ps), .int (nI gn), .int bd, .ref qwo], aI G qpg 22 (nF p), aI G qsw 6 (nF sw), aI G qsi 6 (nF si)] := by
    intro fuel_1
    induction fuel_1 with
    | zero => intro i hi hm; exact absurd hm (Nat.not_lt_zero _)
    | succ fuel_1 ih_3 =>
      intro i hi hm_4
      refine wc_iload_n X 9 2 dX11_which_9 rfl ?_
      refine wc_aload_n X 10 0 dX11_which_10 rfl ?_
      refine wc_get X 11 0 5 kd11 rfl (by decide) q_770 rfl dX11_which_11 ?_
      refine wc_iconstN X 14 0 dX11_which_14 ?_
      refine wc_ialdG X 15 1 rfl (by decide) (by decide) dX11_which_15 ?_
      refine wc_icmp_geN X 16 44 dX11_which_16 (by decide) (by omega) (by omega) (fun c16_5 => ?_) (fun c16_5 => ?_)
      ·
        refine wc_iconstN X 44 0 dX11_which_44 ?_
        refine wc_istore_n X 45 (L' := [(0, .ref o), (1, .int (nI (bitsN (agB (gz p) (p 0) (p 2) sn sw si) i))), (2, .int (nI 0))]) dX11_which_45 (by decide) rfl ?_
        have LP_7 : ∀ (fuel_6 : Nat) (j : Nat), (j ≤ p 1) → p 1 - j < fuel_6 → Wc Γ 0 0 46 [(0, .ref o), (1, .int (nI (bitsN (agB (gz p) (p 0) (p 2) sn sw si) (p 0) ||| bitsN (agB (go p) (p 1) (p 3) sn sw si) j * 16))), (2, .int (nI j))] [] [ob o 11 [.int (nI 0), .ref qtx, .int (nI ts), .int (nI pl), .ref qrp, .ref qpg, .ref qtr, .ref qbk, .int (nI dn), .ref qkp, .ref qik, .int (nI sn), .ref qsw, .ref qsi, .long sd, .ref qln, .ref qfm, .ref qby, .ref qwy, .int (nI wz), .ref qfo, .ref qon, .ref qmn, .ref qpr, .ref qle, .ref qst, .ref qwt, .int (nI rc), .int (nI tk), .int (nI ps), .int (nI gn), .int bd, .ref qwo], aI G qpg 22 (nF p), aI G qsw 6 (nF sw), aI G qsi 6 (nF si)] := by
          intro fuel_6
          induction fuel_6 with
          | zero => intro j hj hm; exact absurd hm (Nat.not_lt_zero _)
          | succ fuel_6 ih_8 =>
            intro j hj hm_9
            refine wc_iload_n X 46 2 dX11_which_46 rfl ?_
            refine wc_aload_n X 47 0 dX11_which_47 rfl ?_
            refine wc_get X 48 0 5 kd11 rfl (by decide) q_770 rfl dX11_which_48 ?_
            refine wc_iconstN X 51 1 dX11_which_51 ?_
            refine wc_ialdG X 52 1 rfl (by decide) (by decide) dX11_which_52 ?_
            refine wc_icmp_geN X 53 82 dX11_which_53 (by decide) (by omega) (by omega) (fun c53_10 => ?_) (fun c53_10 => ?_)
            ·
              refine wc_iload_n X 82 1 dX11_which_82 rfl ?_
              exact ret 83 _ (nI (bitsN (agB (gz p) (p 0) (p 2) sn sw si) (p 0) ||| bitsN (agB (go p) (p 1) (p 3) sn sw si) j * 16)) _ dX11_which_83 (⟨by rw [show j = p 1 by omega, or_add16 _ (Nat.lt_of_lt_of_le (bitsN_lt _ _) (Nat.pow_le_pow_right (n := 2) (by decide) hn0))], rfl⟩)
            ·
              refine wc_iload_n X 56 1 dX11_which_56 rfl ?_
              refine wc_aload_n X 57 0 dX11_which_57 rfl ?_
              refine wc_iconstN X 58 1 dX11_which_58 ?_
              refine wc_iload_n X 59 2 dX11_which_59 rfl ?_
              refine wc_callV X 60 [0, 1, 2, 3] 0 (c_X11_agrees1 l G o (nI 0) qtx ts pl qrp qpg qtr qbk dn qkp qik sn qsw qsi sd qln qfm qby qwy wz qfo qon qmn qpr qle qst qwt rc tk ps gn bd qwo sw si p j (by first | assumption | omega) (by first | assumption | omega) (by first | assumption | omega) (by first | assumption | omega) (by omega)) yv_X11_agrees kd11 rfl rfl q_1134 ⟨rfl, rfl⟩ ⟨rfl, rfl⟩ ⟨rfl, rfl⟩ rfl rfl rfl dX11_which_60 ?_
              refine wc_if_eqB X 63 73 dX11_which_63 (by decide) (fun c63_11 => ?_) (fun c63_11 => ?_)
              ·
                refine wc_iconstN X 73 0 dX11_which_73 ?_
                refine wc_iorN X 74 dX11_which_74 ?_
                refine wc_istore_n X 75 (L' := [(0, .ref o), (1, .int (nI ((bitsN (agB (gz p) (p 0) (p 2) sn sw si) (p 0) ||| bitsN (agB (go p) (p 1) (p 3) sn sw si) j * 16) ||| 0))), (2, .int (nI j))]) dX11_which_75 (by decide) rfl ?_
                refine wc_iincN X 76 2 (L' := [(0, .ref o), (1, .int (nI ((bitsN (agB (gz p) (p 0) (p 2) sn sw si) (p 0) ||| bitsN (agB (go p) (p 1) (p 3) sn sw si) j * 16) ||| 0))), (2, .int (nI (j + 1)))]) dX11_which_76 rfl (by decide) rfl ?_
                refine wc_goto X 79 46 dX11_which_79 (by decide) ?_
                have e_12 : (bitsN (agB (gz p) (p 0) (p 2) sn sw si) (p 0) ||| bitsN (agB (go p) (p 1) (p 3) sn sw si) j * 16) ||| 0 = bitsN (agB (gz p) (p 0) (p 2) sn sw si) (p 0) ||| bitsN (agB (go p) (p 1) (p 3) sn sw si) (j + 1) * 16 := by rw [bitsN, c63_11, ← or_sh]; simp [Nat.mul_comm]
                refine wc_L (L' := [(0, .ref o), (1, .int (nI (bitsN (agB (gz p) (p 0) (p 2) sn sw si) (p 0) ||| bitsN (agB (go p) (p 1) (p 3) sn sw si) (j + 1) * 16))), (2, .int (nI (j + 1)))]) (by first | (rw [e_12]; done) | (rw [e_12]; rfl) | (rw [← e_12]; done) | rfl) ?_
                exact ih_8 (j + 1) (by omega) (by omega)
              ·
                refine wc_bipush X 66 (nI 16) dX11_which_66 (by decide) ?_
                refine wc_iload_n X 68 2 dX11_which_68 rfl ?_
                refine wc_ishlN X 69 dX11_which_69 (by omega) (Nat.lt_of_le_of_lt (Nat.mul_le_mul_left 16 (Nat.pow_le_pow_right (by decide) (show j ≤ 5 by omega))) (by decide)) ?_
                refine wc_goto X 70 74 dX11_which_70 (by decide) ?_
                refine wc_iorN X 74 dX11_which_74 ?_
                refine wc_istore_n X 75 (L' := [(0, .ref o), (1, .int (nI ((bitsN (agB (gz p) (p 0) (p 2) sn sw si) (p 0) ||| bitsN (agB (go p) (p 1) (p 3) sn sw si) j * 16) ||| (16 * 2 ^ j)))), (2, .int (nI j))]) dX11_which_75 (by decide) rfl ?_
                refine wc_iincN X 76 2 (L' := [(0, .ref o), (1, .int (nI ((bitsN (agB (gz p) (p 0) (p 2) sn sw si) (p 0) ||| bitsN (agB (go p) (p 1) (p 3) sn sw si) j * 16) ||| (16 * 2 ^ j)))), (2, .int (nI (j + 1)))]) dX11_which_76 rfl (by decide) rfl ?_
                refine wc_goto X 79 46 dX11_which_79 (by decide) ?_
                have e_13 : (bitsN (agB (gz p) (p 0) (p 2) sn sw si) (p 0) ||| bitsN (agB (go p) (p 1) (p 3) sn sw si) j * 16) ||| (16 * 2 ^ j) = bitsN (agB (gz p) (p 0) (p 2) sn sw si) (p 0) ||| bitsN (agB (go p) (p 1) (p 3) sn sw si) (j + 1) * 16 := by rw [bitsN, c63_11, ← or_sh]; simp [Nat.mul_comm]
                refine wc_L (L' := [(0, .ref o), (1, .int (nI (bitsN (agB (gz p) (p 0) (p 2) sn sw si) (p 0) ||| bitsN (agB (go p) (p 1) (p 3) sn sw si) (j + 1) * 16))), (2, .int (nI (j + 1)))]) (by first | (rw [e_13]; done) | (rw [e_13]; rfl) | (rw [← e_13]; done) | rfl) ?_
                exact ih_8 (j + 1) (by omega) (by omega)
        have e_14 : bitsN (agB (gz p) (p 0) (p 2) sn sw si) i = bitsN (agB (gz p) (p 0) (p 2) sn sw si) (p 0) ||| bitsN (agB (go p) (p 1) (p 3) sn sw si) 0 * 16 := by rw [show i = p 0 by omega, bitsN, Nat.zero_mul, Nat.or_zero]
        refine wc_L (L' := [(0, .ref o), (1, .int (nI (bitsN (agB (gz p) (p 0) (p 2) sn sw si) (p 0) ||| bitsN (agB (go p) (p 1) (p 3) sn sw si) 0 * 16))), (2, .int (nI 0))]) (by first | (rw [e_14]; done) | (rw [e_14]; rfl) | (rw [← e_14]; done) | rfl) ?_
        exact LP_7 (p 1 - 0 + 1) 0 (by omega) (Nat.lt_succ_self _)
      ·
        refine wc_iload_n X 19 1 dX11_which_19 rfl ?_
        refine wc_aload_n X 20 0 dX11_which_20 rfl ?_
        refine wc_iconstN X 21 0 dX11_which_21 ?_
        refine wc_iload_n X 22 2 dX11_which_22 rfl ?_
        refine wc_callV X 23 [0, 1, 2, 3] 0 (c_X11_agrees0 l G o (nI 0) qtx ts pl qrp qpg qtr qbk dn qkp qik sn qsw qsi sd qln qfm qby qwy wz qfo qon qmn qpr qle qst qwt rc tk ps gn bd qwo sw si p i (by first | assumption | omega) (by first | assumption | omega) (by first | assumption | omega) (by first | assumption | omega) (by omega)) yv_X11_agrees kd11 rfl rfl q_1134 ⟨rfl, rfl⟩ ⟨rfl, rfl⟩ ⟨rfl, rfl⟩ rfl rfl rfl dX11_which_23 ?_
        refine wc_if_eqB X 26 35 dX11_which_26 (by decide) (fun c26_15 => ?_) (fun c26_15 => ?_)
        ·
          refine wc_iconstN X 35 0 dX11_which_35 ?_
          refine wc_iorN X 36 dX11_which_36 ?_
          refine wc_istore_n X 37 (L' := [(0, .ref o), (1, .int (nI ((bitsN (agB (gz p) (p 0) (p 2) sn sw si) i) ||| 0))), (2, .int (nI i))]) dX11_which_37 (by decide) rfl ?_
          refine wc_iincN X 38 2 (L' := [(0, .ref o), (1, .int (nI ((bitsN (agB (gz p) (p 0) (p 2) sn sw si) i) ||| 0))), (2, .int (nI (i + 1)))]) dX11_which_38 rfl (by decide) rfl ?_
          refine wc_goto X 41 9 dX11_which_41 (by decide) ?_
          have e_16 : (bitsN (agB (gz p) (p 0) (p 2) sn sw si) i) ||| 0 = bitsN (agB (gz p) (p 0) (p 2) sn sw si) (i + 1) := by rw [bitsN, c26_15]; rfl
          refine wc_L (L' := [(0, .ref o), (1, .int (nI (bitsN (agB (gz p) (p 0) (p 2) sn sw si) (i + 1)))), (2, .int (nI (i + 1)))]) (by first | (rw [e_16]; done) | (rw [e_16]; rfl) | (rw [← e_16]; done) | rfl) ?_
          exact ih_3 (i + 1) (by omega) (by omega)
        ·
          refine wc_iconstN X 29 1 dX11_which_29 ?_
          refine wc_iload_n X 30 2 dX11_which_30 rfl ?_
          refine wc_shl1 X 31 dX11_which_31 (by omega) ?_
          refine wc_goto X 32 36 dX11_which_32 (by decide) ?_
          refine wc_iorN X 36 dX11_which_36 ?_
          refine wc_istore_n X 37 (L' := [(0, .ref o), (1, .int (nI ((bitsN (agB (gz p) (p 0) (p 2) sn sw si) i) ||| (2 ^ i)))), (2, .int (nI i))]) dX11_which_37 (by decide) rfl ?_
          refine wc_iincN X 38 2 (L' := [(0, .ref o), (1, .int (nI ((bitsN (agB (gz p) (p 0) (p 2) sn sw si) i) ||| (2 ^ i)))), (2, .int (nI (i + 1)))]) dX11_which_38 rfl (by decide) rfl ?_
          refine wc_goto X 41 9 dX11_which_41 (by decide) ?_
          have e_17 : (bitsN (agB (gz p) (p 0) (p 2) sn sw si) i) ||| (2 ^ i) = bitsN (agB (gz p) (p 0) (p 2) sn sw si) (i + 1) := by rw [bitsN, c26_15]; rfl
          refine wc_L (L' := [(0, .ref o), (1, .int (nI (bitsN (agB (gz p) (p 0) (p 2) sn sw si) (i + 1)))), (2, .int (nI (i + 1)))]) (by first | (rw [e_17]; done) | (rw [e_17]; rfl) | (rw [← e_17]; done) | rfl) ?_
          exact ih_3 (i + 1) (by omega) (by omega)
  have e_18 : 0 = bitsN (agB (gz p) (p 0) (p 2) sn sw si) 0 := rfl
  refine wc_L (L' := [(0, .ref o), (1, .int (nI (bitsN (agB (gz p) (p 0) (p 2) sn sw si) 0))), (2, .int (nI 0))]) (by first | (rw [e_18]; done) | (rw [e_18]; rfl) | (rw [← e_18]; done) | rfl) ?_
  exact LP_2 (p 0 - 0 + 1) 0 (by omega) (Nat.lt_succ_self _)

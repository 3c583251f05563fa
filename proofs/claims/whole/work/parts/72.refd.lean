set_option maxHeartbeats 4000000 in
set_option maxRecDepth 100000 in
theorem c_X11_mendedF (l : Launch) (G : GG) (o : Nat) (th : Int32) (qtx ts pl qrp qpg qtr qbk dn qkp qik sn qsw qsi : Nat) (sd : Int64) (qln qfm qby qwy wz qfo qon qmn qpr qle qst qwt rc tk ps gn : Nat) (bd : Int32) (qwo : Nat) (m k : Int32) (ho : outR m 0 1) : MM l G yX11_mended (Cond.code yX11_mended cX11_mended 12 (some .int)) { frames := 1, cells := 0, slots := 0, locals := 25 } [.ref o, .int m, .int k] [ob o 11 [.int th, .ref qtx, .int (nI ts), .int (nI pl), .ref qrp, .ref qpg, .ref qtr, .ref qbk, .int (nI dn), .ref qkp, .ref qik, .int (nI sn), .ref qsw, .ref qsi, .long sd, .ref qln, .ref qfm, .ref qby, .ref qwy, .int (nI wz), .ref qfo, .ref qon, .ref qmn, .ref qpr, .ref qle, .ref qst, .ref qwt, .int (nI rc), .int (nI tk), .int (nI ps), .int (nI gn), .int bd, .ref qwo]] (fun (v : Option Value) (w : va_W) => v = some (.int (-1)) ∧ w = [ob o 11 [.int (nI 0), .ref qtx, .int (nI ts), .int (nI pl), .ref qrp, .ref qpg, .ref qtr, .ref qbk, .int (nI dn), .ref qkp, .ref qik, .int (nI sn), .ref qsw, .ref qsi, .long sd, .ref qln, .ref qfm, .ref qby, .ref qwy, .int (nI wz), .ref qfo, .ref qon, .ref qmn, .ref qpr, .ref qle, .ref qst, .ref qwt, .int (nI rc), .int (nI tk), .int (nI ps), .int (nI gn), .int bd, .ref qwo]]) 0 0 := by
  refine MM.ofI (by decide) rfl (fun Γ X Y hnm ret => ?_)
  show Wc Γ 0 0 0 [(0, .ref o), (1, .int m), (2, .int k)] [] [ob o 11 [.int th, .ref qtx, .int (nI ts), .int (nI pl), .ref qrp, .ref qpg, .ref qtr, .ref qbk, .int (nI dn), .ref qkp, .ref qik, .int (nI sn), .ref qsw, .ref qsi, .long sd, .ref qln, .ref qfm, .ref qby, .ref qwy, .int (nI wz), .ref qfo, .ref qon, .ref qmn, .ref qpr, .ref qle, .ref qst, .ref qwt, .int (nI rc), .int (nI tk), .int (nI ps), .int (nI gn), .int bd, .ref qwo]]
  refine wc_aload_n X 0 0 dX11_mended_0 rfl ?_
  refine wc_iconstN X 1 0 dX11_mended_1 ?_
  refine wc_put X Y 2 0 0 kd11 rfl (by decide) q_765 rfl rfl rfl (Nat.le_of_ble_eq_true rfl) (ws' := [ob o 11 [.int (nI 0), .ref qtx, .int (nI ts), .int (nI pl), .ref qrp, .ref qpg, .ref qtr, .ref qbk, .int (nI dn), .ref qkp, .ref qik, .int (nI sn), .ref qsw, .ref qsi, .long sd, .ref qln, .ref qfm, .ref qby, .ref qwy, .int (nI wz), .ref qfo, .ref qon, .ref qmn, .ref qpr, .ref qle, .ref qst, .ref qwt, .int (nI rc), .int (nI tk), .int (nI ps), .int (nI gn), .int bd, .ref qwo]]) rfl dX11_mended_2 ?_
  refine wc_iload_n X 5 1 dX11_mended_5 rfl ?_
  refine wc_i2l X 6 dX11_mended_6 ?_
  refine wc_lconst X 7 0 dX11_mended_7 (by decide) ?_
  refine wc_lconst X 8 1 dX11_mended_8 (by decide) ?_
  refine wc_callS X 9 [] (c_X11_in l G ((m).toInt64) 0 1 ) ys_X11_in rfl q_870 ⟨rfl, rfl⟩ ⟨rfl, rfl⟩ ⟨rfl, rfl⟩ rfl rfl rfl dX11_mended_9 ?_
  refine wc_topi (b2i false) (congrArg b2i (inL_out rfl rfl ho)) ?_
  refine wc_if_neB X 12 17 dX11_mended_12 (by decide) (fun c12_1 => ?_) (fun c12_1 => ?_)
  ·
    exact absurd c12_1 (by decide)
  ·
    refine wc_iconst X 15 (-1) dX11_mended_15 (by decide) ?_
    exact ret 16 _ (-1) _ dX11_mended_16 (⟨rfl, rfl⟩)

set_option maxHeartbeats 4000000 in
set_option maxRecDepth 100000 in
theorem c_X11_mendedG (l : Launch) (G : GG) (o : Nat) (th : Int32) (qtx ts pl qrp qpg qtr qbk dn qkp qik sn qsw qsi : Nat) (sd : Int64) (qln qfm qby qwy wz qfo qon qmn qpr qle qst qwt rc tk ps gn : Nat) (bd : Int32) (qwo : Nat) (m k : Int32) (hm : (decide (m = 0) || decide (m = nI 1)) = true) (ho : outR k 0 1) : MM l G yX11_mended (Cond.code yX11_mended cX11_mended 12 (some .int)) { frames := 1, cells := 0, slots := 0, locals := 25 } [.ref o, .int m, .int k] [ob o 11 [.int th, .ref qtx, .int (nI ts), .int (nI pl), .ref qrp, .ref qpg, .ref qtr, .ref qbk, .int (nI dn), .ref qkp, .ref qik, .int (nI sn), .ref qsw, .ref qsi, .long sd, .ref qln, .ref qfm, .ref qby, .ref qwy, .int (nI wz), .ref qfo, .ref qon, .ref qmn, .ref qpr, .ref qle, .ref qst, .ref qwt, .int (nI rc), .int (nI tk), .int (nI ps), .int (nI gn), .int bd, .ref qwo]] (fun (v : Option Value) (w : va_W) => v = some (.int (-2)) ∧ w = [ob o 11 [.int (nI 0), .ref qtx, .int (nI ts), .int (nI pl), .ref qrp, .ref qpg, .ref qtr, .ref qbk, .int (nI dn), .ref qkp, .ref qik, .int (nI sn), .ref qsw, .ref qsi, .long sd, .ref qln, .ref qfm, .ref qby, .ref qwy, .int (nI wz), .ref qfo, .ref qon, .ref qmn, .ref qpr, .ref qle, .ref qst, .ref qwt, .int (nI rc), .int (nI tk), .int (nI ps), .int (nI gn), .int bd, .ref qwo]]) 0 0 := by
  refine MM.ofI (by decide) rfl (fun Γ X Y hnm ret => ?_)
  show Wc Γ 0 0 0 [(0, .ref o), (1, .int m), (2, .int k)] [] [ob o 11 [.int th, .ref qtx, .int (nI ts), .int (nI pl), .ref qrp, .ref qpg, .ref qtr, .ref qbk, .int (nI dn), .ref qkp, .ref qik, .int (nI sn), .ref qsw, .ref qsi, .long sd, .ref qln, .ref qfm, .ref qby, .ref qwy, .int (nI wz), .ref qfo, .ref qon, .ref qmn, .ref qpr, .ref qle, .ref qst, .ref qwt, .int (nI rc), .int (nI tk), .int (nI ps), .int (nI gn), .int bd, .ref qwo]]
  refine wc_aload_n X 0 0 dX11_mended_0 rfl ?_
  refine wc_iconstN X 1 0 dX11_mended_1 ?_
  refine wc_put X Y 2 0 0 kd11 rfl (by decide) q_765 rfl rfl rfl (Nat.le_of_ble_eq_true rfl) (ws' := [ob o 11 [.int (nI 0), .ref qtx, .int (nI ts), .int (nI pl), .ref qrp, .ref qpg, .ref qtr, .ref qbk, .int (nI dn), .ref qkp, .ref qik, .int (nI sn), .ref qsw, .ref qsi, .long sd, .ref qln, .ref qfm, .ref qby, .ref qwy, .int (nI wz), .ref qfo, .ref qon, .ref qmn, .ref qpr, .ref qle, .ref qst, .ref qwt, .int (nI rc), .int (nI tk), .int (nI ps), .int (nI gn), .int bd, .ref qwo]]) rfl dX11_mended_2 ?_
  refine wc_iload_n X 5 1 dX11_mended_5 rfl ?_
  refine wc_i2l X 6 dX11_mended_6 ?_
  refine wc_lconst X 7 0 dX11_mended_7 (by decide) ?_
  refine wc_lconst X 8 1 dX11_mended_8 (by decide) ?_
  refine wc_callS X 9 [] (c_X11_in l G ((m).toInt64) 0 1 ) ys_X11_in rfl q_870 ⟨rfl, rfl⟩ ⟨rfl, rfl⟩ ⟨rfl, rfl⟩ rfl rfl rfl dX11_mended_9 ?_
  refine wc_topi (b2i true) (congrArg b2i (mach_in hm)) ?_
  refine wc_if_neB X 12 17 dX11_mended_12 (by decide) (fun c12_1 => ?_) (fun c12_1 => ?_)
  ·
    refine wc_iload_n X 17 2 dX11_mended_17 rfl ?_
    refine wc_i2l X 18 dX11_mended_18 ?_
    refine wc_lconst X 19 0 dX11_mended_19 (by decide) ?_
    refine wc_lconst X 20 1 dX11_mended_20 (by decide) ?_
    refine wc_callS X 21 [] (c_X11_in l G ((k).toInt64) 0 1 ) ys_X11_in rfl q_870 ⟨rfl, rfl⟩ ⟨rfl, rfl⟩ ⟨rfl, rfl⟩ rfl rfl rfl dX11_mended_21 ?_
    refine wc_topi (b2i false) (congrArg b2i (inL_out rfl rfl ho)) ?_
    refine wc_if_neB X 24 30 dX11_mended_24 (by decide) (fun c24_2 => ?_) (fun c24_2 => ?_)
    ·
      exact absurd c24_2 (by decide)
    ·
      refine wc_bipush X 27 (-2) dX11_mended_27 (by decide) ?_
      exact ret 29 _ (-2) _ dX11_mended_29 (⟨rfl, rfl⟩)
  ·
    exact absurd c12_1 (by decide)

set_option maxHeartbeats 4000000 in
set_option maxRecDepth 100000 in
theorem c_X11_mendedW00 (l : Launch) (G : GG) (o : Nat) (th : Int32) (qtx ts pl qrp qpg qtr qbk dn qkp qik sn qsw qsi : Nat) (sd : Int64) (qln qfm qby qwy wz qfo qon qmn qpr qle qst qwt rc tk ps gn : Nat) (bd : Int32) (qwo : Nat) (p : Nat → Nat) (tr : Nat → Nat) (ln0 : Nat → Nat) (fm0 : Nat → Int32) (bf0 wy0 : Nat → Nat) (hr : pgOk p) (hw : withP p = true) : MM l G yX11_mended (Cond.code yX11_mended cX11_mended 12 (some .int)) { frames := 5, cells := 0, slots := 0, locals := 117 } [.ref o, .int (nI 0), .int (nI 0)] [ob o 11 [.int th, .ref qtx, .int (nI ts), .int (nI pl), .ref qrp, .ref qpg, .ref qtr, .ref qbk, .int (nI dn), .ref qkp, .ref qik, .int (nI sn), .ref qsw, .ref qsi, .long sd, .ref qln, .ref qfm, .ref qby, .ref qwy, .int (nI wz), .ref qfo, .ref qon, .ref qmn, .ref qpr, .ref qle, .ref qst, .ref qwt, .int (nI rc), .int (nI tk), .int (nI ps), .int (nI gn), .int bd, .ref qwo], aI G qpg 22 (nF p), aI G qtr 22 (nF tr), aI G qln 512 (nF ln0), aI G qfm 512 fm0, aI G qby 512 (nF bf0), aI G qwy 512 (nF wy0)] (fun (v : Option Value) (w : va_W) => ∃ (tr2 : Nat → Nat) (wz2 : Nat) (ln2 : Nat → Nat) (fm2 : Nat → Int32) (bf2 wy2 : Nat → Nat), v = some (.int (nI 0)) ∧ w = [ob o 11 [.int (nI 0), .ref qtx, .int (nI ts), .int (nI pl), .ref qrp, .ref qpg, .ref qtr, .ref qbk, .int (nI dn), .ref qkp, .ref qik, .int (nI sn), .ref qsw, .ref qsi, .long sd, .ref qln, .ref qfm, .ref qby, .ref qwy, .int (nI wz2), .ref qfo, .ref qon, .ref qmn, .ref qpr, .ref qle, .ref qst, .ref qwt, .int (nI rc), .int (nI tk), .int (nI ps), .int (nI gn), .int bd, .ref qwo], aI G qpg 22 (nF p), aI G qtr 22 (nF tr2), aI G qln 512 (nF ln2), aI G qfm 512 fm2, aI G qby 512 (nF bf2), aI G qwy 512 (nF wy2)]) 0 0 := by
  refine MM.ofI (by decide) rfl (fun Γ X Y hnm ret => ?_)
  show Wc Γ 0 0 0 [(0, .ref o), (1, .int (nI 0)), (2, .int (nI 0))] [] [ob o 11 [.int th, .ref qtx, .int (nI ts), .int (nI pl), .ref qrp, .ref qpg, .ref qtr, .ref qbk, .int (nI dn), .ref qkp, .ref qik, .int (nI sn), .ref qsw, .ref qsi, .long sd, .ref qln, .ref qfm, .ref qby, .ref qwy, .int (nI wz), .ref qfo, .ref qon, .ref qmn, .ref qpr, .ref qle, .ref qst, .ref qwt, .int (nI rc), .int (nI tk), .int (nI ps), .int (nI gn), .int bd, .ref qwo], aI G qpg 22 (nF p), aI G qtr 22 (nF tr), aI G qln 512 (nF ln0), aI G qfm 512 fm0, aI G qby 512 (nF bf0), aI G qwy 512 (nF wy0)]
  refine wc_aload_n X 0 0 dX11_mended_0 rfl ?_
  refine wc_iconstN X 1 0 dX11_mended_1 ?_
  refine wc_put X Y 2 0 0 kd11 rfl (by decide) q_765 rfl rfl rfl (Nat.le_of_ble_eq_true rfl) (ws' := [ob o 11 [.int (nI 0), .ref qtx, .int (nI ts), .int (nI pl), .ref qrp, .ref qpg, .ref qtr, .ref qbk, .int (nI dn), .ref qkp, .ref qik, .int (nI sn), .ref qsw, .ref qsi, .long sd, .ref qln, .ref qfm, .ref qby, .ref qwy, .int (nI wz), .ref qfo, .ref qon, .ref qmn, .ref qpr, .ref qle, .ref qst, .ref qwt, .int (nI rc), .int (nI tk), .int (nI ps), .int (nI gn), .int bd, .ref qwo], aI G qpg 22 (nF p), aI G qtr 22 (nF tr), aI G qln 512 (nF ln0), aI G qfm 512 fm0, aI G qby 512 (nF bf0), aI G qwy 512 (nF wy0)]) rfl dX11_mended_2 ?_
  refine wc_iload_n X 5 1 dX11_mended_5 rfl ?_
  refine wc_i2l X 6 dX11_mended_6 ?_
  refine wc_lconst X 7 0 dX11_mended_7 (by decide) ?_
  refine wc_lconst X 8 1 dX11_mended_8 (by decide) ?_
  refine wc_callS X 9 [] (c_X11_in l G ((nI 0).toInt64) 0 1 ) ys_X11_in rfl q_870 ⟨rfl, rfl⟩ ⟨rfl, rfl⟩ ⟨rfl, rfl⟩ rfl rfl rfl dX11_mended_9 ?_
  refine wc_topi (b2i true) (by decide) ?_
  refine wc_if_neB X 12 17 dX11_mended_12 (by decide) (fun c12_1 => ?_) (fun c12_1 => ?_)
  ·
    refine wc_iload_n X 17 2 dX11_mended_17 rfl ?_
    refine wc_i2l X 18 dX11_mended_18 ?_
    refine wc_lconst X 19 0 dX11_mended_19 (by decide) ?_
    refine wc_lconst X 20 1 dX11_mended_20 (by decide) ?_
    refine wc_callS X 21 [] (c_X11_in l G ((nI 0).toInt64) 0 1 ) ys_X11_in rfl q_870 ⟨rfl, rfl⟩ ⟨rfl, rfl⟩ ⟨rfl, rfl⟩ rfl rfl rfl dX11_mended_21 ?_
    refine wc_topi (b2i true) (by decide) ?_
    refine wc_if_neB X 24 30 dX11_mended_24 (by decide) (fun c24_2 => ?_) (fun c24_2 => ?_)
    ·
      refine wc_iconstN X 30 0 dX11_mended_30 ?_
      refine wc_istore_n X 31 (L' := [(0, .ref o), (1, .int (nI 0)), (2, .int (nI 0)), (3, .int (nI 0))]) dX11_mended_31 (by decide) rfl ?_
      refine wc_bipush X 32 (-9) dX11_mended_32 (by decide) ?_
      refine wc_istore X 34 (L' := [(0, .ref o), (1, .int (nI 0)), (2, .int (nI 0)), (3, .int (nI 0)), (4, .int (-9))]) dX11_mended_34 (by decide) rfl ?_
      refine wc_aload_n X 36 0 dX11_mended_36 rfl ?_
      refine wc_aload_n X 37 0 dX11_mended_37 rfl ?_
      refine wc_get X 38 0 5 kd11 rfl (by decide) q_770 rfl dX11_mended_38 ?_
      refine wc_mutV X Y 41 [0, 1, 3, 4, 5, 6] [2] 0 (c_X11_isWithin l G o (nI 0) qtx ts pl qrp qpg qtr qbk dn qkp qik sn qsw qsi sd qln qfm qby qwy wz qfo qon qmn qpr qle qst qwt rc tk ps gn bd qwo qpg p ln0 fm0 bf0 wy0 (by first | assumption | omega)) yv_X11_isWithin kd11 rfl rfl (wr := [aI G qtr 22 (nF tr)]) rfl ⟨rfl, rfl, rfl⟩ q_1005 ⟨rfl, rfl⟩ ⟨rfl, rfl⟩ ⟨rfl, rfl⟩ rfl rfl rfl dX11_mended_41 (fun v w hp_3 => ?_)
      obtain ⟨wz2_4, ln2_5, fm2_6, bf2_7, wy2_8, rfl, rfl⟩ := hp_3
      refine wc_perm Y [1, 2, 0, 3, 4, 5, 6] [ob o 11 [.int (nI 0), .ref qtx, .int (nI ts), .int (nI pl), .ref qrp, .ref qpg, .ref qtr, .ref qbk, .int (nI dn), .ref qkp, .ref qik, .int (nI sn), .ref qsw, .ref qsi, .long sd, .ref qln, .ref qfm, .ref qby, .ref qwy, .int (nI wz2_4), .ref qfo, .ref qon, .ref qmn, .ref qpr, .ref qle, .ref qst, .ref qwt, .int (nI rc), .int (nI tk), .int (nI ps), .int (nI gn), .int bd, .ref qwo], aI G qpg 22 (nF p), aI G qtr 22 (nF tr), aI G qln 512 (nF ln2_5), aI G qfm 512 fm2_6, aI G qby 512 (nF bf2_7), aI G qwy 512 (nF wy2_8)] rfl rfl ?_
      show Wc Γ 0 0 44 [(0, .ref o), (1, .int (nI 0)), (2, .int (nI 0)), (3, .int (nI 0)), (4, .int (-9))] [.int (b2i (withB (gz p) (p 0) (p 2) (go p) (p 1) (p 3)))] [ob o 11 [.int (nI 0), .ref qtx, .int (nI ts), .int (nI pl), .ref qrp, .ref qpg, .ref qtr, .ref qbk, .int (nI dn), .ref qkp, .ref qik, .int (nI sn), .ref qsw, .ref qsi, .long sd, .ref qln, .ref qfm, .ref qby, .ref qwy, .int (nI wz2_4), .ref qfo, .ref qon, .ref qmn, .ref qpr, .ref qle, .ref qst, .ref qwt, .int (nI rc), .int (nI tk), .int (nI ps), .int (nI gn), .int bd, .ref qwo], aI G qpg 22 (nF p), aI G qtr 22 (nF tr), aI G qln 512 (nF ln2_5), aI G qfm 512 fm2_6, aI G qby 512 (nF bf2_7), aI G qwy 512 (nF wy2_8)]
      refine wc_topi (b2i true) (congrArg b2i hw) ?_
      refine wc_if_neB X 44 51 dX11_mended_44 (by decide) (fun c44_9 => ?_) (fun c44_9 => ?_)
      ·
        refine wc_iconstN X 51 0 dX11_mended_51 ?_
        refine wc_istore X 52 (L' := [(0, .ref o), (1, .int (nI 0)), (2, .int (nI 0)), (3, .int (nI 0)), (4, .int (-9)), (5, .int (nI 0))]) dX11_mended_52 (by decide) rfl ?_
        refine wc_aload_n X 54 0 dX11_mended_54 rfl ?_
        refine wc_get X 55 0 5 kd11 rfl (by decide) q_770 rfl dX11_mended_55 ?_
        refine wc_iload_n X 58 1 dX11_mended_58 rfl ?_
        refine wc_ialdG X 59 1 rfl (by decide) (by decide) dX11_mended_59 ?_
        refine wc_istore X 60 (L' := [(0, .ref o), (1, .int (nI 0)), (2, .int (nI 0)), (3, .int (nI 0)), (4, .int (-9)), (5, .int (nI 0)), (6, .int (nI (p 0)))]) dX11_mended_60 (by decide) rfl ?_
        refine wc_iconstN X 62 2 dX11_mended_62 ?_
        refine wc_iload X 63 6 dX11_mended_63 rfl ?_
        refine wc_imulN X 65 dX11_mended_65 ?_
        refine wc_iload X 66 6 dX11_mended_66 rfl ?_
        refine wc_imulN X 68 dX11_mended_68 ?_
        refine wc_iconst X 69 (1) dX11_mended_69 (by decide) ?_
        refine wc_isub X 70 dX11_mended_70 ?_
        refine wc_istore X 71 (L' := [(0, .ref o), (1, .int (nI 0)), (2, .int (nI 0)), (3, .int (nI 0)), (4, .int (-9)), (5, .int (nI 0)), (6, .int (nI (p 0))), (7, .int ((nI ((2 * (p 0)) * (p 0))) - (1)))]) dX11_mended_71 (by decide) rfl ?_
        refine wc_iload X 73 7 dX11_mended_73 rfl ?_
        refine wc_if_lt X 75 219 dX11_mended_75 (by decide) (fun c75_10 => ?_) (fun c75_10 => ?_)
        ·
          refine wc_iload_n X 219 2 dX11_mended_219 rfl ?_
          refine wc_if_neN X 220 227 dX11_mended_220 (by decide) (by decide) (fun c220_11 => ?_) (fun c220_11 => ?_)
          ·
            exact absurd c220_11 (by decide)
          ·
            refine wc_iload_n X 223 3 dX11_mended_223 rfl ?_
            refine wc_goto X 224 229 dX11_mended_224 (by decide) ?_
            exact ret 229 _ (nI 0) _ dX11_mended_229 (⟨_, _, _, _, _, _, rfl, rfl⟩)
        ·
          refine wc_iload X 78 5 dX11_mended_78 rfl ?_
          refine wc_if_eqN X 80 219 dX11_mended_80 (by decide) (by decide) (fun c80_12 => ?_) (fun c80_12 => ?_)
          ·
            refine wc_iload_n X 219 2 dX11_mended_219 rfl ?_
            refine wc_if_neN X 220 227 dX11_mended_220 (by decide) (by decide) (fun c220_13 => ?_) (fun c220_13 => ?_)
            ·
              exact absurd c220_13 (by decide)
            ·
              refine wc_iload_n X 223 3 dX11_mended_223 rfl ?_
              refine wc_goto X 224 229 dX11_mended_224 (by decide) ?_
              exact ret 229 _ (nI 0) _ dX11_mended_229 (⟨_, _, _, _, _, _, rfl, rfl⟩)
          ·
            exact absurd c80_12 (by decide)
      ·
        exact absurd c44_9 (by decide)
    ·
      exact absurd c24_2 (by decide)
  ·
    exact absurd c12_1 (by decide)

set_option maxHeartbeats 4000000 in
set_option maxRecDepth 100000 in
theorem c_X11_mendedS00 (l : Launch) (G : GG) (o : Nat) (th : Int32) (qtx ts pl qrp qpg qtr qbk dn qkp qik sn qsw qsi : Nat) (sd : Int64) (qln qfm qby qwy wz qfo qon qmn qpr qle qst qwt rc tk ps gn : Nat) (bd : Int32) (qwo : Nat) (p : Nat → Nat) (tr : Nat → Nat) (ln0 : Nat → Nat) (fm0 : Nat → Int32) (bf0 wy0 : Nat → Nat) (hr : pgOk p) (hw : withP p = false) : MM l G yX11_mended (Cond.code yX11_mended cX11_mended 12 (some .int)) { frames := 5, cells := 0, slots := 0, locals := 117 } [.ref o, .int (nI 0), .int (nI 0)] [ob o 11 [.int th, .ref qtx, .int (nI ts), .int (nI pl), .ref qrp, .ref qpg, .ref qtr, .ref qbk, .int (nI dn), .ref qkp, .ref qik, .int (nI sn), .ref qsw, .ref qsi, .long sd, .ref qln, .ref qfm, .ref qby, .ref qwy, .int (nI wz), .ref qfo, .ref qon, .ref qmn, .ref qpr, .ref qle, .ref qst, .ref qwt, .int (nI rc), .int (nI tk), .int (nI ps), .int (nI gn), .int bd, .ref qwo], aI G qpg 22 (nF p), aI G qtr 22 (nF tr), aI G qln 512 (nF ln0), aI G qfm 512 fm0, aI G qby 512 (nF bf0), aI G qwy 512 (nF wy0)] (fun (v : Option Value) (w : va_W) => ∃ (tr2 : Nat → Nat) (wz2 : Nat) (ln2 : Nat → Nat) (fm2 : Nat → Int32) (bf2 wy2 : Nat → Nat), v = some (.int (nI (cnt (mB p 0) (2 * p 0 * p 0)))) ∧ w = [ob o 11 [.int (nI 0), .ref qtx, .int (nI ts), .int (nI pl), .ref qrp, .ref qpg, .ref qtr, .ref qbk, .int (nI dn), .ref qkp, .ref qik, .int (nI sn), .ref qsw, .ref qsi, .long sd, .ref qln, .ref qfm, .ref qby, .ref qwy, .int (nI wz2), .ref qfo, .ref qon, .ref qmn, .ref qpr, .ref qle, .ref qst, .ref qwt, .int (nI rc), .int (nI tk), .int (nI ps), .int (nI gn), .int bd, .ref qwo], aI G qpg 22 (nF p), aI G qtr 22 (nF tr2), aI G qln 512 (nF ln2), aI G qfm 512 fm2, aI G qby 512 (nF bf2), aI G qwy 512 (nF wy2)]) 0 0 := by
  refine MM.ofI (by decide) rfl (fun Γ X Y hnm ret => ?_)
  show Wc Γ 0 0 0 [(0, .ref o), (1, .int (nI 0)), (2, .int (nI 0))] [] [ob o 11 [.int th, .ref qtx, .int (nI ts), .int (nI pl), .ref qrp, .ref qpg, .ref qtr, .ref qbk, .int (nI dn), .ref qkp, .ref qik, .int (nI sn), .ref qsw, .ref qsi, .long sd, .ref qln, .ref qfm, .ref qby, .ref qwy, .int (nI wz), .ref qfo, .ref qon, .ref qmn, .ref qpr, .ref qle, .ref qst, .ref qwt, .int (nI rc), .int (nI tk), .int (nI ps), .int (nI gn), .int bd, .ref qwo], aI G qpg 22 (nF p), aI G qtr 22 (nF tr), aI G qln 512 (nF ln0), aI G qfm 512 fm0, aI G qby 512 (nF bf0), aI G qwy 512 (nF wy0)]
  have hbm := pgOk_m hr (show 0 < 2 by decide)
  have hsq := sq_lt hbm.2
  refine wc_aload_n X 0 0 dX11_mended_0 rfl ?_
  refine wc_iconstN X 1 0 dX11_mended_1 ?_
  refine wc_put X Y 2 0 0 kd11 rfl (by decide) q_765 rfl rfl rfl (Nat.le_of_ble_eq_true rfl) (ws' := [ob o 11 [.int (nI 0), .ref qtx, .int (nI ts), .int (nI pl), .ref qrp, .ref qpg, .ref qtr, .ref qbk, .int (nI dn), .ref qkp, .ref qik, .int (nI sn), .ref qsw, .ref qsi, .long sd, .ref qln, .ref qfm, .ref qby, .ref qwy, .int (nI wz), .ref qfo, .ref qon, .ref qmn, .ref qpr, .ref qle, .ref qst, .ref qwt, .int (nI rc), .int (nI tk), .int (nI ps), .int (nI gn), .int bd, .ref qwo], aI G qpg 22 (nF p), aI G qtr 22 (nF tr), aI G qln 512 (nF ln0), aI G qfm 512 fm0, aI G qby 512 (nF bf0), aI G qwy 512 (nF wy0)]) rfl dX11_mended_2 ?_
  refine wc_iload_n X 5 1 dX11_mended_5 rfl ?_
  refine wc_i2l X 6 dX11_mended_6 ?_
  refine wc_lconst X 7 0 dX11_mended_7 (by decide) ?_
  refine wc_lconst X 8 1 dX11_mended_8 (by decide) ?_
  refine wc_callS X 9 [] (c_X11_in l G ((nI 0).toInt64) 0 1 ) ys_X11_in rfl q_870 ⟨rfl, rfl⟩ ⟨rfl, rfl⟩ ⟨rfl, rfl⟩ rfl rfl rfl dX11_mended_9 ?_
  refine wc_topi (b2i true) (by decide) ?_
  refine wc_if_neB X 12 17 dX11_mended_12 (by decide) (fun c12_1 => ?_) (fun c12_1 => ?_)
  ·
    refine wc_iload_n X 17 2 dX11_mended_17 rfl ?_
    refine wc_i2l X 18 dX11_mended_18 ?_
    refine wc_lconst X 19 0 dX11_mended_19 (by decide) ?_
    refine wc_lconst X 20 1 dX11_mended_20 (by decide) ?_
    refine wc_callS X 21 [] (c_X11_in l G ((nI 0).toInt64) 0 1 ) ys_X11_in rfl q_870 ⟨rfl, rfl⟩ ⟨rfl, rfl⟩ ⟨rfl, rfl⟩ rfl rfl rfl dX11_mended_21 ?_
    refine wc_topi (b2i true) (by decide) ?_
    refine wc_if_neB X 24 30 dX11_mended_24 (by decide) (fun c24_2 => ?_) (fun c24_2 => ?_)
    ·
      refine wc_iconstN X 30 0 dX11_mended_30 ?_
      refine wc_istore_n X 31 (L' := [(0, .ref o), (1, .int (nI 0)), (2, .int (nI 0)), (3, .int (nI 0))]) dX11_mended_31 (by decide) rfl ?_
      refine wc_bipush X 32 (-9) dX11_mended_32 (by decide) ?_
      refine wc_istore X 34 (L' := [(0, .ref o), (1, .int (nI 0)), (2, .int (nI 0)), (3, .int (nI 0)), (4, .int (-9))]) dX11_mended_34 (by decide) rfl ?_
      refine wc_aload_n X 36 0 dX11_mended_36 rfl ?_
      refine wc_aload_n X 37 0 dX11_mended_37 rfl ?_
      refine wc_get X 38 0 5 kd11 rfl (by decide) q_770 rfl dX11_mended_38 ?_
      refine wc_mutV X Y 41 [0, 1, 3, 4, 5, 6] [2] 0 (c_X11_isWithin l G o (nI 0) qtx ts pl qrp qpg qtr qbk dn qkp qik sn qsw qsi sd qln qfm qby qwy wz qfo qon qmn qpr qle qst qwt rc tk ps gn bd qwo qpg p ln0 fm0 bf0 wy0 (by first | assumption | omega)) yv_X11_isWithin kd11 rfl rfl (wr := [aI G qtr 22 (nF tr)]) rfl ⟨rfl, rfl, rfl⟩ q_1005 ⟨rfl, rfl⟩ ⟨rfl, rfl⟩ ⟨rfl, rfl⟩ rfl rfl rfl dX11_mended_41 (fun v w hp_3 => ?_)
      obtain ⟨wz2_4, ln2_5, fm2_6, bf2_7, wy2_8, rfl, rfl⟩ := hp_3
      refine wc_perm Y [1, 2, 0, 3, 4, 5, 6] [ob o 11 [.int (nI 0), .ref qtx, .int (nI ts), .int (nI pl), .ref qrp, .ref qpg, .ref qtr, .ref qbk, .int (nI dn), .ref qkp, .ref qik, .int (nI sn), .ref qsw, .ref qsi, .long sd, .ref qln, .ref qfm, .ref qby, .ref qwy, .int (nI wz2_4), .ref qfo, .ref qon, .ref qmn, .ref qpr, .ref qle, .ref qst, .ref qwt, .int (nI rc), .int (nI tk), .int (nI ps), .int (nI gn), .int bd, .ref qwo], aI G qpg 22 (nF p), aI G qtr 22 (nF tr), aI G qln 512 (nF ln2_5), aI G qfm 512 fm2_6, aI G qby 512 (nF bf2_7), aI G qwy 512 (nF wy2_8)] rfl rfl ?_
      show Wc Γ 0 0 44 [(0, .ref o), (1, .int (nI 0)), (2, .int (nI 0)), (3, .int (nI 0)), (4, .int (-9))] [.int (b2i (withB (gz p) (p 0) (p 2) (go p) (p 1) (p 3)))] [ob o 11 [.int (nI 0), .ref qtx, .int (nI ts), .int (nI pl), .ref qrp, .ref qpg, .ref qtr, .ref qbk, .int (nI dn), .ref qkp, .ref qik, .int (nI sn), .ref qsw, .ref qsi, .long sd, .ref qln, .ref qfm, .ref qby, .ref qwy, .int (nI wz2_4), .ref qfo, .ref qon, .ref qmn, .ref qpr, .ref qle, .ref qst, .ref qwt, .int (nI rc), .int (nI tk), .int (nI ps), .int (nI gn), .int bd, .ref qwo], aI G qpg 22 (nF p), aI G qtr 22 (nF tr), aI G qln 512 (nF ln2_5), aI G qfm 512 fm2_6, aI G qby 512 (nF bf2_7), aI G qwy 512 (nF wy2_8)]
      refine wc_topi (b2i false) (congrArg b2i hw) ?_
      refine wc_if_neB X 44 51 dX11_mended_44 (by decide) (fun c44_9 => ?_) (fun c44_9 => ?_)
      ·
        exact absurd c44_9 (by decide)
      ·
        refine wc_iconstN X 47 1 dX11_mended_47 ?_
        refine wc_goto X 48 52 dX11_mended_48 (by decide) ?_
        refine wc_istore X 52 (L' := [(0, .ref o), (1, .int (nI 0)), (2, .int (nI 0)), (3, .int (nI 0)), (4, .int (-9)), (5, .int (nI 1))]) dX11_mended_52 (by decide) rfl ?_
        refine wc_aload_n X 54 0 dX11_mended_54 rfl ?_
        refine wc_get X 55 0 5 kd11 rfl (by decide) q_770 rfl dX11_mended_55 ?_
        refine wc_iload_n X 58 1 dX11_mended_58 rfl ?_
        refine wc_ialdG X 59 1 rfl (by decide) (by decide) dX11_mended_59 ?_
        refine wc_istore X 60 (L' := [(0, .ref o), (1, .int (nI 0)), (2, .int (nI 0)), (3, .int (nI 0)), (4, .int (-9)), (5, .int (nI 1)), (6, .int (nI (p 0)))]) dX11_mended_60 (by decide) rfl ?_
        refine wc_iconstN X 62 2 dX11_mended_62 ?_
        refine wc_iload X 63 6 dX11_mended_63 rfl ?_
        refine wc_imulN X 65 dX11_mended_65 ?_
        refine wc_iload X 66 6 dX11_mended_66 rfl ?_
        refine wc_imulN X 68 dX11_mended_68 ?_
        refine wc_iconst X 69 (1) dX11_mended_69 (by decide) ?_
        refine wc_isub X 70 dX11_mended_70 ?_
        refine wc_istore X 71 (L' := [(0, .ref o), (1, .int (nI 0)), (2, .int (nI 0)), (3, .int (nI 0)), (4, .int (-9)), (5, .int (nI 1)), (6, .int (nI (p 0))), (7, .int ((nI ((2 * (p 0)) * (p 0))) - (1)))]) dX11_mended_71 (by decide) rfl ?_
        have LP_11 : ∀ (fuel_10 : Nat) (K : Nat) (n3 : Nat) (fs : Int32) (t9 : Nat → Nat) (z9 : Nat) (l9 : Nat → Nat) (m9 : Nat → Int32) (b9 : Nat → Nat) (y9 : Nat → Nat), (K ≤ 2 * p 0 * p 0) → (n3 + cnt (mB p 0) K = cnt (mB p 0) (2 * p 0 * p 0)) → (DS (mB p 0) (mCd (p 0)) K (2 * p 0 * p 0) fs) → K < fuel_10 → Wc Γ 0 0 73 [(0, .ref o), (1, .int (nI 0)), (2, .int (nI 0)), (3, .int (nI n3)), (4, .int fs), (5, .int (nI 1)), (6, .int (nI (p 0))), (7, .int (nI K - 1))] [] [ob o 11 [.int (nI 0), .ref qtx, .int (nI ts), .int (nI pl), .ref qrp, .ref qpg, .ref qtr, .ref qbk, .int (nI dn), .ref qkp, .ref qik, .int (nI sn), .ref qsw, .ref qsi, .long sd, .ref qln, .ref qfm, .ref qby, .ref qwy, .int (nI z9), .ref qfo, .ref qon, .ref qmn, .ref qpr, .ref qle, .ref qst, .ref qwt, .int (nI rc), .int (nI tk), .int (nI ps), .int (nI gn), .int bd, .ref qwo], aI G qpg 22 (nF p), aI G qtr 22 (nF t9), aI G qln 512 (nF l9), aI G qfm 512 m9, aI G qby 512 (nF b9), aI G qwy 512 (nF y9)] := by
          intro fuel_10
          induction fuel_10 with
          | zero => intro K n3 fs t9 z9 l9 m9 b9 y9 hK hn3 hds hm; exact absurd hm (Nat.not_lt_zero _)
          | succ fuel_10 ih_12 =>
            intro K n3 fs t9 z9 l9 m9 b9 y9 hK hn3 hds hm_13
            refine wc_iload X 73 7 dX11_mended_73 rfl ?_
            refine wc_if_lt X 75 219 dX11_mended_75 (by decide) (fun c75_14 => ?_) (fun c75_14 => ?_)
            ·
              have hK0 := nI_m1_0 (by omega) c75_14
              refine wc_iload_n X 219 2 dX11_mended_219 rfl ?_
              refine wc_if_neN X 220 227 dX11_mended_220 (by decide) (by decide) (fun c220_15 => ?_) (fun c220_15 => ?_)
              ·
                exact absurd c220_15 (by decide)
              ·
                refine wc_iload_n X 223 3 dX11_mended_223 rfl ?_
                refine wc_goto X 224 229 dX11_mended_224 (by decide) ?_
                exact ret 229 _ (nI n3) _ dX11_mended_229 (⟨_, _, _, _, _, _, by rw [← hn3, hK0]; rfl, rfl⟩)
            ·
              obtain ⟨k, rfl⟩ := nI_m1_s c75_14
              refine wc_L (L' := [(0, .ref o), (1, .int (nI 0)), (2, .int (nI 0)), (3, .int (nI n3)), (4, .int fs), (5, .int (nI 1)), (6, .int (nI (p 0))), (7, .int (nI k))]) (by rw [nI_pred]) ?_
              have hmd := md_lt (n := p 0) (show k < 2 * p 0 * p 0 by omega)
              have hz := flE_ok (m := 0) hr (by decide) hmd.1 hmd.2.1 hmd.2.2.1 hmd.2.2.2
              refine wc_iload X 78 5 dX11_mended_78 rfl ?_
              refine wc_if_eqN X 80 219 dX11_mended_80 (by decide) (by decide) (fun c80_16 => ?_) (fun c80_16 => ?_)
              ·
                exact absurd c80_16 (by decide)
              ·
                refine wc_iload X 83 7 dX11_mended_83 rfl ?_
                refine wc_iconstN X 85 2 dX11_mended_85 ?_
                refine wc_iload X 86 6 dX11_mended_86 rfl ?_
                refine wc_imulN X 88 dX11_mended_88 ?_
                refine wc_idivN X 89 dX11_mended_89 (by omega) (by omega) (by omega) ?_
                refine wc_topi (nI (mdI (p 0) k)) (congrArg nI (rfl)) ?_
                refine wc_istore X 90 (L' := [(0, .ref o), (1, .int (nI 0)), (2, .int (nI 0)), (3, .int (nI n3)), (4, .int fs), (5, .int (nI 1)), (6, .int (nI (p 0))), (7, .int (nI k)), (8, .int (nI (mdI (p 0) k)))]) dX11_mended_90 (by decide) rfl ?_
                refine wc_iconstN X 92 1 dX11_mended_92 ?_
                refine wc_iload X 93 7 dX11_mended_93 rfl ?_
                refine wc_iload X 95 6 dX11_mended_95 rfl ?_
                refine wc_idivN X 97 dX11_mended_97 (by omega) (by omega) (by omega) ?_
                refine wc_iconstN X 98 2 dX11_mended_98 ?_
                refine wc_iremN X 99 dX11_mended_99 (Nat.lt_of_le_of_lt (Nat.div_le_self _ _) (by omega)) (by decide) (by decide) ?_
                refine wc_iaddN X 100 dX11_mended_100 ?_
                refine wc_topi (nI (mdC (p 0) k)) (congrArg nI (rfl)) ?_
                refine wc_istore X 101 (L' := [(0, .ref o), (1, .int (nI 0)), (2, .int (nI 0)), (3, .int (nI n3)), (4, .int fs), (5, .int (nI 1)), (6, .int (nI (p 0))), (7, .int (nI k)), (8, .int (nI (mdI (p 0) k))), (9, .int (nI (mdC (p 0) k)))]) dX11_mended_101 (by decide) rfl ?_
                refine wc_iload X 103 7 dX11_mended_103 rfl ?_
                refine wc_iload X 105 6 dX11_mended_105 rfl ?_
                refine wc_iremN X 107 dX11_mended_107 (by omega) (by omega) (by omega) ?_
                refine wc_topi (nI (mdT (p 0) k)) (congrArg nI (rfl)) ?_
                refine wc_istore X 108 (L' := [(0, .ref o), (1, .int (nI 0)), (2, .int (nI 0)), (3, .int (nI n3)), (4, .int fs), (5, .int (nI 1)), (6, .int (nI (p 0))), (7, .int (nI k)), (8, .int (nI (mdI (p 0) k))), (9, .int (nI (mdC (p 0) k))), (10, .int (nI (mdT (p 0) k)))]) dX11_mended_108 (by decide) rfl ?_
                refine wc_aload_n X 110 0 dX11_mended_110 rfl ?_
                refine wc_get X 111 0 6 kd11 rfl (by decide) q_771 rfl dX11_mended_111 ?_
                refine wc_aload_n X 114 0 dX11_mended_114 rfl ?_
                refine wc_get X 115 0 5 kd11 rfl (by decide) q_770 rfl dX11_mended_115 ?_
                refine wc_mutS X Y 118 [2, 1] [0, 3, 4, 5, 6] (c_X11_lay l G qtr t9 qpg p ) ys_X11_lay rfl (wr := [ob o 11 [.int (nI 0), .ref qtx, .int (nI ts), .int (nI pl), .ref qrp, .ref qpg, .ref qtr, .ref qbk, .int (nI dn), .ref qkp, .ref qik, .int (nI sn), .ref qsw, .ref qsi, .long sd, .ref qln, .ref qfm, .ref qby, .ref qwy, .int (nI z9), .ref qfo, .ref qon, .ref qmn, .ref qpr, .ref qle, .ref qst, .ref qwt, .int (nI rc), .int (nI tk), .int (nI ps), .int (nI gn), .int bd, .ref qwo], aI G qln 512 (nF l9), aI G qfm 512 m9, aI G qby 512 (nF b9), aI G qwy 512 (nF y9)]) rfl ⟨rfl, rfl, rfl⟩ q_927 ⟨rfl, rfl⟩ ⟨rfl, rfl⟩ ⟨rfl, rfl⟩ rfl rfl rfl dX11_mended_118 (fun v w hp_17 => ?_)
                obtain ⟨rfl, rfl⟩ := hp_17
                refine wc_perm Y [0, 6, 5, 1, 2, 3, 4] [ob o 11 [.int (nI 0), .ref qtx, .int (nI ts), .int (nI pl), .ref qrp, .ref qpg, .ref qtr, .ref qbk, .int (nI dn), .ref qkp, .ref qik, .int (nI sn), .ref qsw, .ref qsi, .long sd, .ref qln, .ref qfm, .ref qby, .ref qwy, .int (nI z9), .ref qfo, .ref qon, .ref qmn, .ref qpr, .ref qle, .ref qst, .ref qwt, .int (nI rc), .int (nI tk), .int (nI ps), .int (nI gn), .int bd, .ref qwo], aI G qpg 22 (nF p), aI G qtr 22 (nF p), aI G qln 512 (nF l9), aI G qfm 512 m9, aI G qby 512 (nF b9), aI G qwy 512 (nF y9)] rfl rfl ?_
                show Wc Γ 0 0 121 [(0, .ref o), (1, .int (nI 0)), (2, .int (nI 0)), (3, .int (nI n3)), (4, .int fs), (5, .int (nI 1)), (6, .int (nI (p 0))), (7, .int (nI k)), (8, .int (nI (mdI (p 0) k))), (9, .int (nI (mdC (p 0) k))), (10, .int (nI (mdT (p 0) k)))] [] [ob o 11 [.int (nI 0), .ref qtx, .int (nI ts), .int (nI pl), .ref qrp, .ref qpg, .ref qtr, .ref qbk, .int (nI dn), .ref qkp, .ref qik, .int (nI sn), .ref qsw, .ref qsi, .long sd, .ref qln, .ref qfm, .ref qby, .ref qwy, .int (nI z9), .ref qfo, .ref qon, .ref qmn, .ref qpr, .ref qle, .ref qst, .ref qwt, .int (nI rc), .int (nI tk), .int (nI ps), .int (nI gn), .int bd, .ref qwo], aI G qpg 22 (nF p), aI G qtr 22 (nF p), aI G qln 512 (nF l9), aI G qfm 512 m9, aI G qby 512 (nF b9), aI G qwy 512 (nF y9)]
                refine wc_aload_n X 121 0 dX11_mended_121 rfl ?_
                refine wc_get X 122 0 6 kd11 rfl (by decide) q_771 rfl dX11_mended_122 ?_
                refine wc_iload_n X 125 1 dX11_mended_125 rfl ?_
                refine wc_iload X 126 8 dX11_mended_126 rfl ?_
                refine wc_iload X 128 9 dX11_mended_128 rfl ?_
                refine wc_callS X 130 [] (c_X11_at l G 0 (mdI (p 0) k) (mdC (p 0) k) (by decide) (by omega) hmd.2.1 hmd.2.2.1) ys_X11_at rfl q_896 ⟨rfl, rfl⟩ ⟨rfl, rfl⟩ ⟨rfl, rfl⟩ rfl rfl rfl dX11_mended_130 ?_
                refine wc_dup2 X 133 dX11_mended_133 rfl rfl ?_
                refine wc_ialdG X 134 2 rfl (atN_lt (by omega) hmd.2.2.1) (by decide) dX11_mended_134 ?_
                refine wc_iconstN X 135 1 dX11_mended_135 ?_
                refine wc_iload X 136 10 dX11_mended_136 rfl ?_
                refine wc_shl1 X 138 dX11_mended_138 (by omega) ?_
                refine wc_ixorN X 139 dX11_mended_139 ?_
                refine wc_iastG X Y 140 2 rfl (atN_lt (by omega) hmd.2.2.1) (by decide) (ws' := [ob o 11 [.int (nI 0), .ref qtx, .int (nI ts), .int (nI pl), .ref qrp, .ref qpg, .ref qtr, .ref qbk, .int (nI dn), .ref qkp, .ref qik, .int (nI sn), .ref qsw, .ref qsi, .long sd, .ref qln, .ref qfm, .ref qby, .ref qwy, .int (nI z9), .ref qfo, .ref qon, .ref qmn, .ref qpr, .ref qle, .ref qst, .ref qwt, .int (nI rc), .int (nI tk), .int (nI ps), .int (nI gn), .int bd, .ref qwo], aI G qpg 22 (nF p), aI G qtr 22 (nF (up p (atN 0 (mdI (p 0) k) (mdC (p 0) k)) ((p (atN 0 (mdI (p 0) k) (mdC (p 0) k))) ^^^ (2 ^ (mdT (p 0) k))))), aI G qln 512 (nF l9), aI G qfm 512 m9, aI G qby 512 (nF b9), aI G qwy 512 (nF y9)]) rfl dX11_mended_140 ?_
                refine wc_ws (ws' := [ob o 11 [.int (nI 0), .ref qtx, .int (nI ts), .int (nI pl), .ref qrp, .ref qpg, .ref qtr, .ref qbk, .int (nI dn), .ref qkp, .ref qik, .int (nI sn), .ref qsw, .ref qsi, .long sd, .ref qln, .ref qfm, .ref qby, .ref qwy, .int (nI z9), .ref qfo, .ref qon, .ref qmn, .ref qpr, .ref qle, .ref qst, .ref qwt, .int (nI rc), .int (nI tk), .int (nI ps), .int (nI gn), .int bd, .ref qwo], aI G qpg 22 (nF p), aI G qtr 22 (nF (flE p 0 (mdI (p 0) k) (mdC (p 0) k) (mdT (p 0) k))), aI G qln 512 (nF l9), aI G qfm 512 m9, aI G qby 512 (nF b9), aI G qwy 512 (nF y9)]) (rfl) ?_
                refine wc_aload_n X 141 0 dX11_mended_141 rfl ?_
                refine wc_get X 142 0 5 kd11 rfl (by decide) q_770 rfl dX11_mended_142 ?_
                refine wc_iload_n X 145 1 dX11_mended_145 rfl ?_
                refine wc_iload X 146 8 dX11_mended_146 rfl ?_
                refine wc_iload X 148 9 dX11_mended_148 rfl ?_
                refine wc_callS X 150 [] (c_X11_at l G 0 (mdI (p 0) k) (mdC (p 0) k) (by decide) (by omega) hmd.2.1 hmd.2.2.1) ys_X11_at rfl q_896 ⟨rfl, rfl⟩ ⟨rfl, rfl⟩ ⟨rfl, rfl⟩ rfl rfl rfl dX11_mended_150 ?_
                refine wc_ialdG X 153 1 rfl (atN_lt (by omega) hmd.2.2.1) (by decide) dX11_mended_153 ?_
                refine wc_topi (nI (gz p (mdI (p 0) k * 2 + mdC (p 0) k - 1))) (congrArg nI (atN_mG (m := 0) (by decide) hr.2.1 hmd.1 hmd.2.1 hmd.2.2.1)) ?_
                refine wc_iload X 154 10 dX11_mended_154 rfl ?_
                refine wc_callS X 156 [] (c_X11_has l G (gz p (mdI (p 0) k * 2 + mdC (p 0) k - 1)) (mdT (p 0) k) (Nat.lt_trans (mG_lt (m := 0) hr.2.2.2.2.1 _) (by decide)) (by omega)) ys_X11_has rfl q_916 ⟨rfl, rfl⟩ ⟨rfl, rfl⟩ ⟨rfl, rfl⟩ rfl rfl rfl dX11_mended_156 ?_
                refine wc_iload_n X 159 1 dX11_mended_159 rfl ?_
                refine wc_if_neN X 160 167 dX11_mended_160 (by decide) (by decide) (fun c160_18 => ?_) (fun c160_18 => ?_)
                ·
                  exact absurd c160_18 (by decide)
                ·
                  refine wc_iconstN X 163 1 dX11_mended_163 ?_
                  refine wc_goto X 164 168 dX11_mended_164 (by decide) ?_
                  refine wc_st (st' := [.int (b2i true), .int (b2i (Nat.testBit (gz p (mdI (p 0) k * 2 + mdC (p 0) k - 1)) (mdT (p 0) k)))]) rfl ?_
                  refine wc_icmp_neB X 168 175 dX11_mended_168 (by decide) (fun c168_19 => ?_) (fun c168_19 => ?_)
                  ·
                    refine wc_iconstN X 175 0 dX11_mended_175 ?_
                    refine wc_istore X 176 (L' := [(0, .ref o), (1, .int (nI 0)), (2, .int (nI 0)), (3, .int (nI n3)), (4, .int fs), (5, .int (nI 1)), (6, .int (nI (p 0))), (7, .int (nI k)), (8, .int (nI (mdI (p 0) k))), (9, .int (nI (mdC (p 0) k))), (10, .int (nI (mdT (p 0) k))), (11, .int (nI 0))]) dX11_mended_176 (by decide) rfl ?_
                    refine wc_iload X 178 11 dX11_mended_178 rfl ?_
                    refine wc_if_eqN X 180 213 dX11_mended_180 (by decide) (by decide) (fun c180_20 => ?_) (fun c180_20 => ?_)
                    ·
                      refine wc_iinc X 213 7 (L' := [(0, .ref o), (1, .int (nI 0)), (2, .int (nI 0)), (3, .int (nI n3)), (4, .int fs), (5, .int (nI 1)), (6, .int (nI (p 0))), (7, .int (nI k + (-1))), (8, .int (nI (mdI (p 0) k))), (9, .int (nI (mdC (p 0) k))), (10, .int (nI (mdT (p 0) k))), (11, .int (nI 0))]) dX11_mended_213 rfl rfl (by decide) rfl ?_
                      refine wc_goto X 216 73 dX11_mended_216 (by decide) ?_
                      have hno : mB p 0 k = false := by unfold mB; rw [mEd_0, show Nat.testBit (gz p (mdI (p 0) k * 2 + mdC (p 0) k - 1)) (mdT (p 0) k) = false by simpa using c168_19]; rfl
                      refine wc_loc [0, 1, 2, 3, 4, 5, 6, 7] (L' := [(0, .ref o), (1, .int (nI 0)), (2, .int (nI 0)), (3, .int (nI n3)), (4, .int fs), (5, .int (nI 1)), (6, .int (nI (p 0))), (7, .int (nI k + (-1)))]) rfl ?_
                      have e_21 : (nI k + (-1)) = nI k - 1 := by rw [Int32.sub_eq_add_neg]
                      refine wc_L (L' := [(0, .ref o), (1, .int (nI 0)), (2, .int (nI 0)), (3, .int (nI n3)), (4, .int fs), (5, .int (nI 1)), (6, .int (nI (p 0))), (7, .int (nI k - 1))]) (by first | (rw [e_21]; done) | (rw [e_21]; rfl) | (rw [← e_21]; done) | rfl) ?_
                      exact ih_12 k n3 fs (flE p 0 (mdI (p 0) k) (mdC (p 0) k) (mdT (p 0) k)) z9 l9 m9 b9 y9 (by omega) (by have := cnt_no (f := mB p 0) (K := k) rfl hno; omega) (DS_no hds hno) (by omega)
                    ·
                      exact absurd c180_20 (by decide)
                  ·
                    refine wc_iconstN X 171 1 dX11_mended_171 ?_
                    refine wc_goto X 172 176 dX11_mended_172 (by decide) ?_
                    refine wc_istore X 176 (L' := [(0, .ref o), (1, .int (nI 0)), (2, .int (nI 0)), (3, .int (nI n3)), (4, .int fs), (5, .int (nI 1)), (6, .int (nI (p 0))), (7, .int (nI k)), (8, .int (nI (mdI (p 0) k))), (9, .int (nI (mdC (p 0) k))), (10, .int (nI (mdT (p 0) k))), (11, .int (nI 1))]) dX11_mended_176 (by decide) rfl ?_
                    refine wc_iload X 178 11 dX11_mended_178 rfl ?_
                    refine wc_if_eqN X 180 213 dX11_mended_180 (by decide) (by decide) (fun c180_22 => ?_) (fun c180_22 => ?_)
                    ·
                      exact absurd c180_22 (by decide)
                    ·
                      refine wc_aload_n X 183 0 dX11_mended_183 rfl ?_
                      refine wc_aload_n X 184 0 dX11_mended_184 rfl ?_
                      refine wc_get X 185 0 6 kd11 rfl (by decide) q_771 rfl dX11_mended_185 ?_
                      refine wc_mutV X Y 188 [0, 2, 3, 4, 5, 6] [1] 0 (c_X11_isWithin l G o (nI 0) qtx ts pl qrp qpg qtr qbk dn qkp qik sn qsw qsi sd qln qfm qby qwy z9 qfo qon qmn qpr qle qst qwt rc tk ps gn bd qwo qtr (flE p 0 (mdI (p 0) k) (mdC (p 0) k) (mdT (p 0) k)) l9 m9 b9 y9 hz) yv_X11_isWithin kd11 rfl rfl (wr := [aI G qpg 22 (nF p)]) rfl ⟨rfl, rfl, rfl⟩ q_1005 ⟨rfl, rfl⟩ ⟨rfl, rfl⟩ ⟨rfl, rfl⟩ rfl rfl rfl dX11_mended_188 (fun v w hp_23 => ?_)
                      obtain ⟨wz2_24, ln2_25, fm2_26, bf2_27, wy2_28, rfl, rfl⟩ := hp_23
                      refine wc_perm Y [1, 0, 2, 3, 4, 5, 6] [ob o 11 [.int (nI 0), .ref qtx, .int (nI ts), .int (nI pl), .ref qrp, .ref qpg, .ref qtr, .ref qbk, .int (nI dn), .ref qkp, .ref qik, .int (nI sn), .ref qsw, .ref qsi, .long sd, .ref qln, .ref qfm, .ref qby, .ref qwy, .int (nI wz2_24), .ref qfo, .ref qon, .ref qmn, .ref qpr, .ref qle, .ref qst, .ref qwt, .int (nI rc), .int (nI tk), .int (nI ps), .int (nI gn), .int bd, .ref qwo], aI G qpg 22 (nF p), aI G qtr 22 (nF (flE p 0 (mdI (p 0) k) (mdC (p 0) k) (mdT (p 0) k))), aI G qln 512 (nF ln2_25), aI G qfm 512 fm2_26, aI G qby 512 (nF bf2_27), aI G qwy 512 (nF wy2_28)] rfl rfl ?_
                      show Wc Γ 0 0 191 [(0, .ref o), (1, .int (nI 0)), (2, .int (nI 0)), (3, .int (nI n3)), (4, .int fs), (5, .int (nI 1)), (6, .int (nI (p 0))), (7, .int (nI k)), (8, .int (nI (mdI (p 0) k))), (9, .int (nI (mdC (p 0) k))), (10, .int (nI (mdT (p 0) k))), (11, .int (nI 1))] [.int (b2i (withB (gz (flE p 0 (mdI (p 0) k) (mdC (p 0) k) (mdT (p 0) k))) ((flE p 0 (mdI (p 0) k) (mdC (p 0) k) (mdT (p 0) k)) 0) ((flE p 0 (mdI (p 0) k) (mdC (p 0) k) (mdT (p 0) k)) 2) (go (flE p 0 (mdI (p 0) k) (mdC (p 0) k) (mdT (p 0) k))) ((flE p 0 (mdI (p 0) k) (mdC (p 0) k) (mdT (p 0) k)) 1) ((flE p 0 (mdI (p 0) k) (mdC (p 0) k) (mdT (p 0) k)) 3)))] [ob o 11 [.int (nI 0), .ref qtx, .int (nI ts), .int (nI pl), .ref qrp, .ref qpg, .ref qtr, .ref qbk, .int (nI dn), .ref qkp, .ref qik, .int (nI sn), .ref qsw, .ref qsi, .long sd, .ref qln, .ref qfm, .ref qby, .ref qwy, .int (nI wz2_24), .ref qfo, .ref qon, .ref qmn, .ref qpr, .ref qle, .ref qst, .ref qwt, .int (nI rc), .int (nI tk), .int (nI ps), .int (nI gn), .int bd, .ref qwo], aI G qpg 22 (nF p), aI G qtr 22 (nF (flE p 0 (mdI (p 0) k) (mdC (p 0) k) (mdT (p 0) k))), aI G qln 512 (nF ln2_25), aI G qfm 512 fm2_26, aI G qby 512 (nF bf2_27), aI G qwy 512 (nF wy2_28)]
                      refine wc_if_eqB X 191 213 dX11_mended_191 (by decide) (fun c191_29 => ?_) (fun c191_29 => ?_)
                      ·
                        refine wc_iinc X 213 7 (L' := [(0, .ref o), (1, .int (nI 0)), (2, .int (nI 0)), (3, .int (nI n3)), (4, .int fs), (5, .int (nI 1)), (6, .int (nI (p 0))), (7, .int (nI k + (-1))), (8, .int (nI (mdI (p 0) k))), (9, .int (nI (mdC (p 0) k))), (10, .int (nI (mdT (p 0) k))), (11, .int (nI 1))]) dX11_mended_213 rfl rfl (by decide) rfl ?_
                        refine wc_goto X 216 73 dX11_mended_216 (by decide) ?_
                        have hno : mB p 0 k = false := by unfold mB; rw [mEd_0, show withP _ = false from c191_29, Bool.and_false]
                        refine wc_loc [0, 1, 2, 3, 4, 5, 6, 7] (L' := [(0, .ref o), (1, .int (nI 0)), (2, .int (nI 0)), (3, .int (nI n3)), (4, .int fs), (5, .int (nI 1)), (6, .int (nI (p 0))), (7, .int (nI k + (-1)))]) rfl ?_
                        have e_30 : (nI k + (-1)) = nI k - 1 := by rw [Int32.sub_eq_add_neg]
                        refine wc_L (L' := [(0, .ref o), (1, .int (nI 0)), (2, .int (nI 0)), (3, .int (nI n3)), (4, .int fs), (5, .int (nI 1)), (6, .int (nI (p 0))), (7, .int (nI k - 1))]) (by first | (rw [e_30]; done) | (rw [e_30]; rfl) | (rw [← e_30]; done) | rfl) ?_
                        exact ih_12 k n3 fs (flE p 0 (mdI (p 0) k) (mdC (p 0) k) (mdT (p 0) k)) wz2_24 ln2_25 fm2_26 bf2_27 wy2_28 (by omega) (by have := cnt_no (f := mB p 0) (K := k) rfl hno; omega) (DS_no hds hno) (by omega)
                      ·
                        refine wc_iincN X 194 3 (L' := [(0, .ref o), (1, .int (nI 0)), (2, .int (nI 0)), (3, .int (nI (n3 + 1))), (4, .int fs), (5, .int (nI 1)), (6, .int (nI (p 0))), (7, .int (nI k)), (8, .int (nI (mdI (p 0) k))), (9, .int (nI (mdC (p 0) k))), (10, .int (nI (mdT (p 0) k))), (11, .int (nI 1))]) dX11_mended_194 rfl (by decide) rfl ?_
                        refine wc_bipush X 197 (nI 100) dX11_mended_197 (by decide) ?_
                        refine wc_iload X 199 8 dX11_mended_199 rfl ?_
                        refine wc_imulN X 201 dX11_mended_201 ?_
                        refine wc_bipush X 202 (nI 10) dX11_mended_202 (by decide) ?_
                        refine wc_iload X 204 9 dX11_mended_204 rfl ?_
                        refine wc_imulN X 206 dX11_mended_206 ?_
                        refine wc_iaddN X 207 dX11_mended_207 ?_
                        refine wc_iload X 208 10 dX11_mended_208 rfl ?_
                        refine wc_iaddN X 210 dX11_mended_210 ?_
                        refine wc_istore X 211 (L' := [(0, .ref o), (1, .int (nI 0)), (2, .int (nI 0)), (3, .int (nI (n3 + 1))), (4, .int (nI (((100 * (mdI (p 0) k)) + (10 * (mdC (p 0) k))) + (mdT (p 0) k)))), (5, .int (nI 1)), (6, .int (nI (p 0))), (7, .int (nI k)), (8, .int (nI (mdI (p 0) k))), (9, .int (nI (mdC (p 0) k))), (10, .int (nI (mdT (p 0) k))), (11, .int (nI 1))]) dX11_mended_211 (by decide) rfl ?_
                        refine wc_iinc X 213 7 (L' := [(0, .ref o), (1, .int (nI 0)), (2, .int (nI 0)), (3, .int (nI (n3 + 1))), (4, .int (nI (((100 * (mdI (p 0) k)) + (10 * (mdC (p 0) k))) + (mdT (p 0) k)))), (5, .int (nI 1)), (6, .int (nI (p 0))), (7, .int (nI k + (-1))), (8, .int (nI (mdI (p 0) k))), (9, .int (nI (mdC (p 0) k))), (10, .int (nI (mdT (p 0) k))), (11, .int (nI 1))]) dX11_mended_213 rfl rfl (by decide) rfl ?_
                        refine wc_goto X 216 73 dX11_mended_216 (by decide) ?_
                        have hye : mB p 0 k = true := by unfold mB; rw [mEd_0, show _ = _ from c168_19, show withP _ = true from c191_29]; rfl
                        refine wc_loc [0, 1, 2, 3, 4, 5, 6, 7] (L' := [(0, .ref o), (1, .int (nI 0)), (2, .int (nI 0)), (3, .int (nI (n3 + 1))), (4, .int (nI (((100 * (mdI (p 0) k)) + (10 * (mdC (p 0) k))) + (mdT (p 0) k)))), (5, .int (nI 1)), (6, .int (nI (p 0))), (7, .int (nI k + (-1)))]) rfl ?_
                        have e_31 : (.int (nI (((100 * (mdI (p 0) k)) + (10 * (mdC (p 0) k))) + (mdT (p 0) k))) : Value) = .int (nI (mCd (p 0) k)) := rfl
                        have e_32 : (nI k + (-1)) = nI k - 1 := by rw [Int32.sub_eq_add_neg]
                        refine wc_L (L' := [(0, .ref o), (1, .int (nI 0)), (2, .int (nI 0)), (3, .int (nI (n3 + 1))), (4, .int (nI (mCd (p 0) k))), (5, .int (nI 1)), (6, .int (nI (p 0))), (7, .int (nI k - 1))]) (by first | (rw [e_31, e_32]; done) | (rw [e_31, e_32]; rfl) | (rw [← e_31, ← e_32]; done) | rfl) ?_
                        exact ih_12 k (n3 + 1) (nI (mCd (p 0) k)) (flE p 0 (mdI (p 0) k) (mdC (p 0) k) (mdT (p 0) k)) wz2_24 ln2_25 fm2_26 bf2_27 wy2_28 (by omega) (by have := cnt_ye (f := mB p 0) (K := k) rfl hye; omega) (DS_ye (by omega) hye) (by omega)
        have e_33 : (nI ((2 * (p 0)) * (p 0))) - (1) = nI (2 * p 0 * p 0) - 1 := rfl
        refine wc_L (L' := [(0, .ref o), (1, .int (nI 0)), (2, .int (nI 0)), (3, .int (nI 0)), (4, .int (-9)), (5, .int (nI 1)), (6, .int (nI (p 0))), (7, .int (nI (2 * p 0 * p 0) - 1))]) (by first | (rw [e_33]; done) | (rw [e_33]; rfl) | (rw [← e_33]; done) | rfl) ?_
        exact LP_11 ((2 * p 0 * p 0) + 1) (2 * p 0 * p 0) 0 (-9) tr wz2_4 ln2_5 fm2_6 bf2_7 wy2_8 (Nat.le_refl _) (Nat.zero_add _) DS_0 (Nat.lt_succ_self _)
    ·
      exact absurd c24_2 (by decide)
  ·
    exact absurd c12_1 (by decide)

set_option maxHeartbeats 4000000 in
set_option maxRecDepth 100000 in
theorem c_X11_mendedW01 (l : Launch) (G : GG) (o : Nat) (th : Int32) (qtx ts pl qrp qpg qtr qbk dn qkp qik sn qsw qsi : Nat) (sd : Int64) (qln qfm qby qwy wz qfo qon qmn qpr qle qst qwt rc tk ps gn : Nat) (bd : Int32) (qwo : Nat) (p : Nat → Nat) (tr : Nat → Nat) (ln0 : Nat → Nat) (fm0 : Nat → Int32) (bf0 wy0 : Nat → Nat) (hr : pgOk p) (hw : withP p = true) : MM l G yX11_mended (Cond.code yX11_mended cX11_mended 12 (some .int)) { frames := 5, cells := 0, slots := 0, locals := 117 } [.ref o, .int (nI 0), .int (nI 1)] [ob o 11 [.int th, .ref qtx, .int (nI ts), .int (nI pl), .ref qrp, .ref qpg, .ref qtr, .ref qbk, .int (nI dn), .ref qkp, .ref qik, .int (nI sn), .ref qsw, .ref qsi, .long sd, .ref qln, .ref qfm, .ref qby, .ref qwy, .int (nI wz), .ref qfo, .ref qon, .ref qmn, .ref qpr, .ref qle, .ref qst, .ref qwt, .int (nI rc), .int (nI tk), .int (nI ps), .int (nI gn), .int bd, .ref qwo], aI G qpg 22 (nF p), aI G qtr 22 (nF tr), aI G qln 512 (nF ln0), aI G qfm 512 fm0, aI G qby 512 (nF bf0), aI G qwy 512 (nF wy0)] (fun (v : Option Value) (w : va_W) => ∃ (tr2 : Nat → Nat) (wz2 : Nat) (ln2 : Nat → Nat) (fm2 : Nat → Int32) (bf2 wy2 : Nat → Nat), v = some (.int (-9)) ∧ w = [ob o 11 [.int (nI 0), .ref qtx, .int (nI ts), .int (nI pl), .ref qrp, .ref qpg, .ref qtr, .ref qbk, .int (nI dn), .ref qkp, .ref qik, .int (nI sn), .ref qsw, .ref qsi, .long sd, .ref qln, .ref qfm, .ref qby, .ref qwy, .int (nI wz2), .ref qfo, .ref qon, .ref qmn, .ref qpr, .ref qle, .ref qst, .ref qwt, .int (nI rc), .int (nI tk), .int (nI ps), .int (nI gn), .int bd, .ref qwo], aI G qpg 22 (nF p), aI G qtr 22 (nF tr2), aI G qln 512 (nF ln2), aI G qfm 512 fm2, aI G qby 512 (nF bf2), aI G qwy 512 (nF wy2)]) 0 0 := by
  refine MM.ofI (by decide) rfl (fun Γ X Y hnm ret => ?_)
  show Wc Γ 0 0 0 [(0, .ref o), (1, .int (nI 0)), (2, .int (nI 1))] [] [ob o 11 [.int th, .ref qtx, .int (nI ts), .int (nI pl), .ref qrp, .ref qpg, .ref qtr, .ref qbk, .int (nI dn), .ref qkp, .ref qik, .int (nI sn), .ref qsw, .ref qsi, .long sd, .ref qln, .ref qfm, .ref qby, .ref qwy, .int (nI wz), .ref qfo, .ref qon, .ref qmn, .ref qpr, .ref qle, .ref qst, .ref qwt, .int (nI rc), .int (nI tk), .int (nI ps), .int (nI gn), .int bd, .ref qwo], aI G qpg 22 (nF p), aI G qtr 22 (nF tr), aI G qln 512 (nF ln0), aI G qfm 512 fm0, aI G qby 512 (nF bf0), aI G qwy 512 (nF wy0)]
  refine wc_aload_n X 0 0 dX11_mended_0 rfl ?_
  refine wc_iconstN X 1 0 dX11_mended_1 ?_
  refine wc_put X Y 2 0 0 kd11 rfl (by decide) q_765 rfl rfl rfl (Nat.le_of_ble_eq_true rfl) (ws' := [ob o 11 [.int (nI 0), .ref qtx, .int (nI ts), .int (nI pl), .ref qrp, .ref qpg, .ref qtr, .ref qbk, .int (nI dn), .ref qkp, .ref qik, .int (nI sn), .ref qsw, .ref qsi, .long sd, .ref qln, .ref qfm, .ref qby, .ref qwy, .int (nI wz), .ref qfo, .ref qon, .ref qmn, .ref qpr, .ref qle, .ref qst, .ref qwt, .int (nI rc), .int (nI tk), .int (nI ps), .int (nI gn), .int bd, .ref qwo], aI G qpg 22 (nF p), aI G qtr 22 (nF tr), aI G qln 512 (nF ln0), aI G qfm 512 fm0, aI G qby 512 (nF bf0), aI G qwy 512 (nF wy0)]) rfl dX11_mended_2 ?_
  refine wc_iload_n X 5 1 dX11_mended_5 rfl ?_
  refine wc_i2l X 6 dX11_mended_6 ?_
  refine wc_lconst X 7 0 dX11_mended_7 (by decide) ?_
  refine wc_lconst X 8 1 dX11_mended_8 (by decide) ?_
  refine wc_callS X 9 [] (c_X11_in l G ((nI 0).toInt64) 0 1 ) ys_X11_in rfl q_870 ⟨rfl, rfl⟩ ⟨rfl, rfl⟩ ⟨rfl, rfl⟩ rfl rfl rfl dX11_mended_9 ?_
  refine wc_topi (b2i true) (by decide) ?_
  refine wc_if_neB X 12 17 dX11_mended_12 (by decide) (fun c12_1 => ?_) (fun c12_1 => ?_)
  ·
    refine wc_iload_n X 17 2 dX11_mended_17 rfl ?_
    refine wc_i2l X 18 dX11_mended_18 ?_
    refine wc_lconst X 19 0 dX11_mended_19 (by decide) ?_
    refine wc_lconst X 20 1 dX11_mended_20 (by decide) ?_
    refine wc_callS X 21 [] (c_X11_in l G ((nI 1).toInt64) 0 1 ) ys_X11_in rfl q_870 ⟨rfl, rfl⟩ ⟨rfl, rfl⟩ ⟨rfl, rfl⟩ rfl rfl rfl dX11_mended_21 ?_
    refine wc_topi (b2i true) (by decide) ?_
    refine wc_if_neB X 24 30 dX11_mended_24 (by decide) (fun c24_2 => ?_) (fun c24_2 => ?_)
    ·
      refine wc_iconstN X 30 0 dX11_mended_30 ?_
      refine wc_istore_n X 31 (L' := [(0, .ref o), (1, .int (nI 0)), (2, .int (nI 1)), (3, .int (nI 0))]) dX11_mended_31 (by decide) rfl ?_
      refine wc_bipush X 32 (-9) dX11_mended_32 (by decide) ?_
      refine wc_istore X 34 (L' := [(0, .ref o), (1, .int (nI 0)), (2, .int (nI 1)), (3, .int (nI 0)), (4, .int (-9))]) dX11_mended_34 (by decide) rfl ?_
      refine wc_aload_n X 36 0 dX11_mended_36 rfl ?_
      refine wc_aload_n X 37 0 dX11_mended_37 rfl ?_
      refine wc_get X 38 0 5 kd11 rfl (by decide) q_770 rfl dX11_mended_38 ?_
      refine wc_mutV X Y 41 [0, 1, 3, 4, 5, 6] [2] 0 (c_X11_isWithin l G o (nI 0) qtx ts pl qrp qpg qtr qbk dn qkp qik sn qsw qsi sd qln qfm qby qwy wz qfo qon qmn qpr qle qst qwt rc tk ps gn bd qwo qpg p ln0 fm0 bf0 wy0 (by first | assumption | omega)) yv_X11_isWithin kd11 rfl rfl (wr := [aI G qtr 22 (nF tr)]) rfl ⟨rfl, rfl, rfl⟩ q_1005 ⟨rfl, rfl⟩ ⟨rfl, rfl⟩ ⟨rfl, rfl⟩ rfl rfl rfl dX11_mended_41 (fun v w hp_3 => ?_)
      obtain ⟨wz2_4, ln2_5, fm2_6, bf2_7, wy2_8, rfl, rfl⟩ := hp_3
      refine wc_perm Y [1, 2, 0, 3, 4, 5, 6] [ob o 11 [.int (nI 0), .ref qtx, .int (nI ts), .int (nI pl), .ref qrp, .ref qpg, .ref qtr, .ref qbk, .int (nI dn), .ref qkp, .ref qik, .int (nI sn), .ref qsw, .ref qsi, .long sd, .ref qln, .ref qfm, .ref qby, .ref qwy, .int (nI wz2_4), .ref qfo, .ref qon, .ref qmn, .ref qpr, .ref qle, .ref qst, .ref qwt, .int (nI rc), .int (nI tk), .int (nI ps), .int (nI gn), .int bd, .ref qwo], aI G qpg 22 (nF p), aI G qtr 22 (nF tr), aI G qln 512 (nF ln2_5), aI G qfm 512 fm2_6, aI G qby 512 (nF bf2_7), aI G qwy 512 (nF wy2_8)] rfl rfl ?_
      show Wc Γ 0 0 44 [(0, .ref o), (1, .int (nI 0)), (2, .int (nI 1)), (3, .int (nI 0)), (4, .int (-9))] [.int (b2i (withB (gz p) (p 0) (p 2) (go p) (p 1) (p 3)))] [ob o 11 [.int (nI 0), .ref qtx, .int (nI ts), .int (nI pl), .ref qrp, .ref qpg, .ref qtr, .ref qbk, .int (nI dn), .ref qkp, .ref qik, .int (nI sn), .ref qsw, .ref qsi, .long sd, .ref qln, .ref qfm, .ref qby, .ref qwy, .int (nI wz2_4), .ref qfo, .ref qon, .ref qmn, .ref qpr, .ref qle, .ref qst, .ref qwt, .int (nI rc), .int (nI tk), .int (nI ps), .int (nI gn), .int bd, .ref qwo], aI G qpg 22 (nF p), aI G qtr 22 (nF tr), aI G qln 512 (nF ln2_5), aI G qfm 512 fm2_6, aI G qby 512 (nF bf2_7), aI G qwy 512 (nF wy2_8)]
      refine wc_topi (b2i true) (congrArg b2i hw) ?_
      refine wc_if_neB X 44 51 dX11_mended_44 (by decide) (fun c44_9 => ?_) (fun c44_9 => ?_)
      ·
        refine wc_iconstN X 51 0 dX11_mended_51 ?_
        refine wc_istore X 52 (L' := [(0, .ref o), (1, .int (nI 0)), (2, .int (nI 1)), (3, .int (nI 0)), (4, .int (-9)), (5, .int (nI 0))]) dX11_mended_52 (by decide) rfl ?_
        refine wc_aload_n X 54 0 dX11_mended_54 rfl ?_
        refine wc_get X 55 0 5 kd11 rfl (by decide) q_770 rfl dX11_mended_55 ?_
        refine wc_iload_n X 58 1 dX11_mended_58 rfl ?_
        refine wc_ialdG X 59 1 rfl (by decide) (by decide) dX11_mended_59 ?_
        refine wc_istore X 60 (L' := [(0, .ref o), (1, .int (nI 0)), (2, .int (nI 1)), (3, .int (nI 0)), (4, .int (-9)), (5, .int (nI 0)), (6, .int (nI (p 0)))]) dX11_mended_60 (by decide) rfl ?_
        refine wc_iconstN X 62 2 dX11_mended_62 ?_
        refine wc_iload X 63 6 dX11_mended_63 rfl ?_
        refine wc_imulN X 65 dX11_mended_65 ?_
        refine wc_iload X 66 6 dX11_mended_66 rfl ?_
        refine wc_imulN X 68 dX11_mended_68 ?_
        refine wc_iconst X 69 (1) dX11_mended_69 (by decide) ?_
        refine wc_isub X 70 dX11_mended_70 ?_
        refine wc_istore X 71 (L' := [(0, .ref o), (1, .int (nI 0)), (2, .int (nI 1)), (3, .int (nI 0)), (4, .int (-9)), (5, .int (nI 0)), (6, .int (nI (p 0))), (7, .int ((nI ((2 * (p 0)) * (p 0))) - (1)))]) dX11_mended_71 (by decide) rfl ?_
        refine wc_iload X 73 7 dX11_mended_73 rfl ?_
        refine wc_if_lt X 75 219 dX11_mended_75 (by decide) (fun c75_10 => ?_) (fun c75_10 => ?_)
        ·
          refine wc_iload_n X 219 2 dX11_mended_219 rfl ?_
          refine wc_if_neN X 220 227 dX11_mended_220 (by decide) (by decide) (fun c220_11 => ?_) (fun c220_11 => ?_)
          ·
            refine wc_iload X 227 4 dX11_mended_227 rfl ?_
            exact ret 229 _ (-9) _ dX11_mended_229 (⟨_, _, _, _, _, _, rfl, rfl⟩)
          ·
            exact absurd c220_11 (by decide)
        ·
          refine wc_iload X 78 5 dX11_mended_78 rfl ?_
          refine wc_if_eqN X 80 219 dX11_mended_80 (by decide) (by decide) (fun c80_12 => ?_) (fun c80_12 => ?_)
          ·
            refine wc_iload_n X 219 2 dX11_mended_219 rfl ?_
            refine wc_if_neN X 220 227 dX11_mended_220 (by decide) (by decide) (fun c220_13 => ?_) (fun c220_13 => ?_)
            ·
              refine wc_iload X 227 4 dX11_mended_227 rfl ?_
              exact ret 229 _ (-9) _ dX11_mended_229 (⟨_, _, _, _, _, _, rfl, rfl⟩)
            ·
              exact absurd c220_13 (by decide)
          ·
            exact absurd c80_12 (by decide)
      ·
        exact absurd c44_9 (by decide)
    ·
      exact absurd c24_2 (by decide)
  ·
    exact absurd c12_1 (by decide)

set_option maxHeartbeats 4000000 in
set_option maxRecDepth 100000 in
theorem c_X11_mendedS01 (l : Launch) (G : GG) (o : Nat) (th : Int32) (qtx ts pl qrp qpg qtr qbk dn qkp qik sn qsw qsi : Nat) (sd : Int64) (qln qfm qby qwy wz qfo qon qmn qpr qle qst qwt rc tk ps gn : Nat) (bd : Int32) (qwo : Nat) (p : Nat → Nat) (tr : Nat → Nat) (ln0 : Nat → Nat) (fm0 : Nat → Int32) (bf0 wy0 : Nat → Nat) (hr : pgOk p) (hw : withP p = false) : MM l G yX11_mended (Cond.code yX11_mended cX11_mended 12 (some .int)) { frames := 5, cells := 0, slots := 0, locals := 117 } [.ref o, .int (nI 0), .int (nI 1)] [ob o 11 [.int th, .ref qtx, .int (nI ts), .int (nI pl), .ref qrp, .ref qpg, .ref qtr, .ref qbk, .int (nI dn), .ref qkp, .ref qik, .int (nI sn), .ref qsw, .ref qsi, .long sd, .ref qln, .ref qfm, .ref qby, .ref qwy, .int (nI wz), .ref qfo, .ref qon, .ref qmn, .ref qpr, .ref qle, .ref qst, .ref qwt, .int (nI rc), .int (nI tk), .int (nI ps), .int (nI gn), .int bd, .ref qwo], aI G qpg 22 (nF p), aI G qtr 22 (nF tr), aI G qln 512 (nF ln0), aI G qfm 512 fm0, aI G qby 512 (nF bf0), aI G qwy 512 (nF wy0)] (fun (v : Option Value) (w : va_W) => ∃ (tr2 : Nat → Nat) (wz2 : Nat) (ln2 : Nat → Nat) (fm2 : Nat → Int32) (bf2 wy2 : Nat → Nat), v = some (.int (fsA (mB p 0) (mCd (p 0)) (2 * p 0 * p 0))) ∧ w = [ob o 11 [.int (nI 0), .ref qtx, .int (nI ts), .int (nI pl), .ref qrp, .ref qpg, .ref qtr, .ref qbk, .int (nI dn), .ref qkp, .ref qik, .int (nI sn), .ref qsw, .ref qsi, .long sd, .ref qln, .ref qfm, .ref qby, .ref qwy, .int (nI wz2), .ref qfo, .ref qon, .ref qmn, .ref qpr, .ref qle, .ref qst, .ref qwt, .int (nI rc), .int (nI tk), .int (nI ps), .int (nI gn), .int bd, .ref qwo], aI G qpg 22 (nF p), aI G qtr 22 (nF tr2), aI G qln 512 (nF ln2), aI G qfm 512 fm2, aI G qby 512 (nF bf2), aI G qwy 512 (nF wy2)]) 0 0 := by
  refine MM.ofI (by decide) rfl (fun Γ X Y hnm ret => ?_)
  show Wc Γ 0 0 0 [(0, .ref o), (1, .int (nI 0)), (2, .int (nI 1))] [] [ob o 11 [.int th, .ref qtx, .int (nI ts), .int (nI pl), .ref qrp, .ref qpg, .ref qtr, .ref qbk, .int (nI dn), .ref qkp, .ref qik, .int (nI sn), .ref qsw, .ref qsi, .long sd, .ref qln, .ref qfm, .ref qby, .ref qwy, .int (nI wz), .ref qfo, .ref qon, .ref qmn, .ref qpr, .ref qle, .ref qst, .ref qwt, .int (nI rc), .int (nI tk), .int (nI ps), .int (nI gn), .int bd, .ref qwo], aI G qpg 22 (nF p), aI G qtr 22 (nF tr), aI G qln 512 (nF ln0), aI G qfm 512 fm0, aI G qby 512 (nF bf0), aI G qwy 512 (nF wy0)]
  have hbm := pgOk_m hr (show 0 < 2 by decide)
  have hsq := sq_lt hbm.2
  refine wc_aload_n X 0 0 dX11_mended_0 rfl ?_
  refine wc_iconstN X 1 0 dX11_mended_1 ?_
  refine wc_put X Y 2 0 0 kd11 rfl (by decide) q_765 rfl rfl rfl (Nat.le_of_ble_eq_true rfl) (ws' := [ob o 11 [.int (nI 0), .ref qtx, .int (nI ts), .int (nI pl), .ref qrp, .ref qpg, .ref qtr, .ref qbk, .int (nI dn), .ref qkp, .ref qik, .int (nI sn), .ref qsw, .ref qsi, .long sd, .ref qln, .ref qfm, .ref qby, .ref qwy, .int (nI wz), .ref qfo, .ref qon, .ref qmn, .ref qpr, .ref qle, .ref qst, .ref qwt, .int (nI rc), .int (nI tk), .int (nI ps), .int (nI gn), .int bd, .ref qwo], aI G qpg 22 (nF p), aI G qtr 22 (nF tr), aI G qln 512 (nF ln0), aI G qfm 512 fm0, aI G qby 512 (nF bf0), aI G qwy 512 (nF wy0)]) rfl dX11_mended_2 ?_
  refine wc_iload_n X 5 1 dX11_mended_5 rfl ?_
  refine wc_i2l X 6 dX11_mended_6 ?_
  refine wc_lconst X 7 0 dX11_mended_7 (by decide) ?_
  refine wc_lconst X 8 1 dX11_mended_8 (by decide) ?_
  refine wc_callS X 9 [] (c_X11_in l G ((nI 0).toInt64) 0 1 ) ys_X11_in rfl q_870 ⟨rfl, rfl⟩ ⟨rfl, rfl⟩ ⟨rfl, rfl⟩ rfl rfl rfl dX11_mended_9 ?_
  refine wc_topi (b2i true) (by decide) ?_
  refine wc_if_neB X 12 17 dX11_mended_12 (by decide) (fun c12_1 => ?_) (fun c12_1 => ?_)
  ·
    refine wc_iload_n X 17 2 dX11_mended_17 rfl ?_
    refine wc_i2l X 18 dX11_mended_18 ?_
    refine wc_lconst X 19 0 dX11_mended_19 (by decide) ?_
    refine wc_lconst X 20 1 dX11_mended_20 (by decide) ?_
    refine wc_callS X 21 [] (c_X11_in l G ((nI 1).toInt64) 0 1 ) ys_X11_in rfl q_870 ⟨rfl, rfl⟩ ⟨rfl, rfl⟩ ⟨rfl, rfl⟩ rfl rfl rfl dX11_mended_21 ?_
    refine wc_topi (b2i true) (by decide) ?_
    refine wc_if_neB X 24 30 dX11_mended_24 (by decide) (fun c24_2 => ?_) (fun c24_2 => ?_)
    ·
      refine wc_iconstN X 30 0 dX11_mended_30 ?_
      refine wc_istore_n X 31 (L' := [(0, .ref o), (1, .int (nI 0)), (2, .int (nI 1)), (3, .int (nI 0))]) dX11_mended_31 (by decide) rfl ?_
      refine wc_bipush X 32 (-9) dX11_mended_32 (by decide) ?_
      refine wc_istore X 34 (L' := [(0, .ref o), (1, .int (nI 0)), (2, .int (nI 1)), (3, .int (nI 0)), (4, .int (-9))]) dX11_mended_34 (by decide) rfl ?_
      refine wc_aload_n X 36 0 dX11_mended_36 rfl ?_
      refine wc_aload_n X 37 0 dX11_mended_37 rfl ?_
      refine wc_get X 38 0 5 kd11 rfl (by decide) q_770 rfl dX11_mended_38 ?_
      refine wc_mutV X Y 41 [0, 1, 3, 4, 5, 6] [2] 0 (c_X11_isWithin l G o (nI 0) qtx ts pl qrp qpg qtr qbk dn qkp qik sn qsw qsi sd qln qfm qby qwy wz qfo qon qmn qpr qle qst qwt rc tk ps gn bd qwo qpg p ln0 fm0 bf0 wy0 (by first | assumption | omega)) yv_X11_isWithin kd11 rfl rfl (wr := [aI G qtr 22 (nF tr)]) rfl ⟨rfl, rfl, rfl⟩ q_1005 ⟨rfl, rfl⟩ ⟨rfl, rfl⟩ ⟨rfl, rfl⟩ rfl rfl rfl dX11_mended_41 (fun v w hp_3 => ?_)
      obtain ⟨wz2_4, ln2_5, fm2_6, bf2_7, wy2_8, rfl, rfl⟩ := hp_3
      refine wc_perm Y [1, 2, 0, 3, 4, 5, 6] [ob o 11 [.int (nI 0), .ref qtx, .int (nI ts), .int (nI pl), .ref qrp, .ref qpg, .ref qtr, .ref qbk, .int (nI dn), .ref qkp, .ref qik, .int (nI sn), .ref qsw, .ref qsi, .long sd, .ref qln, .ref qfm, .ref qby, .ref qwy, .int (nI wz2_4), .ref qfo, .ref qon, .ref qmn, .ref qpr, .ref qle, .ref qst, .ref qwt, .int (nI rc), .int (nI tk), .int (nI ps), .int (nI gn), .int bd, .ref qwo], aI G qpg 22 (nF p), aI G qtr 22 (nF tr), aI G qln 512 (nF ln2_5), aI G qfm 512 fm2_6, aI G qby 512 (nF bf2_7), aI G qwy 512 (nF wy2_8)] rfl rfl ?_
      show Wc Γ 0 0 44 [(0, .ref o), (1, .int (nI 0)), (2, .int (nI 1)), (3, .int (nI 0)), (4, .int (-9))] [.int (b2i (withB (gz p) (p 0) (p 2) (go p) (p 1) (p 3)))] [ob o 11 [.int (nI 0), .ref qtx, .int (nI ts), .int (nI pl), .ref qrp, .ref qpg, .ref qtr, .ref qbk, .int (nI dn), .ref qkp, .ref qik, .int (nI sn), .ref qsw, .ref qsi, .long sd, .ref qln, .ref qfm, .ref qby, .ref qwy, .int (nI wz2_4), .ref qfo, .ref qon, .ref qmn, .ref qpr, .ref qle, .ref qst, .ref qwt, .int (nI rc), .int (nI tk), .int (nI ps), .int (nI gn), .int bd, .ref qwo], aI G qpg 22 (nF p), aI G qtr 22 (nF tr), aI G qln 512 (nF ln2_5), aI G qfm 512 fm2_6, aI G qby 512 (nF bf2_7), aI G qwy 512 (nF wy2_8)]
      refine wc_topi (b2i false) (congrArg b2i hw) ?_
      refine wc_if_neB X 44 51 dX11_mended_44 (by decide) (fun c44_9 => ?_) (fun c44_9 => ?_)
      ·
        exact absurd c44_9 (by decide)
      ·
        refine wc_iconstN X 47 1 dX11_mended_47 ?_
        refine wc_goto X 48 52 dX11_mended_48 (by decide) ?_
        refine wc_istore X 52 (L' := [(0, .ref o), (1, .int (nI 0)), (2, .int (nI 1)), (3, .int (nI 0)), (4, .int (-9)), (5, .int (nI 1))]) dX11_mended_52 (by decide) rfl ?_
        refine wc_aload_n X 54 0 dX11_mended_54 rfl ?_
        refine wc_get X 55 0 5 kd11 rfl (by decide) q_770 rfl dX11_mended_55 ?_
        refine wc_iload_n X 58 1 dX11_mended_58 rfl ?_
        refine wc_ialdG X 59 1 rfl (by decide) (by decide) dX11_mended_59 ?_
        refine wc_istore X 60 (L' := [(0, .ref o), (1, .int (nI 0)), (2, .int (nI 1)), (3, .int (nI 0)), (4, .int (-9)), (5, .int (nI 1)), (6, .int (nI (p 0)))]) dX11_mended_60 (by decide) rfl ?_
        refine wc_iconstN X 62 2 dX11_mended_62 ?_
        refine wc_iload X 63 6 dX11_mended_63 rfl ?_
        refine wc_imulN X 65 dX11_mended_65 ?_
        refine wc_iload X 66 6 dX11_mended_66 rfl ?_
        refine wc_imulN X 68 dX11_mended_68 ?_
        refine wc_iconst X 69 (1) dX11_mended_69 (by decide) ?_
        refine wc_isub X 70 dX11_mended_70 ?_
        refine wc_istore X 71 (L' := [(0, .ref o), (1, .int (nI 0)), (2, .int (nI 1)), (3, .int (nI 0)), (4, .int (-9)), (5, .int (nI 1)), (6, .int (nI (p 0))), (7, .int ((nI ((2 * (p 0)) * (p 0))) - (1)))]) dX11_mended_71 (by decide) rfl ?_
        have LP_11 : ∀ (fuel_10 : Nat) (K : Nat) (n3 : Nat) (fs : Int32) (t9 : Nat → Nat) (z9 : Nat) (l9 : Nat → Nat) (m9 : Nat → Int32) (b9 : Nat → Nat) (y9 : Nat → Nat), (K ≤ 2 * p 0 * p 0) → (n3 + cnt (mB p 0) K = cnt (mB p 0) (2 * p 0 * p 0)) → (DS (mB p 0) (mCd (p 0)) K (2 * p 0 * p 0) fs) → K < fuel_10 → Wc Γ 0 0 73 [(0, .ref o), (1, .int (nI 0)), (2, .int (nI 1)), (3, .int (nI n3)), (4, .int fs), (5, .int (nI 1)), (6, .int (nI (p 0))), (7, .int (nI K - 1))] [] [ob o 11 [.int (nI 0), .ref qtx, .int (nI ts), .int (nI pl), .ref qrp, .ref qpg, .ref qtr, .ref qbk, .int (nI dn), .ref qkp, .ref qik, .int (nI sn), .ref qsw, .ref qsi, .long sd, .ref qln, .ref qfm, .ref qby, .ref qwy, .int (nI z9), .ref qfo, .ref qon, .ref qmn, .ref qpr, .ref qle, .ref qst, .ref qwt, .int (nI rc), .int (nI tk), .int (nI ps), .int (nI gn), .int bd, .ref qwo], aI G qpg 22 (nF p), aI G qtr 22 (nF t9), aI G qln 512 (nF l9), aI G qfm 512 m9, aI G qby 512 (nF b9), aI G qwy 512 (nF y9)] := by
          intro fuel_10
          induction fuel_10 with
          | zero => intro K n3 fs t9 z9 l9 m9 b9 y9 hK hn3 hds hm; exact absurd hm (Nat.not_lt_zero _)
          | succ fuel_10 ih_12 =>
            intro K n3 fs t9 z9 l9 m9 b9 y9 hK hn3 hds hm_13
            refine wc_iload X 73 7 dX11_mended_73 rfl ?_
            refine wc_if_lt X 75 219 dX11_mended_75 (by decide) (fun c75_14 => ?_) (fun c75_14 => ?_)
            ·
              have hK0 := nI_m1_0 (by omega) c75_14
              refine wc_iload_n X 219 2 dX11_mended_219 rfl ?_
              refine wc_if_neN X 220 227 dX11_mended_220 (by decide) (by decide) (fun c220_15 => ?_) (fun c220_15 => ?_)
              ·
                refine wc_iload X 227 4 dX11_mended_227 rfl ?_
                exact ret 229 _ fs _ dX11_mended_229 (⟨_, _, _, _, _, _, by rw [← DS_end (by rw [hK0] at hds; exact hds)], rfl⟩)
              ·
                exact absurd c220_15 (by decide)
            ·
              obtain ⟨k, rfl⟩ := nI_m1_s c75_14
              refine wc_L (L' := [(0, .ref o), (1, .int (nI 0)), (2, .int (nI 1)), (3, .int (nI n3)), (4, .int fs), (5, .int (nI 1)), (6, .int (nI (p 0))), (7, .int (nI k))]) (by rw [nI_pred]) ?_
              have hmd := md_lt (n := p 0) (show k < 2 * p 0 * p 0 by omega)
              have hz := flE_ok (m := 0) hr (by decide) hmd.1 hmd.2.1 hmd.2.2.1 hmd.2.2.2
              refine wc_iload X 78 5 dX11_mended_78 rfl ?_
              refine wc_if_eqN X 80 219 dX11_mended_80 (by decide) (by decide) (fun c80_16 => ?_) (fun c80_16 => ?_)
              ·
                exact absurd c80_16 (by decide)
              ·
                refine wc_iload X 83 7 dX11_mended_83 rfl ?_
                refine wc_iconstN X 85 2 dX11_mended_85 ?_
                refine wc_iload X 86 6 dX11_mended_86 rfl ?_
                refine wc_imulN X 88 dX11_mended_88 ?_
                refine wc_idivN X 89 dX11_mended_89 (by omega) (by omega) (by omega) ?_
                refine wc_topi (nI (mdI (p 0) k)) (congrArg nI (rfl)) ?_
                refine wc_istore X 90 (L' := [(0, .ref o), (1, .int (nI 0)), (2, .int (nI 1)), (3, .int (nI n3)), (4, .int fs), (5, .int (nI 1)), (6, .int (nI (p 0))), (7, .int (nI k)), (8, .int (nI (mdI (p 0) k)))]) dX11_mended_90 (by decide) rfl ?_
                refine wc_iconstN X 92 1 dX11_mended_92 ?_
                refine wc_iload X 93 7 dX11_mended_93 rfl ?_
                refine wc_iload X 95 6 dX11_mended_95 rfl ?_
                refine wc_idivN X 97 dX11_mended_97 (by omega) (by omega) (by omega) ?_
                refine wc_iconstN X 98 2 dX11_mended_98 ?_
                refine wc_iremN X 99 dX11_mended_99 (Nat.lt_of_le_of_lt (Nat.div_le_self _ _) (by omega)) (by decide) (by decide) ?_
                refine wc_iaddN X 100 dX11_mended_100 ?_
                refine wc_topi (nI (mdC (p 0) k)) (congrArg nI (rfl)) ?_
                refine wc_istore X 101 (L' := [(0, .ref o), (1, .int (nI 0)), (2, .int (nI 1)), (3, .int (nI n3)), (4, .int fs), (5, .int (nI 1)), (6, .int (nI (p 0))), (7, .int (nI k)), (8, .int (nI (mdI (p 0) k))), (9, .int (nI (mdC (p 0) k)))]) dX11_mended_101 (by decide) rfl ?_
                refine wc_iload X 103 7 dX11_mended_103 rfl ?_
                refine wc_iload X 105 6 dX11_mended_105 rfl ?_
                refine wc_iremN X 107 dX11_mended_107 (by omega) (by omega) (by omega) ?_
                refine wc_topi (nI (mdT (p 0) k)) (congrArg nI (rfl)) ?_
                refine wc_istore X 108 (L' := [(0, .ref o), (1, .int (nI 0)), (2, .int (nI 1)), (3, .int (nI n3)), (4, .int fs), (5, .int (nI 1)), (6, .int (nI (p 0))), (7, .int (nI k)), (8, .int (nI (mdI (p 0) k))), (9, .int (nI (mdC (p 0) k))), (10, .int (nI (mdT (p 0) k)))]) dX11_mended_108 (by decide) rfl ?_
                refine wc_aload_n X 110 0 dX11_mended_110 rfl ?_
                refine wc_get X 111 0 6 kd11 rfl (by decide) q_771 rfl dX11_mended_111 ?_
                refine wc_aload_n X 114 0 dX11_mended_114 rfl ?_
                refine wc_get X 115 0 5 kd11 rfl (by decide) q_770 rfl dX11_mended_115 ?_
                refine wc_mutS X Y 118 [2, 1] [0, 3, 4, 5, 6] (c_X11_lay l G qtr t9 qpg p ) ys_X11_lay rfl (wr := [ob o 11 [.int (nI 0), .ref qtx, .int (nI ts), .int (nI pl), .ref qrp, .ref qpg, .ref qtr, .ref qbk, .int (nI dn), .ref qkp, .ref qik, .int (nI sn), .ref qsw, .ref qsi, .long sd, .ref qln, .ref qfm, .ref qby, .ref qwy, .int (nI z9), .ref qfo, .ref qon, .ref qmn, .ref qpr, .ref qle, .ref qst, .ref qwt, .int (nI rc), .int (nI tk), .int (nI ps), .int (nI gn), .int bd, .ref qwo], aI G qln 512 (nF l9), aI G qfm 512 m9, aI G qby 512 (nF b9), aI G qwy 512 (nF y9)]) rfl ⟨rfl, rfl, rfl⟩ q_927 ⟨rfl, rfl⟩ ⟨rfl, rfl⟩ ⟨rfl, rfl⟩ rfl rfl rfl dX11_mended_118 (fun v w hp_17 => ?_)
                obtain ⟨rfl, rfl⟩ := hp_17
                refine wc_perm Y [0, 6, 5, 1, 2, 3, 4] [ob o 11 [.int (nI 0), .ref qtx, .int (nI ts), .int (nI pl), .ref qrp, .ref qpg, .ref qtr, .ref qbk, .int (nI dn), .ref qkp, .ref qik, .int (nI sn), .ref qsw, .ref qsi, .long sd, .ref qln, .ref qfm, .ref qby, .ref qwy, .int (nI z9), .ref qfo, .ref qon, .ref qmn, .ref qpr, .ref qle, .ref qst, .ref qwt, .int (nI rc), .int (nI tk), .int (nI ps), .int (nI gn), .int bd, .ref qwo], aI G qpg 22 (nF p), aI G qtr 22 (nF p), aI G qln 512 (nF l9), aI G qfm 512 m9, aI G qby 512 (nF b9), aI G qwy 512 (nF y9)] rfl rfl ?_
                show Wc Γ 0 0 121 [(0, .ref o), (1, .int (nI 0)), (2, .int (nI 1)), (3, .int (nI n3)), (4, .int fs), (5, .int (nI 1)), (6, .int (nI (p 0))), (7, .int (nI k)), (8, .int (nI (mdI (p 0) k))), (9, .int (nI (mdC (p 0) k))), (10, .int (nI (mdT (p 0) k)))] [] [ob o 11 [.int (nI 0), .ref qtx, .int (nI ts), .int (nI pl), .ref qrp, .ref qpg, .ref qtr, .ref qbk, .int (nI dn), .ref qkp, .ref qik, .int (nI sn), .ref qsw, .ref qsi, .long sd, .ref qln, .ref qfm, .ref qby, .ref qwy, .int (nI z9), .ref qfo, .ref qon, .ref qmn, .ref qpr, .ref qle, .ref qst, .ref qwt, .int (nI rc), .int (nI tk), .int (nI ps), .int (nI gn), .int bd, .ref qwo], aI G qpg 22 (nF p), aI G qtr 22 (nF p), aI G qln 512 (nF l9), aI G qfm 512 m9, aI G qby 512 (nF b9), aI G qwy 512 (nF y9)]
                refine wc_aload_n X 121 0 dX11_mended_121 rfl ?_
                refine wc_get X 122 0 6 kd11 rfl (by decide) q_771 rfl dX11_mended_122 ?_
                refine wc_iload_n X 125 1 dX11_mended_125 rfl ?_
                refine wc_iload X 126 8 dX11_mended_126 rfl ?_
                refine wc_iload X 128 9 dX11_mended_128 rfl ?_
                refine wc_callS X 130 [] (c_X11_at l G 0 (mdI (p 0) k) (mdC (p 0) k) (by decide) (by omega) hmd.2.1 hmd.2.2.1) ys_X11_at rfl q_896 ⟨rfl, rfl⟩ ⟨rfl, rfl⟩ ⟨rfl, rfl⟩ rfl rfl rfl dX11_mended_130 ?_
                refine wc_dup2 X 133 dX11_mended_133 rfl rfl ?_
                refine wc_ialdG X 134 2 rfl (atN_lt (by omega) hmd.2.2.1) (by decide) dX11_mended_134 ?_
                refine wc_iconstN X 135 1 dX11_mended_135 ?_
                refine wc_iload X 136 10 dX11_mended_136 rfl ?_
                refine wc_shl1 X 138 dX11_mended_138 (by omega) ?_
                refine wc_ixorN X 139 dX11_mended_139 ?_
                refine wc_iastG X Y 140 2 rfl (atN_lt (by omega) hmd.2.2.1) (by decide) (ws' := [ob o 11 [.int (nI 0), .ref qtx, .int (nI ts), .int (nI pl), .ref qrp, .ref qpg, .ref qtr, .ref qbk, .int (nI dn), .ref qkp, .ref qik, .int (nI sn), .ref qsw, .ref qsi, .long sd, .ref qln, .ref qfm, .ref qby, .ref qwy, .int (nI z9), .ref qfo, .ref qon, .ref qmn, .ref qpr, .ref qle, .ref qst, .ref qwt, .int (nI rc), .int (nI tk), .int (nI ps), .int (nI gn), .int bd, .ref qwo], aI G qpg 22 (nF p), aI G qtr 22 (nF (up p (atN 0 (mdI (p 0) k) (mdC (p 0) k)) ((p (atN 0 (mdI (p 0) k) (mdC (p 0) k))) ^^^ (2 ^ (mdT (p 0) k))))), aI G qln 512 (nF l9), aI G qfm 512 m9, aI G qby 512 (nF b9), aI G qwy 512 (nF y9)]) rfl dX11_mended_140 ?_
                refine wc_ws (ws' := [ob o 11 [.int (nI 0), .ref qtx, .int (nI ts), .int (nI pl), .ref qrp, .ref qpg, .ref qtr, .ref qbk, .int (nI dn), .ref qkp, .ref qik, .int (nI sn), .ref qsw, .ref qsi, .long sd, .ref qln, .ref qfm, .ref qby, .ref qwy, .int (nI z9), .ref qfo, .ref qon, .ref qmn, .ref qpr, .ref qle, .ref qst, .ref qwt, .int (nI rc), .int (nI tk), .int (nI ps), .int (nI gn), .int bd, .ref qwo], aI G qpg 22 (nF p), aI G qtr 22 (nF (flE p 0 (mdI (p 0) k) (mdC (p 0) k) (mdT (p 0) k))), aI G qln 512 (nF l9), aI G qfm 512 m9, aI G qby 512 (nF b9), aI G qwy 512 (nF y9)]) (rfl) ?_
                refine wc_aload_n X 141 0 dX11_mended_141 rfl ?_
                refine wc_get X 142 0 5 kd11 rfl (by decide) q_770 rfl dX11_mended_142 ?_
                refine wc_iload_n X 145 1 dX11_mended_145 rfl ?_
                refine wc_iload X 146 8 dX11_mended_146 rfl ?_
                refine wc_iload X 148 9 dX11_mended_148 rfl ?_
                refine wc_callS X 150 [] (c_X11_at l G 0 (mdI (p 0) k) (mdC (p 0) k) (by decide) (by omega) hmd.2.1 hmd.2.2.1) ys_X11_at rfl q_896 ⟨rfl, rfl⟩ ⟨rfl, rfl⟩ ⟨rfl, rfl⟩ rfl rfl rfl dX11_mended_150 ?_
                refine wc_ialdG X 153 1 rfl (atN_lt (by omega) hmd.2.2.1) (by decide) dX11_mended_153 ?_
                refine wc_topi (nI (gz p (mdI (p 0) k * 2 + mdC (p 0) k - 1))) (congrArg nI (atN_mG (m := 0) (by decide) hr.2.1 hmd.1 hmd.2.1 hmd.2.2.1)) ?_
                refine wc_iload X 154 10 dX11_mended_154 rfl ?_
                refine wc_callS X 156 [] (c_X11_has l G (gz p (mdI (p 0) k * 2 + mdC (p 0) k - 1)) (mdT (p 0) k) (Nat.lt_trans (mG_lt (m := 0) hr.2.2.2.2.1 _) (by decide)) (by omega)) ys_X11_has rfl q_916 ⟨rfl, rfl⟩ ⟨rfl, rfl⟩ ⟨rfl, rfl⟩ rfl rfl rfl dX11_mended_156 ?_
                refine wc_iload_n X 159 1 dX11_mended_159 rfl ?_
                refine wc_if_neN X 160 167 dX11_mended_160 (by decide) (by decide) (fun c160_18 => ?_) (fun c160_18 => ?_)
                ·
                  exact absurd c160_18 (by decide)
                ·
                  refine wc_iconstN X 163 1 dX11_mended_163 ?_
                  refine wc_goto X 164 168 dX11_mended_164 (by decide) ?_
                  refine wc_st (st' := [.int (b2i true), .int (b2i (Nat.testBit (gz p (mdI (p 0) k * 2 + mdC (p 0) k - 1)) (mdT (p 0) k)))]) rfl ?_
                  refine wc_icmp_neB X 168 175 dX11_mended_168 (by decide) (fun c168_19 => ?_) (fun c168_19 => ?_)
                  ·
                    refine wc_iconstN X 175 0 dX11_mended_175 ?_
                    refine wc_istore X 176 (L' := [(0, .ref o), (1, .int (nI 0)), (2, .int (nI 1)), (3, .int (nI n3)), (4, .int fs), (5, .int (nI 1)), (6, .int (nI (p 0))), (7, .int (nI k)), (8, .int (nI (mdI (p 0) k))), (9, .int (nI (mdC (p 0) k))), (10, .int (nI (mdT (p 0) k))), (11, .int (nI 0))]) dX11_mended_176 (by decide) rfl ?_
                    refine wc_iload X 178 11 dX11_mended_178 rfl ?_
                    refine wc_if_eqN X 180 213 dX11_mended_180 (by decide) (by decide) (fun c180_20 => ?_) (fun c180_20 => ?_)
                    ·
                      refine wc_iinc X 213 7 (L' := [(0, .ref o), (1, .int (nI 0)), (2, .int (nI 1)), (3, .int (nI n3)), (4, .int fs), (5, .int (nI 1)), (6, .int (nI (p 0))), (7, .int (nI k + (-1))), (8, .int (nI (mdI (p 0) k))), (9, .int (nI (mdC (p 0) k))), (10, .int (nI (mdT (p 0) k))), (11, .int (nI 0))]) dX11_mended_213 rfl rfl (by decide) rfl ?_
                      refine wc_goto X 216 73 dX11_mended_216 (by decide) ?_
                      have hno : mB p 0 k = false := by unfold mB; rw [mEd_0, show Nat.testBit (gz p (mdI (p 0) k * 2 + mdC (p 0) k - 1)) (mdT (p 0) k) = false by simpa using c168_19]; rfl
                      refine wc_loc [0, 1, 2, 3, 4, 5, 6, 7] (L' := [(0, .ref o), (1, .int (nI 0)), (2, .int (nI 1)), (3, .int (nI n3)), (4, .int fs), (5, .int (nI 1)), (6, .int (nI (p 0))), (7, .int (nI k + (-1)))]) rfl ?_
                      have e_21 : (nI k + (-1)) = nI k - 1 := by rw [Int32.sub_eq_add_neg]
                      refine wc_L (L' := [(0, .ref o), (1, .int (nI 0)), (2, .int (nI 1)), (3, .int (nI n3)), (4, .int fs), (5, .int (nI 1)), (6, .int (nI (p 0))), (7, .int (nI k - 1))]) (by first | (rw [e_21]; done) | (rw [e_21]; rfl) | (rw [← e_21]; done) | rfl) ?_
                      exact ih_12 k n3 fs (flE p 0 (mdI (p 0) k) (mdC (p 0) k) (mdT (p 0) k)) z9 l9 m9 b9 y9 (by omega) (by have := cnt_no (f := mB p 0) (K := k) rfl hno; omega) (DS_no hds hno) (by omega)
                    ·
                      exact absurd c180_20 (by decide)
                  ·
                    refine wc_iconstN X 171 1 dX11_mended_171 ?_
                    refine wc_goto X 172 176 dX11_mended_172 (by decide) ?_
                    refine wc_istore X 176 (L' := [(0, .ref o), (1, .int (nI 0)), (2, .int (nI 1)), (3, .int (nI n3)), (4, .int fs), (5, .int (nI 1)), (6, .int (nI (p 0))), (7, .int (nI k)), (8, .int (nI (mdI (p 0) k))), (9, .int (nI (mdC (p 0) k))), (10, .int (nI (mdT (p 0) k))), (11, .int (nI 1))]) dX11_mended_176 (by decide) rfl ?_
                    refine wc_iload X 178 11 dX11_mended_178 rfl ?_
                    refine wc_if_eqN X 180 213 dX11_mended_180 (by decide) (by decide) (fun c180_22 => ?_) (fun c180_22 => ?_)
                    ·
                      exact absurd c180_22 (by decide)
                    ·
                      refine wc_aload_n X 183 0 dX11_mended_183 rfl ?_
                      refine wc_aload_n X 184 0 dX11_mended_184 rfl ?_
                      refine wc_get X 185 0 6 kd11 rfl (by decide) q_771 rfl dX11_mended_185 ?_
                      refine wc_mutV X Y 188 [0, 2, 3, 4, 5, 6] [1] 0 (c_X11_isWithin l G o (nI 0) qtx ts pl qrp qpg qtr qbk dn qkp qik sn qsw qsi sd qln qfm qby qwy z9 qfo qon qmn qpr qle qst qwt rc tk ps gn bd qwo qtr (flE p 0 (mdI (p 0) k) (mdC (p 0) k) (mdT (p 0) k)) l9 m9 b9 y9 hz) yv_X11_isWithin kd11 rfl rfl (wr := [aI G qpg 22 (nF p)]) rfl ⟨rfl, rfl, rfl⟩ q_1005 ⟨rfl, rfl⟩ ⟨rfl, rfl⟩ ⟨rfl, rfl⟩ rfl rfl rfl dX11_mended_188 (fun v w hp_23 => ?_)
                      obtain ⟨wz2_24, ln2_25, fm2_26, bf2_27, wy2_28, rfl, rfl⟩ := hp_23
                      refine wc_perm Y [1, 0, 2, 3, 4, 5, 6] [ob o 11 [.int (nI 0), .ref qtx, .int (nI ts), .int (nI pl), .ref qrp, .ref qpg, .ref qtr, .ref qbk, .int (nI dn), .ref qkp, .ref qik, .int (nI sn), .ref qsw, .ref qsi, .long sd, .ref qln, .ref qfm, .ref qby, .ref qwy, .int (nI wz2_24), .ref qfo, .ref qon, .ref qmn, .ref qpr, .ref qle, .ref qst, .ref qwt, .int (nI rc), .int (nI tk), .int (nI ps), .int (nI gn), .int bd, .ref qwo], aI G qpg 22 (nF p), aI G qtr 22 (nF (flE p 0 (mdI (p 0) k) (mdC (p 0) k) (mdT (p 0) k))), aI G qln 512 (nF ln2_25), aI G qfm 512 fm2_26, aI G qby 512 (nF bf2_27), aI G qwy 512 (nF wy2_28)] rfl rfl ?_
                      show Wc Γ 0 0 191 [(0, .ref o), (1, .int (nI 0)), (2, .int (nI 1)), (3, .int (nI n3)), (4, .int fs), (5, .int (nI 1)), (6, .int (nI (p 0))), (7, .int (nI k)), (8, .int (nI (mdI (p 0) k))), (9, .int (nI (mdC (p 0) k))), (10, .int (nI (mdT (p 0) k))), (11, .int (nI 1))] [.int (b2i (withB (gz (flE p 0 (mdI (p 0) k) (mdC (p 0) k) (mdT (p 0) k))) ((flE p 0 (mdI (p 0) k) (mdC (p 0) k) (mdT (p 0) k)) 0) ((flE p 0 (mdI (p 0) k) (mdC (p 0) k) (mdT (p 0) k)) 2) (go (flE p 0 (mdI (p 0) k) (mdC (p 0) k) (mdT (p 0) k))) ((flE p 0 (mdI (p 0) k) (mdC (p 0) k) (mdT (p 0) k)) 1) ((flE p 0 (mdI (p 0) k) (mdC (p 0) k) (mdT (p 0) k)) 3)))] [ob o 11 [.int (nI 0), .ref qtx, .int (nI ts), .int (nI pl), .ref qrp, .ref qpg, .ref qtr, .ref qbk, .int (nI dn), .ref qkp, .ref qik, .int (nI sn), .ref qsw, .ref qsi, .long sd, .ref qln, .ref qfm, .ref qby, .ref qwy, .int (nI wz2_24), .ref qfo, .ref qon, .ref qmn, .ref qpr, .ref qle, .ref qst, .ref qwt, .int (nI rc), .int (nI tk), .int (nI ps), .int (nI gn), .int bd, .ref qwo], aI G qpg 22 (nF p), aI G qtr 22 (nF (flE p 0 (mdI (p 0) k) (mdC (p 0) k) (mdT (p 0) k))), aI G qln 512 (nF ln2_25), aI G qfm 512 fm2_26, aI G qby 512 (nF bf2_27), aI G qwy 512 (nF wy2_28)]
                      refine wc_if_eqB X 191 213 dX11_mended_191 (by decide) (fun c191_29 => ?_) (fun c191_29 => ?_)
                      ·
                        refine wc_iinc X 213 7 (L' := [(0, .ref o), (1, .int (nI 0)), (2, .int (nI 1)), (3, .int (nI n3)), (4, .int fs), (5, .int (nI 1)), (6, .int (nI (p 0))), (7, .int (nI k + (-1))), (8, .int (nI (mdI (p 0) k))), (9, .int (nI (mdC (p 0) k))), (10, .int (nI (mdT (p 0) k))), (11, .int (nI 1))]) dX11_mended_213 rfl rfl (by decide) rfl ?_
                        refine wc_goto X 216 73 dX11_mended_216 (by decide) ?_
                        have hno : mB p 0 k = false := by unfold mB; rw [mEd_0, show withP _ = false from c191_29, Bool.and_false]
                        refine wc_loc [0, 1, 2, 3, 4, 5, 6, 7] (L' := [(0, .ref o), (1, .int (nI 0)), (2, .int (nI 1)), (3, .int (nI n3)), (4, .int fs), (5, .int (nI 1)), (6, .int (nI (p 0))), (7, .int (nI k + (-1)))]) rfl ?_
                        have e_30 : (nI k + (-1)) = nI k - 1 := by rw [Int32.sub_eq_add_neg]
                        refine wc_L (L' := [(0, .ref o), (1, .int (nI 0)), (2, .int (nI 1)), (3, .int (nI n3)), (4, .int fs), (5, .int (nI 1)), (6, .int (nI (p 0))), (7, .int (nI k - 1))]) (by first | (rw [e_30]; done) | (rw [e_30]; rfl) | (rw [← e_30]; done) | rfl) ?_
                        exact ih_12 k n3 fs (flE p 0 (mdI (p 0) k) (mdC (p 0) k) (mdT (p 0) k)) wz2_24 ln2_25 fm2_26 bf2_27 wy2_28 (by omega) (by have := cnt_no (f := mB p 0) (K := k) rfl hno; omega) (DS_no hds hno) (by omega)
                      ·
                        refine wc_iincN X 194 3 (L' := [(0, .ref o), (1, .int (nI 0)), (2, .int (nI 1)), (3, .int (nI (n3 + 1))), (4, .int fs), (5, .int (nI 1)), (6, .int (nI (p 0))), (7, .int (nI k)), (8, .int (nI (mdI (p 0) k))), (9, .int (nI (mdC (p 0) k))), (10, .int (nI (mdT (p 0) k))), (11, .int (nI 1))]) dX11_mended_194 rfl (by decide) rfl ?_
                        refine wc_bipush X 197 (nI 100) dX11_mended_197 (by decide) ?_
                        refine wc_iload X 199 8 dX11_mended_199 rfl ?_
                        refine wc_imulN X 201 dX11_mended_201 ?_
                        refine wc_bipush X 202 (nI 10) dX11_mended_202 (by decide) ?_
                        refine wc_iload X 204 9 dX11_mended_204 rfl ?_
                        refine wc_imulN X 206 dX11_mended_206 ?_
                        refine wc_iaddN X 207 dX11_mended_207 ?_
                        refine wc_iload X 208 10 dX11_mended_208 rfl ?_
                        refine wc_iaddN X 210 dX11_mended_210 ?_
                        refine wc_istore X 211 (L' := [(0, .ref o), (1, .int (nI 0)), (2, .int (nI 1)), (3, .int (nI (n3 + 1))), (4, .int (nI (((100 * (mdI (p 0) k)) + (10 * (mdC (p 0) k))) + (mdT (p 0) k)))), (5, .int (nI 1)), (6, .int (nI (p 0))), (7, .int (nI k)), (8, .int (nI (mdI (p 0) k))), (9, .int (nI (mdC (p 0) k))), (10, .int (nI (mdT (p 0) k))), (11, .int (nI 1))]) dX11_mended_211 (by decide) rfl ?_
                        refine wc_iinc X 213 7 (L' := [(0, .ref o), (1, .int (nI 0)), (2, .int (nI 1)), (3, .int (nI (n3 + 1))), (4, .int (nI (((100 * (mdI (p 0) k)) + (10 * (mdC (p 0) k))) + (mdT (p 0) k)))), (5, .int (nI 1)), (6, .int (nI (p 0))), (7, .int (nI k + (-1))), (8, .int (nI (mdI (p 0) k))), (9, .int (nI (mdC (p 0) k))), (10, .int (nI (mdT (p 0) k))), (11, .int (nI 1))]) dX11_mended_213 rfl rfl (by decide) rfl ?_
                        refine wc_goto X 216 73 dX11_mended_216 (by decide) ?_
                        have hye : mB p 0 k = true := by unfold mB; rw [mEd_0, show _ = _ from c168_19, show withP _ = true from c191_29]; rfl
                        refine wc_loc [0, 1, 2, 3, 4, 5, 6, 7] (L' := [(0, .ref o), (1, .int (nI 0)), (2, .int (nI 1)), (3, .int (nI (n3 + 1))), (4, .int (nI (((100 * (mdI (p 0) k)) + (10 * (mdC (p 0) k))) + (mdT (p 0) k)))), (5, .int (nI 1)), (6, .int (nI (p 0))), (7, .int (nI k + (-1)))]) rfl ?_
                        have e_31 : (.int (nI (((100 * (mdI (p 0) k)) + (10 * (mdC (p 0) k))) + (mdT (p 0) k))) : Value) = .int (nI (mCd (p 0) k)) := rfl
                        have e_32 : (nI k + (-1)) = nI k - 1 := by rw [Int32.sub_eq_add_neg]
                        refine wc_L (L' := [(0, .ref o), (1, .int (nI 0)), (2, .int (nI 1)), (3, .int (nI (n3 + 1))), (4, .int (nI (mCd (p 0) k))), (5, .int (nI 1)), (6, .int (nI (p 0))), (7, .int (nI k - 1))]) (by first | (rw [e_31, e_32]; done) | (rw [e_31, e_32]; rfl) | (rw [← e_31, ← e_32]; done) | rfl) ?_
                        exact ih_12 k (n3 + 1) (nI (mCd (p 0) k)) (flE p 0 (mdI (p 0) k) (mdC (p 0) k) (mdT (p 0) k)) wz2_24 ln2_25 fm2_26 bf2_27 wy2_28 (by omega) (by have := cnt_ye (f := mB p 0) (K := k) rfl hye; omega) (DS_ye (by omega) hye) (by omega)
        have e_33 : (nI ((2 * (p 0)) * (p 0))) - (1) = nI (2 * p 0 * p 0) - 1 := rfl
        refine wc_L (L' := [(0, .ref o), (1, .int (nI 0)), (2, .int (nI 1)), (3, .int (nI 0)), (4, .int (-9)), (5, .int (nI 1)), (6, .int (nI (p 0))), (7, .int (nI (2 * p 0 * p 0) - 1))]) (by first | (rw [e_33]; done) | (rw [e_33]; rfl) | (rw [← e_33]; done) | rfl) ?_
        exact LP_11 ((2 * p 0 * p 0) + 1) (2 * p 0 * p 0) 0 (-9) tr wz2_4 ln2_5 fm2_6 bf2_7 wy2_8 (Nat.le_refl _) (Nat.zero_add _) DS_0 (Nat.lt_succ_self _)
    ·
      exact absurd c24_2 (by decide)
  ·
    exact absurd c12_1 (by decide)

set_option maxHeartbeats 4000000 in
set_option maxRecDepth 100000 in
theorem c_X11_mendedW10 (l : Launch) (G : GG) (o : Nat) (th : Int32) (qtx ts pl qrp qpg qtr qbk dn qkp qik sn qsw qsi : Nat) (sd : Int64) (qln qfm qby qwy wz qfo qon qmn qpr qle qst qwt rc tk ps gn : Nat) (bd : Int32) (qwo : Nat) (p : Nat → Nat) (tr : Nat → Nat) (ln0 : Nat → Nat) (fm0 : Nat → Int32) (bf0 wy0 : Nat → Nat) (hr : pgOk p) (hw : withP p = true) : MM l G yX11_mended (Cond.code yX11_mended cX11_mended 12 (some .int)) { frames := 5, cells := 0, slots := 0, locals := 117 } [.ref o, .int (nI 1), .int (nI 0)] [ob o 11 [.int th, .ref qtx, .int (nI ts), .int (nI pl), .ref qrp, .ref qpg, .ref qtr, .ref qbk, .int (nI dn), .ref qkp, .ref qik, .int (nI sn), .ref qsw, .ref qsi, .long sd, .ref qln, .ref qfm, .ref qby, .ref qwy, .int (nI wz), .ref qfo, .ref qon, .ref qmn, .ref qpr, .ref qle, .ref qst, .ref qwt, .int (nI rc), .int (nI tk), .int (nI ps), .int (nI gn), .int bd, .ref qwo], aI G qpg 22 (nF p), aI G qtr 22 (nF tr), aI G qln 512 (nF ln0), aI G qfm 512 fm0, aI G qby 512 (nF bf0), aI G qwy 512 (nF wy0)] (fun (v : Option Value) (w : va_W) => ∃ (tr2 : Nat → Nat) (wz2 : Nat) (ln2 : Nat → Nat) (fm2 : Nat → Int32) (bf2 wy2 : Nat → Nat), v = some (.int (nI 0)) ∧ w = [ob o 11 [.int (nI 0), .ref qtx, .int (nI ts), .int (nI pl), .ref qrp, .ref qpg, .ref qtr, .ref qbk, .int (nI dn), .ref qkp, .ref qik, .int (nI sn), .ref qsw, .ref qsi, .long sd, .ref qln, .ref qfm, .ref qby, .ref qwy, .int (nI wz2), .ref qfo, .ref qon, .ref qmn, .ref qpr, .ref qle, .ref qst, .ref qwt, .int (nI rc), .int (nI tk), .int (nI ps), .int (nI gn), .int bd, .ref qwo], aI G qpg 22 (nF p), aI G qtr 22 (nF tr2), aI G qln 512 (nF ln2), aI G qfm 512 fm2, aI G qby 512 (nF bf2), aI G qwy 512 (nF wy2)]) 0 0 := by
  refine MM.ofI (by decide) rfl (fun Γ X Y hnm ret => ?_)
  show Wc Γ 0 0 0 [(0, .ref o), (1, .int (nI 1)), (2, .int (nI 0))] [] [ob o 11 [.int th, .ref qtx, .int (nI ts), .int (nI pl), .ref qrp, .ref qpg, .ref qtr, .ref qbk, .int (nI dn), .ref qkp, .ref qik, .int (nI sn), .ref qsw, .ref qsi, .long sd, .ref qln, .ref qfm, .ref qby, .ref qwy, .int (nI wz), .ref qfo, .ref qon, .ref qmn, .ref qpr, .ref qle, .ref qst, .ref qwt, .int (nI rc), .int (nI tk), .int (nI ps), .int (nI gn), .int bd, .ref qwo], aI G qpg 22 (nF p), aI G qtr 22 (nF tr), aI G qln 512 (nF ln0), aI G qfm 512 fm0, aI G qby 512 (nF bf0), aI G qwy 512 (nF wy0)]
  refine wc_aload_n X 0 0 dX11_mended_0 rfl ?_
  refine wc_iconstN X 1 0 dX11_mended_1 ?_
  refine wc_put X Y 2 0 0 kd11 rfl (by decide) q_765 rfl rfl rfl (Nat.le_of_ble_eq_true rfl) (ws' := [ob o 11 [.int (nI 0), .ref qtx, .int (nI ts), .int (nI pl), .ref qrp, .ref qpg, .ref qtr, .ref qbk, .int (nI dn), .ref qkp, .ref qik, .int (nI sn), .ref qsw, .ref qsi, .long sd, .ref qln, .ref qfm, .ref qby, .ref qwy, .int (nI wz), .ref qfo, .ref qon, .ref qmn, .ref qpr, .ref qle, .ref qst, .ref qwt, .int (nI rc), .int (nI tk), .int (nI ps), .int (nI gn), .int bd, .ref qwo], aI G qpg 22 (nF p), aI G qtr 22 (nF tr), aI G qln 512 (nF ln0), aI G qfm 512 fm0, aI G qby 512 (nF bf0), aI G qwy 512 (nF wy0)]) rfl dX11_mended_2 ?_
  refine wc_iload_n X 5 1 dX11_mended_5 rfl ?_
  refine wc_i2l X 6 dX11_mended_6 ?_
  refine wc_lconst X 7 0 dX11_mended_7 (by decide) ?_
  refine wc_lconst X 8 1 dX11_mended_8 (by decide) ?_
  refine wc_callS X 9 [] (c_X11_in l G ((nI 1).toInt64) 0 1 ) ys_X11_in rfl q_870 ⟨rfl, rfl⟩ ⟨rfl, rfl⟩ ⟨rfl, rfl⟩ rfl rfl rfl dX11_mended_9 ?_
  refine wc_topi (b2i true) (by decide) ?_
  refine wc_if_neB X 12 17 dX11_mended_12 (by decide) (fun c12_1 => ?_) (fun c12_1 => ?_)
  ·
    refine wc_iload_n X 17 2 dX11_mended_17 rfl ?_
    refine wc_i2l X 18 dX11_mended_18 ?_
    refine wc_lconst X 19 0 dX11_mended_19 (by decide) ?_
    refine wc_lconst X 20 1 dX11_mended_20 (by decide) ?_
    refine wc_callS X 21 [] (c_X11_in l G ((nI 0).toInt64) 0 1 ) ys_X11_in rfl q_870 ⟨rfl, rfl⟩ ⟨rfl, rfl⟩ ⟨rfl, rfl⟩ rfl rfl rfl dX11_mended_21 ?_
    refine wc_topi (b2i true) (by decide) ?_
    refine wc_if_neB X 24 30 dX11_mended_24 (by decide) (fun c24_2 => ?_) (fun c24_2 => ?_)
    ·
      refine wc_iconstN X 30 0 dX11_mended_30 ?_
      refine wc_istore_n X 31 (L' := [(0, .ref o), (1, .int (nI 1)), (2, .int (nI 0)), (3, .int (nI 0))]) dX11_mended_31 (by decide) rfl ?_
      refine wc_bipush X 32 (-9) dX11_mended_32 (by decide) ?_
      refine wc_istore X 34 (L' := [(0, .ref o), (1, .int (nI 1)), (2, .int (nI 0)), (3, .int (nI 0)), (4, .int (-9))]) dX11_mended_34 (by decide) rfl ?_
      refine wc_aload_n X 36 0 dX11_mended_36 rfl ?_
      refine wc_aload_n X 37 0 dX11_mended_37 rfl ?_
      refine wc_get X 38 0 5 kd11 rfl (by decide) q_770 rfl dX11_mended_38 ?_
      refine wc_mutV X Y 41 [0, 1, 3, 4, 5, 6] [2] 0 (c_X11_isWithin l G o (nI 0) qtx ts pl qrp qpg qtr qbk dn qkp qik sn qsw qsi sd qln qfm qby qwy wz qfo qon qmn qpr qle qst qwt rc tk ps gn bd qwo qpg p ln0 fm0 bf0 wy0 (by first | assumption | omega)) yv_X11_isWithin kd11 rfl rfl (wr := [aI G qtr 22 (nF tr)]) rfl ⟨rfl, rfl, rfl⟩ q_1005 ⟨rfl, rfl⟩ ⟨rfl, rfl⟩ ⟨rfl, rfl⟩ rfl rfl rfl dX11_mended_41 (fun v w hp_3 => ?_)
      obtain ⟨wz2_4, ln2_5, fm2_6, bf2_7, wy2_8, rfl, rfl⟩ := hp_3
      refine wc_perm Y [1, 2, 0, 3, 4, 5, 6] [ob o 11 [.int (nI 0), .ref qtx, .int (nI ts), .int (nI pl), .ref qrp, .ref qpg, .ref qtr, .ref qbk, .int (nI dn), .ref qkp, .ref qik, .int (nI sn), .ref qsw, .ref qsi, .long sd, .ref qln, .ref qfm, .ref qby, .ref qwy, .int (nI wz2_4), .ref qfo, .ref qon, .ref qmn, .ref qpr, .ref qle, .ref qst, .ref qwt, .int (nI rc), .int (nI tk), .int (nI ps), .int (nI gn), .int bd, .ref qwo], aI G qpg 22 (nF p), aI G qtr 22 (nF tr), aI G qln 512 (nF ln2_5), aI G qfm 512 fm2_6, aI G qby 512 (nF bf2_7), aI G qwy 512 (nF wy2_8)] rfl rfl ?_
      show Wc Γ 0 0 44 [(0, .ref o), (1, .int (nI 1)), (2, .int (nI 0)), (3, .int (nI 0)), (4, .int (-9))] [.int (b2i (withB (gz p) (p 0) (p 2) (go p) (p 1) (p 3)))] [ob o 11 [.int (nI 0), .ref qtx, .int (nI ts), .int (nI pl), .ref qrp, .ref qpg, .ref qtr, .ref qbk, .int (nI dn), .ref qkp, .ref qik, .int (nI sn), .ref qsw, .ref qsi, .long sd, .ref qln, .ref qfm, .ref qby, .ref qwy, .int (nI wz2_4), .ref qfo, .ref qon, .ref qmn, .ref qpr, .ref qle, .ref qst, .ref qwt, .int (nI rc), .int (nI tk), .int (nI ps), .int (nI gn), .int bd, .ref qwo], aI G qpg 22 (nF p), aI G qtr 22 (nF tr), aI G qln 512 (nF ln2_5), aI G qfm 512 fm2_6, aI G qby 512 (nF bf2_7), aI G qwy 512 (nF wy2_8)]
      refine wc_topi (b2i true) (congrArg b2i hw) ?_
      refine wc_if_neB X 44 51 dX11_mended_44 (by decide) (fun c44_9 => ?_) (fun c44_9 => ?_)
      ·
        refine wc_iconstN X 51 0 dX11_mended_51 ?_
        refine wc_istore X 52 (L' := [(0, .ref o), (1, .int (nI 1)), (2, .int (nI 0)), (3, .int (nI 0)), (4, .int (-9)), (5, .int (nI 0))]) dX11_mended_52 (by decide) rfl ?_
        refine wc_aload_n X 54 0 dX11_mended_54 rfl ?_
        refine wc_get X 55 0 5 kd11 rfl (by decide) q_770 rfl dX11_mended_55 ?_
        refine wc_iload_n X 58 1 dX11_mended_58 rfl ?_
        refine wc_ialdG X 59 1 rfl (by decide) (by decide) dX11_mended_59 ?_
        refine wc_istore X 60 (L' := [(0, .ref o), (1, .int (nI 1)), (2, .int (nI 0)), (3, .int (nI 0)), (4, .int (-9)), (5, .int (nI 0)), (6, .int (nI (p 1)))]) dX11_mended_60 (by decide) rfl ?_
        refine wc_iconstN X 62 2 dX11_mended_62 ?_
        refine wc_iload X 63 6 dX11_mended_63 rfl ?_
        refine wc_imulN X 65 dX11_mended_65 ?_
        refine wc_iload X 66 6 dX11_mended_66 rfl ?_
        refine wc_imulN X 68 dX11_mended_68 ?_
        refine wc_iconst X 69 (1) dX11_mended_69 (by decide) ?_
        refine wc_isub X 70 dX11_mended_70 ?_
        refine wc_istore X 71 (L' := [(0, .ref o), (1, .int (nI 1)), (2, .int (nI 0)), (3, .int (nI 0)), (4, .int (-9)), (5, .int (nI 0)), (6, .int (nI (p 1))), (7, .int ((nI ((2 * (p 1)) * (p 1))) - (1)))]) dX11_mended_71 (by decide) rfl ?_
        refine wc_iload X 73 7 dX11_mended_73 rfl ?_
        refine wc_if_lt X 75 219 dX11_mended_75 (by decide) (fun c75_10 => ?_) (fun c75_10 => ?_)
        ·
          refine wc_iload_n X 219 2 dX11_mended_219 rfl ?_
          refine wc_if_neN X 220 227 dX11_mended_220 (by decide) (by decide) (fun c220_11 => ?_) (fun c220_11 => ?_)
          ·
            exact absurd c220_11 (by decide)
          ·
            refine wc_iload_n X 223 3 dX11_mended_223 rfl ?_
            refine wc_goto X 224 229 dX11_mended_224 (by decide) ?_
            exact ret 229 _ (nI 0) _ dX11_mended_229 (⟨_, _, _, _, _, _, rfl, rfl⟩)
        ·
          refine wc_iload X 78 5 dX11_mended_78 rfl ?_
          refine wc_if_eqN X 80 219 dX11_mended_80 (by decide) (by decide) (fun c80_12 => ?_) (fun c80_12 => ?_)
          ·
            refine wc_iload_n X 219 2 dX11_mended_219 rfl ?_
            refine wc_if_neN X 220 227 dX11_mended_220 (by decide) (by decide) (fun c220_13 => ?_) (fun c220_13 => ?_)
            ·
              exact absurd c220_13 (by decide)
            ·
              refine wc_iload_n X 223 3 dX11_mended_223 rfl ?_
              refine wc_goto X 224 229 dX11_mended_224 (by decide) ?_
              exact ret 229 _ (nI 0) _ dX11_mended_229 (⟨_, _, _, _, _, _, rfl, rfl⟩)
          ·
            exact absurd c80_12 (by decide)
      ·
        exact absurd c44_9 (by decide)
    ·
      exact absurd c24_2 (by decide)
  ·
    exact absurd c12_1 (by decide)

set_option maxHeartbeats 4000000 in
set_option maxRecDepth 100000 in
theorem c_X11_mendedS10 (l : Launch) (G : GG) (o : Nat) (th : Int32) (qtx ts pl qrp qpg qtr qbk dn qkp qik sn qsw qsi : Nat) (sd : Int64) (qln qfm qby qwy wz qfo qon qmn qpr qle qst qwt rc tk ps gn : Nat) (bd : Int32) (qwo : Nat) (p : Nat → Nat) (tr : Nat → Nat) (ln0 : Nat → Nat) (fm0 : Nat → Int32) (bf0 wy0 : Nat → Nat) (hr : pgOk p) (hw : withP p = false) : MM l G yX11_mended (Cond.code yX11_mended cX11_mended 12 (some .int)) { frames := 5, cells := 0, slots := 0, locals := 117 } [.ref o, .int (nI 1), .int (nI 0)] [ob o 11 [.int th, .ref qtx, .int (nI ts), .int (nI pl), .ref qrp, .ref qpg, .ref qtr, .ref qbk, .int (nI dn), .ref qkp, .ref qik, .int (nI sn), .ref qsw, .ref qsi, .long sd, .ref qln, .ref qfm, .ref qby, .ref qwy, .int (nI wz), .ref qfo, .ref qon, .ref qmn, .ref qpr, .ref qle, .ref qst, .ref qwt, .int (nI rc), .int (nI tk), .int (nI ps), .int (nI gn), .int bd, .ref qwo], aI G qpg 22 (nF p), aI G qtr 22 (nF tr), aI G qln 512 (nF ln0), aI G qfm 512 fm0, aI G qby 512 (nF bf0), aI G qwy 512 (nF wy0)] (fun (v : Option Value) (w : va_W) => ∃ (tr2 : Nat → Nat) (wz2 : Nat) (ln2 : Nat → Nat) (fm2 : Nat → Int32) (bf2 wy2 : Nat → Nat), v = some (.int (nI (cnt (mB p 1) (2 * p 1 * p 1)))) ∧ w = [ob o 11 [.int (nI 0), .ref qtx, .int (nI ts), .int (nI pl), .ref qrp, .ref qpg, .ref qtr, .ref qbk, .int (nI dn), .ref qkp, .ref qik, .int (nI sn), .ref qsw, .ref qsi, .long sd, .ref qln, .ref qfm, .ref qby, .ref qwy, .int (nI wz2), .ref qfo, .ref qon, .ref qmn, .ref qpr, .ref qle, .ref qst, .ref qwt, .int (nI rc), .int (nI tk), .int (nI ps), .int (nI gn), .int bd, .ref qwo], aI G qpg 22 (nF p), aI G qtr 22 (nF tr2), aI G qln 512 (nF ln2), aI G qfm 512 fm2, aI G qby 512 (nF bf2), aI G qwy 512 (nF wy2)]) 0 0 := by
  refine MM.ofI (by decide) rfl (fun Γ X Y hnm ret => ?_)
  show Wc Γ 0 0 0 [(0, .ref o), (1, .int (nI 1)), (2, .int (nI 0))] [] [ob o 11 [.int th, .ref qtx, .int (nI ts), .int (nI pl), .ref qrp, .ref qpg, .ref qtr, .ref qbk, .int (nI dn), .ref qkp, .ref qik, .int (nI sn), .ref qsw, .ref qsi, .long sd, .ref qln, .ref qfm, .ref qby, .ref qwy, .int (nI wz), .ref qfo, .ref qon, .ref qmn, .ref qpr, .ref qle, .ref qst, .ref qwt, .int (nI rc), .int (nI tk), .int (nI ps), .int (nI gn), .int bd, .ref qwo], aI G qpg 22 (nF p), aI G qtr 22 (nF tr), aI G qln 512 (nF ln0), aI G qfm 512 fm0, aI G qby 512 (nF bf0), aI G qwy 512 (nF wy0)]
  have hbm := pgOk_m hr (show 1 < 2 by decide)
  have hsq := sq_lt hbm.2
  refine wc_aload_n X 0 0 dX11_mended_0 rfl ?_
  refine wc_iconstN X 1 0 dX11_mended_1 ?_
  refine wc_put X Y 2 0 0 kd11 rfl (by decide) q_765 rfl rfl rfl (Nat.le_of_ble_eq_true rfl) (ws' := [ob o 11 [.int (nI 0), .ref qtx, .int (nI ts), .int (nI pl), .ref qrp, .ref qpg, .ref qtr, .ref qbk, .int (nI dn), .ref qkp, .ref qik, .int (nI sn), .ref qsw, .ref qsi, .long sd, .ref qln, .ref qfm, .ref qby, .ref qwy, .int (nI wz), .ref qfo, .ref qon, .ref qmn, .ref qpr, .ref qle, .ref qst, .ref qwt, .int (nI rc), .int (nI tk), .int (nI ps), .int (nI gn), .int bd, .ref qwo], aI G qpg 22 (nF p), aI G qtr 22 (nF tr), aI G qln 512 (nF ln0), aI G qfm 512 fm0, aI G qby 512 (nF bf0), aI G qwy 512 (nF wy0)]) rfl dX11_mended_2 ?_
  refine wc_iload_n X 5 1 dX11_mended_5 rfl ?_
  refine wc_i2l X 6 dX11_mended_6 ?_
  refine wc_lconst X 7 0 dX11_mended_7 (by decide) ?_
  refine wc_lconst X 8 1 dX11_mended_8 (by decide) ?_
  refine wc_callS X 9 [] (c_X11_in l G ((nI 1).toInt64) 0 1 ) ys_X11_in rfl q_870 ⟨rfl, rfl⟩ ⟨rfl, rfl⟩ ⟨rfl, rfl⟩ rfl rfl rfl dX11_mended_9 ?_
  refine wc_topi (b2i true) (by decide) ?_
  refine wc_if_neB X 12 17 dX11_mended_12 (by decide) (fun c12_1 => ?_) (fun c12_1 => ?_)
  ·
    refine wc_iload_n X 17 2 dX11_mended_17 rfl ?_
    refine wc_i2l X 18 dX11_mended_18 ?_
    refine wc_lconst X 19 0 dX11_mended_19 (by decide) ?_
    refine wc_lconst X 20 1 dX11_mended_20 (by decide) ?_
    refine wc_callS X 21 [] (c_X11_in l G ((nI 0).toInt64) 0 1 ) ys_X11_in rfl q_870 ⟨rfl, rfl⟩ ⟨rfl, rfl⟩ ⟨rfl, rfl⟩ rfl rfl rfl dX11_mended_21 ?_
    refine wc_topi (b2i true) (by decide) ?_
    refine wc_if_neB X 24 30 dX11_mended_24 (by decide) (fun c24_2 => ?_) (fun c24_2 => ?_)
    ·
      refine wc_iconstN X 30 0 dX11_mended_30 ?_
      refine wc_istore_n X 31 (L' := [(0, .ref o), (1, .int (nI 1)), (2, .int (nI 0)), (3, .int (nI 0))]) dX11_mended_31 (by decide) rfl ?_
      refine wc_bipush X 32 (-9) dX11_mended_32 (by decide) ?_
      refine wc_istore X 34 (L' := [(0, .ref o), (1, .int (nI 1)), (2, .int (nI 0)), (3, .int (nI 0)), (4, .int (-9))]) dX11_mended_34 (by decide) rfl ?_
      refine wc_aload_n X 36 0 dX11_mended_36 rfl ?_
      refine wc_aload_n X 37 0 dX11_mended_37 rfl ?_
      refine wc_get X 38 0 5 kd11 rfl (by decide) q_770 rfl dX11_mended_38 ?_
      refine wc_mutV X Y 41 [0, 1, 3, 4, 5, 6] [2] 0 (c_X11_isWithin l G o (nI 0) qtx ts pl qrp qpg qtr qbk dn qkp qik sn qsw qsi sd qln qfm qby qwy wz qfo qon qmn qpr qle qst qwt rc tk ps gn bd qwo qpg p ln0 fm0 bf0 wy0 (by first | assumption | omega)) yv_X11_isWithin kd11 rfl rfl (wr := [aI G qtr 22 (nF tr)]) rfl ⟨rfl, rfl, rfl⟩ q_1005 ⟨rfl, rfl⟩ ⟨rfl, rfl⟩ ⟨rfl, rfl⟩ rfl rfl rfl dX11_mended_41 (fun v w hp_3 => ?_)
      obtain ⟨wz2_4, ln2_5, fm2_6, bf2_7, wy2_8, rfl, rfl⟩ := hp_3
      refine wc_perm Y [1, 2, 0, 3, 4, 5, 6] [ob o 11 [.int (nI 0), .ref qtx, .int (nI ts), .int (nI pl), .ref qrp, .ref qpg, .ref qtr, .ref qbk, .int (nI dn), .ref qkp, .ref qik, .int (nI sn), .ref qsw, .ref qsi, .long sd, .ref qln, .ref qfm, .ref qby, .ref qwy, .int (nI wz2_4), .ref qfo, .ref qon, .ref qmn, .ref qpr, .ref qle, .ref qst, .ref qwt, .int (nI rc), .int (nI tk), .int (nI ps), .int (nI gn), .int bd, .ref qwo], aI G qpg 22 (nF p), aI G qtr 22 (nF tr), aI G qln 512 (nF ln2_5), aI G qfm 512 fm2_6, aI G qby 512 (nF bf2_7), aI G qwy 512 (nF wy2_8)] rfl rfl ?_
      show Wc Γ 0 0 44 [(0, .ref o), (1, .int (nI 1)), (2, .int (nI 0)), (3, .int (nI 0)), (4, .int (-9))] [.int (b2i (withB (gz p) (p 0) (p 2) (go p) (p 1) (p 3)))] [ob o 11 [.int (nI 0), .ref qtx, .int (nI ts), .int (nI pl), .ref qrp, .ref qpg, .ref qtr, .ref qbk, .int (nI dn), .ref qkp, .ref qik, .int (nI sn), .ref qsw, .ref qsi, .long sd, .ref qln, .ref qfm, .ref qby, .ref qwy, .int (nI wz2_4), .ref qfo, .ref qon, .ref qmn, .ref qpr, .ref qle, .ref qst, .ref qwt, .int (nI rc), .int (nI tk), .int (nI ps), .int (nI gn), .int bd, .ref qwo], aI G qpg 22 (nF p), aI G qtr 22 (nF tr), aI G qln 512 (nF ln2_5), aI G qfm 512 fm2_6, aI G qby 512 (nF bf2_7), aI G qwy 512 (nF wy2_8)]
      refine wc_topi (b2i false) (congrArg b2i hw) ?_
      refine wc_if_neB X 44 51 dX11_mended_44 (by decide) (fun c44_9 => ?_) (fun c44_9 => ?_)
      ·
        exact absurd c44_9 (by decide)
      ·
        refine wc_iconstN X 47 1 dX11_mended_47 ?_
        refine wc_goto X 48 52 dX11_mended_48 (by decide) ?_
        refine wc_istore X 52 (L' := [(0, .ref o), (1, .int (nI 1)), (2, .int (nI 0)), (3, .int (nI 0)), (4, .int (-9)), (5, .int (nI 1))]) dX11_mended_52 (by decide) rfl ?_
        refine wc_aload_n X 54 0 dX11_mended_54 rfl ?_
        refine wc_get X 55 0 5 kd11 rfl (by decide) q_770 rfl dX11_mended_55 ?_
        refine wc_iload_n X 58 1 dX11_mended_58 rfl ?_
        refine wc_ialdG X 59 1 rfl (by decide) (by decide) dX11_mended_59 ?_
        refine wc_istore X 60 (L' := [(0, .ref o), (1, .int (nI 1)), (2, .int (nI 0)), (3, .int (nI 0)), (4, .int (-9)), (5, .int (nI 1)), (6, .int (nI (p 1)))]) dX11_mended_60 (by decide) rfl ?_
        refine wc_iconstN X 62 2 dX11_mended_62 ?_
        refine wc_iload X 63 6 dX11_mended_63 rfl ?_
        refine wc_imulN X 65 dX11_mended_65 ?_
        refine wc_iload X 66 6 dX11_mended_66 rfl ?_
        refine wc_imulN X 68 dX11_mended_68 ?_
        refine wc_iconst X 69 (1) dX11_mended_69 (by decide) ?_
        refine wc_isub X 70 dX11_mended_70 ?_
        refine wc_istore X 71 (L' := [(0, .ref o), (1, .int (nI 1)), (2, .int (nI 0)), (3, .int (nI 0)), (4, .int (-9)), (5, .int (nI 1)), (6, .int (nI (p 1))), (7, .int ((nI ((2 * (p 1)) * (p 1))) - (1)))]) dX11_mended_71 (by decide) rfl ?_
        have LP_11 : ∀ (fuel_10 : Nat) (K : Nat) (n3 : Nat) (fs : Int32) (t9 : Nat → Nat) (z9 : Nat) (l9 : Nat → Nat) (m9 : Nat → Int32) (b9 : Nat → Nat) (y9 : Nat → Nat), (K ≤ 2 * p 1 * p 1) → (n3 + cnt (mB p 1) K = cnt (mB p 1) (2 * p 1 * p 1)) → (DS (mB p 1) (mCd (p 1)) K (2 * p 1 * p 1) fs) → K < fuel_10 → Wc Γ 0 0 73 [(0, .ref o), (1, .int (nI 1)), (2, .int (nI 0)), (3, .int (nI n3)), (4, .int fs), (5, .int (nI 1)), (6, .int (nI (p 1))), (7, .int (nI K - 1))] [] [ob o 11 [.int (nI 0), .ref qtx, .int (nI ts), .int (nI pl), .ref qrp, .ref qpg, .ref qtr, .ref qbk, .int (nI dn), .ref qkp, .ref qik, .int (nI sn), .ref qsw, .ref qsi, .long sd, .ref qln, .ref qfm, .ref qby, .ref qwy, .int (nI z9), .ref qfo, .ref qon, .ref qmn, .ref qpr, .ref qle, .ref qst, .ref qwt, .int (nI rc), .int (nI tk), .int (nI ps), .int (nI gn), .int bd, .ref qwo], aI G qpg 22 (nF p), aI G qtr 22 (nF t9), aI G qln 512 (nF l9), aI G qfm 512 m9, aI G qby 512 (nF b9), aI G qwy 512 (nF y9)] := by
          intro fuel_10
          induction fuel_10 with
          | zero => intro K n3 fs t9 z9 l9 m9 b9 y9 hK hn3 hds hm; exact absurd hm (Nat.not_lt_zero _)
          | succ fuel_10 ih_12 =>
            intro K n3 fs t9 z9 l9 m9 b9 y9 hK hn3 hds hm_13
            refine wc_iload X 73 7 dX11_mended_73 rfl ?_
            refine wc_if_lt X 75 219 dX11_mended_75 (by decide) (fun c75_14 => ?_) (fun c75_14 => ?_)
            ·
              have hK0 := nI_m1_0 (by omega) c75_14
              refine wc_iload_n X 219 2 dX11_mended_219 rfl ?_
              refine wc_if_neN X 220 227 dX11_mended_220 (by decide) (by decide) (fun c220_15 => ?_) (fun c220_15 => ?_)
              ·
                exact absurd c220_15 (by decide)
              ·
                refine wc_iload_n X 223 3 dX11_mended_223 rfl ?_
                refine wc_goto X 224 229 dX11_mended_224 (by decide) ?_
                exact ret 229 _ (nI n3) _ dX11_mended_229 (⟨_, _, _, _, _, _, by rw [← hn3, hK0]; rfl, rfl⟩)
            ·
              obtain ⟨k, rfl⟩ := nI_m1_s c75_14
              refine wc_L (L' := [(0, .ref o), (1, .int (nI 1)), (2, .int (nI 0)), (3, .int (nI n3)), (4, .int fs), (5, .int (nI 1)), (6, .int (nI (p 1))), (7, .int (nI k))]) (by rw [nI_pred]) ?_
              have hmd := md_lt (n := p 1) (show k < 2 * p 1 * p 1 by omega)
              have hz := flE_ok (m := 1) hr (by decide) hmd.1 hmd.2.1 hmd.2.2.1 hmd.2.2.2
              refine wc_iload X 78 5 dX11_mended_78 rfl ?_
              refine wc_if_eqN X 80 219 dX11_mended_80 (by decide) (by decide) (fun c80_16 => ?_) (fun c80_16 => ?_)
              ·
                exact absurd c80_16 (by decide)
              ·
                refine wc_iload X 83 7 dX11_mended_83 rfl ?_
                refine wc_iconstN X 85 2 dX11_mended_85 ?_
                refine wc_iload X 86 6 dX11_mended_86 rfl ?_
                refine wc_imulN X 88 dX11_mended_88 ?_
                refine wc_idivN X 89 dX11_mended_89 (by omega) (by omega) (by omega) ?_
                refine wc_topi (nI (mdI (p 1) k)) (congrArg nI (rfl)) ?_
                refine wc_istore X 90 (L' := [(0, .ref o), (1, .int (nI 1)), (2, .int (nI 0)), (3, .int (nI n3)), (4, .int fs), (5, .int (nI 1)), (6, .int (nI (p 1))), (7, .int (nI k)), (8, .int (nI (mdI (p 1) k)))]) dX11_mended_90 (by decide) rfl ?_
                refine wc_iconstN X 92 1 dX11_mended_92 ?_
                refine wc_iload X 93 7 dX11_mended_93 rfl ?_
                refine wc_iload X 95 6 dX11_mended_95 rfl ?_
                refine wc_idivN X 97 dX11_mended_97 (by omega) (by omega) (by omega) ?_
                refine wc_iconstN X 98 2 dX11_mended_98 ?_
                refine wc_iremN X 99 dX11_mended_99 (Nat.lt_of_le_of_lt (Nat.div_le_self _ _) (by omega)) (by decide) (by decide) ?_
                refine wc_iaddN X 100 dX11_mended_100 ?_
                refine wc_topi (nI (mdC (p 1) k)) (congrArg nI (rfl)) ?_
                refine wc_istore X 101 (L' := [(0, .ref o), (1, .int (nI 1)), (2, .int (nI 0)), (3, .int (nI n3)), (4, .int fs), (5, .int (nI 1)), (6, .int (nI (p 1))), (7, .int (nI k)), (8, .int (nI (mdI (p 1) k))), (9, .int (nI (mdC (p 1) k)))]) dX11_mended_101 (by decide) rfl ?_
                refine wc_iload X 103 7 dX11_mended_103 rfl ?_
                refine wc_iload X 105 6 dX11_mended_105 rfl ?_
                refine wc_iremN X 107 dX11_mended_107 (by omega) (by omega) (by omega) ?_
                refine wc_topi (nI (mdT (p 1) k)) (congrArg nI (rfl)) ?_
                refine wc_istore X 108 (L' := [(0, .ref o), (1, .int (nI 1)), (2, .int (nI 0)), (3, .int (nI n3)), (4, .int fs), (5, .int (nI 1)), (6, .int (nI (p 1))), (7, .int (nI k)), (8, .int (nI (mdI (p 1) k))), (9, .int (nI (mdC (p 1) k))), (10, .int (nI (mdT (p 1) k)))]) dX11_mended_108 (by decide) rfl ?_
                refine wc_aload_n X 110 0 dX11_mended_110 rfl ?_
                refine wc_get X 111 0 6 kd11 rfl (by decide) q_771 rfl dX11_mended_111 ?_
                refine wc_aload_n X 114 0 dX11_mended_114 rfl ?_
                refine wc_get X 115 0 5 kd11 rfl (by decide) q_770 rfl dX11_mended_115 ?_
                refine wc_mutS X Y 118 [2, 1] [0, 3, 4, 5, 6] (c_X11_lay l G qtr t9 qpg p ) ys_X11_lay rfl (wr := [ob o 11 [.int (nI 0), .ref qtx, .int (nI ts), .int (nI pl), .ref qrp, .ref qpg, .ref qtr, .ref qbk, .int (nI dn), .ref qkp, .ref qik, .int (nI sn), .ref qsw, .ref qsi, .long sd, .ref qln, .ref qfm, .ref qby, .ref qwy, .int (nI z9), .ref qfo, .ref qon, .ref qmn, .ref qpr, .ref qle, .ref qst, .ref qwt, .int (nI rc), .int (nI tk), .int (nI ps), .int (nI gn), .int bd, .ref qwo], aI G qln 512 (nF l9), aI G qfm 512 m9, aI G qby 512 (nF b9), aI G qwy 512 (nF y9)]) rfl ⟨rfl, rfl, rfl⟩ q_927 ⟨rfl, rfl⟩ ⟨rfl, rfl⟩ ⟨rfl, rfl⟩ rfl rfl rfl dX11_mended_118 (fun v w hp_17 => ?_)
                obtain ⟨rfl, rfl⟩ := hp_17
                refine wc_perm Y [0, 6, 5, 1, 2, 3, 4] [ob o 11 [.int (nI 0), .ref qtx, .int (nI ts), .int (nI pl), .ref qrp, .ref qpg, .ref qtr, .ref qbk, .int (nI dn), .ref qkp, .ref qik, .int (nI sn), .ref qsw, .ref qsi, .long sd, .ref qln, .ref qfm, .ref qby, .ref qwy, .int (nI z9), .ref qfo, .ref qon, .ref qmn, .ref qpr, .ref qle, .ref qst, .ref qwt, .int (nI rc), .int (nI tk), .int (nI ps), .int (nI gn), .int bd, .ref qwo], aI G qpg 22 (nF p), aI G qtr 22 (nF p), aI G qln 512 (nF l9), aI G qfm 512 m9, aI G qby 512 (nF b9), aI G qwy 512 (nF y9)] rfl rfl ?_
                show Wc Γ 0 0 121 [(0, .ref o), (1, .int (nI 1)), (2, .int (nI 0)), (3, .int (nI n3)), (4, .int fs), (5, .int (nI 1)), (6, .int (nI (p 1))), (7, .int (nI k)), (8, .int (nI (mdI (p 1) k))), (9, .int (nI (mdC (p 1) k))), (10, .int (nI (mdT (p 1) k)))] [] [ob o 11 [.int (nI 0), .ref qtx, .int (nI ts), .int (nI pl), .ref qrp, .ref qpg, .ref qtr, .ref qbk, .int (nI dn), .ref qkp, .ref qik, .int (nI sn), .ref qsw, .ref qsi, .long sd, .ref qln, .ref qfm, .ref qby, .ref qwy, .int (nI z9), .ref qfo, .ref qon, .ref qmn, .ref qpr, .ref qle, .ref qst, .ref qwt, .int (nI rc), .int (nI tk), .int (nI ps), .int (nI gn), .int bd, .ref qwo], aI G qpg 22 (nF p), aI G qtr 22 (nF p), aI G qln 512 (nF l9), aI G qfm 512 m9, aI G qby 512 (nF b9), aI G qwy 512 (nF y9)]
                refine wc_aload_n X 121 0 dX11_mended_121 rfl ?_
                refine wc_get X 122 0 6 kd11 rfl (by decide) q_771 rfl dX11_mended_122 ?_
                refine wc_iload_n X 125 1 dX11_mended_125 rfl ?_
                refine wc_iload X 126 8 dX11_mended_126 rfl ?_
                refine wc_iload X 128 9 dX11_mended_128 rfl ?_
                refine wc_callS X 130 [] (c_X11_at l G 1 (mdI (p 1) k) (mdC (p 1) k) (by decide) (by omega) hmd.2.1 hmd.2.2.1) ys_X11_at rfl q_896 ⟨rfl, rfl⟩ ⟨rfl, rfl⟩ ⟨rfl, rfl⟩ rfl rfl rfl dX11_mended_130 ?_
                refine wc_dup2 X 133 dX11_mended_133 rfl rfl ?_
                refine wc_ialdG X 134 2 rfl (atN_lt (by omega) hmd.2.2.1) (by decide) dX11_mended_134 ?_
                refine wc_iconstN X 135 1 dX11_mended_135 ?_
                refine wc_iload X 136 10 dX11_mended_136 rfl ?_
                refine wc_shl1 X 138 dX11_mended_138 (by omega) ?_
                refine wc_ixorN X 139 dX11_mended_139 ?_
                refine wc_iastG X Y 140 2 rfl (atN_lt (by omega) hmd.2.2.1) (by decide) (ws' := [ob o 11 [.int (nI 0), .ref qtx, .int (nI ts), .int (nI pl), .ref qrp, .ref qpg, .ref qtr, .ref qbk, .int (nI dn), .ref qkp, .ref qik, .int (nI sn), .ref qsw, .ref qsi, .long sd, .ref qln, .ref qfm, .ref qby, .ref qwy, .int (nI z9), .ref qfo, .ref qon, .ref qmn, .ref qpr, .ref qle, .ref qst, .ref qwt, .int (nI rc), .int (nI tk), .int (nI ps), .int (nI gn), .int bd, .ref qwo], aI G qpg 22 (nF p), aI G qtr 22 (nF (up p (atN 1 (mdI (p 1) k) (mdC (p 1) k)) ((p (atN 1 (mdI (p 1) k) (mdC (p 1) k))) ^^^ (2 ^ (mdT (p 1) k))))), aI G qln 512 (nF l9), aI G qfm 512 m9, aI G qby 512 (nF b9), aI G qwy 512 (nF y9)]) rfl dX11_mended_140 ?_
                refine wc_ws (ws' := [ob o 11 [.int (nI 0), .ref qtx, .int (nI ts), .int (nI pl), .ref qrp, .ref qpg, .ref qtr, .ref qbk, .int (nI dn), .ref qkp, .ref qik, .int (nI sn), .ref qsw, .ref qsi, .long sd, .ref qln, .ref qfm, .ref qby, .ref qwy, .int (nI z9), .ref qfo, .ref qon, .ref qmn, .ref qpr, .ref qle, .ref qst, .ref qwt, .int (nI rc), .int (nI tk), .int (nI ps), .int (nI gn), .int bd, .ref qwo], aI G qpg 22 (nF p), aI G qtr 22 (nF (flE p 1 (mdI (p 1) k) (mdC (p 1) k) (mdT (p 1) k))), aI G qln 512 (nF l9), aI G qfm 512 m9, aI G qby 512 (nF b9), aI G qwy 512 (nF y9)]) (rfl) ?_
                refine wc_aload_n X 141 0 dX11_mended_141 rfl ?_
                refine wc_get X 142 0 5 kd11 rfl (by decide) q_770 rfl dX11_mended_142 ?_
                refine wc_iload_n X 145 1 dX11_mended_145 rfl ?_
                refine wc_iload X 146 8 dX11_mended_146 rfl ?_
                refine wc_iload X 148 9 dX11_mended_148 rfl ?_
                refine wc_callS X 150 [] (c_X11_at l G 1 (mdI (p 1) k) (mdC (p 1) k) (by decide) (by omega) hmd.2.1 hmd.2.2.1) ys_X11_at rfl q_896 ⟨rfl, rfl⟩ ⟨rfl, rfl⟩ ⟨rfl, rfl⟩ rfl rfl rfl dX11_mended_150 ?_
                refine wc_ialdG X 153 1 rfl (atN_lt (by omega) hmd.2.2.1) (by decide) dX11_mended_153 ?_
                refine wc_topi (nI (go p (mdI (p 1) k * 2 + mdC (p 1) k - 1))) (congrArg nI (atN_mG (m := 1) (by decide) hr.2.1 hmd.1 hmd.2.1 hmd.2.2.1)) ?_
                refine wc_iload X 154 10 dX11_mended_154 rfl ?_
                refine wc_callS X 156 [] (c_X11_has l G (go p (mdI (p 1) k * 2 + mdC (p 1) k - 1)) (mdT (p 1) k) (Nat.lt_trans (mG_lt (m := 1) hr.2.2.2.2.1 _) (by decide)) (by omega)) ys_X11_has rfl q_916 ⟨rfl, rfl⟩ ⟨rfl, rfl⟩ ⟨rfl, rfl⟩ rfl rfl rfl dX11_mended_156 ?_
                refine wc_iload_n X 159 1 dX11_mended_159 rfl ?_
                refine wc_if_neN X 160 167 dX11_mended_160 (by decide) (by decide) (fun c160_18 => ?_) (fun c160_18 => ?_)
                ·
                  refine wc_iconstN X 167 0 dX11_mended_167 ?_
                  refine wc_st (st' := [.int (b2i false), .int (b2i (Nat.testBit (go p (mdI (p 1) k * 2 + mdC (p 1) k - 1)) (mdT (p 1) k)))]) rfl ?_
                  refine wc_icmp_neB X 168 175 dX11_mended_168 (by decide) (fun c168_19 => ?_) (fun c168_19 => ?_)
                  ·
                    refine wc_iconstN X 175 0 dX11_mended_175 ?_
                    refine wc_istore X 176 (L' := [(0, .ref o), (1, .int (nI 1)), (2, .int (nI 0)), (3, .int (nI n3)), (4, .int fs), (5, .int (nI 1)), (6, .int (nI (p 1))), (7, .int (nI k)), (8, .int (nI (mdI (p 1) k))), (9, .int (nI (mdC (p 1) k))), (10, .int (nI (mdT (p 1) k))), (11, .int (nI 0))]) dX11_mended_176 (by decide) rfl ?_
                    refine wc_iload X 178 11 dX11_mended_178 rfl ?_
                    refine wc_if_eqN X 180 213 dX11_mended_180 (by decide) (by decide) (fun c180_20 => ?_) (fun c180_20 => ?_)
                    ·
                      refine wc_iinc X 213 7 (L' := [(0, .ref o), (1, .int (nI 1)), (2, .int (nI 0)), (3, .int (nI n3)), (4, .int fs), (5, .int (nI 1)), (6, .int (nI (p 1))), (7, .int (nI k + (-1))), (8, .int (nI (mdI (p 1) k))), (9, .int (nI (mdC (p 1) k))), (10, .int (nI (mdT (p 1) k))), (11, .int (nI 0))]) dX11_mended_213 rfl rfl (by decide) rfl ?_
                      refine wc_goto X 216 73 dX11_mended_216 (by decide) ?_
                      have hno : mB p 1 k = false := by unfold mB; rw [mEd_1, show Nat.testBit (go p (mdI (p 1) k * 2 + mdC (p 1) k - 1)) (mdT (p 1) k) = true by simpa using c168_19]; rfl
                      refine wc_loc [0, 1, 2, 3, 4, 5, 6, 7] (L' := [(0, .ref o), (1, .int (nI 1)), (2, .int (nI 0)), (3, .int (nI n3)), (4, .int fs), (5, .int (nI 1)), (6, .int (nI (p 1))), (7, .int (nI k + (-1)))]) rfl ?_
                      have e_21 : (nI k + (-1)) = nI k - 1 := by rw [Int32.sub_eq_add_neg]
                      refine wc_L (L' := [(0, .ref o), (1, .int (nI 1)), (2, .int (nI 0)), (3, .int (nI n3)), (4, .int fs), (5, .int (nI 1)), (6, .int (nI (p 1))), (7, .int (nI k - 1))]) (by first | (rw [e_21]; done) | (rw [e_21]; rfl) | (rw [← e_21]; done) | rfl) ?_
                      exact ih_12 k n3 fs (flE p 1 (mdI (p 1) k) (mdC (p 1) k) (mdT (p 1) k)) z9 l9 m9 b9 y9 (by omega) (by have := cnt_no (f := mB p 1) (K := k) rfl hno; omega) (DS_no hds hno) (by omega)
                    ·
                      exact absurd c180_20 (by decide)
                  ·
                    refine wc_iconstN X 171 1 dX11_mended_171 ?_
                    refine wc_goto X 172 176 dX11_mended_172 (by decide) ?_
                    refine wc_istore X 176 (L' := [(0, .ref o), (1, .int (nI 1)), (2, .int (nI 0)), (3, .int (nI n3)), (4, .int fs), (5, .int (nI 1)), (6, .int (nI (p 1))), (7, .int (nI k)), (8, .int (nI (mdI (p 1) k))), (9, .int (nI (mdC (p 1) k))), (10, .int (nI (mdT (p 1) k))), (11, .int (nI 1))]) dX11_mended_176 (by decide) rfl ?_
                    refine wc_iload X 178 11 dX11_mended_178 rfl ?_
                    refine wc_if_eqN X 180 213 dX11_mended_180 (by decide) (by decide) (fun c180_22 => ?_) (fun c180_22 => ?_)
                    ·
                      exact absurd c180_22 (by decide)
                    ·
                      refine wc_aload_n X 183 0 dX11_mended_183 rfl ?_
                      refine wc_aload_n X 184 0 dX11_mended_184 rfl ?_
                      refine wc_get X 185 0 6 kd11 rfl (by decide) q_771 rfl dX11_mended_185 ?_
                      refine wc_mutV X Y 188 [0, 2, 3, 4, 5, 6] [1] 0 (c_X11_isWithin l G o (nI 0) qtx ts pl qrp qpg qtr qbk dn qkp qik sn qsw qsi sd qln qfm qby qwy z9 qfo qon qmn qpr qle qst qwt rc tk ps gn bd qwo qtr (flE p 1 (mdI (p 1) k) (mdC (p 1) k) (mdT (p 1) k)) l9 m9 b9 y9 hz) yv_X11_isWithin kd11 rfl rfl (wr := [aI G qpg 22 (nF p)]) rfl ⟨rfl, rfl, rfl⟩ q_1005 ⟨rfl, rfl⟩ ⟨rfl, rfl⟩ ⟨rfl, rfl⟩ rfl rfl rfl dX11_mended_188 (fun v w hp_23 => ?_)
                      obtain ⟨wz2_24, ln2_25, fm2_26, bf2_27, wy2_28, rfl, rfl⟩ := hp_23
                      refine wc_perm Y [1, 0, 2, 3, 4, 5, 6] [ob o 11 [.int (nI 0), .ref qtx, .int (nI ts), .int (nI pl), .ref qrp, .ref qpg, .ref qtr, .ref qbk, .int (nI dn), .ref qkp, .ref qik, .int (nI sn), .ref qsw, .ref qsi, .long sd, .ref qln, .ref qfm, .ref qby, .ref qwy, .int (nI wz2_24), .ref qfo, .ref qon, .ref qmn, .ref qpr, .ref qle, .ref qst, .ref qwt, .int (nI rc), .int (nI tk), .int (nI ps), .int (nI gn), .int bd, .ref qwo], aI G qpg 22 (nF p), aI G qtr 22 (nF (flE p 1 (mdI (p 1) k) (mdC (p 1) k) (mdT (p 1) k))), aI G qln 512 (nF ln2_25), aI G qfm 512 fm2_26, aI G qby 512 (nF bf2_27), aI G qwy 512 (nF wy2_28)] rfl rfl ?_
                      show Wc Γ 0 0 191 [(0, .ref o), (1, .int (nI 1)), (2, .int (nI 0)), (3, .int (nI n3)), (4, .int fs), (5, .int (nI 1)), (6, .int (nI (p 1))), (7, .int (nI k)), (8, .int (nI (mdI (p 1) k))), (9, .int (nI (mdC (p 1) k))), (10, .int (nI (mdT (p 1) k))), (11, .int (nI 1))] [.int (b2i (withB (gz (flE p 1 (mdI (p 1) k) (mdC (p 1) k) (mdT (p 1) k))) ((flE p 1 (mdI (p 1) k) (mdC (p 1) k) (mdT (p 1) k)) 0) ((flE p 1 (mdI (p 1) k) (mdC (p 1) k) (mdT (p 1) k)) 2) (go (flE p 1 (mdI (p 1) k) (mdC (p 1) k) (mdT (p 1) k))) ((flE p 1 (mdI (p 1) k) (mdC (p 1) k) (mdT (p 1) k)) 1) ((flE p 1 (mdI (p 1) k) (mdC (p 1) k) (mdT (p 1) k)) 3)))] [ob o 11 [.int (nI 0), .ref qtx, .int (nI ts), .int (nI pl), .ref qrp, .ref qpg, .ref qtr, .ref qbk, .int (nI dn), .ref qkp, .ref qik, .int (nI sn), .ref qsw, .ref qsi, .long sd, .ref qln, .ref qfm, .ref qby, .ref qwy, .int (nI wz2_24), .ref qfo, .ref qon, .ref qmn, .ref qpr, .ref qle, .ref qst, .ref qwt, .int (nI rc), .int (nI tk), .int (nI ps), .int (nI gn), .int bd, .ref qwo], aI G qpg 22 (nF p), aI G qtr 22 (nF (flE p 1 (mdI (p 1) k) (mdC (p 1) k) (mdT (p 1) k))), aI G qln 512 (nF ln2_25), aI G qfm 512 fm2_26, aI G qby 512 (nF bf2_27), aI G qwy 512 (nF wy2_28)]
                      refine wc_if_eqB X 191 213 dX11_mended_191 (by decide) (fun c191_29 => ?_) (fun c191_29 => ?_)
                      ·
                        refine wc_iinc X 213 7 (L' := [(0, .ref o), (1, .int (nI 1)), (2, .int (nI 0)), (3, .int (nI n3)), (4, .int fs), (5, .int (nI 1)), (6, .int (nI (p 1))), (7, .int (nI k + (-1))), (8, .int (nI (mdI (p 1) k))), (9, .int (nI (mdC (p 1) k))), (10, .int (nI (mdT (p 1) k))), (11, .int (nI 1))]) dX11_mended_213 rfl rfl (by decide) rfl ?_
                        refine wc_goto X 216 73 dX11_mended_216 (by decide) ?_
                        have hno : mB p 1 k = false := by unfold mB; rw [mEd_1, show withP _ = false from c191_29, Bool.and_false]
                        refine wc_loc [0, 1, 2, 3, 4, 5, 6, 7] (L' := [(0, .ref o), (1, .int (nI 1)), (2, .int (nI 0)), (3, .int (nI n3)), (4, .int fs), (5, .int (nI 1)), (6, .int (nI (p 1))), (7, .int (nI k + (-1)))]) rfl ?_
                        have e_30 : (nI k + (-1)) = nI k - 1 := by rw [Int32.sub_eq_add_neg]
                        refine wc_L (L' := [(0, .ref o), (1, .int (nI 1)), (2, .int (nI 0)), (3, .int (nI n3)), (4, .int fs), (5, .int (nI 1)), (6, .int (nI (p 1))), (7, .int (nI k - 1))]) (by first | (rw [e_30]; done) | (rw [e_30]; rfl) | (rw [← e_30]; done) | rfl) ?_
                        exact ih_12 k n3 fs (flE p 1 (mdI (p 1) k) (mdC (p 1) k) (mdT (p 1) k)) wz2_24 ln2_25 fm2_26 bf2_27 wy2_28 (by omega) (by have := cnt_no (f := mB p 1) (K := k) rfl hno; omega) (DS_no hds hno) (by omega)
                      ·
                        refine wc_iincN X 194 3 (L' := [(0, .ref o), (1, .int (nI 1)), (2, .int (nI 0)), (3, .int (nI (n3 + 1))), (4, .int fs), (5, .int (nI 1)), (6, .int (nI (p 1))), (7, .int (nI k)), (8, .int (nI (mdI (p 1) k))), (9, .int (nI (mdC (p 1) k))), (10, .int (nI (mdT (p 1) k))), (11, .int (nI 1))]) dX11_mended_194 rfl (by decide) rfl ?_
                        refine wc_bipush X 197 (nI 100) dX11_mended_197 (by decide) ?_
                        refine wc_iload X 199 8 dX11_mended_199 rfl ?_
                        refine wc_imulN X 201 dX11_mended_201 ?_
                        refine wc_bipush X 202 (nI 10) dX11_mended_202 (by decide) ?_
                        refine wc_iload X 204 9 dX11_mended_204 rfl ?_
                        refine wc_imulN X 206 dX11_mended_206 ?_
                        refine wc_iaddN X 207 dX11_mended_207 ?_
                        refine wc_iload X 208 10 dX11_mended_208 rfl ?_
                        refine wc_iaddN X 210 dX11_mended_210 ?_
                        refine wc_istore X 211 (L' := [(0, .ref o), (1, .int (nI 1)), (2, .int (nI 0)), (3, .int (nI (n3 + 1))), (4, .int (nI (((100 * (mdI (p 1) k)) + (10 * (mdC (p 1) k))) + (mdT (p 1) k)))), (5, .int (nI 1)), (6, .int (nI (p 1))), (7, .int (nI k)), (8, .int (nI (mdI (p 1) k))), (9, .int (nI (mdC (p 1) k))), (10, .int (nI (mdT (p 1) k))), (11, .int (nI 1))]) dX11_mended_211 (by decide) rfl ?_
                        refine wc_iinc X 213 7 (L' := [(0, .ref o), (1, .int (nI 1)), (2, .int (nI 0)), (3, .int (nI (n3 + 1))), (4, .int (nI (((100 * (mdI (p 1) k)) + (10 * (mdC (p 1) k))) + (mdT (p 1) k)))), (5, .int (nI 1)), (6, .int (nI (p 1))), (7, .int (nI k + (-1))), (8, .int (nI (mdI (p 1) k))), (9, .int (nI (mdC (p 1) k))), (10, .int (nI (mdT (p 1) k))), (11, .int (nI 1))]) dX11_mended_213 rfl rfl (by decide) rfl ?_
                        refine wc_goto X 216 73 dX11_mended_216 (by decide) ?_
                        have hye : mB p 1 k = true := by unfold mB; rw [mEd_1, show _ = _ from c168_19, show withP _ = true from c191_29]; rfl
                        refine wc_loc [0, 1, 2, 3, 4, 5, 6, 7] (L' := [(0, .ref o), (1, .int (nI 1)), (2, .int (nI 0)), (3, .int (nI (n3 + 1))), (4, .int (nI (((100 * (mdI (p 1) k)) + (10 * (mdC (p 1) k))) + (mdT (p 1) k)))), (5, .int (nI 1)), (6, .int (nI (p 1))), (7, .int (nI k + (-1)))]) rfl ?_
                        have e_31 : (.int (nI (((100 * (mdI (p 1) k)) + (10 * (mdC (p 1) k))) + (mdT (p 1) k))) : Value) = .int (nI (mCd (p 1) k)) := rfl
                        have e_32 : (nI k + (-1)) = nI k - 1 := by rw [Int32.sub_eq_add_neg]
                        refine wc_L (L' := [(0, .ref o), (1, .int (nI 1)), (2, .int (nI 0)), (3, .int (nI (n3 + 1))), (4, .int (nI (mCd (p 1) k))), (5, .int (nI 1)), (6, .int (nI (p 1))), (7, .int (nI k - 1))]) (by first | (rw [e_31, e_32]; done) | (rw [e_31, e_32]; rfl) | (rw [← e_31, ← e_32]; done) | rfl) ?_
                        exact ih_12 k (n3 + 1) (nI (mCd (p 1) k)) (flE p 1 (mdI (p 1) k) (mdC (p 1) k) (mdT (p 1) k)) wz2_24 ln2_25 fm2_26 bf2_27 wy2_28 (by omega) (by have := cnt_ye (f := mB p 1) (K := k) rfl hye; omega) (DS_ye (by omega) hye) (by omega)
                ·
                  exact absurd c160_18 (by decide)
        have e_33 : (nI ((2 * (p 1)) * (p 1))) - (1) = nI (2 * p 1 * p 1) - 1 := rfl
        refine wc_L (L' := [(0, .ref o), (1, .int (nI 1)), (2, .int (nI 0)), (3, .int (nI 0)), (4, .int (-9)), (5, .int (nI 1)), (6, .int (nI (p 1))), (7, .int (nI (2 * p 1 * p 1) - 1))]) (by first | (rw [e_33]; done) | (rw [e_33]; rfl) | (rw [← e_33]; done) | rfl) ?_
        exact LP_11 ((2 * p 1 * p 1) + 1) (2 * p 1 * p 1) 0 (-9) tr wz2_4 ln2_5 fm2_6 bf2_7 wy2_8 (Nat.le_refl _) (Nat.zero_add _) DS_0 (Nat.lt_succ_self _)
    ·
      exact absurd c24_2 (by decide)
  ·
    exact absurd c12_1 (by decide)

set_option maxHeartbeats 4000000 in
set_option maxRecDepth 100000 in
theorem c_X11_mendedW11 (l : Launch) (G : GG) (o : Nat) (th : Int32) (qtx ts pl qrp qpg qtr qbk dn qkp qik sn qsw qsi : Nat) (sd : Int64) (qln qfm qby qwy wz qfo qon qmn qpr qle qst qwt rc tk ps gn : Nat) (bd : Int32) (qwo : Nat) (p : Nat → Nat) (tr : Nat → Nat) (ln0 : Nat → Nat) (fm0 : Nat → Int32) (bf0 wy0 : Nat → Nat) (hr : pgOk p) (hw : withP p = true) : MM l G yX11_mended (Cond.code yX11_mended cX11_mended 12 (some .int)) { frames := 5, cells := 0, slots := 0, locals := 117 } [.ref o, .int (nI 1), .int (nI 1)] [ob o 11 [.int th, .ref qtx, .int (nI ts), .int (nI pl), .ref qrp, .ref qpg, .ref qtr, .ref qbk, .int (nI dn), .ref qkp, .ref qik, .int (nI sn), .ref qsw, .ref qsi, .long sd, .ref qln, .ref qfm, .ref qby, .ref qwy, .int (nI wz), .ref qfo, .ref qon, .ref qmn, .ref qpr, .ref qle, .ref qst, .ref qwt, .int (nI rc), .int (nI tk), .int (nI ps), .int (nI gn), .int bd, .ref qwo], aI G qpg 22 (nF p), aI G qtr 22 (nF tr), aI G qln 512 (nF ln0), aI G qfm 512 fm0, aI G qby 512 (nF bf0), aI G qwy 512 (nF wy0)] (fun (v : Option Value) (w : va_W) => ∃ (tr2 : Nat → Nat) (wz2 : Nat) (ln2 : Nat → Nat) (fm2 : Nat → Int32) (bf2 wy2 : Nat → Nat), v = some (.int (-9)) ∧ w = [ob o 11 [.int (nI 0), .ref qtx, .int (nI ts), .int (nI pl), .ref qrp, .ref qpg, .ref qtr, .ref qbk, .int (nI dn), .ref qkp, .ref qik, .int (nI sn), .ref qsw, .ref qsi, .long sd, .ref qln, .ref qfm, .ref qby, .ref qwy, .int (nI wz2), .ref qfo, .ref qon, .ref qmn, .ref qpr, .ref qle, .ref qst, .ref qwt, .int (nI rc), .int (nI tk), .int (nI ps), .int (nI gn), .int bd, .ref qwo], aI G qpg 22 (nF p), aI G qtr 22 (nF tr2), aI G qln 512 (nF ln2), aI G qfm 512 fm2, aI G qby 512 (nF bf2), aI G qwy 512 (nF wy2)]) 0 0 := by
  refine MM.ofI (by decide) rfl (fun Γ X Y hnm ret => ?_)
  show Wc Γ 0 0 0 [(0, .ref o), (1, .int (nI 1)), (2, .int (nI 1))] [] [ob o 11 [.int th, .ref qtx, .int (nI ts), .int (nI pl), .ref qrp, .ref qpg, .ref qtr, .ref qbk, .int (nI dn), .ref qkp, .ref qik, .int (nI sn), .ref qsw, .ref qsi, .long sd, .ref qln, .ref qfm, .ref qby, .ref qwy, .int (nI wz), .ref qfo, .ref qon, .ref qmn, .ref qpr, .ref qle, .ref qst, .ref qwt, .int (nI rc), .int (nI tk), .int (nI ps), .int (nI gn), .int bd, .ref qwo], aI G qpg 22 (nF p), aI G qtr 22 (nF tr), aI G qln 512 (nF ln0), aI G qfm 512 fm0, aI G qby 512 (nF bf0), aI G qwy 512 (nF wy0)]
  refine wc_aload_n X 0 0 dX11_mended_0 rfl ?_
  refine wc_iconstN X 1 0 dX11_mended_1 ?_
  refine wc_put X Y 2 0 0 kd11 rfl (by decide) q_765 rfl rfl rfl (Nat.le_of_ble_eq_true rfl) (ws' := [ob o 11 [.int (nI 0), .ref qtx, .int (nI ts), .int (nI pl), .ref qrp, .ref qpg, .ref qtr, .ref qbk, .int (nI dn), .ref qkp, .ref qik, .int (nI sn), .ref qsw, .ref qsi, .long sd, .ref qln, .ref qfm, .ref qby, .ref qwy, .int (nI wz), .ref qfo, .ref qon, .ref qmn, .ref qpr, .ref qle, .ref qst, .ref qwt, .int (nI rc), .int (nI tk), .int (nI ps), .int (nI gn), .int bd, .ref qwo], aI G qpg 22 (nF p), aI G qtr 22 (nF tr), aI G qln 512 (nF ln0), aI G qfm 512 fm0, aI G qby 512 (nF bf0), aI G qwy 512 (nF wy0)]) rfl dX11_mended_2 ?_
  refine wc_iload_n X 5 1 dX11_mended_5 rfl ?_
  refine wc_i2l X 6 dX11_mended_6 ?_
  refine wc_lconst X 7 0 dX11_mended_7 (by decide) ?_
  refine wc_lconst X 8 1 dX11_mended_8 (by decide) ?_
  refine wc_callS X 9 [] (c_X11_in l G ((nI 1).toInt64) 0 1 ) ys_X11_in rfl q_870 ⟨rfl, rfl⟩ ⟨rfl, rfl⟩ ⟨rfl, rfl⟩ rfl rfl rfl dX11_mended_9 ?_
  refine wc_topi (b2i true) (by decide) ?_
  refine wc_if_neB X 12 17 dX11_mended_12 (by decide) (fun c12_1 => ?_) (fun c12_1 => ?_)
  ·
    refine wc_iload_n X 17 2 dX11_mended_17 rfl ?_
    refine wc_i2l X 18 dX11_mended_18 ?_
    refine wc_lconst X 19 0 dX11_mended_19 (by decide) ?_
    refine wc_lconst X 20 1 dX11_mended_20 (by decide) ?_
    refine wc_callS X 21 [] (c_X11_in l G ((nI 1).toInt64) 0 1 ) ys_X11_in rfl q_870 ⟨rfl, rfl⟩ ⟨rfl, rfl⟩ ⟨rfl, rfl⟩ rfl rfl rfl dX11_mended_21 ?_
    refine wc_topi (b2i true) (by decide) ?_
    refine wc_if_neB X 24 30 dX11_mended_24 (by decide) (fun c24_2 => ?_) (fun c24_2 => ?_)
    ·
      refine wc_iconstN X 30 0 dX11_mended_30 ?_
      refine wc_istore_n X 31 (L' := [(0, .ref o), (1, .int (nI 1)), (2, .int (nI 1)), (3, .int (nI 0))]) dX11_mended_31 (by decide) rfl ?_
      refine wc_bipush X 32 (-9) dX11_mended_32 (by decide) ?_
      refine wc_istore X 34 (L' := [(0, .ref o), (1, .int (nI 1)), (2, .int (nI 1)), (3, .int (nI 0)), (4, .int (-9))]) dX11_mended_34 (by decide) rfl ?_
      refine wc_aload_n X 36 0 dX11_mended_36 rfl ?_
      refine wc_aload_n X 37 0 dX11_mended_37 rfl ?_
      refine wc_get X 38 0 5 kd11 rfl (by decide) q_770 rfl dX11_mended_38 ?_
      refine wc_mutV X Y 41 [0, 1, 3, 4, 5, 6] [2] 0 (c_X11_isWithin l G o (nI 0) qtx ts pl qrp qpg qtr qbk dn qkp qik sn qsw qsi sd qln qfm qby qwy wz qfo qon qmn qpr qle qst qwt rc tk ps gn bd qwo qpg p ln0 fm0 bf0 wy0 (by first | assumption | omega)) yv_X11_isWithin kd11 rfl rfl (wr := [aI G qtr 22 (nF tr)]) rfl ⟨rfl, rfl, rfl⟩ q_1005 ⟨rfl, rfl⟩ ⟨rfl, rfl⟩ ⟨rfl, rfl⟩ rfl rfl rfl dX11_mended_41 (fun v w hp_3 => ?_)
      obtain ⟨wz2_4, ln2_5, fm2_6, bf2_7, wy2_8, rfl, rfl⟩ := hp_3
      refine wc_perm Y [1, 2, 0, 3, 4, 5, 6] [ob o 11 [.int (nI 0), .ref qtx, .int (nI ts), .int (nI pl), .ref qrp, .ref qpg, .ref qtr, .ref qbk, .int (nI dn), .ref qkp, .ref qik, .int (nI sn), .ref qsw, .ref qsi, .long sd, .ref qln, .ref qfm, .ref qby, .ref qwy, .int (nI wz2_4), .ref qfo, .ref qon, .ref qmn, .ref qpr, .ref qle, .ref qst, .ref qwt, .int (nI rc), .int (nI tk), .int (nI ps), .int (nI gn), .int bd, .ref qwo], aI G qpg 22 (nF p), aI G qtr 22 (nF tr), aI G qln 512 (nF ln2_5), aI G qfm 512 fm2_6, aI G qby 512 (nF bf2_7), aI G qwy 512 (nF wy2_8)] rfl rfl ?_
      show Wc Γ 0 0 44 [(0, .ref o), (1, .int (nI 1)), (2, .int (nI 1)), (3, .int (nI 0)), (4, .int (-9))] [.int (b2i (withB (gz p) (p 0) (p 2) (go p) (p 1) (p 3)))] [ob o 11 [.int (nI 0), .ref qtx, .int (nI ts), .int (nI pl), .ref qrp, .ref qpg, .ref qtr, .ref qbk, .int (nI dn), .ref qkp, .ref qik, .int (nI sn), .ref qsw, .ref qsi, .long sd, .ref qln, .ref qfm, .ref qby, .ref qwy, .int (nI wz2_4), .ref qfo, .ref qon, .ref qmn, .ref qpr, .ref qle, .ref qst, .ref qwt, .int (nI rc), .int (nI tk), .int (nI ps), .int (nI gn), .int bd, .ref qwo], aI G qpg 22 (nF p), aI G qtr 22 (nF tr), aI G qln 512 (nF ln2_5), aI G qfm 512 fm2_6, aI G qby 512 (nF bf2_7), aI G qwy 512 (nF wy2_8)]
      refine wc_topi (b2i true) (congrArg b2i hw) ?_
      refine wc_if_neB X 44 51 dX11_mended_44 (by decide) (fun c44_9 => ?_) (fun c44_9 => ?_)
      ·
        refine wc_iconstN X 51 0 dX11_mended_51 ?_
        refine wc_istore X 52 (L' := [(0, .ref o), (1, .int (nI 1)), (2, .int (nI 1)), (3, .int (nI 0)), (4, .int (-9)), (5, .int (nI 0))]) dX11_mended_52 (by decide) rfl ?_
        refine wc_aload_n X 54 0 dX11_mended_54 rfl ?_
        refine wc_get X 55 0 5 kd11 rfl (by decide) q_770 rfl dX11_mended_55 ?_
        refine wc_iload_n X 58 1 dX11_mended_58 rfl ?_
        refine wc_ialdG X 59 1 rfl (by decide) (by decide) dX11_mended_59 ?_
        refine wc_istore X 60 (L' := [(0, .ref o), (1, .int (nI 1)), (2, .int (nI 1)), (3, .int (nI 0)), (4, .int (-9)), (5, .int (nI 0)), (6, .int (nI (p 1)))]) dX11_mended_60 (by decide) rfl ?_
        refine wc_iconstN X 62 2 dX11_mended_62 ?_
        refine wc_iload X 63 6 dX11_mended_63 rfl ?_
        refine wc_imulN X 65 dX11_mended_65 ?_
        refine wc_iload X 66 6 dX11_mended_66 rfl ?_
        refine wc_imulN X 68 dX11_mended_68 ?_
        refine wc_iconst X 69 (1) dX11_mended_69 (by decide) ?_
        refine wc_isub X 70 dX11_mended_70 ?_
        refine wc_istore X 71 (L' := [(0, .ref o), (1, .int (nI 1)), (2, .int (nI 1)), (3, .int (nI 0)), (4, .int (-9)), (5, .int (nI 0)), (6, .int (nI (p 1))), (7, .int ((nI ((2 * (p 1)) * (p 1))) - (1)))]) dX11_mended_71 (by decide) rfl ?_
        refine wc_iload X 73 7 dX11_mended_73 rfl ?_
        refine wc_if_lt X 75 219 dX11_mended_75 (by decide) (fun c75_10 => ?_) (fun c75_10 => ?_)
        ·
          refine wc_iload_n X 219 2 dX11_mended_219 rfl ?_
          refine wc_if_neN X 220 227 dX11_mended_220 (by decide) (by decide) (fun c220_11 => ?_) (fun c220_11 => ?_)
          ·
            refine wc_iload X 227 4 dX11_mended_227 rfl ?_
            exact ret 229 _ (-9) _ dX11_mended_229 (⟨_, _, _, _, _, _, rfl, rfl⟩)
          ·
            exact absurd c220_11 (by decide)
        ·
          refine wc_iload X 78 5 dX11_mended_78 rfl ?_
          refine wc_if_eqN X 80 219 dX11_mended_80 (by decide) (by decide) (fun c80_12 => ?_) (fun c80_12 => ?_)
          ·
            refine wc_iload_n X 219 2 dX11_mended_219 rfl ?_
            refine wc_if_neN X 220 227 dX11_mended_220 (by decide) (by decide) (fun c220_13 => ?_) (fun c220_13 => ?_)
            ·
              refine wc_iload X 227 4 dX11_mended_227 rfl ?_
              exact ret 229 _ (-9) _ dX11_mended_229 (⟨_, _, _, _, _, _, rfl, rfl⟩)
            ·
              exact absurd c220_13 (by decide)
          ·
            exact absurd c80_12 (by decide)
      ·
        exact absurd c44_9 (by decide)
    ·
      exact absurd c24_2 (by decide)
  ·
    exact absurd c12_1 (by decide)

set_option maxHeartbeats 4000000 in
set_option maxRecDepth 100000 in
theorem c_X11_mendedS11 (l : Launch) (G : GG) (o : Nat) (th : Int32) (qtx ts pl qrp qpg qtr qbk dn qkp qik sn qsw qsi : Nat) (sd : Int64) (qln qfm qby qwy wz qfo qon qmn qpr qle qst qwt rc tk ps gn : Nat) (bd : Int32) (qwo : Nat) (p : Nat → Nat) (tr : Nat → Nat) (ln0 : Nat → Nat) (fm0 : Nat → Int32) (bf0 wy0 : Nat → Nat) (hr : pgOk p) (hw : withP p = false) : MM l G yX11_mended (Cond.code yX11_mended cX11_mended 12 (some .int)) { frames := 5, cells := 0, slots := 0, locals := 117 } [.ref o, .int (nI 1), .int (nI 1)] [ob o 11 [.int th, .ref qtx, .int (nI ts), .int (nI pl), .ref qrp, .ref qpg, .ref qtr, .ref qbk, .int (nI dn), .ref qkp, .ref qik, .int (nI sn), .ref qsw, .ref qsi, .long sd, .ref qln, .ref qfm, .ref qby, .ref qwy, .int (nI wz), .ref qfo, .ref qon, .ref qmn, .ref qpr, .ref qle, .ref qst, .ref qwt, .int (nI rc), .int (nI tk), .int (nI ps), .int (nI gn), .int bd, .ref qwo], aI G qpg 22 (nF p), aI G qtr 22 (nF tr), aI G qln 512 (nF ln0), aI G qfm 512 fm0, aI G qby 512 (nF bf0), aI G qwy 512 (nF wy0)] (fun (v : Option Value) (w : va_W) => ∃ (tr2 : Nat → Nat) (wz2 : Nat) (ln2 : Nat → Nat) (fm2 : Nat → Int32) (bf2 wy2 : Nat → Nat), v = some (.int (fsA (mB p 1) (mCd (p 1)) (2 * p 1 * p 1))) ∧ w = [ob o 11 [.int (nI 0), .ref qtx, .int (nI ts), .int (nI pl), .ref qrp, .ref qpg, .ref qtr, .ref qbk, .int (nI dn), .ref qkp, .ref qik, .int (nI sn), .ref qsw, .ref qsi, .long sd, .ref qln, .ref qfm, .ref qby, .ref qwy, .int (nI wz2), .ref qfo, .ref qon, .ref qmn, .ref qpr, .ref qle, .ref qst, .ref qwt, .int (nI rc), .int (nI tk), .int (nI ps), .int (nI gn), .int bd, .ref qwo], aI G qpg 22 (nF p), aI G qtr 22 (nF tr2), aI G qln 512 (nF ln2), aI G qfm 512 fm2, aI G qby 512 (nF bf2), aI G qwy 512 (nF wy2)]) 0 0 := by
  refine MM.ofI (by decide) rfl (fun Γ X Y hnm ret => ?_)
  show Wc Γ 0 0 0 [(0, .ref o), (1, .int (nI 1)), (2, .int (nI 1))] [] [ob o 11 [.int th, .ref qtx, .int (nI ts), .int (nI pl), .ref qrp, .ref qpg, .ref qtr, .ref qbk, .int (nI dn), .ref qkp, .ref qik, .int (nI sn), .ref qsw, .ref qsi, .long sd, .ref qln, .ref qfm, .ref qby, .ref qwy, .int (nI wz), .ref qfo, .ref qon, .ref qmn, .ref qpr, .ref qle, .ref qst, .ref qwt, .int (nI rc), .int (nI tk), .int (nI ps), .int (nI gn), .int bd, .ref qwo], aI G qpg 22 (nF p), aI G qtr 22 (nF tr), aI G qln 512 (nF ln0), aI G qfm 512 fm0, aI G qby 512 (nF bf0), aI G qwy 512 (nF wy0)]
  have hbm := pgOk_m hr (show 1 < 2 by decide)
  have hsq := sq_lt hbm.2
  refine wc_aload_n X 0 0 dX11_mended_0 rfl ?_
  refine wc_iconstN X 1 0 dX11_mended_1 ?_
  refine wc_put X Y 2 0 0 kd11 rfl (by decide) q_765 rfl rfl rfl (Nat.le_of_ble_eq_true rfl) (ws' := [ob o 11 [.int (nI 0), .ref qtx, .int (nI ts), .int (nI pl), .ref qrp, .ref qpg, .ref qtr, .ref qbk, .int (nI dn), .ref qkp, .ref qik, .int (nI sn), .ref qsw, .ref qsi, .long sd, .ref qln, .ref qfm, .ref qby, .ref qwy, .int (nI wz), .ref qfo, .ref qon, .ref qmn, .ref qpr, .ref qle, .ref qst, .ref qwt, .int (nI rc), .int (nI tk), .int (nI ps), .int (nI gn), .int bd, .ref qwo], aI G qpg 22 (nF p), aI G qtr 22 (nF tr), aI G qln 512 (nF ln0), aI G qfm 512 fm0, aI G qby 512 (nF bf0), aI G qwy 512 (nF wy0)]) rfl dX11_mended_2 ?_
  refine wc_iload_n X 5 1 dX11_mended_5 rfl ?_
  refine wc_i2l X 6 dX11_mended_6 ?_
  refine wc_lconst X 7 0 dX11_mended_7 (by decide) ?_
  refine wc_lconst X 8 1 dX11_mended_8 (by decide) ?_
  refine wc_callS X 9 [] (c_X11_in l G ((nI 1).toInt64) 0 1 ) ys_X11_in rfl q_870 ⟨rfl, rfl⟩ ⟨rfl, rfl⟩ ⟨rfl, rfl⟩ rfl rfl rfl dX11_mended_9 ?_
  refine wc_topi (b2i true) (by decide) ?_
  refine wc_if_neB X 12 17 dX11_mended_12 (by decide) (fun c12_1 => ?_) (fun c12_1 => ?_)
  ·
    refine wc_iload_n X 17 2 dX11_mended_17 rfl ?_
    refine wc_i2l X 18 dX11_mended_18 ?_
    refine wc_lconst X 19 0 dX11_mended_19 (by decide) ?_
    refine wc_lconst X 20 1 dX11_mended_20 (by decide) ?_
    refine wc_callS X 21 [] (c_X11_in l G ((nI 1).toInt64) 0 1 ) ys_X11_in rfl q_870 ⟨rfl, rfl⟩ ⟨rfl, rfl⟩ ⟨rfl, rfl⟩ rfl rfl rfl dX11_mended_21 ?_
    refine wc_topi (b2i true) (by decide) ?_
    refine wc_if_neB X 24 30 dX11_mended_24 (by decide) (fun c24_2 => ?_) (fun c24_2 => ?_)
    ·
      refine wc_iconstN X 30 0 dX11_mended_30 ?_
      refine wc_istore_n X 31 (L' := [(0, .ref o), (1, .int (nI 1)), (2, .int (nI 1)), (3, .int (nI 0))]) dX11_mended_31 (by decide) rfl ?_
      refine wc_bipush X 32 (-9) dX11_mended_32 (by decide) ?_
      refine wc_istore X 34 (L' := [(0, .ref o), (1, .int (nI 1)), (2, .int (nI 1)), (3, .int (nI 0)), (4, .int (-9))]) dX11_mended_34 (by decide) rfl ?_
      refine wc_aload_n X 36 0 dX11_mended_36 rfl ?_
      refine wc_aload_n X 37 0 dX11_mended_37 rfl ?_
      refine wc_get X 38 0 5 kd11 rfl (by decide) q_770 rfl dX11_mended_38 ?_
      refine wc_mutV X Y 41 [0, 1, 3, 4, 5, 6] [2] 0 (c_X11_isWithin l G o (nI 0) qtx ts pl qrp qpg qtr qbk dn qkp qik sn qsw qsi sd qln qfm qby qwy wz qfo qon qmn qpr qle qst qwt rc tk ps gn bd qwo qpg p ln0 fm0 bf0 wy0 (by first | assumption | omega)) yv_X11_isWithin kd11 rfl rfl (wr := [aI G qtr 22 (nF tr)]) rfl ⟨rfl, rfl, rfl⟩ q_1005 ⟨rfl, rfl⟩ ⟨rfl, rfl⟩ ⟨rfl, rfl⟩ rfl rfl rfl dX11_mended_41 (fun v w hp_3 => ?_)
      obtain ⟨wz2_4, ln2_5, fm2_6, bf2_7, wy2_8, rfl, rfl⟩ := hp_3
      refine wc_perm Y [1, 2, 0, 3, 4, 5, 6] [ob o 11 [.int (nI 0), .ref qtx, .int (nI ts), .int (nI pl), .ref qrp, .ref qpg, .ref qtr, .ref qbk, .int (nI dn), .ref qkp, .ref qik, .int (nI sn), .ref qsw, .ref qsi, .long sd, .ref qln, .ref qfm, .ref qby, .ref qwy, .int (nI wz2_4), .ref qfo, .ref qon, .ref qmn, .ref qpr, .ref qle, .ref qst, .ref qwt, .int (nI rc), .int (nI tk), .int (nI ps), .int (nI gn), .int bd, .ref qwo], aI G qpg 22 (nF p), aI G qtr 22 (nF tr), aI G qln 512 (nF ln2_5), aI G qfm 512 fm2_6, aI G qby 512 (nF bf2_7), aI G qwy 512 (nF wy2_8)] rfl rfl ?_
      show Wc Γ 0 0 44 [(0, .ref o), (1, .int (nI 1)), (2, .int (nI 1)), (3, .int (nI 0)), (4, .int (-9))] [.int (b2i (withB (gz p) (p 0) (p 2) (go p) (p 1) (p 3)))] [ob o 11 [.int (nI 0), .ref qtx, .int (nI ts), .int (nI pl), .ref qrp, .ref qpg, .ref qtr, .ref qbk, .int (nI dn), .ref qkp, .ref qik, .int (nI sn), .ref qsw, .ref qsi, .long sd, .ref qln, .ref qfm, .ref qby, .ref qwy, .int (nI wz2_4), .ref qfo, .ref qon, .ref qmn, .ref qpr, .ref qle, .ref qst, .ref qwt, .int (nI rc), .int (nI tk), .int (nI ps), .int (nI gn), .int bd, .ref qwo], aI G qpg 22 (nF p), aI G qtr 22 (nF tr), aI G qln 512 (nF ln2_5), aI G qfm 512 fm2_6, aI G qby 512 (nF bf2_7), aI G qwy 512 (nF wy2_8)]
      refine wc_topi (b2i false) (congrArg b2i hw) ?_
      refine wc_if_neB X 44 51 dX11_mended_44 (by decide) (fun c44_9 => ?_) (fun c44_9 => ?_)
      ·
        exact absurd c44_9 (by decide)
      ·
        refine wc_iconstN X 47 1 dX11_mended_47 ?_
        refine wc_goto X 48 52 dX11_mended_48 (by decide) ?_
        refine wc_istore X 52 (L' := [(0, .ref o), (1, .int (nI 1)), (2, .int (nI 1)), (3, .int (nI 0)), (4, .int (-9)), (5, .int (nI 1))]) dX11_mended_52 (by decide) rfl ?_
        refine wc_aload_n X 54 0 dX11_mended_54 rfl ?_
        refine wc_get X 55 0 5 kd11 rfl (by decide) q_770 rfl dX11_mended_55 ?_
        refine wc_iload_n X 58 1 dX11_mended_58 rfl ?_
        refine wc_ialdG X 59 1 rfl (by decide) (by decide) dX11_mended_59 ?_
        refine wc_istore X 60 (L' := [(0, .ref o), (1, .int (nI 1)), (2, .int (nI 1)), (3, .int (nI 0)), (4, .int (-9)), (5, .int (nI 1)), (6, .int (nI (p 1)))]) dX11_mended_60 (by decide) rfl ?_
        refine wc_iconstN X 62 2 dX11_mended_62 ?_
        refine wc_iload X 63 6 dX11_mended_63 rfl ?_
        refine wc_imulN X 65 dX11_mended_65 ?_
        refine wc_iload X 66 6 dX11_mended_66 rfl ?_
        refine wc_imulN X 68 dX11_mended_68 ?_
        refine wc_iconst X 69 (1) dX11_mended_69 (by decide) ?_
        refine wc_isub X 70 dX11_mended_70 ?_
        refine wc_istore X 71 (L' := [(0, .ref o), (1, .int (nI 1)), (2, .int (nI 1)), (3, .int (nI 0)), (4, .int (-9)), (5, .int (nI 1)), (6, .int (nI (p 1))), (7, .int ((nI ((2 * (p 1)) * (p 1))) - (1)))]) dX11_mended_71 (by decide) rfl ?_
        have LP_11 : ∀ (fuel_10 : Nat) (K : Nat) (n3 : Nat) (fs : Int32) (t9 : Nat → Nat) (z9 : Nat) (l9 : Nat → Nat) (m9 : Nat → Int32) (b9 : Nat → Nat) (y9 : Nat → Nat), (K ≤ 2 * p 1 * p 1) → (n3 + cnt (mB p 1) K = cnt (mB p 1) (2 * p 1 * p 1)) → (DS (mB p 1) (mCd (p 1)) K (2 * p 1 * p 1) fs) → K < fuel_10 → Wc Γ 0 0 73 [(0, .ref o), (1, .int (nI 1)), (2, .int (nI 1)), (3, .int (nI n3)), (4, .int fs), (5, .int (nI 1)), (6, .int (nI (p 1))), (7, .int (nI K - 1))] [] [ob o 11 [.int (nI 0), .ref qtx, .int (nI ts), .int (nI pl), .ref qrp, .ref qpg, .ref qtr, .ref qbk, .int (nI dn), .ref qkp, .ref qik, .int (nI sn), .ref qsw, .ref qsi, .long sd, .ref qln, .ref qfm, .ref qby, .ref qwy, .int (nI z9), .ref qfo, .ref qon, .ref qmn, .ref qpr, .ref qle, .ref qst, .ref qwt, .int (nI rc), .int (nI tk), .int (nI ps), .int (nI gn), .int bd, .ref qwo], aI G qpg 22 (nF p), aI G qtr 22 (nF t9), aI G qln 512 (nF l9), aI G qfm 512 m9, aI G qby 512 (nF b9), aI G qwy 512 (nF y9)] := by
          intro fuel_10
          induction fuel_10 with
          | zero => intro K n3 fs t9 z9 l9 m9 b9 y9 hK hn3 hds hm; exact absurd hm (Nat.not_lt_zero _)
          | succ fuel_10 ih_12 =>
            intro K n3 fs t9 z9 l9 m9 b9 y9 hK hn3 hds hm_13
            refine wc_iload X 73 7 dX11_mended_73 rfl ?_
            refine wc_if_lt X 75 219 dX11_mended_75 (by decide) (fun c75_14 => ?_) (fun c75_14 => ?_)
            ·
              have hK0 := nI_m1_0 (by omega) c75_14
              refine wc_iload_n X 219 2 dX11_mended_219 rfl ?_
              refine wc_if_neN X 220 227 dX11_mended_220 (by decide) (by decide) (fun c220_15 => ?_) (fun c220_15 => ?_)
              ·
                refine wc_iload X 227 4 dX11_mended_227 rfl ?_
                exact ret 229 _ fs _ dX11_mended_229 (⟨_, _, _, _, _, _, by rw [← DS_end (by rw [hK0] at hds; exact hds)], rfl⟩)
              ·
                exact absurd c220_15 (by decide)
            ·
              obtain ⟨k, rfl⟩ := nI_m1_s c75_14
              refine wc_L (L' := [(0, .ref o), (1, .int (nI 1)), (2, .int (nI 1)), (3, .int (nI n3)), (4, .int fs), (5, .int (nI 1)), (6, .int (nI (p 1))), (7, .int (nI k))]) (by rw [nI_pred]) ?_
              have hmd := md_lt (n := p 1) (show k < 2 * p 1 * p 1 by omega)
              have hz := flE_ok (m := 1) hr (by decide) hmd.1 hmd.2.1 hmd.2.2.1 hmd.2.2.2
              refine wc_iload X 78 5 dX11_mended_78 rfl ?_
              refine wc_if_eqN X 80 219 dX11_mended_80 (by decide) (by decide) (fun c80_16 => ?_) (fun c80_16 => ?_)
              ·
                exact absurd c80_16 (by decide)
              ·
                refine wc_iload X 83 7 dX11_mended_83 rfl ?_
                refine wc_iconstN X 85 2 dX11_mended_85 ?_
                refine wc_iload X 86 6 dX11_mended_86 rfl ?_
                refine wc_imulN X 88 dX11_mended_88 ?_
                refine wc_idivN X 89 dX11_mended_89 (by omega) (by omega) (by omega) ?_
                refine wc_topi (nI (mdI (p 1) k)) (congrArg nI (rfl)) ?_
                refine wc_istore X 90 (L' := [(0, .ref o), (1, .int (nI 1)), (2, .int (nI 1)), (3, .int (nI n3)), (4, .int fs), (5, .int (nI 1)), (6, .int (nI (p 1))), (7, .int (nI k)), (8, .int (nI (mdI (p 1) k)))]) dX11_mended_90 (by decide) rfl ?_
                refine wc_iconstN X 92 1 dX11_mended_92 ?_
                refine wc_iload X 93 7 dX11_mended_93 rfl ?_
                refine wc_iload X 95 6 dX11_mended_95 rfl ?_
                refine wc_idivN X 97 dX11_mended_97 (by omega) (by omega) (by omega) ?_
                refine wc_iconstN X 98 2 dX11_mended_98 ?_
                refine wc_iremN X 99 dX11_mended_99 (Nat.lt_of_le_of_lt (Nat.div_le_self _ _) (by omega)) (by decide) (by decide) ?_
                refine wc_iaddN X 100 dX11_mended_100 ?_
                refine wc_topi (nI (mdC (p 1) k)) (congrArg nI (rfl)) ?_
                refine wc_istore X 101 (L' := [(0, .ref o), (1, .int (nI 1)), (2, .int (nI 1)), (3, .int (nI n3)), (4, .int fs), (5, .int (nI 1)), (6, .int (nI (p 1))), (7, .int (nI k)), (8, .int (nI (mdI (p 1) k))), (9, .int (nI (mdC (p 1) k)))]) dX11_mended_101 (by decide) rfl ?_
                refine wc_iload X 103 7 dX11_mended_103 rfl ?_
                refine wc_iload X 105 6 dX11_mended_105 rfl ?_
                refine wc_iremN X 107 dX11_mended_107 (by omega) (by omega) (by omega) ?_
                refine wc_topi (nI (mdT (p 1) k)) (congrArg nI (rfl)) ?_
                refine wc_istore X 108 (L' := [(0, .ref o), (1, .int (nI 1)), (2, .int (nI 1)), (3, .int (nI n3)), (4, .int fs), (5, .int (nI 1)), (6, .int (nI (p 1))), (7, .int (nI k)), (8, .int (nI (mdI (p 1) k))), (9, .int (nI (mdC (p 1) k))), (10, .int (nI (mdT (p 1) k)))]) dX11_mended_108 (by decide) rfl ?_
                refine wc_aload_n X 110 0 dX11_mended_110 rfl ?_
                refine wc_get X 111 0 6 kd11 rfl (by decide) q_771 rfl dX11_mended_111 ?_
                refine wc_aload_n X 114 0 dX11_mended_114 rfl ?_
                refine wc_get X 115 0 5 kd11 rfl (by decide) q_770 rfl dX11_mended_115 ?_
                refine wc_mutS X Y 118 [2, 1] [0, 3, 4, 5, 6] (c_X11_lay l G qtr t9 qpg p ) ys_X11_lay rfl (wr := [ob o 11 [.int (nI 0), .ref qtx, .int (nI ts), .int (nI pl), .ref qrp, .ref qpg, .ref qtr, .ref qbk, .int (nI dn), .ref qkp, .ref qik, .int (nI sn), .ref qsw, .ref qsi, .long sd, .ref qln, .ref qfm, .ref qby, .ref qwy, .int (nI z9), .ref qfo, .ref qon, .ref qmn, .ref qpr, .ref qle, .ref qst, .ref qwt, .int (nI rc), .int (nI tk), .int (nI ps), .int (nI gn), .int bd, .ref qwo], aI G qln 512 (nF l9), aI G qfm 512 m9, aI G qby 512 (nF b9), aI G qwy 512 (nF y9)]) rfl ⟨rfl, rfl, rfl⟩ q_927 ⟨rfl, rfl⟩ ⟨rfl, rfl⟩ ⟨rfl, rfl⟩ rfl rfl rfl dX11_mended_118 (fun v w hp_17 => ?_)
                obtain ⟨rfl, rfl⟩ := hp_17
                refine wc_perm Y [0, 6, 5, 1, 2, 3, 4] [ob o 11 [.int (nI 0), .ref qtx, .int (nI ts), .int (nI pl), .ref qrp, .ref qpg, .ref qtr, .ref qbk, .int (nI dn), .ref qkp, .ref qik, .int (nI sn), .ref qsw, .ref qsi, .long sd, .ref qln, .ref qfm, .ref qby, .ref qwy, .int (nI z9), .ref qfo, .ref qon, .ref qmn, .ref qpr, .ref qle, .ref qst, .ref qwt, .int (nI rc), .int (nI tk), .int (nI ps), .int (nI gn), .int bd, .ref qwo], aI G qpg 22 (nF p), aI G qtr 22 (nF p), aI G qln 512 (nF l9), aI G qfm 512 m9, aI G qby 512 (nF b9), aI G qwy 512 (nF y9)] rfl rfl ?_
                show Wc Γ 0 0 121 [(0, .ref o), (1, .int (nI 1)), (2, .int (nI 1)), (3, .int (nI n3)), (4, .int fs), (5, .int (nI 1)), (6, .int (nI (p 1))), (7, .int (nI k)), (8, .int (nI (mdI (p 1) k))), (9, .int (nI (mdC (p 1) k))), (10, .int (nI (mdT (p 1) k)))] [] [ob o 11 [.int (nI 0), .ref qtx, .int (nI ts), .int (nI pl), .ref qrp, .ref qpg, .ref qtr, .ref qbk, .int (nI dn), .ref qkp, .ref qik, .int (nI sn), .ref qsw, .ref qsi, .long sd, .ref qln, .ref qfm, .ref qby, .ref qwy, .int (nI z9), .ref qfo, .ref qon, .ref qmn, .ref qpr, .ref qle, .ref qst, .ref qwt, .int (nI rc), .int (nI tk), .int (nI ps), .int (nI gn), .int bd, .ref qwo], aI G qpg 22 (nF p), aI G qtr 22 (nF p), aI G qln 512 (nF l9), aI G qfm 512 m9, aI G qby 512 (nF b9), aI G qwy 512 (nF y9)]
                refine wc_aload_n X 121 0 dX11_mended_121 rfl ?_
                refine wc_get X 122 0 6 kd11 rfl (by decide) q_771 rfl dX11_mended_122 ?_
                refine wc_iload_n X 125 1 dX11_mended_125 rfl ?_
                refine wc_iload X 126 8 dX11_mended_126 rfl ?_
                refine wc_iload X 128 9 dX11_mended_128 rfl ?_
                refine wc_callS X 130 [] (c_X11_at l G 1 (mdI (p 1) k) (mdC (p 1) k) (by decide) (by omega) hmd.2.1 hmd.2.2.1) ys_X11_at rfl q_896 ⟨rfl, rfl⟩ ⟨rfl, rfl⟩ ⟨rfl, rfl⟩ rfl rfl rfl dX11_mended_130 ?_
                refine wc_dup2 X 133 dX11_mended_133 rfl rfl ?_
                refine wc_ialdG X 134 2 rfl (atN_lt (by omega) hmd.2.2.1) (by decide) dX11_mended_134 ?_
                refine wc_iconstN X 135 1 dX11_mended_135 ?_
                refine wc_iload X 136 10 dX11_mended_136 rfl ?_
                refine wc_shl1 X 138 dX11_mended_138 (by omega) ?_
                refine wc_ixorN X 139 dX11_mended_139 ?_
                refine wc_iastG X Y 140 2 rfl (atN_lt (by omega) hmd.2.2.1) (by decide) (ws' := [ob o 11 [.int (nI 0), .ref qtx, .int (nI ts), .int (nI pl), .ref qrp, .ref qpg, .ref qtr, .ref qbk, .int (nI dn), .ref qkp, .ref qik, .int (nI sn), .ref qsw, .ref qsi, .long sd, .ref qln, .ref qfm, .ref qby, .ref qwy, .int (nI z9), .ref qfo, .ref qon, .ref qmn, .ref qpr, .ref qle, .ref qst, .ref qwt, .int (nI rc), .int (nI tk), .int (nI ps), .int (nI gn), .int bd, .ref qwo], aI G qpg 22 (nF p), aI G qtr 22 (nF (up p (atN 1 (mdI (p 1) k) (mdC (p 1) k)) ((p (atN 1 (mdI (p 1) k) (mdC (p 1) k))) ^^^ (2 ^ (mdT (p 1) k))))), aI G qln 512 (nF l9), aI G qfm 512 m9, aI G qby 512 (nF b9), aI G qwy 512 (nF y9)]) rfl dX11_mended_140 ?_
                refine wc_ws (ws' := [ob o 11 [.int (nI 0), .ref qtx, .int (nI ts), .int (nI pl), .ref qrp, .ref qpg, .ref qtr, .ref qbk, .int (nI dn), .ref qkp, .ref qik, .int (nI sn), .ref qsw, .ref qsi, .long sd, .ref qln, .ref qfm, .ref qby, .ref qwy, .int (nI z9), .ref qfo, .ref qon, .ref qmn, .ref qpr, .ref qle, .ref qst, .ref qwt, .int (nI rc), .int (nI tk), .int (nI ps), .int (nI gn), .int bd, .ref qwo], aI G qpg 22 (nF p), aI G qtr 22 (nF (flE p 1 (mdI (p 1) k) (mdC (p 1) k) (mdT (p 1) k))), aI G qln 512 (nF l9), aI G qfm 512 m9, aI G qby 512 (nF b9), aI G qwy 512 (nF y9)]) (rfl) ?_
                refine wc_aload_n X 141 0 dX11_mended_141 rfl ?_
                refine wc_get X 142 0 5 kd11 rfl (by decide) q_770 rfl dX11_mended_142 ?_
                refine wc_iload_n X 145 1 dX11_mended_145 rfl ?_
                refine wc_iload X 146 8 dX11_mended_146 rfl ?_
                refine wc_iload X 148 9 dX11_mended_148 rfl ?_
                refine wc_callS X 150 [] (c_X11_at l G 1 (mdI (p 1) k) (mdC (p 1) k) (by decide) (by omega) hmd.2.1 hmd.2.2.1) ys_X11_at rfl q_896 ⟨rfl, rfl⟩ ⟨rfl, rfl⟩ ⟨rfl, rfl⟩ rfl rfl rfl dX11_mended_150 ?_
                refine wc_ialdG X 153 1 rfl (atN_lt (by omega) hmd.2.2.1) (by decide) dX11_mended_153 ?_
                refine wc_topi (nI (go p (mdI (p 1) k * 2 + mdC (p 1) k - 1))) (congrArg nI (atN_mG (m := 1) (by decide) hr.2.1 hmd.1 hmd.2.1 hmd.2.2.1)) ?_
                refine wc_iload X 154 10 dX11_mended_154 rfl ?_
                refine wc_callS X 156 [] (c_X11_has l G (go p (mdI (p 1) k * 2 + mdC (p 1) k - 1)) (mdT (p 1) k) (Nat.lt_trans (mG_lt (m := 1) hr.2.2.2.2.1 _) (by decide)) (by omega)) ys_X11_has rfl q_916 ⟨rfl, rfl⟩ ⟨rfl, rfl⟩ ⟨rfl, rfl⟩ rfl rfl rfl dX11_mended_156 ?_
                refine wc_iload_n X 159 1 dX11_mended_159 rfl ?_
                refine wc_if_neN X 160 167 dX11_mended_160 (by decide) (by decide) (fun c160_18 => ?_) (fun c160_18 => ?_)
                ·
                  refine wc_iconstN X 167 0 dX11_mended_167 ?_
                  refine wc_st (st' := [.int (b2i false), .int (b2i (Nat.testBit (go p (mdI (p 1) k * 2 + mdC (p 1) k - 1)) (mdT (p 1) k)))]) rfl ?_
                  refine wc_icmp_neB X 168 175 dX11_mended_168 (by decide) (fun c168_19 => ?_) (fun c168_19 => ?_)
                  ·
                    refine wc_iconstN X 175 0 dX11_mended_175 ?_
                    refine wc_istore X 176 (L' := [(0, .ref o), (1, .int (nI 1)), (2, .int (nI 1)), (3, .int (nI n3)), (4, .int fs), (5, .int (nI 1)), (6, .int (nI (p 1))), (7, .int (nI k)), (8, .int (nI (mdI (p 1) k))), (9, .int (nI (mdC (p 1) k))), (10, .int (nI (mdT (p 1) k))), (11, .int (nI 0))]) dX11_mended_176 (by decide) rfl ?_
                    refine wc_iload X 178 11 dX11_mended_178 rfl ?_
                    refine wc_if_eqN X 180 213 dX11_mended_180 (by decide) (by decide) (fun c180_20 => ?_) (fun c180_20 => ?_)
                    ·
                      refine wc_iinc X 213 7 (L' := [(0, .ref o), (1, .int (nI 1)), (2, .int (nI 1)), (3, .int (nI n3)), (4, .int fs), (5, .int (nI 1)), (6, .int (nI (p 1))), (7, .int (nI k + (-1))), (8, .int (nI (mdI (p 1) k))), (9, .int (nI (mdC (p 1) k))), (10, .int (nI (mdT (p 1) k))), (11, .int (nI 0))]) dX11_mended_213 rfl rfl (by decide) rfl ?_
                      refine wc_goto X 216 73 dX11_mended_216 (by decide) ?_
                      have hno : mB p 1 k = false := by unfold mB; rw [mEd_1, show Nat.testBit (go p (mdI (p 1) k * 2 + mdC (p 1) k - 1)) (mdT (p 1) k) = true by simpa using c168_19]; rfl
                      refine wc_loc [0, 1, 2, 3, 4, 5, 6, 7] (L' := [(0, .ref o), (1, .int (nI 1)), (2, .int (nI 1)), (3, .int (nI n3)), (4, .int fs), (5, .int (nI 1)), (6, .int (nI (p 1))), (7, .int (nI k + (-1)))]) rfl ?_
                      have e_21 : (nI k + (-1)) = nI k - 1 := by rw [Int32.sub_eq_add_neg]
                      refine wc_L (L' := [(0, .ref o), (1, .int (nI 1)), (2, .int (nI 1)), (3, .int (nI n3)), (4, .int fs), (5, .int (nI 1)), (6, .int (nI (p 1))), (7, .int (nI k - 1))]) (by first | (rw [e_21]; done) | (rw [e_21]; rfl) | (rw [← e_21]; done) | rfl) ?_
                      exact ih_12 k n3 fs (flE p 1 (mdI (p 1) k) (mdC (p 1) k) (mdT (p 1) k)) z9 l9 m9 b9 y9 (by omega) (by have := cnt_no (f := mB p 1) (K := k) rfl hno; omega) (DS_no hds hno) (by omega)
                    ·
                      exact absurd c180_20 (by decide)
                  ·
                    refine wc_iconstN X 171 1 dX11_mended_171 ?_
                    refine wc_goto X 172 176 dX11_mended_172 (by decide) ?_
                    refine wc_istore X 176 (L' := [(0, .ref o), (1, .int (nI 1)), (2, .int (nI 1)), (3, .int (nI n3)), (4, .int fs), (5, .int (nI 1)), (6, .int (nI (p 1))), (7, .int (nI k)), (8, .int (nI (mdI (p 1) k))), (9, .int (nI (mdC (p 1) k))), (10, .int (nI (mdT (p 1) k))), (11, .int (nI 1))]) dX11_mended_176 (by decide) rfl ?_
                    refine wc_iload X 178 11 dX11_mended_178 rfl ?_
                    refine wc_if_eqN X 180 213 dX11_mended_180 (by decide) (by decide) (fun c180_22 => ?_) (fun c180_22 => ?_)
                    ·
                      exact absurd c180_22 (by decide)
                    ·
                      refine wc_aload_n X 183 0 dX11_mended_183 rfl ?_
                      refine wc_aload_n X 184 0 dX11_mended_184 rfl ?_
                      refine wc_get X 185 0 6 kd11 rfl (by decide) q_771 rfl dX11_mended_185 ?_
                      refine wc_mutV X Y 188 [0, 2, 3, 4, 5, 6] [1] 0 (c_X11_isWithin l G o (nI 0) qtx ts pl qrp qpg qtr qbk dn qkp qik sn qsw qsi sd qln qfm qby qwy z9 qfo qon qmn qpr qle qst qwt rc tk ps gn bd qwo qtr (flE p 1 (mdI (p 1) k) (mdC (p 1) k) (mdT (p 1) k)) l9 m9 b9 y9 hz) yv_X11_isWithin kd11 rfl rfl (wr := [aI G qpg 22 (nF p)]) rfl ⟨rfl, rfl, rfl⟩ q_1005 ⟨rfl, rfl⟩ ⟨rfl, rfl⟩ ⟨rfl, rfl⟩ rfl rfl rfl dX11_mended_188 (fun v w hp_23 => ?_)
                      obtain ⟨wz2_24, ln2_25, fm2_26, bf2_27, wy2_28, rfl, rfl⟩ := hp_23
                      refine wc_perm Y [1, 0, 2, 3, 4, 5, 6] [ob o 11 [.int (nI 0), .ref qtx, .int (nI ts), .int (nI pl), .ref qrp, .ref qpg, .ref qtr, .ref qbk, .int (nI dn), .ref qkp, .ref qik, .int (nI sn), .ref qsw, .ref qsi, .long sd, .ref qln, .ref qfm, .ref qby, .ref qwy, .int (nI wz2_24), .ref qfo, .ref qon, .ref qmn, .ref qpr, .ref qle, .ref qst, .ref qwt, .int (nI rc), .int (nI tk), .int (nI ps), .int (nI gn), .int bd, .ref qwo], aI G qpg 22 (nF p), aI G qtr 22 (nF (flE p 1 (mdI (p 1) k) (mdC (p 1) k) (mdT (p 1) k))), aI G qln 512 (nF ln2_25), aI G qfm 512 fm2_26, aI G qby 512 (nF bf2_27), aI G qwy 512 (nF wy2_28)] rfl rfl ?_
                      show Wc Γ 0 0 191 [(0, .ref o), (1, .int (nI 1)), (2, .int (nI 1)), (3, .int (nI n3)), (4, .int fs), (5, .int (nI 1)), (6, .int (nI (p 1))), (7, .int (nI k)), (8, .int (nI (mdI (p 1) k))), (9, .int (nI (mdC (p 1) k))), (10, .int (nI (mdT (p 1) k))), (11, .int (nI 1))] [.int (b2i (withB (gz (flE p 1 (mdI (p 1) k) (mdC (p 1) k) (mdT (p 1) k))) ((flE p 1 (mdI (p 1) k) (mdC (p 1) k) (mdT (p 1) k)) 0) ((flE p 1 (mdI (p 1) k) (mdC (p 1) k) (mdT (p 1) k)) 2) (go (flE p 1 (mdI (p 1) k) (mdC (p 1) k) (mdT (p 1) k))) ((flE p 1 (mdI (p 1) k) (mdC (p 1) k) (mdT (p 1) k)) 1) ((flE p 1 (mdI (p 1) k) (mdC (p 1) k) (mdT (p 1) k)) 3)))] [ob o 11 [.int (nI 0), .ref qtx, .int (nI ts), .int (nI pl), .ref qrp, .ref qpg, .ref qtr, .ref qbk, .int (nI dn), .ref qkp, .ref qik, .int (nI sn), .ref qsw, .ref qsi, .long sd, .ref qln, .ref qfm, .ref qby, .ref qwy, .int (nI wz2_24), .ref qfo, .ref qon, .ref qmn, .ref qpr, .ref qle, .ref qst, .ref qwt, .int (nI rc), .int (nI tk), .int (nI ps), .int (nI gn), .int bd, .ref qwo], aI G qpg 22 (nF p), aI G qtr 22 (nF (flE p 1 (mdI (p 1) k) (mdC (p 1) k) (mdT (p 1) k))), aI G qln 512 (nF ln2_25), aI G qfm 512 fm2_26, aI G qby 512 (nF bf2_27), aI G qwy 512 (nF wy2_28)]
                      refine wc_if_eqB X 191 213 dX11_mended_191 (by decide) (fun c191_29 => ?_) (fun c191_29 => ?_)
                      ·
                        refine wc_iinc X 213 7 (L' := [(0, .ref o), (1, .int (nI 1)), (2, .int (nI 1)), (3, .int (nI n3)), (4, .int fs), (5, .int (nI 1)), (6, .int (nI (p 1))), (7, .int (nI k + (-1))), (8, .int (nI (mdI (p 1) k))), (9, .int (nI (mdC (p 1) k))), (10, .int (nI (mdT (p 1) k))), (11, .int (nI 1))]) dX11_mended_213 rfl rfl (by decide) rfl ?_
                        refine wc_goto X 216 73 dX11_mended_216 (by decide) ?_
                        have hno : mB p 1 k = false := by unfold mB; rw [mEd_1, show withP _ = false from c191_29, Bool.and_false]
                        refine wc_loc [0, 1, 2, 3, 4, 5, 6, 7] (L' := [(0, .ref o), (1, .int (nI 1)), (2, .int (nI 1)), (3, .int (nI n3)), (4, .int fs), (5, .int (nI 1)), (6, .int (nI (p 1))), (7, .int (nI k + (-1)))]) rfl ?_
                        have e_30 : (nI k + (-1)) = nI k - 1 := by rw [Int32.sub_eq_add_neg]
                        refine wc_L (L' := [(0, .ref o), (1, .int (nI 1)), (2, .int (nI 1)), (3, .int (nI n3)), (4, .int fs), (5, .int (nI 1)), (6, .int (nI (p 1))), (7, .int (nI k - 1))]) (by first | (rw [e_30]; done) | (rw [e_30]; rfl) | (rw [← e_30]; done) | rfl) ?_
                        exact ih_12 k n3 fs (flE p 1 (mdI (p 1) k) (mdC (p 1) k) (mdT (p 1) k)) wz2_24 ln2_25 fm2_26 bf2_27 wy2_28 (by omega) (by have := cnt_no (f := mB p 1) (K := k) rfl hno; omega) (DS_no hds hno) (by omega)
                      ·
                        refine wc_iincN X 194 3 (L' := [(0, .ref o), (1, .int (nI 1)), (2, .int (nI 1)), (3, .int (nI (n3 + 1))), (4, .int fs), (5, .int (nI 1)), (6, .int (nI (p 1))), (7, .int (nI k)), (8, .int (nI (mdI (p 1) k))), (9, .int (nI (mdC (p 1) k))), (10, .int (nI (mdT (p 1) k))), (11, .int (nI 1))]) dX11_mended_194 rfl (by decide) rfl ?_
                        refine wc_bipush X 197 (nI 100) dX11_mended_197 (by decide) ?_
                        refine wc_iload X 199 8 dX11_mended_199 rfl ?_
                        refine wc_imulN X 201 dX11_mended_201 ?_
                        refine wc_bipush X 202 (nI 10) dX11_mended_202 (by decide) ?_
                        refine wc_iload X 204 9 dX11_mended_204 rfl ?_
                        refine wc_imulN X 206 dX11_mended_206 ?_
                        refine wc_iaddN X 207 dX11_mended_207 ?_
                        refine wc_iload X 208 10 dX11_mended_208 rfl ?_
                        refine wc_iaddN X 210 dX11_mended_210 ?_
                        refine wc_istore X 211 (L' := [(0, .ref o), (1, .int (nI 1)), (2, .int (nI 1)), (3, .int (nI (n3 + 1))), (4, .int (nI (((100 * (mdI (p 1) k)) + (10 * (mdC (p 1) k))) + (mdT (p 1) k)))), (5, .int (nI 1)), (6, .int (nI (p 1))), (7, .int (nI k)), (8, .int (nI (mdI (p 1) k))), (9, .int (nI (mdC (p 1) k))), (10, .int (nI (mdT (p 1) k))), (11, .int (nI 1))]) dX11_mended_211 (by decide) rfl ?_
                        refine wc_iinc X 213 7 (L' := [(0, .ref o), (1, .int (nI 1)), (2, .int (nI 1)), (3, .int (nI (n3 + 1))), (4, .int (nI (((100 * (mdI (p 1) k)) + (10 * (mdC (p 1) k))) + (mdT (p 1) k)))), (5, .int (nI 1)), (6, .int (nI (p 1))), (7, .int (nI k + (-1))), (8, .int (nI (mdI (p 1) k))), (9, .int (nI (mdC (p 1) k))), (10, .int (nI (mdT (p 1) k))), (11, .int (nI 1))]) dX11_mended_213 rfl rfl (by decide) rfl ?_
                        refine wc_goto X 216 73 dX11_mended_216 (by decide) ?_
                        have hye : mB p 1 k = true := by unfold mB; rw [mEd_1, show _ = _ from c168_19, show withP _ = true from c191_29]; rfl
                        refine wc_loc [0, 1, 2, 3, 4, 5, 6, 7] (L' := [(0, .ref o), (1, .int (nI 1)), (2, .int (nI 1)), (3, .int (nI (n3 + 1))), (4, .int (nI (((100 * (mdI (p 1) k)) + (10 * (mdC (p 1) k))) + (mdT (p 1) k)))), (5, .int (nI 1)), (6, .int (nI (p 1))), (7, .int (nI k + (-1)))]) rfl ?_
                        have e_31 : (.int (nI (((100 * (mdI (p 1) k)) + (10 * (mdC (p 1) k))) + (mdT (p 1) k))) : Value) = .int (nI (mCd (p 1) k)) := rfl
                        have e_32 : (nI k + (-1)) = nI k - 1 := by rw [Int32.sub_eq_add_neg]
                        refine wc_L (L' := [(0, .ref o), (1, .int (nI 1)), (2, .int (nI 1)), (3, .int (nI (n3 + 1))), (4, .int (nI (mCd (p 1) k))), (5, .int (nI 1)), (6, .int (nI (p 1))), (7, .int (nI k - 1))]) (by first | (rw [e_31, e_32]; done) | (rw [e_31, e_32]; rfl) | (rw [← e_31, ← e_32]; done) | rfl) ?_
                        exact ih_12 k (n3 + 1) (nI (mCd (p 1) k)) (flE p 1 (mdI (p 1) k) (mdC (p 1) k) (mdT (p 1) k)) wz2_24 ln2_25 fm2_26 bf2_27 wy2_28 (by omega) (by have := cnt_ye (f := mB p 1) (K := k) rfl hye; omega) (DS_ye (by omega) hye) (by omega)
                ·
                  exact absurd c160_18 (by decide)
        have e_33 : (nI ((2 * (p 1)) * (p 1))) - (1) = nI (2 * p 1 * p 1) - 1 := rfl
        refine wc_L (L' := [(0, .ref o), (1, .int (nI 1)), (2, .int (nI 1)), (3, .int (nI 0)), (4, .int (-9)), (5, .int (nI 1)), (6, .int (nI (p 1))), (7, .int (nI (2 * p 1 * p 1) - 1))]) (by first | (rw [e_33]; done) | (rw [e_33]; rfl) | (rw [← e_33]; done) | rfl) ?_
        exact LP_11 ((2 * p 1 * p 1) + 1) (2 * p 1 * p 1) 0 (-9) tr wz2_4 ln2_5 fm2_6 bf2_7 wy2_8 (Nat.le_refl _) (Nat.zero_add _) DS_0 (Nat.lt_succ_self _)
    ·
      exact absurd c24_2 (by decide)
  ·
    exact absurd c12_1 (by decide)

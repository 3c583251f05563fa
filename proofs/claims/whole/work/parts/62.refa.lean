set_option maxHeartbeats 4000000 in
set_option maxRecDepth 100000 in
theorem c_X11_noState (l : Launch) (G : GG) (o : Nat) (th : Int32) (qtx ts pl qrp qpg qtr qbk dn qkp qik sn qsw qsi : Nat) (sd : Int64) (qln qfm qby qwy wz qfo qon qmn qpr qle qst qwt rc tk ps gn : Nat) (bd : Int32) (qwo : Nat) (p : Nat → Nat) (x y : Int32) (hr : pgOk p) : RM l G yX11_noState (Cond.code yX11_noState cX11_noState 3 (some .boolean)) { frames := 1, cells := 0, slots := 0, locals := 25 } [.ref o, .int x, .int y] [ob o 11 [.int th, .ref qtx, .int (nI ts), .int (nI pl), .ref qrp, .ref qpg, .ref qtr, .ref qbk, .int (nI dn), .ref qkp, .ref qik, .int (nI sn), .ref qsw, .ref qsi, .long sd, .ref qln, .ref qfm, .ref qby, .ref qwy, .int (nI wz), .ref qfo, .ref qon, .ref qmn, .ref qpr, .ref qle, .ref qst, .ref qwt, .int (nI rc), .int (nI tk), .int (nI ps), .int (nI gn), .int bd, .ref qwo], aI G qpg 22 (nF p)] (.int (b2i (!stOf (p 0) (p 1) x y))) := by
  refine RM.ofZ (by decide) rfl (fun Γ X ret => ?_)
  show Wc Γ 0 0 0 [(0, .ref o), (1, .int x), (2, .int y)] [] [ob o 11 [.int th, .ref qtx, .int (nI ts), .int (nI pl), .ref qrp, .ref qpg, .ref qtr, .ref qbk, .int (nI dn), .ref qkp, .ref qik, .int (nI sn), .ref qsw, .ref qsi, .long sd, .ref qln, .ref qfm, .ref qby, .ref qwy, .int (nI wz), .ref qfo, .ref qon, .ref qmn, .ref qpr, .ref qle, .ref qst, .ref qwt, .int (nI rc), .int (nI tk), .int (nI ps), .int (nI gn), .int bd, .ref qwo], aI G qpg 22 (nF p)]
  have hb0 := pgOk_m hr (show 0 < 2 by decide)
  have hb1 := pgOk_m hr (show 1 < 2 by decide)
  refine wc_iload_n X 0 1 dX11_noState_0 rfl ?_
  refine wc_i2l X 1 dX11_noState_1 ?_
  refine wc_lconst X 2 0 dX11_noState_2 (by decide) ?_
  refine wc_lconst X 3 1 dX11_noState_3 (by decide) ?_
  refine wc_callS X 4 [] (c_X11_in l G ((x).toInt64) 0 1 ) ys_X11_in rfl q_870 ⟨rfl, rfl⟩ ⟨rfl, rfl⟩ ⟨rfl, rfl⟩ rfl rfl rfl dX11_noState_4 ?_
  refine wc_if_eqB X 7 28 dX11_noState_7 (by decide) (fun c7_1 => ?_) (fun c7_1 => ?_)
  ·
    refine wc_iconstN X 28 1 dX11_noState_28 ?_
    refine wc_goto X 29 33 dX11_noState_29 (by decide) ?_
    refine wc_st (st' := [.int (b2i true)]) rfl ?_
    exact ret 33 _ true dX11_noState_33 (by rw [stOf_out (in01f c7_1)]; rfl)
  ·
    rcases in01 c7_1 with rfl | rfl
    ·
      refine wc_iload_n X 10 2 dX11_noState_10 rfl ?_
      refine wc_i2l X 11 dX11_noState_11 ?_
      refine wc_lconst X 12 0 dX11_noState_12 (by decide) ?_
      refine wc_aload_n X 13 0 dX11_noState_13 rfl ?_
      refine wc_get X 14 0 5 kd11 rfl (by decide) q_770 rfl dX11_noState_14 ?_
      refine wc_iload_n X 17 1 dX11_noState_17 rfl ?_
      refine wc_ialdG X 18 1 rfl (by decide) (by decide) dX11_noState_18 ?_
      refine wc_iconstN X 19 1 dX11_noState_19 ?_
      refine wc_isubN X 20 dX11_noState_20 (by omega) ?_
      refine wc_i2l X 21 dX11_noState_21 ?_
      refine wc_callS X 22 [] (c_X11_in l G ((y).toInt64) 0 ((nI ((p 0) - 1)).toInt64) ) ys_X11_in rfl q_870 ⟨rfl, rfl⟩ ⟨rfl, rfl⟩ ⟨rfl, rfl⟩ rfl rfl rfl dX11_noState_22 ?_
      refine wc_topi (b2i (knB (p 0) y)) (congrArg b2i (inL_kn (by omega) (by omega))) ?_
      refine wc_if_neB X 25 32 dX11_noState_25 (by decide) (fun c25_2 => ?_) (fun c25_2 => ?_)
      ·
        refine wc_iconstN X 32 0 dX11_noState_32 ?_
        refine wc_st (st' := [.int (b2i false)]) rfl ?_
        exact ret 33 _ false dX11_noState_33 (by rw [stOf_0, c25_2]; rfl)
      ·
        refine wc_iconstN X 28 1 dX11_noState_28 ?_
        refine wc_goto X 29 33 dX11_noState_29 (by decide) ?_
        refine wc_st (st' := [.int (b2i true)]) rfl ?_
        exact ret 33 _ true dX11_noState_33 (by rw [stOf_0, c25_2]; rfl)
    ·
      refine wc_iload_n X 10 2 dX11_noState_10 rfl ?_
      refine wc_i2l X 11 dX11_noState_11 ?_
      refine wc_lconst X 12 0 dX11_noState_12 (by decide) ?_
      refine wc_aload_n X 13 0 dX11_noState_13 rfl ?_
      refine wc_get X 14 0 5 kd11 rfl (by decide) q_770 rfl dX11_noState_14 ?_
      refine wc_iload_n X 17 1 dX11_noState_17 rfl ?_
      refine wc_ialdG X 18 1 rfl (by decide) (by decide) dX11_noState_18 ?_
      refine wc_iconstN X 19 1 dX11_noState_19 ?_
      refine wc_isubN X 20 dX11_noState_20 (by omega) ?_
      refine wc_i2l X 21 dX11_noState_21 ?_
      refine wc_callS X 22 [] (c_X11_in l G ((y).toInt64) 0 ((nI ((p 1) - 1)).toInt64) ) ys_X11_in rfl q_870 ⟨rfl, rfl⟩ ⟨rfl, rfl⟩ ⟨rfl, rfl⟩ rfl rfl rfl dX11_noState_22 ?_
      refine wc_topi (b2i (knB (p 1) y)) (congrArg b2i (inL_kn (by omega) (by omega))) ?_
      refine wc_if_neB X 25 32 dX11_noState_25 (by decide) (fun c25_3 => ?_) (fun c25_3 => ?_)
      ·
        refine wc_iconstN X 32 0 dX11_noState_32 ?_
        refine wc_st (st' := [.int (b2i false)]) rfl ?_
        exact ret 33 _ false dX11_noState_33 (by rw [stOf_1, c25_3]; rfl)
      ·
        refine wc_iconstN X 28 1 dX11_noState_28 ?_
        refine wc_goto X 29 33 dX11_noState_29 (by decide) ?_
        refine wc_st (st' := [.int (b2i true)]) rfl ?_
        exact ret 33 _ true dX11_noState_33 (by rw [stOf_1, c25_3]; rfl)

set_option maxHeartbeats 4000000 in
set_option maxRecDepth 100000 in
theorem c_X11_noEdge (l : Launch) (G : GG) (o : Nat) (th : Int32) (qtx ts pl qrp qpg qtr qbk dn qkp qik sn qsw qsi : Nat) (sd : Int64) (qln qfm qby qwy wz qfo qon qmn qpr qle qst qwt rc tk ps gn : Nat) (bd : Int32) (qwo : Nat) (p : Nat → Nat) (m i c j : Int32) (hr : pgOk p) : RM l G yX11_noEdge (Cond.code yX11_noEdge cX11_noEdge 5 (some .boolean)) { frames := 2, cells := 0, slots := 0, locals := 47 } [.ref o, .int m, .int i, .int c, .int j] [ob o 11 [.int th, .ref qtx, .int (nI ts), .int (nI pl), .ref qrp, .ref qpg, .ref qtr, .ref qbk, .int (nI dn), .ref qkp, .ref qik, .int (nI sn), .ref qsw, .ref qsi, .long sd, .ref qln, .ref qfm, .ref qby, .ref qwy, .int (nI wz), .ref qfo, .ref qon, .ref qmn, .ref qpr, .ref qle, .ref qst, .ref qwt, .int (nI rc), .int (nI tk), .int (nI ps), .int (nI gn), .int bd, .ref qwo], aI G qpg 22 (nF p)] (.int (b2i (!(stOf (p 0) (p 1) m i && (decide (c = nI 1) || decide (c = nI 2)) && stOf (p 0) (p 1) m j)))) := by
  refine RM.ofZ (by decide) rfl (fun Γ X ret => ?_)
  show Wc Γ 0 0 0 [(0, .ref o), (1, .int m), (2, .int i), (3, .int c), (4, .int j)] [] [ob o 11 [.int th, .ref qtx, .int (nI ts), .int (nI pl), .ref qrp, .ref qpg, .ref qtr, .ref qbk, .int (nI dn), .ref qkp, .ref qik, .int (nI sn), .ref qsw, .ref qsi, .long sd, .ref qln, .ref qfm, .ref qby, .ref qwy, .int (nI wz), .ref qfo, .ref qon, .ref qmn, .ref qpr, .ref qle, .ref qst, .ref qwt, .int (nI rc), .int (nI tk), .int (nI ps), .int (nI gn), .int bd, .ref qwo], aI G qpg 22 (nF p)]
  refine wc_aload_n X 0 0 dX11_noEdge_0 rfl ?_
  refine wc_iload_n X 1 1 dX11_noEdge_1 rfl ?_
  refine wc_iload_n X 2 2 dX11_noEdge_2 rfl ?_
  refine wc_callV X 3 [0, 1] 0 (c_X11_noState l G o th qtx ts pl qrp qpg qtr qbk dn qkp qik sn qsw qsi sd qln qfm qby qwy wz qfo qon qmn qpr qle qst qwt rc tk ps gn bd qwo p m i (by first | assumption | omega)) yv_X11_noState kd11 rfl rfl q_941 ⟨rfl, rfl⟩ ⟨rfl, rfl⟩ ⟨rfl, rfl⟩ rfl rfl rfl dX11_noEdge_3 ?_
  refine wc_if_neB X 6 31 dX11_noEdge_6 (by decide) (fun c6_1 => ?_) (fun c6_1 => ?_)
  ·
    refine wc_iconstN X 31 1 dX11_noEdge_31 ?_
    refine wc_goto X 32 36 dX11_noEdge_32 (by decide) ?_
    refine wc_st (st' := [.int (b2i true)]) rfl ?_
    exact ret 36 _ true dX11_noEdge_36 (by rw [ns_t c6_1]; rfl)
  ·
    refine wc_iload_n X 9 3 dX11_noEdge_9 rfl ?_
    refine wc_i2l X 10 dX11_noEdge_10 ?_
    refine wc_lconst X 11 1 dX11_noEdge_11 (by decide) ?_
    refine wc_ldc2 X 12 149 (2) q_945 dX11_noEdge_12 ?_
    refine wc_callS X 15 [] (c_X11_in l G ((c).toInt64) 1 2 ) ys_X11_in rfl q_870 ⟨rfl, rfl⟩ ⟨rfl, rfl⟩ ⟨rfl, rfl⟩ rfl rfl rfl dX11_noEdge_15 ?_
    refine wc_topi (b2i (decide (c = nI 1) || decide (c = nI 2))) (congrArg b2i (inL_12 c)) ?_
    refine wc_if_eqB X 18 31 dX11_noEdge_18 (by decide) (fun c18_2 => ?_) (fun c18_2 => ?_)
    ·
      refine wc_iconstN X 31 1 dX11_noEdge_31 ?_
      refine wc_goto X 32 36 dX11_noEdge_32 (by decide) ?_
      refine wc_st (st' := [.int (b2i true)]) rfl ?_
      exact ret 36 _ true dX11_noEdge_36 (by rw [c18_2, Bool.and_false]; rfl)
    ·
      refine wc_aload_n X 21 0 dX11_noEdge_21 rfl ?_
      refine wc_iload_n X 22 1 dX11_noEdge_22 rfl ?_
      refine wc_iload X 23 4 dX11_noEdge_23 rfl ?_
      refine wc_callV X 25 [0, 1] 0 (c_X11_noState l G o th qtx ts pl qrp qpg qtr qbk dn qkp qik sn qsw qsi sd qln qfm qby qwy wz qfo qon qmn qpr qle qst qwt rc tk ps gn bd qwo p m j (by first | assumption | omega)) yv_X11_noState kd11 rfl rfl q_941 ⟨rfl, rfl⟩ ⟨rfl, rfl⟩ ⟨rfl, rfl⟩ rfl rfl rfl dX11_noEdge_25 ?_
      refine wc_if_eqB X 28 35 dX11_noEdge_28 (by decide) (fun c28_3 => ?_) (fun c28_3 => ?_)
      ·
        refine wc_iconstN X 35 0 dX11_noEdge_35 ?_
        refine wc_st (st' := [.int (b2i false)]) rfl ?_
        exact ret 36 _ false dX11_noEdge_36 (by rw [ns_f c6_1, c18_2, ns_f c28_3]; rfl)
      ·
        refine wc_iconstN X 31 1 dX11_noEdge_31 ?_
        refine wc_goto X 32 36 dX11_noEdge_32 (by decide) ?_
        refine wc_st (st' := [.int (b2i true)]) rfl ?_
        exact ret 36 _ true dX11_noEdge_36 (by rw [ns_t c28_3, Bool.and_false]; rfl)

set_option maxHeartbeats 4000000 in
set_option maxRecDepth 100000 in
theorem c_X11_writeF (l : Launch) (G : GG) (o : Nat) (th : Int32) (qtx ts pl qrp qpg qtr qbk dn qkp qik sn qsw qsi : Nat) (sd : Int64) (qln qfm qby qwy wz qfo qon qmn qpr qle qst qwt rc tk ps gn : Nat) (bd : Int32) (qwo : Nat) (c : Int32) (ho : outR c 0 255) : MM l G yX11_write (Cond.code yX11_write cX11_write 2 (some .int)) { frames := 1, cells := 0, slots := 0, locals := 25 } [.ref o, .int c] [ob o 11 [.int th, .ref qtx, .int (nI ts), .int (nI pl), .ref qrp, .ref qpg, .ref qtr, .ref qbk, .int (nI dn), .ref qkp, .ref qik, .int (nI sn), .ref qsw, .ref qsi, .long sd, .ref qln, .ref qfm, .ref qby, .ref qwy, .int (nI wz), .ref qfo, .ref qon, .ref qmn, .ref qpr, .ref qle, .ref qst, .ref qwt, .int (nI rc), .int (nI tk), .int (nI ps), .int (nI gn), .int bd, .ref qwo]] (fun (v : Option Value) (w : va_W) => v = some (.int (-2)) ∧ w = [ob o 11 [.int (nI 0), .ref qtx, .int (nI ts), .int (nI pl), .ref qrp, .ref qpg, .ref qtr, .ref qbk, .int (nI dn), .ref qkp, .ref qik, .int (nI sn), .ref qsw, .ref qsi, .long sd, .ref qln, .ref qfm, .ref qby, .ref qwy, .int (nI wz), .ref qfo, .ref qon, .ref qmn, .ref qpr, .ref qle, .ref qst, .ref qwt, .int (nI rc), .int (nI tk), .int (nI ps), .int (nI gn), .int bd, .ref qwo]]) 0 0 := by
  refine MM.ofI (by decide) rfl (fun Γ X Y hnm ret => ?_)
  show Wc Γ 0 0 0 [(0, .ref o), (1, .int c)] [] [ob o 11 [.int th, .ref qtx, .int (nI ts), .int (nI pl), .ref qrp, .ref qpg, .ref qtr, .ref qbk, .int (nI dn), .ref qkp, .ref qik, .int (nI sn), .ref qsw, .ref qsi, .long sd, .ref qln, .ref qfm, .ref qby, .ref qwy, .int (nI wz), .ref qfo, .ref qon, .ref qmn, .ref qpr, .ref qle, .ref qst, .ref qwt, .int (nI rc), .int (nI tk), .int (nI ps), .int (nI gn), .int bd, .ref qwo]]
  refine wc_aload_n X 0 0 dX11_write_0 rfl ?_
  refine wc_iconstN X 1 0 dX11_write_1 ?_
  refine wc_put X Y 2 0 0 kd11 rfl (by decide) q_765 rfl rfl rfl (Nat.le_of_ble_eq_true rfl) (ws' := [ob o 11 [.int (nI 0), .ref qtx, .int (nI ts), .int (nI pl), .ref qrp, .ref qpg, .ref qtr, .ref qbk, .int (nI dn), .ref qkp, .ref qik, .int (nI sn), .ref qsw, .ref qsi, .long sd, .ref qln, .ref qfm, .ref qby, .ref qwy, .int (nI wz), .ref qfo, .ref qon, .ref qmn, .ref qpr, .ref qle, .ref qst, .ref qwt, .int (nI rc), .int (nI tk), .int (nI ps), .int (nI gn), .int bd, .ref qwo]]) rfl dX11_write_2 ?_
  refine wc_iload_n X 5 1 dX11_write_5 rfl ?_
  refine wc_i2l X 6 dX11_write_6 ?_
  refine wc_lconst X 7 0 dX11_write_7 (by decide) ?_
  refine wc_ldc2 X 8 94 (255) q_869 dX11_write_8 ?_
  refine wc_callS X 11 [] (c_X11_in l G ((c).toInt64) 0 255 ) ys_X11_in rfl q_870 ⟨rfl, rfl⟩ ⟨rfl, rfl⟩ ⟨rfl, rfl⟩ rfl rfl rfl dX11_write_11 ?_
  refine wc_topi (b2i false) (congrArg b2i (inL_out rfl rfl ho)) ?_
  refine wc_if_neB X 14 20 dX11_write_14 (by decide) (fun c14_1 => ?_) (fun c14_1 => ?_)
  ·
    exact absurd c14_1 (by decide)
  ·
    refine wc_bipush X 17 (-2) dX11_write_17 (by decide) ?_
    exact ret 19 _ (-2) _ dX11_write_19 (⟨rfl, rfl⟩)

set_option maxHeartbeats 4000000 in
set_option maxRecDepth 100000 in
theorem c_X11_writeU (l : Launch) (G : GG) (o : Nat) (th : Int32) (qtx ts pl qrp qpg qtr qbk dn qkp qik sn qsw qsi : Nat) (sd : Int64) (qln qfm qby qwy wz qfo qon qmn qpr qle qst qwt rc tk ps gn : Nat) (bd : Int32) (qwo : Nat) (t : Nat → Nat) (c : Nat) (hc : c ≤ 255) (hts : ts = 80) : MM l G yX11_write (Cond.code yX11_write cX11_write 2 (some .int)) { frames := 1, cells := 0, slots := 0, locals := 25 } [.ref o, .int (nI c)] [ob o 11 [.int th, .ref qtx, .int (nI ts), .int (nI pl), .ref qrp, .ref qpg, .ref qtr, .ref qbk, .int (nI dn), .ref qkp, .ref qik, .int (nI sn), .ref qsw, .ref qsi, .long sd, .ref qln, .ref qfm, .ref qby, .ref qwy, .int (nI wz), .ref qfo, .ref qon, .ref qmn, .ref qpr, .ref qle, .ref qst, .ref qwt, .int (nI rc), .int (nI tk), .int (nI ps), .int (nI gn), .int bd, .ref qwo], aI G qtx 80 (nF t)] (fun (v : Option Value) (w : va_W) => v = some (.int (-4)) ∧ w = [ob o 11 [.int (nI 0), .ref qtx, .int (nI ts), .int (nI pl), .ref qrp, .ref qpg, .ref qtr, .ref qbk, .int (nI dn), .ref qkp, .ref qik, .int (nI sn), .ref qsw, .ref qsi, .long sd, .ref qln, .ref qfm, .ref qby, .ref qwy, .int (nI wz), .ref qfo, .ref qon, .ref qmn, .ref qpr, .ref qle, .ref qst, .ref qwt, .int (nI rc), .int (nI tk), .int (nI ps), .int (nI gn), .int bd, .ref qwo], aI G qtx 80 (nF t)]) 0 0 := by
  refine MM.ofI (by decide) rfl (fun Γ X Y hnm ret => ?_)
  show Wc Γ 0 0 0 [(0, .ref o), (1, .int (nI c))] [] [ob o 11 [.int th, .ref qtx, .int (nI ts), .int (nI pl), .ref qrp, .ref qpg, .ref qtr, .ref qbk, .int (nI dn), .ref qkp, .ref qik, .int (nI sn), .ref qsw, .ref qsi, .long sd, .ref qln, .ref qfm, .ref qby, .ref qwy, .int (nI wz), .ref qfo, .ref qon, .ref qmn, .ref qpr, .ref qle, .ref qst, .ref qwt, .int (nI rc), .int (nI tk), .int (nI ps), .int (nI gn), .int bd, .ref qwo], aI G qtx 80 (nF t)]
  refine wc_aload_n X 0 0 dX11_write_0 rfl ?_
  refine wc_iconstN X 1 0 dX11_write_1 ?_
  refine wc_put X Y 2 0 0 kd11 rfl (by decide) q_765 rfl rfl rfl (Nat.le_of_ble_eq_true rfl) (ws' := [ob o 11 [.int (nI 0), .ref qtx, .int (nI ts), .int (nI pl), .ref qrp, .ref qpg, .ref qtr, .ref qbk, .int (nI dn), .ref qkp, .ref qik, .int (nI sn), .ref qsw, .ref qsi, .long sd, .ref qln, .ref qfm, .ref qby, .ref qwy, .int (nI wz), .ref qfo, .ref qon, .ref qmn, .ref qpr, .ref qle, .ref qst, .ref qwt, .int (nI rc), .int (nI tk), .int (nI ps), .int (nI gn), .int bd, .ref qwo], aI G qtx 80 (nF t)]) rfl dX11_write_2 ?_
  refine wc_iload_n X 5 1 dX11_write_5 rfl ?_
  refine wc_i2l X 6 dX11_write_6 ?_
  refine wc_lconst X 7 0 dX11_write_7 (by decide) ?_
  refine wc_ldc2 X 8 94 (255) q_869 dX11_write_8 ?_
  refine wc_callS X 11 [] (c_X11_in l G ((nI c).toInt64) 0 255 ) ys_X11_in rfl q_870 ⟨rfl, rfl⟩ ⟨rfl, rfl⟩ ⟨rfl, rfl⟩ rfl rfl rfl dX11_write_11 ?_
  refine wc_topi (b2i true) (congrArg b2i (inL_in (a := 0) (b := 255) rfl rfl (by omega) (by omega) (by omega))) ?_
  refine wc_if_neB X 14 20 dX11_write_14 (by decide) (fun c14_1 => ?_) (fun c14_1 => ?_)
  ·
    refine wc_aload_n X 20 0 dX11_write_20 rfl ?_
    refine wc_get X 21 0 2 kd11 rfl (by decide) q_767 rfl dX11_write_21 ?_
    refine wc_bipush X 24 (nI 80) dX11_write_24 (by decide) ?_
    refine wc_icmp_neN X 26 32 dX11_write_26 (by decide) (by omega) (by decide) (fun c26_2 => ?_) (fun c26_2 => ?_)
    ·
      exact absurd c26_2 (by omega)
    ·
      refine wc_bipush X 29 (-4) dX11_write_29 (by decide) ?_
      exact ret 31 _ (-4) _ dX11_write_31 (⟨rfl, rfl⟩)
  ·
    exact absurd c14_1 (by decide)

set_option maxHeartbeats 4000000 in
set_option maxRecDepth 100000 in
theorem c_X11_writeS (l : Launch) (G : GG) (o : Nat) (th : Int32) (qtx ts pl qrp qpg qtr qbk dn qkp qik sn qsw qsi : Nat) (sd : Int64) (qln qfm qby qwy wz qfo qon qmn qpr qle qst qwt rc tk ps gn : Nat) (bd : Int32) (qwo : Nat) (t : Nat → Nat) (c : Nat) (hc : c ≤ 255) (hts : ts < 80) : MM l G yX11_write (Cond.code yX11_write cX11_write 2 (some .int)) { frames := 1, cells := 0, slots := 0, locals := 25 } [.ref o, .int (nI c)] [ob o 11 [.int th, .ref qtx, .int (nI ts), .int (nI pl), .ref qrp, .ref qpg, .ref qtr, .ref qbk, .int (nI dn), .ref qkp, .ref qik, .int (nI sn), .ref qsw, .ref qsi, .long sd, .ref qln, .ref qfm, .ref qby, .ref qwy, .int (nI wz), .ref qfo, .ref qon, .ref qmn, .ref qpr, .ref qle, .ref qst, .ref qwt, .int (nI rc), .int (nI tk), .int (nI ps), .int (nI gn), .int bd, .ref qwo], aI G qtx 80 (nF t)] (fun (v : Option Value) (w : va_W) => v = some (.int (nI (ts + 1))) ∧ w = [ob o 11 [.int (nI 0), .ref qtx, .int (nI (ts + 1)), .int (nI pl), .ref qrp, .ref qpg, .ref qtr, .ref qbk, .int (nI dn), .ref qkp, .ref qik, .int (nI sn), .ref qsw, .ref qsi, .long sd, .ref qln, .ref qfm, .ref qby, .ref qwy, .int (nI wz), .ref qfo, .ref qon, .ref qmn, .ref qpr, .ref qle, .ref qst, .ref qwt, .int (nI rc), .int (nI tk), .int (nI ps), .int (nI gn), .int bd, .ref qwo], aI G qtx 80 (nF (up t ts c))]) 0 0 := by
  refine MM.ofI (by decide) rfl (fun Γ X Y hnm ret => ?_)
  show Wc Γ 0 0 0 [(0, .ref o), (1, .int (nI c))] [] [ob o 11 [.int th, .ref qtx, .int (nI ts), .int (nI pl), .ref qrp, .ref qpg, .ref qtr, .ref qbk, .int (nI dn), .ref qkp, .ref qik, .int (nI sn), .ref qsw, .ref qsi, .long sd, .ref qln, .ref qfm, .ref qby, .ref qwy, .int (nI wz), .ref qfo, .ref qon, .ref qmn, .ref qpr, .ref qle, .ref qst, .ref qwt, .int (nI rc), .int (nI tk), .int (nI ps), .int (nI gn), .int bd, .ref qwo], aI G qtx 80 (nF t)]
  refine wc_aload_n X 0 0 dX11_write_0 rfl ?_
  refine wc_iconstN X 1 0 dX11_write_1 ?_
  refine wc_put X Y 2 0 0 kd11 rfl (by decide) q_765 rfl rfl rfl (Nat.le_of_ble_eq_true rfl) (ws' := [ob o 11 [.int (nI 0), .ref qtx, .int (nI ts), .int (nI pl), .ref qrp, .ref qpg, .ref qtr, .ref qbk, .int (nI dn), .ref qkp, .ref qik, .int (nI sn), .ref qsw, .ref qsi, .long sd, .ref qln, .ref qfm, .ref qby, .ref qwy, .int (nI wz), .ref qfo, .ref qon, .ref qmn, .ref qpr, .ref qle, .ref qst, .ref qwt, .int (nI rc), .int (nI tk), .int (nI ps), .int (nI gn), .int bd, .ref qwo], aI G qtx 80 (nF t)]) rfl dX11_write_2 ?_
  refine wc_iload_n X 5 1 dX11_write_5 rfl ?_
  refine wc_i2l X 6 dX11_write_6 ?_
  refine wc_lconst X 7 0 dX11_write_7 (by decide) ?_
  refine wc_ldc2 X 8 94 (255) q_869 dX11_write_8 ?_
  refine wc_callS X 11 [] (c_X11_in l G ((nI c).toInt64) 0 255 ) ys_X11_in rfl q_870 ⟨rfl, rfl⟩ ⟨rfl, rfl⟩ ⟨rfl, rfl⟩ rfl rfl rfl dX11_write_11 ?_
  refine wc_topi (b2i true) (congrArg b2i (inL_in (a := 0) (b := 255) rfl rfl (by omega) (by omega) (by omega))) ?_
  refine wc_if_neB X 14 20 dX11_write_14 (by decide) (fun c14_1 => ?_) (fun c14_1 => ?_)
  ·
    refine wc_aload_n X 20 0 dX11_write_20 rfl ?_
    refine wc_get X 21 0 2 kd11 rfl (by decide) q_767 rfl dX11_write_21 ?_
    refine wc_bipush X 24 (nI 80) dX11_write_24 (by decide) ?_
    refine wc_icmp_neN X 26 32 dX11_write_26 (by decide) (by omega) (by decide) (fun c26_2 => ?_) (fun c26_2 => ?_)
    ·
      refine wc_aload_n X 32 0 dX11_write_32 rfl ?_
      refine wc_get X 33 0 1 kd11 rfl (by decide) q_766 rfl dX11_write_33 ?_
      refine wc_aload_n X 36 0 dX11_write_36 rfl ?_
      refine wc_get X 37 0 2 kd11 rfl (by decide) q_767 rfl dX11_write_37 ?_
      refine wc_iload_n X 40 1 dX11_write_40 rfl ?_
      refine wc_iastG X Y 41 1 rfl (by omega) (by decide) (ws' := [ob o 11 [.int (nI 0), .ref qtx, .int (nI ts), .int (nI pl), .ref qrp, .ref qpg, .ref qtr, .ref qbk, .int (nI dn), .ref qkp, .ref qik, .int (nI sn), .ref qsw, .ref qsi, .long sd, .ref qln, .ref qfm, .ref qby, .ref qwy, .int (nI wz), .ref qfo, .ref qon, .ref qmn, .ref qpr, .ref qle, .ref qst, .ref qwt, .int (nI rc), .int (nI tk), .int (nI ps), .int (nI gn), .int bd, .ref qwo], aI G qtx 80 (nF (up t ts c))]) rfl dX11_write_41 ?_
      refine wc_aload_n X 42 0 dX11_write_42 rfl ?_
      refine wc_dup X 43 dX11_write_43 rfl ?_
      refine wc_get X 44 0 2 kd11 rfl (by decide) q_767 rfl dX11_write_44 ?_
      refine wc_iconstN X 47 1 dX11_write_47 ?_
      refine wc_iaddN X 48 dX11_write_48 ?_
      refine wc_put X Y 49 0 2 kd11 rfl (by decide) q_767 rfl rfl rfl (Nat.le_of_ble_eq_true rfl) (ws' := [ob o 11 [.int (nI 0), .ref qtx, .int (nI (ts + 1)), .int (nI pl), .ref qrp, .ref qpg, .ref qtr, .ref qbk, .int (nI dn), .ref qkp, .ref qik, .int (nI sn), .ref qsw, .ref qsi, .long sd, .ref qln, .ref qfm, .ref qby, .ref qwy, .int (nI wz), .ref qfo, .ref qon, .ref qmn, .ref qpr, .ref qle, .ref qst, .ref qwt, .int (nI rc), .int (nI tk), .int (nI ps), .int (nI gn), .int bd, .ref qwo], aI G qtx 80 (nF (up t ts c))]) rfl dX11_write_49 ?_
      refine wc_aload_n X 52 0 dX11_write_52 rfl ?_
      refine wc_get X 53 0 2 kd11 rfl (by decide) q_767 rfl dX11_write_53 ?_
      exact ret 56 _ (nI (ts + 1)) _ dX11_write_56 (⟨rfl, rfl⟩)
    ·
      exact absurd c26_2 (by omega)
  ·
    exact absurd c14_1 (by decide)

set_option maxHeartbeats 4000000 in
set_option maxRecDepth 100000 in
theorem c_X11_wipe (l : Launch) (G : GG) (o : Nat) (th : Int32) (qtx ts pl qrp qpg qtr qbk dn qkp qik sn qsw qsi : Nat) (sd : Int64) (qln qfm qby qwy wz qfo qon qmn qpr qle qst qwt rc tk ps gn : Nat) (bd : Int32) (qwo : Nat)  : MM l G yX11_wipe (Cond.code yX11_wipe cX11_wipe 2 (some .int)) { frames := 0, cells := 0, slots := 0, locals := 0 } [.ref o] [ob o 11 [.int th, .ref qtx, .int (nI ts), .int (nI pl), .ref qrp, .ref qpg, .ref qtr, .ref qbk, .int (nI dn), .ref qkp, .ref qik, .int (nI sn), .ref qsw, .ref qsi, .long sd, .ref qln, .ref qfm, .ref qby, .ref qwy, .int (nI wz), .ref qfo, .ref qon, .ref qmn, .ref qpr, .ref qle, .ref qst, .ref qwt, .int (nI rc), .int (nI tk), .int (nI ps), .int (nI gn), .int bd, .ref qwo]] (fun (v : Option Value) (w : va_W) => v = some (.int (nI ts)) ∧ w = [ob o 11 [.int (nI 0), .ref qtx, .int (nI 0), .int (nI pl), .ref qrp, .ref qpg, .ref qtr, .ref qbk, .int (nI dn), .ref qkp, .ref qik, .int (nI sn), .ref qsw, .ref qsi, .long sd, .ref qln, .ref qfm, .ref qby, .ref qwy, .int (nI wz), .ref qfo, .ref qon, .ref qmn, .ref qpr, .ref qle, .ref qst, .ref qwt, .int (nI rc), .int (nI tk), .int (nI ps), .int (nI gn), .int bd, .ref qwo]]) 0 0 := by
  refine MM.ofI (by decide) rfl (fun Γ X Y hnm ret => ?_)
  show Wc Γ 0 0 0 [(0, .ref o)] [] [ob o 11 [.int th, .ref qtx, .int (nI ts), .int (nI pl), .ref qrp, .ref qpg, .ref qtr, .ref qbk, .int (nI dn), .ref qkp, .ref qik, .int (nI sn), .ref qsw, .ref qsi, .long sd, .ref qln, .ref qfm, .ref qby, .ref qwy, .int (nI wz), .ref qfo, .ref qon, .ref qmn, .ref qpr, .ref qle, .ref qst, .ref qwt, .int (nI rc), .int (nI tk), .int (nI ps), .int (nI gn), .int bd, .ref qwo]]
  refine wc_aload_n X 0 0 dX11_wipe_0 rfl ?_
  refine wc_iconstN X 1 0 dX11_wipe_1 ?_
  refine wc_put X Y 2 0 0 kd11 rfl (by decide) q_765 rfl rfl rfl (Nat.le_of_ble_eq_true rfl) (ws' := [ob o 11 [.int (nI 0), .ref qtx, .int (nI ts), .int (nI pl), .ref qrp, .ref qpg, .ref qtr, .ref qbk, .int (nI dn), .ref qkp, .ref qik, .int (nI sn), .ref qsw, .ref qsi, .long sd, .ref qln, .ref qfm, .ref qby, .ref qwy, .int (nI wz), .ref qfo, .ref qon, .ref qmn, .ref qpr, .ref qle, .ref qst, .ref qwt, .int (nI rc), .int (nI tk), .int (nI ps), .int (nI gn), .int bd, .ref qwo]]) rfl dX11_wipe_2 ?_
  refine wc_aload_n X 5 0 dX11_wipe_5 rfl ?_
  refine wc_get X 6 0 2 kd11 rfl (by decide) q_767 rfl dX11_wipe_6 ?_
  refine wc_istore_n X 9 (L' := [(0, .ref o), (1, .int (nI ts))]) dX11_wipe_9 (by decide) rfl ?_
  refine wc_aload_n X 10 0 dX11_wipe_10 rfl ?_
  refine wc_iconstN X 11 0 dX11_wipe_11 ?_
  refine wc_put X Y 12 0 2 kd11 rfl (by decide) q_767 rfl rfl rfl (Nat.le_of_ble_eq_true rfl) (ws' := [ob o 11 [.int (nI 0), .ref qtx, .int (nI 0), .int (nI pl), .ref qrp, .ref qpg, .ref qtr, .ref qbk, .int (nI dn), .ref qkp, .ref qik, .int (nI sn), .ref qsw, .ref qsi, .long sd, .ref qln, .ref qfm, .ref qby, .ref qwy, .int (nI wz), .ref qfo, .ref qon, .ref qmn, .ref qpr, .ref qle, .ref qst, .ref qwt, .int (nI rc), .int (nI tk), .int (nI ps), .int (nI gn), .int bd, .ref qwo]]) rfl dX11_wipe_12 ?_
  refine wc_iload_n X 15 1 dX11_wipe_15 rfl ?_
  exact ret 16 _ (nI ts) _ dX11_wipe_16 (⟨rfl, rfl⟩)

set_option maxHeartbeats 4000000 in
set_option maxRecDepth 100000 in
theorem c_X11_fault (l : Launch) (G : GG) (o : Nat) (th : Int32) (qtx ts pl qrp qpg qtr qbk dn qkp qik sn qsw qsi : Nat) (sd : Int64) (qln qfm qby qwy wz qfo qon qmn qpr qle qst qwt rc tk ps gn : Nat) (bd : Int32) (qwo : Nat) (t : Nat → Nat) (r0 : Nat → Nat) (hts : ts ≤ 80) (ht : ∀ j, t j < 256) : MM l G yX11_fault (Cond.code yX11_fault cX11_fault 1 (some .int)) { frames := 5, cells := 0, slots := 0, locals := 118 } [.ref o] [ob o 11 [.int th, .ref qtx, .int (nI ts), .int (nI pl), .ref qrp, .ref qpg, .ref qtr, .ref qbk, .int (nI dn), .ref qkp, .ref qik, .int (nI sn), .ref qsw, .ref qsi, .long sd, .ref qln, .ref qfm, .ref qby, .ref qwy, .int (nI wz), .ref qfo, .ref qon, .ref qmn, .ref qpr, .ref qle, .ref qst, .ref qwt, .int (nI rc), .int (nI tk), .int (nI ps), .int (nI gn), .int bd, .ref qwo], aI G qtx 80 (nF t), aI G qrp 22 (nF r0)] (fun (v : Option Value) (w : va_W) => ∃ (pl2 : Nat) (r2 : Nat → Nat), v = some (.int (optI (parseP t ts).1)) ∧ w = [ob o 11 [.int (nI 0), .ref qtx, .int (nI ts), .int (nI pl2), .ref qrp, .ref qpg, .ref qtr, .ref qbk, .int (nI dn), .ref qkp, .ref qik, .int (nI sn), .ref qsw, .ref qsi, .long sd, .ref qln, .ref qfm, .ref qby, .ref qwy, .int (nI wz), .ref qfo, .ref qon, .ref qmn, .ref qpr, .ref qle, .ref qst, .ref qwt, .int (nI rc), .int (nI tk), .int (nI ps), .int (nI gn), .int bd, .ref qwo], aI G qtx 80 (nF t), aI G qrp 22 (nF r2)]) 0 0 := by
  refine MM.ofI (by decide) rfl (fun Γ X Y hnm ret => ?_)
  show Wc Γ 0 0 0 [(0, .ref o)] [] [ob o 11 [.int th, .ref qtx, .int (nI ts), .int (nI pl), .ref qrp, .ref qpg, .ref qtr, .ref qbk, .int (nI dn), .ref qkp, .ref qik, .int (nI sn), .ref qsw, .ref qsi, .long sd, .ref qln, .ref qfm, .ref qby, .ref qwy, .int (nI wz), .ref qfo, .ref qon, .ref qmn, .ref qpr, .ref qle, .ref qst, .ref qwt, .int (nI rc), .int (nI tk), .int (nI ps), .int (nI gn), .int bd, .ref qwo], aI G qtx 80 (nF t), aI G qrp 22 (nF r0)]
  refine wc_aload_n X 0 0 dX11_fault_0 rfl ?_
  refine wc_iconstN X 1 0 dX11_fault_1 ?_
  refine wc_put X Y 2 0 0 kd11 rfl (by decide) q_765 rfl rfl rfl (Nat.le_of_ble_eq_true rfl) (ws' := [ob o 11 [.int (nI 0), .ref qtx, .int (nI ts), .int (nI pl), .ref qrp, .ref qpg, .ref qtr, .ref qbk, .int (nI dn), .ref qkp, .ref qik, .int (nI sn), .ref qsw, .ref qsi, .long sd, .ref qln, .ref qfm, .ref qby, .ref qwy, .int (nI wz), .ref qfo, .ref qon, .ref qmn, .ref qpr, .ref qle, .ref qst, .ref qwt, .int (nI rc), .int (nI tk), .int (nI ps), .int (nI gn), .int bd, .ref qwo], aI G qtx 80 (nF t), aI G qrp 22 (nF r0)]) rfl dX11_fault_2 ?_
  refine wc_aload_n X 5 0 dX11_fault_5 rfl ?_
  refine wc_mutV X Y 6 [0, 1, 2] [] 0 (c_X11_readMachines l G o (nI 0) qtx ts pl qrp qpg qtr qbk dn qkp qik sn qsw qsi sd qln qfm qby qwy wz qfo qon qmn qpr qle qst qwt rc tk ps gn bd qwo t r0 (by first | assumption | omega) (by first | assumption | omega)) yv_X11_readMachines kd11 rfl rfl (wr := []) rfl ⟨rfl, rfl, rfl⟩ q_881 ⟨rfl, rfl⟩ ⟨rfl, rfl⟩ ⟨rfl, rfl⟩ rfl rfl rfl dX11_fault_6 (fun v w hp_1 => ?_)
  obtain ⟨pl2_2, r2_3, rfl, rfl, hf_4⟩ := hp_1
  refine wc_perm Y [0, 1, 2] [ob o 11 [.int (nI 0), .ref qtx, .int (nI ts), .int (nI pl2_2), .ref qrp, .ref qpg, .ref qtr, .ref qbk, .int (nI dn), .ref qkp, .ref qik, .int (nI sn), .ref qsw, .ref qsi, .long sd, .ref qln, .ref qfm, .ref qby, .ref qwy, .int (nI wz), .ref qfo, .ref qon, .ref qmn, .ref qpr, .ref qle, .ref qst, .ref qwt, .int (nI rc), .int (nI tk), .int (nI ps), .int (nI gn), .int bd, .ref qwo], aI G qtx 80 (nF t), aI G qrp 22 (nF r2_3)] rfl rfl ?_
  show Wc Γ 0 0 9 [(0, .ref o)] [.int (optI (parseP t ts).1)] [ob o 11 [.int (nI 0), .ref qtx, .int (nI ts), .int (nI pl2_2), .ref qrp, .ref qpg, .ref qtr, .ref qbk, .int (nI dn), .ref qkp, .ref qik, .int (nI sn), .ref qsw, .ref qsi, .long sd, .ref qln, .ref qfm, .ref qby, .ref qwy, .int (nI wz), .ref qfo, .ref qon, .ref qmn, .ref qpr, .ref qle, .ref qst, .ref qwt, .int (nI rc), .int (nI tk), .int (nI ps), .int (nI gn), .int bd, .ref qwo], aI G qtx 80 (nF t), aI G qrp 22 (nF r2_3)]
  exact ret 9 _ (optI (parseP t ts).1) _ dX11_fault_9 (⟨_, _, rfl, rfl⟩)

set_option maxHeartbeats 4000000 in
set_option maxRecDepth 100000 in
theorem c_X11_machinesF (l : Launch) (G : GG) (o : Nat) (th : Int32) (qtx ts pl qrp qpg qtr qbk dn qkp qik sn qsw qsi : Nat) (sd : Int64) (qln qfm qby qwy wz qfo qon qmn qpr qle qst qwt rc tk ps gn : Nat) (bd : Int32) (qwo : Nat) (t : Nat → Nat) (r0 : Nat → Nat) (hts : ts ≤ 80) (ht : ∀ j, t j < 256) (hq : ∃ k, (parseP t ts).1 = some k) : MM l G yX11_machines (Cond.code yX11_machines cX11_machines 1 (some .int)) { frames := 5, cells := 0, slots := 0, locals := 118 } [.ref o] [ob o 11 [.int th, .ref qtx, .int (nI ts), .int (nI pl), .ref qrp, .ref qpg, .ref qtr, .ref qbk, .int (nI dn), .ref qkp, .ref qik, .int (nI sn), .ref qsw, .ref qsi, .long sd, .ref qln, .ref qfm, .ref qby, .ref qwy, .int (nI wz), .ref qfo, .ref qon, .ref qmn, .ref qpr, .ref qle, .ref qst, .ref qwt, .int (nI rc), .int (nI tk), .int (nI ps), .int (nI gn), .int bd, .ref qwo], aI G qtx 80 (nF t), aI G qrp 22 (nF r0)] (fun (v : Option Value) (w : va_W) => ∃ (pl2 : Nat) (r2 : Nat → Nat), v = some (.int (-3)) ∧ w = [ob o 11 [.int (nI 0), .ref qtx, .int (nI ts), .int (nI pl2), .ref qrp, .ref qpg, .ref qtr, .ref qbk, .int (nI dn), .ref qkp, .ref qik, .int (nI sn), .ref qsw, .ref qsi, .long sd, .ref qln, .ref qfm, .ref qby, .ref qwy, .int (nI wz), .ref qfo, .ref qon, .ref qmn, .ref qpr, .ref qle, .ref qst, .ref qwt, .int (nI rc), .int (nI tk), .int (nI ps), .int (nI gn), .int bd, .ref qwo], aI G qtx 80 (nF t), aI G qrp 22 (nF r2)]) 0 0 := by
  refine MM.ofI (by decide) rfl (fun Γ X Y hnm ret => ?_)
  show Wc Γ 0 0 0 [(0, .ref o)] [] [ob o 11 [.int th, .ref qtx, .int (nI ts), .int (nI pl), .ref qrp, .ref qpg, .ref qtr, .ref qbk, .int (nI dn), .ref qkp, .ref qik, .int (nI sn), .ref qsw, .ref qsi, .long sd, .ref qln, .ref qfm, .ref qby, .ref qwy, .int (nI wz), .ref qfo, .ref qon, .ref qmn, .ref qpr, .ref qle, .ref qst, .ref qwt, .int (nI rc), .int (nI tk), .int (nI ps), .int (nI gn), .int bd, .ref qwo], aI G qtx 80 (nF t), aI G qrp 22 (nF r0)]
  refine wc_aload_n X 0 0 dX11_machines_0 rfl ?_
  refine wc_iconstN X 1 0 dX11_machines_1 ?_
  refine wc_put X Y 2 0 0 kd11 rfl (by decide) q_765 rfl rfl rfl (Nat.le_of_ble_eq_true rfl) (ws' := [ob o 11 [.int (nI 0), .ref qtx, .int (nI ts), .int (nI pl), .ref qrp, .ref qpg, .ref qtr, .ref qbk, .int (nI dn), .ref qkp, .ref qik, .int (nI sn), .ref qsw, .ref qsi, .long sd, .ref qln, .ref qfm, .ref qby, .ref qwy, .int (nI wz), .ref qfo, .ref qon, .ref qmn, .ref qpr, .ref qle, .ref qst, .ref qwt, .int (nI rc), .int (nI tk), .int (nI ps), .int (nI gn), .int bd, .ref qwo], aI G qtx 80 (nF t), aI G qrp 22 (nF r0)]) rfl dX11_machines_2 ?_
  refine wc_aload_n X 5 0 dX11_machines_5 rfl ?_
  refine wc_mutV X Y 6 [0, 1, 2] [] 0 (c_X11_readMachines l G o (nI 0) qtx ts pl qrp qpg qtr qbk dn qkp qik sn qsw qsi sd qln qfm qby qwy wz qfo qon qmn qpr qle qst qwt rc tk ps gn bd qwo t r0 (by first | assumption | omega) (by first | assumption | omega)) yv_X11_readMachines kd11 rfl rfl (wr := []) rfl ⟨rfl, rfl, rfl⟩ q_881 ⟨rfl, rfl⟩ ⟨rfl, rfl⟩ ⟨rfl, rfl⟩ rfl rfl rfl dX11_machines_6 (fun v w hp_1 => ?_)
  obtain ⟨pl2_2, r2_3, rfl, rfl, hf_4⟩ := hp_1
  refine wc_perm Y [0, 1, 2] [ob o 11 [.int (nI 0), .ref qtx, .int (nI ts), .int (nI pl2_2), .ref qrp, .ref qpg, .ref qtr, .ref qbk, .int (nI dn), .ref qkp, .ref qik, .int (nI sn), .ref qsw, .ref qsi, .long sd, .ref qln, .ref qfm, .ref qby, .ref qwy, .int (nI wz), .ref qfo, .ref qon, .ref qmn, .ref qpr, .ref qle, .ref qst, .ref qwt, .int (nI rc), .int (nI tk), .int (nI ps), .int (nI gn), .int bd, .ref qwo], aI G qtx 80 (nF t), aI G qrp 22 (nF r2_3)] rfl rfl ?_
  show Wc Γ 0 0 9 [(0, .ref o)] [.int (optI (parseP t ts).1)] [ob o 11 [.int (nI 0), .ref qtx, .int (nI ts), .int (nI pl2_2), .ref qrp, .ref qpg, .ref qtr, .ref qbk, .int (nI dn), .ref qkp, .ref qik, .int (nI sn), .ref qsw, .ref qsi, .long sd, .ref qln, .ref qfm, .ref qby, .ref qwy, .int (nI wz), .ref qfo, .ref qon, .ref qmn, .ref qpr, .ref qle, .ref qst, .ref qwt, .int (nI rc), .int (nI tk), .int (nI ps), .int (nI gn), .int bd, .ref qwo], aI G qtx 80 (nF t), aI G qrp 22 (nF r2_3)]
  refine wc_bipush X 9 (-9) dX11_machines_9 (by decide) ?_
  refine wc_icmp_eq X 11 17 dX11_machines_11 (by decide) (fun c11_5 => ?_) (fun c11_5 => ?_)
  ·
    obtain ⟨k, hk⟩ := hq
    rw [hk] at c11_5
    exact (nI_ne_neg (parse_bd hts hk) (x := -9) (by decide) c11_5).elim
  ·
    refine wc_bipush X 14 (-3) dX11_machines_14 (by decide) ?_
    exact ret 16 _ (-3) _ dX11_machines_16 (⟨_, _, rfl, rfl⟩)

set_option maxHeartbeats 4000000 in
set_option maxRecDepth 100000 in
theorem c_X11_machinesS (l : Launch) (G : GG) (o : Nat) (th : Int32) (qtx ts pl qrp qpg qtr qbk dn qkp qik sn qsw qsi : Nat) (sd : Int64) (qln qfm qby qwy wz qfo qon qmn qpr qle qst qwt rc tk ps gn : Nat) (bd : Int32) (qwo : Nat) (t : Nat → Nat) (r0 p : Nat → Nat) (ik : Nat → Bool) (hts : ts ≤ 80) (ht : ∀ j, t j < 256) (hq : (parseP t ts).1 = none) : MM l G yX11_machines (Cond.code yX11_machines cX11_machines 1 (some .int)) { frames := 5, cells := 0, slots := 0, locals := 118 } [.ref o] [ob o 11 [.int th, .ref qtx, .int (nI ts), .int (nI pl), .ref qrp, .ref qpg, .ref qtr, .ref qbk, .int (nI dn), .ref qkp, .ref qik, .int (nI sn), .ref qsw, .ref qsi, .long sd, .ref qln, .ref qfm, .ref qby, .ref qwy, .int (nI wz), .ref qfo, .ref qon, .ref qmn, .ref qpr, .ref qle, .ref qst, .ref qwt, .int (nI rc), .int (nI tk), .int (nI ps), .int (nI gn), .int bd, .ref qwo], aI G qtx 80 (nF t), aI G qrp 22 (nF r0), aI G qpg 22 (nF p), aZ G qik 2 (bF ik)] (fun (v : Option Value) (w : va_W) => ∃ (pl2 : Nat), v = some (.int (nI (edgN (gz (parseP t ts).2) ((parseP t ts).2 0) + edgN (go (parseP t ts).2) ((parseP t ts).2 1)))) ∧ w = [ob o 11 [.int (nI 0), .ref qtx, .int (nI ts), .int (nI pl2), .ref qrp, .ref qpg, .ref qtr, .ref qbk, .int (nI 0), .ref qkp, .ref qik, .int (nI sn), .ref qsw, .ref qsi, .long sd, .ref qln, .ref qfm, .ref qby, .ref qwy, .int (nI wz), .ref qfo, .ref qon, .ref qmn, .ref qpr, .ref qle, .ref qst, .ref qwt, .int (nI rc), .int (nI tk), .int (nI ps), .int (nI gn), .int bd, .ref qwo], aI G qtx 80 (nF t), aI G qrp 22 (nF ((parseP t ts).2)), aI G qpg 22 (nF ((parseP t ts).2)), aZ G qik 2 (bF (fun _ => false))]) 0 0 := by
  refine MM.ofI (by decide) rfl (fun Γ X Y hnm ret => ?_)
  show Wc Γ 0 0 0 [(0, .ref o)] [] [ob o 11 [.int th, .ref qtx, .int (nI ts), .int (nI pl), .ref qrp, .ref qpg, .ref qtr, .ref qbk, .int (nI dn), .ref qkp, .ref qik, .int (nI sn), .ref qsw, .ref qsi, .long sd, .ref qln, .ref qfm, .ref qby, .ref qwy, .int (nI wz), .ref qfo, .ref qon, .ref qmn, .ref qpr, .ref qle, .ref qst, .ref qwt, .int (nI rc), .int (nI tk), .int (nI ps), .int (nI gn), .int bd, .ref qwo], aI G qtx 80 (nF t), aI G qrp 22 (nF r0), aI G qpg 22 (nF p), aZ G qik 2 (bF ik)]
  have hr := parseP_ok hq
  refine wc_aload_n X 0 0 dX11_machines_0 rfl ?_
  refine wc_iconstN X 1 0 dX11_machines_1 ?_
  refine wc_put X Y 2 0 0 kd11 rfl (by decide) q_765 rfl rfl rfl (Nat.le_of_ble_eq_true rfl) (ws' := [ob o 11 [.int (nI 0), .ref qtx, .int (nI ts), .int (nI pl), .ref qrp, .ref qpg, .ref qtr, .ref qbk, .int (nI dn), .ref qkp, .ref qik, .int (nI sn), .ref qsw, .ref qsi, .long sd, .ref qln, .ref qfm, .ref qby, .ref qwy, .int (nI wz), .ref qfo, .ref qon, .ref qmn, .ref qpr, .ref qle, .ref qst, .ref qwt, .int (nI rc), .int (nI tk), .int (nI ps), .int (nI gn), .int bd, .ref qwo], aI G qtx 80 (nF t), aI G qrp 22 (nF r0), aI G qpg 22 (nF p), aZ G qik 2 (bF ik)]) rfl dX11_machines_2 ?_
  refine wc_aload_n X 5 0 dX11_machines_5 rfl ?_
  refine wc_mutV X Y 6 [0, 1, 2] [3, 4] 0 (c_X11_readMachines l G o (nI 0) qtx ts pl qrp qpg qtr qbk dn qkp qik sn qsw qsi sd qln qfm qby qwy wz qfo qon qmn qpr qle qst qwt rc tk ps gn bd qwo t r0 (by first | assumption | omega) (by first | assumption | omega)) yv_X11_readMachines kd11 rfl rfl (wr := [aI G qpg 22 (nF p), aZ G qik 2 (bF ik)]) rfl ⟨rfl, rfl, rfl⟩ q_881 ⟨rfl, rfl⟩ ⟨rfl, rfl⟩ ⟨rfl, rfl⟩ rfl rfl rfl dX11_machines_6 (fun v w hp_1 => ?_)
  obtain ⟨pl2_2, r_9, rfl, rfl, hpq⟩ := hp_1
  refine wc_perm Y [2, 3, 4, 0, 1] [ob o 11 [.int (nI 0), .ref qtx, .int (nI ts), .int (nI pl2_2), .ref qrp, .ref qpg, .ref qtr, .ref qbk, .int (nI dn), .ref qkp, .ref qik, .int (nI sn), .ref qsw, .ref qsi, .long sd, .ref qln, .ref qfm, .ref qby, .ref qwy, .int (nI wz), .ref qfo, .ref qon, .ref qmn, .ref qpr, .ref qle, .ref qst, .ref qwt, .int (nI rc), .int (nI tk), .int (nI ps), .int (nI gn), .int bd, .ref qwo], aI G qtx 80 (nF t), aI G qrp 22 (nF r_9), aI G qpg 22 (nF p), aZ G qik 2 (bF ik)] rfl rfl ?_
  show Wc Γ 0 0 9 [(0, .ref o)] [.int (optI (parseP t ts).1)] [ob o 11 [.int (nI 0), .ref qtx, .int (nI ts), .int (nI pl2_2), .ref qrp, .ref qpg, .ref qtr, .ref qbk, .int (nI dn), .ref qkp, .ref qik, .int (nI sn), .ref qsw, .ref qsi, .long sd, .ref qln, .ref qfm, .ref qby, .ref qwy, .int (nI wz), .ref qfo, .ref qon, .ref qmn, .ref qpr, .ref qle, .ref qst, .ref qwt, .int (nI rc), .int (nI tk), .int (nI ps), .int (nI gn), .int bd, .ref qwo], aI G qtx 80 (nF t), aI G qrp 22 (nF r_9), aI G qpg 22 (nF p), aZ G qik 2 (bF ik)]
  obtain rfl := hpq hq
  refine wc_bipush X 9 (-9) dX11_machines_9 (by decide) ?_
  refine wc_st (st' := [.int (-9), .int (-9)]) (by rw [hq]; rfl) ?_
  refine wc_icmp_eq X 11 17 dX11_machines_11 (by decide) (fun c11_3 => ?_) (fun c11_3 => ?_)
  ·
    refine wc_aload_n X 17 0 dX11_machines_17 rfl ?_
    refine wc_get X 18 0 5 kd11 rfl (by decide) q_770 rfl dX11_machines_18 ?_
    refine wc_aload_n X 21 0 dX11_machines_21 rfl ?_
    refine wc_get X 22 0 4 kd11 rfl (by decide) q_769 rfl dX11_machines_22 ?_
    refine wc_mutS X Y 25 [3, 2] [0, 1, 4] (c_X11_lay l G qpg p qrp ((parseP t ts).2) ) ys_X11_lay rfl (wr := [ob o 11 [.int (nI 0), .ref qtx, .int (nI ts), .int (nI pl2_2), .ref qrp, .ref qpg, .ref qtr, .ref qbk, .int (nI dn), .ref qkp, .ref qik, .int (nI sn), .ref qsw, .ref qsi, .long sd, .ref qln, .ref qfm, .ref qby, .ref qwy, .int (nI wz), .ref qfo, .ref qon, .ref qmn, .ref qpr, .ref qle, .ref qst, .ref qwt, .int (nI rc), .int (nI tk), .int (nI ps), .int (nI gn), .int bd, .ref qwo], aI G qtx 80 (nF t), aZ G qik 2 (bF ik)]) rfl ⟨rfl, rfl, rfl⟩ q_927 ⟨rfl, rfl⟩ ⟨rfl, rfl⟩ ⟨rfl, rfl⟩ rfl rfl rfl dX11_machines_25 (fun v w hp_4 => ?_)
    obtain ⟨rfl, rfl⟩ := hp_4
    refine wc_perm Y [0, 1, 4, 3, 2] [ob o 11 [.int (nI 0), .ref qtx, .int (nI ts), .int (nI pl2_2), .ref qrp, .ref qpg, .ref qtr, .ref qbk, .int (nI dn), .ref qkp, .ref qik, .int (nI sn), .ref qsw, .ref qsi, .long sd, .ref qln, .ref qfm, .ref qby, .ref qwy, .int (nI wz), .ref qfo, .ref qon, .ref qmn, .ref qpr, .ref qle, .ref qst, .ref qwt, .int (nI rc), .int (nI tk), .int (nI ps), .int (nI gn), .int bd, .ref qwo], aI G qtx 80 (nF t), aI G qrp 22 (nF ((parseP t ts).2)), aI G qpg 22 (nF ((parseP t ts).2)), aZ G qik 2 (bF ik)] rfl rfl ?_
    show Wc Γ 0 0 28 [(0, .ref o)] [] [ob o 11 [.int (nI 0), .ref qtx, .int (nI ts), .int (nI pl2_2), .ref qrp, .ref qpg, .ref qtr, .ref qbk, .int (nI dn), .ref qkp, .ref qik, .int (nI sn), .ref qsw, .ref qsi, .long sd, .ref qln, .ref qfm, .ref qby, .ref qwy, .int (nI wz), .ref qfo, .ref qon, .ref qmn, .ref qpr, .ref qle, .ref qst, .ref qwt, .int (nI rc), .int (nI tk), .int (nI ps), .int (nI gn), .int bd, .ref qwo], aI G qtx 80 (nF t), aI G qrp 22 (nF ((parseP t ts).2)), aI G qpg 22 (nF ((parseP t ts).2)), aZ G qik 2 (bF ik)]
    refine wc_aload_n X 28 0 dX11_machines_28 rfl ?_
    refine wc_iconstN X 29 0 dX11_machines_29 ?_
    refine wc_put X Y 30 0 8 kd11 rfl (by decide) q_773 rfl rfl rfl (Nat.le_of_ble_eq_true rfl) (ws' := [ob o 11 [.int (nI 0), .ref qtx, .int (nI ts), .int (nI pl2_2), .ref qrp, .ref qpg, .ref qtr, .ref qbk, .int (nI 0), .ref qkp, .ref qik, .int (nI sn), .ref qsw, .ref qsi, .long sd, .ref qln, .ref qfm, .ref qby, .ref qwy, .int (nI wz), .ref qfo, .ref qon, .ref qmn, .ref qpr, .ref qle, .ref qst, .ref qwt, .int (nI rc), .int (nI tk), .int (nI ps), .int (nI gn), .int bd, .ref qwo], aI G qtx 80 (nF t), aI G qrp 22 (nF ((parseP t ts).2)), aI G qpg 22 (nF ((parseP t ts).2)), aZ G qik 2 (bF ik)]) rfl dX11_machines_30 ?_
    refine wc_aload_n X 33 0 dX11_machines_33 rfl ?_
    refine wc_get X 34 0 10 kd11 rfl (by decide) q_775 rfl dX11_machines_34 ?_
    refine wc_iconstN X 37 0 dX11_machines_37 ?_
    refine wc_iconstN X 38 0 dX11_machines_38 ?_
    refine wc_st (st' := [.int (b2i false), .int (nI 0), .ref qik]) rfl ?_
    refine wc_zastG X Y 39 4 rfl (by decide) (by decide) (ws' := [ob o 11 [.int (nI 0), .ref qtx, .int (nI ts), .int (nI pl2_2), .ref qrp, .ref qpg, .ref qtr, .ref qbk, .int (nI 0), .ref qkp, .ref qik, .int (nI sn), .ref qsw, .ref qsi, .long sd, .ref qln, .ref qfm, .ref qby, .ref qwy, .int (nI wz), .ref qfo, .ref qon, .ref qmn, .ref qpr, .ref qle, .ref qst, .ref qwt, .int (nI rc), .int (nI tk), .int (nI ps), .int (nI gn), .int bd, .ref qwo], aI G qtx 80 (nF t), aI G qrp 22 (nF ((parseP t ts).2)), aI G qpg 22 (nF ((parseP t ts).2)), aZ G qik 2 (bF (up ik 0 false))]) rfl dX11_machines_39 ?_
    refine wc_aload_n X 40 0 dX11_machines_40 rfl ?_
    refine wc_get X 41 0 10 kd11 rfl (by decide) q_775 rfl dX11_machines_41 ?_
    refine wc_iconstN X 44 1 dX11_machines_44 ?_
    refine wc_iconstN X 45 0 dX11_machines_45 ?_
    refine wc_st (st' := [.int (b2i false), .int (nI 1), .ref qik]) rfl ?_
    refine wc_zastG X Y 46 4 rfl (by decide) (by decide) (ws' := [ob o 11 [.int (nI 0), .ref qtx, .int (nI ts), .int (nI pl2_2), .ref qrp, .ref qpg, .ref qtr, .ref qbk, .int (nI 0), .ref qkp, .ref qik, .int (nI sn), .ref qsw, .ref qsi, .long sd, .ref qln, .ref qfm, .ref qby, .ref qwy, .int (nI wz), .ref qfo, .ref qon, .ref qmn, .ref qpr, .ref qle, .ref qst, .ref qwt, .int (nI rc), .int (nI tk), .int (nI ps), .int (nI gn), .int bd, .ref qwo], aI G qtx 80 (nF t), aI G qrp 22 (nF ((parseP t ts).2)), aI G qpg 22 (nF ((parseP t ts).2)), aZ G qik 2 (bF (up (up ik 0 false) 1 false))]) rfl dX11_machines_46 ?_
    refine wc_ext X Y 4 (f' := bF (fun _ => false)) rfl (fun j hj => by rcases (show j = 0 ∨ j = 1 by omega) with rfl | rfl <;> rfl) (ws' := [ob o 11 [.int (nI 0), .ref qtx, .int (nI ts), .int (nI pl2_2), .ref qrp, .ref qpg, .ref qtr, .ref qbk, .int (nI 0), .ref qkp, .ref qik, .int (nI sn), .ref qsw, .ref qsi, .long sd, .ref qln, .ref qfm, .ref qby, .ref qwy, .int (nI wz), .ref qfo, .ref qon, .ref qmn, .ref qpr, .ref qle, .ref qst, .ref qwt, .int (nI rc), .int (nI tk), .int (nI ps), .int (nI gn), .int bd, .ref qwo], aI G qtx 80 (nF t), aI G qrp 22 (nF ((parseP t ts).2)), aI G qpg 22 (nF ((parseP t ts).2)), aZ G qik 2 (bF (fun _ => false))]) rfl ?_
    refine wc_aload_n X 47 0 dX11_machines_47 rfl ?_
    refine wc_get X 48 0 5 kd11 rfl (by decide) q_770 rfl dX11_machines_48 ?_
    refine wc_callS X 51 [3] (c_X11_allEdges l G qpg ((parseP t ts).2) hr.2.1 hr.2.2.2.1 hr.2.2.2.2.1) ys_X11_allEdges rfl q_930 ⟨rfl, rfl⟩ ⟨rfl, rfl⟩ ⟨rfl, rfl⟩ rfl rfl rfl dX11_machines_51 ?_
    exact ret 54 _ (nI (edgN (mG ((parseP t ts).2) 0) (((parseP t ts).2) 0) + edgN (mG ((parseP t ts).2) 1) (((parseP t ts).2) 1))) _ dX11_machines_54 (⟨_, rfl, rfl⟩)
  ·
    exact absurd rfl c11_3

set_option maxHeartbeats 4000000 in
set_option maxRecDepth 100000 in
theorem c_X11_edgeF (l : Launch) (G : GG) (o : Nat) (th : Int32) (qtx ts pl qrp qpg qtr qbk dn qkp qik sn qsw qsi : Nat) (sd : Int64) (qln qfm qby qwy wz qfo qon qmn qpr qle qst qwt rc tk ps gn : Nat) (bd : Int32) (qwo : Nat) (p : Nat → Nat) (m i c j : Int32) (hr : pgOk p) (hb : (stOf (p 0) (p 1) m i && (decide (c = nI 1) || decide (c = nI 2)) && stOf (p 0) (p 1) m j) = false) : MM l G yX11_edge (Cond.code yX11_edge cX11_edge 5 (some .int)) { frames := 3, cells := 0, slots := 0, locals := 71 } [.ref o, .int m, .int i, .int c, .int j] [ob o 11 [.int th, .ref qtx, .int (nI ts), .int (nI pl), .ref qrp, .ref qpg, .ref qtr, .ref qbk, .int (nI dn), .ref qkp, .ref qik, .int (nI sn), .ref qsw, .ref qsi, .long sd, .ref qln, .ref qfm, .ref qby, .ref qwy, .int (nI wz), .ref qfo, .ref qon, .ref qmn, .ref qpr, .ref qle, .ref qst, .ref qwt, .int (nI rc), .int (nI tk), .int (nI ps), .int (nI gn), .int bd, .ref qwo], aI G qpg 22 (nF p)] (fun (v : Option Value) (w : va_W) => v = some (.int (-1)) ∧ w = [ob o 11 [.int (nI 0), .ref qtx, .int (nI ts), .int (nI pl), .ref qrp, .ref qpg, .ref qtr, .ref qbk, .int (nI dn), .ref qkp, .ref qik, .int (nI sn), .ref qsw, .ref qsi, .long sd, .ref qln, .ref qfm, .ref qby, .ref qwy, .int (nI wz), .ref qfo, .ref qon, .ref qmn, .ref qpr, .ref qle, .ref qst, .ref qwt, .int (nI rc), .int (nI tk), .int (nI ps), .int (nI gn), .int bd, .ref qwo], aI G qpg 22 (nF p)]) 0 0 := by
  refine MM.ofI (by decide) rfl (fun Γ X Y hnm ret => ?_)
  show Wc Γ 0 0 0 [(0, .ref o), (1, .int m), (2, .int i), (3, .int c), (4, .int j)] [] [ob o 11 [.int th, .ref qtx, .int (nI ts), .int (nI pl), .ref qrp, .ref qpg, .ref qtr, .ref qbk, .int (nI dn), .ref qkp, .ref qik, .int (nI sn), .ref qsw, .ref qsi, .long sd, .ref qln, .ref qfm, .ref qby, .ref qwy, .int (nI wz), .ref qfo, .ref qon, .ref qmn, .ref qpr, .ref qle, .ref qst, .ref qwt, .int (nI rc), .int (nI tk), .int (nI ps), .int (nI gn), .int bd, .ref qwo], aI G qpg 22 (nF p)]
  refine wc_aload_n X 0 0 dX11_edge_0 rfl ?_
  refine wc_iconstN X 1 0 dX11_edge_1 ?_
  refine wc_put X Y 2 0 0 kd11 rfl (by decide) q_765 rfl rfl rfl (Nat.le_of_ble_eq_true rfl) (ws' := [ob o 11 [.int (nI 0), .ref qtx, .int (nI ts), .int (nI pl), .ref qrp, .ref qpg, .ref qtr, .ref qbk, .int (nI dn), .ref qkp, .ref qik, .int (nI sn), .ref qsw, .ref qsi, .long sd, .ref qln, .ref qfm, .ref qby, .ref qwy, .int (nI wz), .ref qfo, .ref qon, .ref qmn, .ref qpr, .ref qle, .ref qst, .ref qwt, .int (nI rc), .int (nI tk), .int (nI ps), .int (nI gn), .int bd, .ref qwo], aI G qpg 22 (nF p)]) rfl dX11_edge_2 ?_
  refine wc_aload_n X 5 0 dX11_edge_5 rfl ?_
  refine wc_iload_n X 6 1 dX11_edge_6 rfl ?_
  refine wc_iload_n X 7 2 dX11_edge_7 rfl ?_
  refine wc_iload_n X 8 3 dX11_edge_8 rfl ?_
  refine wc_iload X 9 4 dX11_edge_9 rfl ?_
  refine wc_callV X 11 [0, 1] 0 (c_X11_noEdge l G o (nI 0) qtx ts pl qrp qpg qtr qbk dn qkp qik sn qsw qsi sd qln qfm qby qwy wz qfo qon qmn qpr qle qst qwt rc tk ps gn bd qwo p m i c j (by first | assumption | omega)) yv_X11_noEdge kd11 rfl rfl q_937 ⟨rfl, rfl⟩ ⟨rfl, rfl⟩ ⟨rfl, rfl⟩ rfl rfl rfl dX11_edge_11 ?_
  refine wc_topi (b2i true) (congrArg b2i (by rw [hb]; rfl)) ?_
  refine wc_if_eqB X 14 19 dX11_edge_14 (by decide) (fun c14_1 => ?_) (fun c14_1 => ?_)
  ·
    exact absurd c14_1 (by decide)
  ·
    refine wc_iconst X 17 (-1) dX11_edge_17 (by decide) ?_
    exact ret 18 _ (-1) _ dX11_edge_18 (⟨rfl, rfl⟩)

set_option maxHeartbeats 4000000 in
set_option maxRecDepth 100000 in
theorem c_X11_turnF (l : Launch) (G : GG) (o : Nat) (th : Int32) (qtx ts pl qrp qpg qtr qbk dn qkp qik sn qsw qsi : Nat) (sd : Int64) (qln qfm qby qwy wz qfo qon qmn qpr qle qst qwt rc tk ps gn : Nat) (bd : Int32) (qwo : Nat) (p : Nat → Nat) (m i c j : Int32) (hr : pgOk p) (hb : (stOf (p 0) (p 1) m i && (decide (c = nI 1) || decide (c = nI 2)) && stOf (p 0) (p 1) m j) = false) : MM l G yX11_turn (Cond.code yX11_turn cX11_turn 5 (some .int)) { frames := 3, cells := 0, slots := 0, locals := 71 } [.ref o, .int m, .int i, .int c, .int j] [ob o 11 [.int th, .ref qtx, .int (nI ts), .int (nI pl), .ref qrp, .ref qpg, .ref qtr, .ref qbk, .int (nI dn), .ref qkp, .ref qik, .int (nI sn), .ref qsw, .ref qsi, .long sd, .ref qln, .ref qfm, .ref qby, .ref qwy, .int (nI wz), .ref qfo, .ref qon, .ref qmn, .ref qpr, .ref qle, .ref qst, .ref qwt, .int (nI rc), .int (nI tk), .int (nI ps), .int (nI gn), .int bd, .ref qwo], aI G qpg 22 (nF p)] (fun (v : Option Value) (w : va_W) => v = some (.int (-1)) ∧ w = [ob o 11 [.int (nI 0), .ref qtx, .int (nI ts), .int (nI pl), .ref qrp, .ref qpg, .ref qtr, .ref qbk, .int (nI dn), .ref qkp, .ref qik, .int (nI sn), .ref qsw, .ref qsi, .long sd, .ref qln, .ref qfm, .ref qby, .ref qwy, .int (nI wz), .ref qfo, .ref qon, .ref qmn, .ref qpr, .ref qle, .ref qst, .ref qwt, .int (nI rc), .int (nI tk), .int (nI ps), .int (nI gn), .int bd, .ref qwo], aI G qpg 22 (nF p)]) 0 0 := by
  refine MM.ofI (by decide) rfl (fun Γ X Y hnm ret => ?_)
  show Wc Γ 0 0 0 [(0, .ref o), (1, .int m), (2, .int i), (3, .int c), (4, .int j)] [] [ob o 11 [.int th, .ref qtx, .int (nI ts), .int (nI pl), .ref qrp, .ref qpg, .ref qtr, .ref qbk, .int (nI dn), .ref qkp, .ref qik, .int (nI sn), .ref qsw, .ref qsi, .long sd, .ref qln, .ref qfm, .ref qby, .ref qwy, .int (nI wz), .ref qfo, .ref qon, .ref qmn, .ref qpr, .ref qle, .ref qst, .ref qwt, .int (nI rc), .int (nI tk), .int (nI ps), .int (nI gn), .int bd, .ref qwo], aI G qpg 22 (nF p)]
  refine wc_aload_n X 0 0 dX11_turn_0 rfl ?_
  refine wc_iconstN X 1 0 dX11_turn_1 ?_
  refine wc_put X Y 2 0 0 kd11 rfl (by decide) q_765 rfl rfl rfl (Nat.le_of_ble_eq_true rfl) (ws' := [ob o 11 [.int (nI 0), .ref qtx, .int (nI ts), .int (nI pl), .ref qrp, .ref qpg, .ref qtr, .ref qbk, .int (nI dn), .ref qkp, .ref qik, .int (nI sn), .ref qsw, .ref qsi, .long sd, .ref qln, .ref qfm, .ref qby, .ref qwy, .int (nI wz), .ref qfo, .ref qon, .ref qmn, .ref qpr, .ref qle, .ref qst, .ref qwt, .int (nI rc), .int (nI tk), .int (nI ps), .int (nI gn), .int bd, .ref qwo], aI G qpg 22 (nF p)]) rfl dX11_turn_2 ?_
  refine wc_aload_n X 5 0 dX11_turn_5 rfl ?_
  refine wc_iload_n X 6 1 dX11_turn_6 rfl ?_
  refine wc_iload_n X 7 2 dX11_turn_7 rfl ?_
  refine wc_iload_n X 8 3 dX11_turn_8 rfl ?_
  refine wc_iload X 9 4 dX11_turn_9 rfl ?_
  refine wc_callV X 11 [0, 1] 0 (c_X11_noEdge l G o (nI 0) qtx ts pl qrp qpg qtr qbk dn qkp qik sn qsw qsi sd qln qfm qby qwy wz qfo qon qmn qpr qle qst qwt rc tk ps gn bd qwo p m i c j (by first | assumption | omega)) yv_X11_noEdge kd11 rfl rfl q_937 ⟨rfl, rfl⟩ ⟨rfl, rfl⟩ ⟨rfl, rfl⟩ rfl rfl rfl dX11_turn_11 ?_
  refine wc_topi (b2i true) (congrArg b2i (by rw [hb]; rfl)) ?_
  refine wc_if_eqB X 14 19 dX11_turn_14 (by decide) (fun c14_1 => ?_) (fun c14_1 => ?_)
  ·
    exact absurd c14_1 (by decide)
  ·
    refine wc_iconst X 17 (-1) dX11_turn_17 (by decide) ?_
    exact ret 18 _ (-1) _ dX11_turn_18 (⟨rfl, rfl⟩)

set_option maxHeartbeats 4000000 in
set_option maxRecDepth 100000 in
theorem c_X11_noteA (l : Launch) (G : GG) (o : Nat) (th : Int32) (qtx ts pl qrp qpg qtr qbk dn qkp qik sn qsw qsi : Nat) (sd : Int64) (qln qfm qby qwy wz qfo qon qmn qpr qle qst qwt rc tk ps gn : Nat) (bd : Int32) (qwo : Nat) (p : Nat → Nat) (bk : Nat → Nat) (hl : dn < 14) : MM l G yX11_note (Cond.code yX11_note cX11_note 2 none) { frames := 0, cells := 0, slots := 0, locals := 0 } [.ref o] [ob o 11 [.int th, .ref qtx, .int (nI ts), .int (nI pl), .ref qrp, .ref qpg, .ref qtr, .ref qbk, .int (nI dn), .ref qkp, .ref qik, .int (nI sn), .ref qsw, .ref qsi, .long sd, .ref qln, .ref qfm, .ref qby, .ref qwy, .int (nI wz), .ref qfo, .ref qon, .ref qmn, .ref qpr, .ref qle, .ref qst, .ref qwt, .int (nI rc), .int (nI tk), .int (nI ps), .int (nI gn), .int bd, .ref qwo], aI G qpg 22 (nF p), aI G qbk 308 (nF bk)] (fun (v : Option Value) (w : va_W) => ∃ (bk2 : Nat → Nat), v = none ∧ w = [ob o 11 [.int th, .ref qtx, .int (nI ts), .int (nI pl), .ref qrp, .ref qpg, .ref qtr, .ref qbk, .int (nI (dn + 1)), .ref qkp, .ref qik, .int (nI sn), .ref qsw, .ref qsi, .long sd, .ref qln, .ref qfm, .ref qby, .ref qwy, .int (nI wz), .ref qfo, .ref qon, .ref qmn, .ref qpr, .ref qle, .ref qst, .ref qwt, .int (nI rc), .int (nI tk), .int (nI ps), .int (nI gn), .int bd, .ref qwo], aI G qpg 22 (nF p), aI G qbk 308 (nF bk2)] ∧ ((∀ j, j < 22 * dn → bk2 j = bk j) ∧ ∀ k, k < 22 → bk2 (22 * dn + k) = p k)) 0 0 := by
  refine MM.ofV (by decide) rfl (fun Γ X Y hnm ret => ?_)
  show Wc Γ 0 0 0 [(0, .ref o)] [] [ob o 11 [.int th, .ref qtx, .int (nI ts), .int (nI pl), .ref qrp, .ref qpg, .ref qtr, .ref qbk, .int (nI dn), .ref qkp, .ref qik, .int (nI sn), .ref qsw, .ref qsi, .long sd, .ref qln, .ref qfm, .ref qby, .ref qwy, .int (nI wz), .ref qfo, .ref qon, .ref qmn, .ref qpr, .ref qle, .ref qst, .ref qwt, .int (nI rc), .int (nI tk), .int (nI ps), .int (nI gn), .int bd, .ref qwo], aI G qpg 22 (nF p), aI G qbk 308 (nF bk)]
  refine wc_aload_n X 0 0 dX11_note_0 rfl ?_
  refine wc_get X 1 0 8 kd11 rfl (by decide) q_773 rfl dX11_note_1 ?_
  refine wc_bipush X 4 (nI 14) dX11_note_4 (by decide) ?_
  refine wc_icmp_neN X 6 49 dX11_note_6 (by decide) (by omega) (by decide) (fun c6_1 => ?_) (fun c6_1 => ?_)
  ·
    refine wc_iconstN X 49 0 dX11_note_49 ?_
    refine wc_istore_n X 50 (L' := [(0, .ref o), (1, .int (nI 0))]) dX11_note_50 (by decide) rfl ?_
    have LP_3 : ∀ (fuel_2 : Nat) (i : Nat) (h : Nat → Nat), (i ≤ 22) → (∀ j, j < 22 * dn → h j = bk j) → (∀ k, k < i → h (22 * dn + k) = p k) → 22 - i < fuel_2 → Wc Γ 0 0 51 [(0, .ref o), (1, .int (nI i))] [] [ob o 11 [.int th, .ref qtx, .int (nI ts), .int (nI pl), .ref qrp, .ref qpg, .ref qtr, .ref qbk, .int (nI dn), .ref qkp, .ref qik, .int (nI sn), .ref qsw, .ref qsi, .long sd, .ref qln, .ref qfm, .ref qby, .ref qwy, .int (nI wz), .ref qfo, .ref qon, .ref qmn, .ref qpr, .ref qle, .ref qst, .ref qwt, .int (nI rc), .int (nI tk), .int (nI ps), .int (nI gn), .int bd, .ref qwo], aI G qpg 22 (nF p), aI G qbk 308 (nF h)] := by
      intro fuel_2
      induction fuel_2 with
      | zero => intro i h hi h1 h2 hm; exact absurd hm (Nat.not_lt_zero _)
      | succ fuel_2 ih_4 =>
        intro i h hi h1 h2 hm_5
        refine wc_iload_n X 51 1 dX11_note_51 rfl ?_
        refine wc_bipush X 52 (nI 22) dX11_note_52 (by decide) ?_
        refine wc_icmp_geN X 54 83 dX11_note_54 (by decide) (by omega) (by decide) (fun c54_6 => ?_) (fun c54_6 => ?_)
        ·
          refine wc_aload_n X 83 0 dX11_note_83 rfl ?_
          refine wc_dup X 84 dX11_note_84 rfl ?_
          refine wc_get X 85 0 8 kd11 rfl (by decide) q_773 rfl dX11_note_85 ?_
          refine wc_iconstN X 88 1 dX11_note_88 ?_
          refine wc_iaddN X 89 dX11_note_89 ?_
          refine wc_put X Y 90 0 8 kd11 rfl (by decide) q_773 rfl rfl rfl (Nat.le_of_ble_eq_true rfl) (ws' := [ob o 11 [.int th, .ref qtx, .int (nI ts), .int (nI pl), .ref qrp, .ref qpg, .ref qtr, .ref qbk, .int (nI (dn + 1)), .ref qkp, .ref qik, .int (nI sn), .ref qsw, .ref qsi, .long sd, .ref qln, .ref qfm, .ref qby, .ref qwy, .int (nI wz), .ref qfo, .ref qon, .ref qmn, .ref qpr, .ref qle, .ref qst, .ref qwt, .int (nI rc), .int (nI tk), .int (nI ps), .int (nI gn), .int bd, .ref qwo], aI G qpg 22 (nF p), aI G qbk 308 (nF h)]) rfl dX11_note_90 ?_
          exact ret 93 _ _ dX11_note_93 (⟨h, rfl, rfl, h1, fun k hk => h2 k (by omega)⟩)
        ·
          refine wc_aload_n X 57 0 dX11_note_57 rfl ?_
          refine wc_get X 58 0 7 kd11 rfl (by decide) q_772 rfl dX11_note_58 ?_
          refine wc_bipush X 61 (nI 22) dX11_note_61 (by decide) ?_
          refine wc_aload_n X 63 0 dX11_note_63 rfl ?_
          refine wc_get X 64 0 8 kd11 rfl (by decide) q_773 rfl dX11_note_64 ?_
          refine wc_imulN X 67 dX11_note_67 ?_
          refine wc_iload_n X 68 1 dX11_note_68 rfl ?_
          refine wc_iaddN X 69 dX11_note_69 ?_
          refine wc_aload_n X 70 0 dX11_note_70 rfl ?_
          refine wc_get X 71 0 5 kd11 rfl (by decide) q_770 rfl dX11_note_71 ?_
          refine wc_iload_n X 74 1 dX11_note_74 rfl ?_
          refine wc_ialdG X 75 1 rfl (by omega) (by decide) dX11_note_75 ?_
          refine wc_iastG X Y 76 2 rfl (by omega) (by decide) (ws' := [ob o 11 [.int th, .ref qtx, .int (nI ts), .int (nI pl), .ref qrp, .ref qpg, .ref qtr, .ref qbk, .int (nI dn), .ref qkp, .ref qik, .int (nI sn), .ref qsw, .ref qsi, .long sd, .ref qln, .ref qfm, .ref qby, .ref qwy, .int (nI wz), .ref qfo, .ref qon, .ref qmn, .ref qpr, .ref qle, .ref qst, .ref qwt, .int (nI rc), .int (nI tk), .int (nI ps), .int (nI gn), .int bd, .ref qwo], aI G qpg 22 (nF p), aI G qbk 308 (nF (up h ((22 * dn) + i) (p i)))]) rfl dX11_note_76 ?_
          refine wc_iincN X 77 1 (L' := [(0, .ref o), (1, .int (nI (i + 1)))]) dX11_note_77 rfl (by decide) rfl ?_
          refine wc_goto X 80 51 dX11_note_80 (by decide) ?_
          refine wc_L (L' := [(0, .ref o), (1, .int (nI (i + 1)))]) (by rfl) ?_
          exact ih_4 (i + 1) (up h ((22 * dn) + i) (p i)) (by omega) (bk_put (p := p) h1 h2).1 (bk_put (p := p) h1 h2).2 (by omega)
    exact LP_3 (22 - 0 + 1) 0 bk (by decide) (fun j hj => rfl) (fun k hk => absurd hk (Nat.not_lt_zero _)) (Nat.lt_succ_self _)
  ·
    exact absurd c6_1 (by omega)

set_option maxHeartbeats 4000000 in
set_option maxRecDepth 100000 in
theorem c_X11_noteB (l : Launch) (G : GG) (o : Nat) (th : Int32) (qtx ts pl qrp qpg qtr qbk qkp qik sn qsw qsi : Nat) (sd : Int64) (qln qfm qby qwy wz qfo qon qmn qpr qle qst qwt rc tk ps gn : Nat) (bd : Int32) (qwo : Nat) (p : Nat → Nat) (bk : Nat → Nat)  : MM l G yX11_note (Cond.code yX11_note cX11_note 2 none) { frames := 0, cells := 0, slots := 0, locals := 0 } [.ref o] [ob o 11 [.int th, .ref qtx, .int (nI ts), .int (nI pl), .ref qrp, .ref qpg, .ref qtr, .ref qbk, .int (nI 14), .ref qkp, .ref qik, .int (nI sn), .ref qsw, .ref qsi, .long sd, .ref qln, .ref qfm, .ref qby, .ref qwy, .int (nI wz), .ref qfo, .ref qon, .ref qmn, .ref qpr, .ref qle, .ref qst, .ref qwt, .int (nI rc), .int (nI tk), .int (nI ps), .int (nI gn), .int bd, .ref qwo], aI G qpg 22 (nF p), aI G qbk 308 (nF bk)] (fun (v : Option Value) (w : va_W) => ∃ (bk2 : Nat → Nat), v = none ∧ w = [ob o 11 [.int th, .ref qtx, .int (nI ts), .int (nI pl), .ref qrp, .ref qpg, .ref qtr, .ref qbk, .int (nI 14), .ref qkp, .ref qik, .int (nI sn), .ref qsw, .ref qsi, .long sd, .ref qln, .ref qfm, .ref qby, .ref qwy, .int (nI wz), .ref qfo, .ref qon, .ref qmn, .ref qpr, .ref qle, .ref qst, .ref qwt, .int (nI rc), .int (nI tk), .int (nI ps), .int (nI gn), .int bd, .ref qwo], aI G qpg 22 (nF p), aI G qbk 308 (nF bk2)] ∧ ((∀ j, j < 286 → bk2 j = bk (j + 22)) ∧ ∀ k, k < 22 → bk2 (286 + k) = p k)) 0 0 := by
  refine MM.ofV (by decide) rfl (fun Γ X Y hnm ret => ?_)
  show Wc Γ 0 0 0 [(0, .ref o)] [] [ob o 11 [.int th, .ref qtx, .int (nI ts), .int (nI pl), .ref qrp, .ref qpg, .ref qtr, .ref qbk, .int (nI 14), .ref qkp, .ref qik, .int (nI sn), .ref qsw, .ref qsi, .long sd, .ref qln, .ref qfm, .ref qby, .ref qwy, .int (nI wz), .ref qfo, .ref qon, .ref qmn, .ref qpr, .ref qle, .ref qst, .ref qwt, .int (nI rc), .int (nI tk), .int (nI ps), .int (nI gn), .int bd, .ref qwo], aI G qpg 22 (nF p), aI G qbk 308 (nF bk)]
  refine wc_aload_n X 0 0 dX11_note_0 rfl ?_
  refine wc_get X 1 0 8 kd11 rfl (by decide) q_773 rfl dX11_note_1 ?_
  refine wc_bipush X 4 (nI 14) dX11_note_4 (by decide) ?_
  refine wc_icmp_neN X 6 49 dX11_note_6 (by decide) (by decide) (by decide) (fun c6_1 => ?_) (fun c6_1 => ?_)
  ·
    exact absurd c6_1 (by decide)
  ·
    refine wc_iconstN X 9 0 dX11_note_9 ?_
    refine wc_istore_n X 10 (L' := [(0, .ref o), (1, .int (nI 0))]) dX11_note_10 (by decide) rfl ?_
    have LP_3 : ∀ (fuel_2 : Nat) (i9 : Nat) (h9 : Nat → Nat), (i9 ≤ 286) → (∀ j, j < i9 → h9 j = bk (j + 22)) → (∀ j, i9 ≤ j → h9 j = bk j) → 286 - i9 < fuel_2 → Wc Γ 0 0 11 [(0, .ref o), (1, .int (nI i9))] [] [ob o 11 [.int th, .ref qtx, .int (nI ts), .int (nI pl), .ref qrp, .ref qpg, .ref qtr, .ref qbk, .int (nI 14), .ref qkp, .ref qik, .int (nI sn), .ref qsw, .ref qsi, .long sd, .ref qln, .ref qfm, .ref qby, .ref qwy, .int (nI wz), .ref qfo, .ref qon, .ref qmn, .ref qpr, .ref qle, .ref qst, .ref qwt, .int (nI rc), .int (nI tk), .int (nI ps), .int (nI gn), .int bd, .ref qwo], aI G qpg 22 (nF p), aI G qbk 308 (nF h9)] := by
      intro fuel_2
      induction fuel_2 with
      | zero => intro i9 h9 hi9 hs1 hs2 hm; exact absurd hm (Nat.not_lt_zero _)
      | succ fuel_2 ih_4 =>
        intro i9 h9 hi9 hs1 hs2 hm_5
        refine wc_iload_n X 11 1 dX11_note_11 rfl ?_
        refine wc_sipush X 12 (nI 286) dX11_note_12 (by decide) ?_
        refine wc_icmp_geN X 15 39 dX11_note_15 (by decide) (by omega) (by decide) (fun c15_6 => ?_) (fun c15_6 => ?_)
        ·
          have hs1 : ∀ j, j < 22 * 13 → h9 j = bk (j + 22) := fun j hj => hs1 j (by omega)
          refine wc_aload_n X 39 0 dX11_note_39 rfl ?_
          refine wc_dup X 40 dX11_note_40 rfl ?_
          refine wc_get X 41 0 8 kd11 rfl (by decide) q_773 rfl dX11_note_41 ?_
          refine wc_iconstN X 44 1 dX11_note_44 ?_
          refine wc_isubN X 45 dX11_note_45 (by omega) ?_
          refine wc_put X Y 46 0 8 kd11 rfl (by decide) q_773 rfl rfl rfl (Nat.le_of_ble_eq_true rfl) (ws' := [ob o 11 [.int th, .ref qtx, .int (nI ts), .int (nI pl), .ref qrp, .ref qpg, .ref qtr, .ref qbk, .int (nI (14 - 1)), .ref qkp, .ref qik, .int (nI sn), .ref qsw, .ref qsi, .long sd, .ref qln, .ref qfm, .ref qby, .ref qwy, .int (nI wz), .ref qfo, .ref qon, .ref qmn, .ref qpr, .ref qle, .ref qst, .ref qwt, .int (nI rc), .int (nI tk), .int (nI ps), .int (nI gn), .int bd, .ref qwo], aI G qpg 22 (nF p), aI G qbk 308 (nF h9)]) rfl dX11_note_46 ?_
          refine wc_ws (ws' := [ob o 11 [.int th, .ref qtx, .int (nI ts), .int (nI pl), .ref qrp, .ref qpg, .ref qtr, .ref qbk, .int (nI 13), .ref qkp, .ref qik, .int (nI sn), .ref qsw, .ref qsi, .long sd, .ref qln, .ref qfm, .ref qby, .ref qwy, .int (nI wz), .ref qfo, .ref qon, .ref qmn, .ref qpr, .ref qle, .ref qst, .ref qwt, .int (nI rc), .int (nI tk), .int (nI ps), .int (nI gn), .int bd, .ref qwo], aI G qpg 22 (nF p), aI G qbk 308 (nF h9)]) (rfl) ?_
          refine wc_iconstN X 49 0 dX11_note_49 ?_
          refine wc_istore_n X 50 (L' := [(0, .ref o), (1, .int (nI 0))]) dX11_note_50 (by decide) rfl ?_
          have LP_8 : ∀ (fuel_7 : Nat) (i : Nat) (h : Nat → Nat), (i ≤ 22) → (∀ j, j < 22 * 13 → h j = bk (j + 22)) → (∀ k, k < i → h (22 * 13 + k) = p k) → 22 - i < fuel_7 → Wc Γ 0 0 51 [(0, .ref o), (1, .int (nI i))] [] [ob o 11 [.int th, .ref qtx, .int (nI ts), .int (nI pl), .ref qrp, .ref qpg, .ref qtr, .ref qbk, .int (nI 13), .ref qkp, .ref qik, .int (nI sn), .ref qsw, .ref qsi, .long sd, .ref qln, .ref qfm, .ref qby, .ref qwy, .int (nI wz), .ref qfo, .ref qon, .ref qmn, .ref qpr, .ref qle, .ref qst, .ref qwt, .int (nI rc), .int (nI tk), .int (nI ps), .int (nI gn), .int bd, .ref qwo], aI G qpg 22 (nF p), aI G qbk 308 (nF h)] := by
            intro fuel_7
            induction fuel_7 with
            | zero => intro i h hi h1 h2 hm; exact absurd hm (Nat.not_lt_zero _)
            | succ fuel_7 ih_9 =>
              intro i h hi h1 h2 hm_10
              refine wc_iload_n X 51 1 dX11_note_51 rfl ?_
              refine wc_bipush X 52 (nI 22) dX11_note_52 (by decide) ?_
              refine wc_icmp_geN X 54 83 dX11_note_54 (by decide) (by omega) (by decide) (fun c54_11 => ?_) (fun c54_11 => ?_)
              ·
                refine wc_aload_n X 83 0 dX11_note_83 rfl ?_
                refine wc_dup X 84 dX11_note_84 rfl ?_
                refine wc_get X 85 0 8 kd11 rfl (by decide) q_773 rfl dX11_note_85 ?_
                refine wc_iconstN X 88 1 dX11_note_88 ?_
                refine wc_iaddN X 89 dX11_note_89 ?_
                refine wc_put X Y 90 0 8 kd11 rfl (by decide) q_773 rfl rfl rfl (Nat.le_of_ble_eq_true rfl) (ws' := [ob o 11 [.int th, .ref qtx, .int (nI ts), .int (nI pl), .ref qrp, .ref qpg, .ref qtr, .ref qbk, .int (nI (13 + 1)), .ref qkp, .ref qik, .int (nI sn), .ref qsw, .ref qsi, .long sd, .ref qln, .ref qfm, .ref qby, .ref qwy, .int (nI wz), .ref qfo, .ref qon, .ref qmn, .ref qpr, .ref qle, .ref qst, .ref qwt, .int (nI rc), .int (nI tk), .int (nI ps), .int (nI gn), .int bd, .ref qwo], aI G qpg 22 (nF p), aI G qbk 308 (nF h)]) rfl dX11_note_90 ?_
                exact ret 93 _ _ dX11_note_93 (⟨h, rfl, rfl, fun j hj => h1 j (by omega), fun k hk => h2 k (by omega)⟩)
              ·
                refine wc_aload_n X 57 0 dX11_note_57 rfl ?_
                refine wc_get X 58 0 7 kd11 rfl (by decide) q_772 rfl dX11_note_58 ?_
                refine wc_bipush X 61 (nI 22) dX11_note_61 (by decide) ?_
                refine wc_aload_n X 63 0 dX11_note_63 rfl ?_
                refine wc_get X 64 0 8 kd11 rfl (by decide) q_773 rfl dX11_note_64 ?_
                refine wc_imulN X 67 dX11_note_67 ?_
                refine wc_iload_n X 68 1 dX11_note_68 rfl ?_
                refine wc_iaddN X 69 dX11_note_69 ?_
                refine wc_aload_n X 70 0 dX11_note_70 rfl ?_
                refine wc_get X 71 0 5 kd11 rfl (by decide) q_770 rfl dX11_note_71 ?_
                refine wc_iload_n X 74 1 dX11_note_74 rfl ?_
                refine wc_ialdG X 75 1 rfl (by omega) (by decide) dX11_note_75 ?_
                refine wc_iastG X Y 76 2 rfl (by omega) (by decide) (ws' := [ob o 11 [.int th, .ref qtx, .int (nI ts), .int (nI pl), .ref qrp, .ref qpg, .ref qtr, .ref qbk, .int (nI 13), .ref qkp, .ref qik, .int (nI sn), .ref qsw, .ref qsi, .long sd, .ref qln, .ref qfm, .ref qby, .ref qwy, .int (nI wz), .ref qfo, .ref qon, .ref qmn, .ref qpr, .ref qle, .ref qst, .ref qwt, .int (nI rc), .int (nI tk), .int (nI ps), .int (nI gn), .int bd, .ref qwo], aI G qpg 22 (nF p), aI G qbk 308 (nF (up h ((22 * 13) + i) (p i)))]) rfl dX11_note_76 ?_
                refine wc_iincN X 77 1 (L' := [(0, .ref o), (1, .int (nI (i + 1)))]) dX11_note_77 rfl (by decide) rfl ?_
                refine wc_goto X 80 51 dX11_note_80 (by decide) ?_
                refine wc_L (L' := [(0, .ref o), (1, .int (nI (i + 1)))]) (by rfl) ?_
                exact ih_9 (i + 1) (up h ((22 * 13) + i) (p i)) (by omega) (bk_put (p := p) h1 h2).1 (bk_put (p := p) h1 h2).2 (by omega)
          exact LP_8 (22 - 0 + 1) 0 h9 (by decide) (fun j hj => hs1 j hj) (fun k hk => absurd hk (Nat.not_lt_zero _)) (Nat.lt_succ_self _)
        ·
          refine wc_aload_n X 18 0 dX11_note_18 rfl ?_
          refine wc_get X 19 0 7 kd11 rfl (by decide) q_772 rfl dX11_note_19 ?_
          refine wc_iload_n X 22 1 dX11_note_22 rfl ?_
          refine wc_aload_n X 23 0 dX11_note_23 rfl ?_
          refine wc_get X 24 0 7 kd11 rfl (by decide) q_772 rfl dX11_note_24 ?_
          refine wc_iload_n X 27 1 dX11_note_27 rfl ?_
          refine wc_bipush X 28 (nI 22) dX11_note_28 (by decide) ?_
          refine wc_iaddN X 30 dX11_note_30 ?_
          refine wc_ialdG X 31 2 rfl (by omega) (by decide) dX11_note_31 ?_
          refine wc_iastG X Y 32 2 rfl (by omega) (by decide) (ws' := [ob o 11 [.int th, .ref qtx, .int (nI ts), .int (nI pl), .ref qrp, .ref qpg, .ref qtr, .ref qbk, .int (nI 14), .ref qkp, .ref qik, .int (nI sn), .ref qsw, .ref qsi, .long sd, .ref qln, .ref qfm, .ref qby, .ref qwy, .int (nI wz), .ref qfo, .ref qon, .ref qmn, .ref qpr, .ref qle, .ref qst, .ref qwt, .int (nI rc), .int (nI tk), .int (nI ps), .int (nI gn), .int bd, .ref qwo], aI G qpg 22 (nF p), aI G qbk 308 (nF (up h9 i9 (h9 (i9 + 22))))]) rfl dX11_note_32 ?_
          refine wc_iincN X 33 1 (L' := [(0, .ref o), (1, .int (nI (i9 + 1)))]) dX11_note_33 rfl (by decide) rfl ?_
          refine wc_goto X 36 11 dX11_note_36 (by decide) ?_
          refine wc_L (L' := [(0, .ref o), (1, .int (nI (i9 + 1)))]) (by rfl) ?_
          exact ih_4 (i9 + 1) (up h9 i9 (h9 (i9 + 22))) (by omega) (bk_sh hs1 hs2).1 (bk_sh hs1 hs2).2 (by omega)
    exact LP_3 (286 - 0 + 1) 0 bk (by decide) (fun j hj => absurd hj (Nat.not_lt_zero _)) (fun j _ => rfl) (Nat.lt_succ_self _)

set_option maxHeartbeats 4000000 in
set_option maxRecDepth 100000 in
theorem c_X11_edge0 (l : Launch) (G : GG) (o : Nat) (th : Int32) (qtx ts pl qrp qpg qtr qbk dn qkp qik sn qsw qsi : Nat) (sd : Int64) (qln qfm qby qwy wz qfo qon qmn qpr qle qst qwt rc tk ps gn : Nat) (bd : Int32) (qwo : Nat) (p : Nat → Nat) (i c j : Nat) (hr : pgOk p) (hi : i < p 0) (h1 : 1 ≤ c) (h2 : c ≤ 2) (ht : j < p 0) : MM l G yX11_edge (Cond.code yX11_edge cX11_edge 5 (some .int)) { frames := 3, cells := 0, slots := 0, locals := 71 } [.ref o, .int (nI 0), .int (nI i), .int (nI c), .int (nI j)] [ob o 11 [.int th, .ref qtx, .int (nI ts), .int (nI pl), .ref qrp, .ref qpg, .ref qtr, .ref qbk, .int (nI dn), .ref qkp, .ref qik, .int (nI sn), .ref qsw, .ref qsi, .long sd, .ref qln, .ref qfm, .ref qby, .ref qwy, .int (nI wz), .ref qfo, .ref qon, .ref qmn, .ref qpr, .ref qle, .ref qst, .ref qwt, .int (nI rc), .int (nI tk), .int (nI ps), .int (nI gn), .int bd, .ref qwo], aI G qpg 22 (nF p)] (fun (v : Option Value) (w : va_W) => v = some (.int (nI ((Nat.testBit (gz p (i * 2 + c - 1)) j).toNat))) ∧ w = [ob o 11 [.int (nI 0), .ref qtx, .int (nI ts), .int (nI pl), .ref qrp, .ref qpg, .ref qtr, .ref qbk, .int (nI dn), .ref qkp, .ref qik, .int (nI sn), .ref qsw, .ref qsi, .long sd, .ref qln, .ref qfm, .ref qby, .ref qwy, .int (nI wz), .ref qfo, .ref qon, .ref qmn, .ref qpr, .ref qle, .ref qst, .ref qwt, .int (nI rc), .int (nI tk), .int (nI ps), .int (nI gn), .int bd, .ref qwo], aI G qpg 22 (nF p)]) 0 0 := by
  refine MM.ofI (by decide) rfl (fun Γ X Y hnm ret => ?_)
  show Wc Γ 0 0 0 [(0, .ref o), (1, .int (nI 0)), (2, .int (nI i)), (3, .int (nI c)), (4, .int (nI j))] [] [ob o 11 [.int th, .ref qtx, .int (nI ts), .int (nI pl), .ref qrp, .ref qpg, .ref qtr, .ref qbk, .int (nI dn), .ref qkp, .ref qik, .int (nI sn), .ref qsw, .ref qsi, .long sd, .ref qln, .ref qfm, .ref qby, .ref qwy, .int (nI wz), .ref qfo, .ref qon, .ref qmn, .ref qpr, .ref qle, .ref qst, .ref qwt, .int (nI rc), .int (nI tk), .int (nI ps), .int (nI gn), .int bd, .ref qwo], aI G qpg 22 (nF p)]
  have hb := pgOk_m hr (show 0 < 2 by decide)
  refine wc_aload_n X 0 0 dX11_edge_0 rfl ?_
  refine wc_iconstN X 1 0 dX11_edge_1 ?_
  refine wc_put X Y 2 0 0 kd11 rfl (by decide) q_765 rfl rfl rfl (Nat.le_of_ble_eq_true rfl) (ws' := [ob o 11 [.int (nI 0), .ref qtx, .int (nI ts), .int (nI pl), .ref qrp, .ref qpg, .ref qtr, .ref qbk, .int (nI dn), .ref qkp, .ref qik, .int (nI sn), .ref qsw, .ref qsi, .long sd, .ref qln, .ref qfm, .ref qby, .ref qwy, .int (nI wz), .ref qfo, .ref qon, .ref qmn, .ref qpr, .ref qle, .ref qst, .ref qwt, .int (nI rc), .int (nI tk), .int (nI ps), .int (nI gn), .int bd, .ref qwo], aI G qpg 22 (nF p)]) rfl dX11_edge_2 ?_
  refine wc_aload_n X 5 0 dX11_edge_5 rfl ?_
  refine wc_iload_n X 6 1 dX11_edge_6 rfl ?_
  refine wc_iload_n X 7 2 dX11_edge_7 rfl ?_
  refine wc_iload_n X 8 3 dX11_edge_8 rfl ?_
  refine wc_iload X 9 4 dX11_edge_9 rfl ?_
  refine wc_callV X 11 [0, 1] 0 (c_X11_noEdge l G o (nI 0) qtx ts pl qrp qpg qtr qbk dn qkp qik sn qsw qsi sd qln qfm qby qwy wz qfo qon qmn qpr qle qst qwt rc tk ps gn bd qwo p (nI 0) (nI i) (nI c) (nI j) (by first | assumption | omega)) yv_X11_noEdge kd11 rfl rfl q_937 ⟨rfl, rfl⟩ ⟨rfl, rfl⟩ ⟨rfl, rfl⟩ rfl rfl rfl dX11_edge_11 ?_
  refine wc_topi (b2i false) (congrArg b2i (by rw [edO_p (m := 0) hr (by decide) hi h1 h2 ht]; rfl)) ?_
  refine wc_if_eqB X 14 19 dX11_edge_14 (by decide) (fun c14_1 => ?_) (fun c14_1 => ?_)
  ·
    refine wc_aload_n X 19 0 dX11_edge_19 rfl ?_
    refine wc_get X 20 0 5 kd11 rfl (by decide) q_770 rfl dX11_edge_20 ?_
    refine wc_iload_n X 23 1 dX11_edge_23 rfl ?_
    refine wc_iload_n X 24 2 dX11_edge_24 rfl ?_
    refine wc_iload_n X 25 3 dX11_edge_25 rfl ?_
    refine wc_callS X 26 [] (c_X11_at l G 0 i c (by decide) (by have := pgOk_m hr (show 0 < 2 by decide); omega) (by first | assumption | omega) (by first | assumption | omega)) ys_X11_at rfl q_896 ⟨rfl, rfl⟩ ⟨rfl, rfl⟩ ⟨rfl, rfl⟩ rfl rfl rfl dX11_edge_26 ?_
    refine wc_ialdG X 29 1 rfl (atN_lt (by omega) h2) (by decide) dX11_edge_29 ?_
    refine wc_topi (nI (gz p (i * 2 + c - 1))) (congrArg nI (atN_mG (m := 0) (by decide) hr.2.1 hi h1 h2)) ?_
    refine wc_iload X 30 4 dX11_edge_30 rfl ?_
    refine wc_callS X 32 [] (c_X11_has l G (gz p (i * 2 + c - 1)) j (Nat.lt_trans (mG_lt (m := 0) hr.2.2.2.2.1 _) (by decide)) (by omega)) ys_X11_has rfl q_916 ⟨rfl, rfl⟩ ⟨rfl, rfl⟩ ⟨rfl, rfl⟩ rfl rfl rfl dX11_edge_32 ?_
    refine wc_if_eqB X 35 42 dX11_edge_35 (by decide) (fun c35_2 => ?_) (fun c35_2 => ?_)
    ·
      refine wc_iconstN X 42 0 dX11_edge_42 ?_
      exact ret 43 _ (nI 0) _ dX11_edge_43 (⟨by rw [c35_2]; rfl, rfl⟩)
    ·
      refine wc_iconstN X 38 1 dX11_edge_38 ?_
      refine wc_goto X 39 43 dX11_edge_39 (by decide) ?_
      exact ret 43 _ (nI 1) _ dX11_edge_43 (⟨by rw [c35_2]; rfl, rfl⟩)
  ·
    exact absurd c14_1 (by decide)

set_option maxHeartbeats 4000000 in
set_option maxRecDepth 100000 in
theorem c_X11_turn0A (l : Launch) (G : GG) (o : Nat) (th : Int32) (qtx ts pl qrp qpg qtr qbk dn qkp qik sn qsw qsi : Nat) (sd : Int64) (qln qfm qby qwy wz qfo qon qmn qpr qle qst qwt rc tk ps gn : Nat) (bd : Int32) (qwo : Nat) (p : Nat → Nat) (bk : Nat → Nat) (i c j : Nat) (hr : pgOk p) (hi : i < p 0) (h1 : 1 ≤ c) (h2 : c ≤ 2) (ht : j < p 0) (hl : dn < 14) : MM l G yX11_turn (Cond.code yX11_turn cX11_turn 5 (some .int)) { frames := 3, cells := 0, slots := 0, locals := 71 } [.ref o, .int (nI 0), .int (nI i), .int (nI c), .int (nI j)] [ob o 11 [.int th, .ref qtx, .int (nI ts), .int (nI pl), .ref qrp, .ref qpg, .ref qtr, .ref qbk, .int (nI dn), .ref qkp, .ref qik, .int (nI sn), .ref qsw, .ref qsi, .long sd, .ref qln, .ref qfm, .ref qby, .ref qwy, .int (nI wz), .ref qfo, .ref qon, .ref qmn, .ref qpr, .ref qle, .ref qst, .ref qwt, .int (nI rc), .int (nI tk), .int (nI ps), .int (nI gn), .int bd, .ref qwo], aI G qpg 22 (nF p), aI G qbk 308 (nF bk)] (fun (v : Option Value) (w : va_W) => ∃ (bk2 : Nat → Nat), v = some (.int (nI ((Nat.testBit (gz (flE p 0 i c j) (i * 2 + c - 1)) j).toNat))) ∧ w = [ob o 11 [.int (nI 0), .ref qtx, .int (nI ts), .int (nI pl), .ref qrp, .ref qpg, .ref qtr, .ref qbk, .int (nI (dn + 1)), .ref qkp, .ref qik, .int (nI sn), .ref qsw, .ref qsi, .long sd, .ref qln, .ref qfm, .ref qby, .ref qwy, .int (nI wz), .ref qfo, .ref qon, .ref qmn, .ref qpr, .ref qle, .ref qst, .ref qwt, .int (nI rc), .int (nI tk), .int (nI ps), .int (nI gn), .int bd, .ref qwo], aI G qpg 22 (nF (flE p 0 i c j)), aI G qbk 308 (nF bk2)] ∧ ((∀ j, j < 22 * dn → bk2 j = bk j) ∧ ∀ k, k < 22 → bk2 (22 * dn + k) = p k)) 0 0 := by
  refine MM.ofI (by decide) rfl (fun Γ X Y hnm ret => ?_)
  show Wc Γ 0 0 0 [(0, .ref o), (1, .int (nI 0)), (2, .int (nI i)), (3, .int (nI c)), (4, .int (nI j))] [] [ob o 11 [.int th, .ref qtx, .int (nI ts), .int (nI pl), .ref qrp, .ref qpg, .ref qtr, .ref qbk, .int (nI dn), .ref qkp, .ref qik, .int (nI sn), .ref qsw, .ref qsi, .long sd, .ref qln, .ref qfm, .ref qby, .ref qwy, .int (nI wz), .ref qfo, .ref qon, .ref qmn, .ref qpr, .ref qle, .ref qst, .ref qwt, .int (nI rc), .int (nI tk), .int (nI ps), .int (nI gn), .int bd, .ref qwo], aI G qpg 22 (nF p), aI G qbk 308 (nF bk)]
  have hb := pgOk_m hr (show 0 < 2 by decide)
  have hz := flE_ok (m := 0) hr (by decide) hi h1 h2 ht
  refine wc_aload_n X 0 0 dX11_turn_0 rfl ?_
  refine wc_iconstN X 1 0 dX11_turn_1 ?_
  refine wc_put X Y 2 0 0 kd11 rfl (by decide) q_765 rfl rfl rfl (Nat.le_of_ble_eq_true rfl) (ws' := [ob o 11 [.int (nI 0), .ref qtx, .int (nI ts), .int (nI pl), .ref qrp, .ref qpg, .ref qtr, .ref qbk, .int (nI dn), .ref qkp, .ref qik, .int (nI sn), .ref qsw, .ref qsi, .long sd, .ref qln, .ref qfm, .ref qby, .ref qwy, .int (nI wz), .ref qfo, .ref qon, .ref qmn, .ref qpr, .ref qle, .ref qst, .ref qwt, .int (nI rc), .int (nI tk), .int (nI ps), .int (nI gn), .int bd, .ref qwo], aI G qpg 22 (nF p), aI G qbk 308 (nF bk)]) rfl dX11_turn_2 ?_
  refine wc_aload_n X 5 0 dX11_turn_5 rfl ?_
  refine wc_iload_n X 6 1 dX11_turn_6 rfl ?_
  refine wc_iload_n X 7 2 dX11_turn_7 rfl ?_
  refine wc_iload_n X 8 3 dX11_turn_8 rfl ?_
  refine wc_iload X 9 4 dX11_turn_9 rfl ?_
  refine wc_callV X 11 [0, 1] 0 (c_X11_noEdge l G o (nI 0) qtx ts pl qrp qpg qtr qbk dn qkp qik sn qsw qsi sd qln qfm qby qwy wz qfo qon qmn qpr qle qst qwt rc tk ps gn bd qwo p (nI 0) (nI i) (nI c) (nI j) (by first | assumption | omega)) yv_X11_noEdge kd11 rfl rfl q_937 ⟨rfl, rfl⟩ ⟨rfl, rfl⟩ ⟨rfl, rfl⟩ rfl rfl rfl dX11_turn_11 ?_
  refine wc_topi (b2i false) (congrArg b2i (by rw [edO_p (m := 0) hr (by decide) hi h1 h2 ht]; rfl)) ?_
  refine wc_if_eqB X 14 19 dX11_turn_14 (by decide) (fun c14_1 => ?_) (fun c14_1 => ?_)
  ·
    refine wc_aload_n X 19 0 dX11_turn_19 rfl ?_
    refine wc_mutV X Y 20 [0, 1, 2] [] 0 (c_X11_noteA l G o (nI 0) qtx ts pl qrp qpg qtr qbk dn qkp qik sn qsw qsi sd qln qfm qby qwy wz qfo qon qmn qpr qle qst qwt rc tk ps gn bd qwo p bk (by first | assumption | omega)) yv_X11_note kd11 rfl rfl (wr := []) rfl ⟨rfl, rfl, rfl⟩ q_950 ⟨rfl, rfl⟩ ⟨rfl, rfl⟩ ⟨rfl, rfl⟩ rfl rfl rfl dX11_turn_20 (fun v w hp_2 => ?_)
    obtain ⟨bk2_3, rfl, rfl, hbk⟩ := hp_2
    refine wc_perm Y [0, 1, 2] [ob o 11 [.int (nI 0), .ref qtx, .int (nI ts), .int (nI pl), .ref qrp, .ref qpg, .ref qtr, .ref qbk, .int (nI (dn + 1)), .ref qkp, .ref qik, .int (nI sn), .ref qsw, .ref qsi, .long sd, .ref qln, .ref qfm, .ref qby, .ref qwy, .int (nI wz), .ref qfo, .ref qon, .ref qmn, .ref qpr, .ref qle, .ref qst, .ref qwt, .int (nI rc), .int (nI tk), .int (nI ps), .int (nI gn), .int bd, .ref qwo], aI G qpg 22 (nF p), aI G qbk 308 (nF bk2_3)] rfl rfl ?_
    show Wc Γ 0 0 23 [(0, .ref o), (1, .int (nI 0)), (2, .int (nI i)), (3, .int (nI c)), (4, .int (nI j))] [] [ob o 11 [.int (nI 0), .ref qtx, .int (nI ts), .int (nI pl), .ref qrp, .ref qpg, .ref qtr, .ref qbk, .int (nI (dn + 1)), .ref qkp, .ref qik, .int (nI sn), .ref qsw, .ref qsi, .long sd, .ref qln, .ref qfm, .ref qby, .ref qwy, .int (nI wz), .ref qfo, .ref qon, .ref qmn, .ref qpr, .ref qle, .ref qst, .ref qwt, .int (nI rc), .int (nI tk), .int (nI ps), .int (nI gn), .int bd, .ref qwo], aI G qpg 22 (nF p), aI G qbk 308 (nF bk2_3)]
    refine wc_aload_n X 23 0 dX11_turn_23 rfl ?_
    refine wc_get X 24 0 5 kd11 rfl (by decide) q_770 rfl dX11_turn_24 ?_
    refine wc_iload_n X 27 1 dX11_turn_27 rfl ?_
    refine wc_iload_n X 28 2 dX11_turn_28 rfl ?_
    refine wc_iload_n X 29 3 dX11_turn_29 rfl ?_
    refine wc_callS X 30 [] (c_X11_at l G 0 i c (by decide) (by have := pgOk_m hr (show 0 < 2 by decide); omega) (by first | assumption | omega) (by first | assumption | omega)) ys_X11_at rfl q_896 ⟨rfl, rfl⟩ ⟨rfl, rfl⟩ ⟨rfl, rfl⟩ rfl rfl rfl dX11_turn_30 ?_
    refine wc_dup2 X 33 dX11_turn_33 rfl rfl ?_
    refine wc_ialdG X 34 1 rfl (atN_lt (by omega) h2) (by decide) dX11_turn_34 ?_
    refine wc_iconstN X 35 1 dX11_turn_35 ?_
    refine wc_iload X 36 4 dX11_turn_36 rfl ?_
    refine wc_shl1 X 38 dX11_turn_38 (by omega) ?_
    refine wc_ixorN X 39 dX11_turn_39 ?_
    refine wc_iastG X Y 40 1 rfl (atN_lt (by omega) h2) (by decide) (ws' := [ob o 11 [.int (nI 0), .ref qtx, .int (nI ts), .int (nI pl), .ref qrp, .ref qpg, .ref qtr, .ref qbk, .int (nI (dn + 1)), .ref qkp, .ref qik, .int (nI sn), .ref qsw, .ref qsi, .long sd, .ref qln, .ref qfm, .ref qby, .ref qwy, .int (nI wz), .ref qfo, .ref qon, .ref qmn, .ref qpr, .ref qle, .ref qst, .ref qwt, .int (nI rc), .int (nI tk), .int (nI ps), .int (nI gn), .int bd, .ref qwo], aI G qpg 22 (nF (up p (atN 0 i c) ((p (atN 0 i c)) ^^^ (2 ^ j)))), aI G qbk 308 (nF bk2_3)]) rfl dX11_turn_40 ?_
    refine wc_ws (ws' := [ob o 11 [.int (nI 0), .ref qtx, .int (nI ts), .int (nI pl), .ref qrp, .ref qpg, .ref qtr, .ref qbk, .int (nI (dn + 1)), .ref qkp, .ref qik, .int (nI sn), .ref qsw, .ref qsi, .long sd, .ref qln, .ref qfm, .ref qby, .ref qwy, .int (nI wz), .ref qfo, .ref qon, .ref qmn, .ref qpr, .ref qle, .ref qst, .ref qwt, .int (nI rc), .int (nI tk), .int (nI ps), .int (nI gn), .int bd, .ref qwo], aI G qpg 22 (nF (flE p 0 i c j)), aI G qbk 308 (nF bk2_3)]) (rfl) ?_
    refine wc_aload_n X 41 0 dX11_turn_41 rfl ?_
    refine wc_get X 42 0 5 kd11 rfl (by decide) q_770 rfl dX11_turn_42 ?_
    refine wc_iload_n X 45 1 dX11_turn_45 rfl ?_
    refine wc_iload_n X 46 2 dX11_turn_46 rfl ?_
    refine wc_iload_n X 47 3 dX11_turn_47 rfl ?_
    refine wc_callS X 48 [] (c_X11_at l G 0 i c (by decide) (by have := pgOk_m hr (show 0 < 2 by decide); omega) (by first | assumption | omega) (by first | assumption | omega)) ys_X11_at rfl q_896 ⟨rfl, rfl⟩ ⟨rfl, rfl⟩ ⟨rfl, rfl⟩ rfl rfl rfl dX11_turn_48 ?_
    refine wc_ialdG X 51 1 rfl (atN_lt (by omega) h2) (by decide) dX11_turn_51 ?_
    refine wc_topi (nI (gz (flE p 0 i c j) (i * 2 + c - 1))) (congrArg nI (atN_mG (m := 0) (p := flE p 0 i c j) (by decide) hz.2.1 (by rw [flE_lo (by decide) h1 (by decide)]; exact hi) h1 h2)) ?_
    refine wc_iload X 52 4 dX11_turn_52 rfl ?_
    refine wc_callS X 54 [] (c_X11_has l G (gz (flE p 0 i c j) (i * 2 + c - 1)) j (Nat.lt_trans (mG_lt (m := 0) hz.2.2.2.2.1 _) (by decide)) (by omega)) ys_X11_has rfl q_916 ⟨rfl, rfl⟩ ⟨rfl, rfl⟩ ⟨rfl, rfl⟩ rfl rfl rfl dX11_turn_54 ?_
    refine wc_if_eqB X 57 64 dX11_turn_57 (by decide) (fun c57_4 => ?_) (fun c57_4 => ?_)
    ·
      refine wc_iconstN X 64 0 dX11_turn_64 ?_
      exact ret 65 _ (nI 0) _ dX11_turn_65 (⟨_, by rw [c57_4]; rfl, rfl, hbk⟩)
    ·
      refine wc_iconstN X 60 1 dX11_turn_60 ?_
      refine wc_goto X 61 65 dX11_turn_61 (by decide) ?_
      exact ret 65 _ (nI 1) _ dX11_turn_65 (⟨_, by rw [c57_4]; rfl, rfl, hbk⟩)
  ·
    exact absurd c14_1 (by decide)

set_option maxHeartbeats 4000000 in
set_option maxRecDepth 100000 in
theorem c_X11_end0A (l : Launch) (G : GG) (o : Nat) (th : Int32) (qtx ts pl qrp qpg qtr qbk dn qkp qik sn qsw qsi : Nat) (sd : Int64) (qln qfm qby qwy wz qfo qon qmn qpr qle qst qwt rc tk ps gn : Nat) (bd : Int32) (qwo : Nat) (p : Nat → Nat) (bk : Nat → Nat) (i : Nat) (hr : pgOk p) (hi : i < p 0) (hl : dn < 14) : MM l G yX11_end (Cond.code yX11_end cX11_end 3 (some .int)) { frames := 2, cells := 0, slots := 0, locals := 47 } [.ref o, .int (nI 0), .int (nI i)] [ob o 11 [.int th, .ref qtx, .int (nI ts), .int (nI pl), .ref qrp, .ref qpg, .ref qtr, .ref qbk, .int (nI dn), .ref qkp, .ref qik, .int (nI sn), .ref qsw, .ref qsi, .long sd, .ref qln, .ref qfm, .ref qby, .ref qwy, .int (nI wz), .ref qfo, .ref qon, .ref qmn, .ref qpr, .ref qle, .ref qst, .ref qwt, .int (nI rc), .int (nI tk), .int (nI ps), .int (nI gn), .int bd, .ref qwo], aI G qpg 22 (nF p), aI G qbk 308 (nF bk)] (fun (v : Option Value) (w : va_W) => ∃ (bk2 : Nat → Nat), v = some (.int (nI ((Nat.testBit (flN p 0 i 2) i).toNat))) ∧ w = [ob o 11 [.int (nI 0), .ref qtx, .int (nI ts), .int (nI pl), .ref qrp, .ref qpg, .ref qtr, .ref qbk, .int (nI (dn + 1)), .ref qkp, .ref qik, .int (nI sn), .ref qsw, .ref qsi, .long sd, .ref qln, .ref qfm, .ref qby, .ref qwy, .int (nI wz), .ref qfo, .ref qon, .ref qmn, .ref qpr, .ref qle, .ref qst, .ref qwt, .int (nI rc), .int (nI tk), .int (nI ps), .int (nI gn), .int bd, .ref qwo], aI G qpg 22 (nF (flN p 0 i)), aI G qbk 308 (nF bk2)] ∧ ((∀ j, j < 22 * dn → bk2 j = bk j) ∧ ∀ k, k < 22 → bk2 (22 * dn + k) = p k)) 0 0 := by
  refine MM.ofI (by decide) rfl (fun Γ X Y hnm ret => ?_)
  show Wc Γ 0 0 0 [(0, .ref o), (1, .int (nI 0)), (2, .int (nI i))] [] [ob o 11 [.int th, .ref qtx, .int (nI ts), .int (nI pl), .ref qrp, .ref qpg, .ref qtr, .ref qbk, .int (nI dn), .ref qkp, .ref qik, .int (nI sn), .ref qsw, .ref qsi, .long sd, .ref qln, .ref qfm, .ref qby, .ref qwy, .int (nI wz), .ref qfo, .ref qon, .ref qmn, .ref qpr, .ref qle, .ref qst, .ref qwt, .int (nI rc), .int (nI tk), .int (nI ps), .int (nI gn), .int bd, .ref qwo], aI G qpg 22 (nF p), aI G qbk 308 (nF bk)]
  have hb := pgOk_m hr (show 0 < 2 by decide)
  have hz := flN_ok (m := 0) hr (by decide) hi
  refine wc_aload_n X 0 0 dX11_end_0 rfl ?_
  refine wc_iconstN X 1 0 dX11_end_1 ?_
  refine wc_put X Y 2 0 0 kd11 rfl (by decide) q_765 rfl rfl rfl (Nat.le_of_ble_eq_true rfl) (ws' := [ob o 11 [.int (nI 0), .ref qtx, .int (nI ts), .int (nI pl), .ref qrp, .ref qpg, .ref qtr, .ref qbk, .int (nI dn), .ref qkp, .ref qik, .int (nI sn), .ref qsw, .ref qsi, .long sd, .ref qln, .ref qfm, .ref qby, .ref qwy, .int (nI wz), .ref qfo, .ref qon, .ref qmn, .ref qpr, .ref qle, .ref qst, .ref qwt, .int (nI rc), .int (nI tk), .int (nI ps), .int (nI gn), .int bd, .ref qwo], aI G qpg 22 (nF p), aI G qbk 308 (nF bk)]) rfl dX11_end_2 ?_
  refine wc_aload_n X 5 0 dX11_end_5 rfl ?_
  refine wc_iload_n X 6 1 dX11_end_6 rfl ?_
  refine wc_iload_n X 7 2 dX11_end_7 rfl ?_
  refine wc_callV X 8 [0, 1] 0 (c_X11_noState l G o (nI 0) qtx ts pl qrp qpg qtr qbk dn qkp qik sn qsw qsi sd qln qfm qby qwy wz qfo qon qmn qpr qle qst qwt rc tk ps gn bd qwo p (nI 0) (nI i) (by first | assumption | omega)) yv_X11_noState kd11 rfl rfl q_941 ⟨rfl, rfl⟩ ⟨rfl, rfl⟩ ⟨rfl, rfl⟩ rfl rfl rfl dX11_end_8 ?_
  refine wc_topi (b2i false) (congrArg b2i (by rw [stO_p (m := 0) hr (by decide) hi]; rfl)) ?_
  refine wc_if_eqB X 11 16 dX11_end_11 (by decide) (fun c11_1 => ?_) (fun c11_1 => ?_)
  ·
    refine wc_aload_n X 16 0 dX11_end_16 rfl ?_
    refine wc_mutV X Y 17 [0, 1, 2] [] 0 (c_X11_noteA l G o (nI 0) qtx ts pl qrp qpg qtr qbk dn qkp qik sn qsw qsi sd qln qfm qby qwy wz qfo qon qmn qpr qle qst qwt rc tk ps gn bd qwo p bk (by first | assumption | omega)) yv_X11_note kd11 rfl rfl (wr := []) rfl ⟨rfl, rfl, rfl⟩ q_950 ⟨rfl, rfl⟩ ⟨rfl, rfl⟩ ⟨rfl, rfl⟩ rfl rfl rfl dX11_end_17 (fun v w hp_2 => ?_)
    obtain ⟨bk2_3, rfl, rfl, hbk⟩ := hp_2
    refine wc_perm Y [0, 1, 2] [ob o 11 [.int (nI 0), .ref qtx, .int (nI ts), .int (nI pl), .ref qrp, .ref qpg, .ref qtr, .ref qbk, .int (nI (dn + 1)), .ref qkp, .ref qik, .int (nI sn), .ref qsw, .ref qsi, .long sd, .ref qln, .ref qfm, .ref qby, .ref qwy, .int (nI wz), .ref qfo, .ref qon, .ref qmn, .ref qpr, .ref qle, .ref qst, .ref qwt, .int (nI rc), .int (nI tk), .int (nI ps), .int (nI gn), .int bd, .ref qwo], aI G qpg 22 (nF p), aI G qbk 308 (nF bk2_3)] rfl rfl ?_
    show Wc Γ 0 0 20 [(0, .ref o), (1, .int (nI 0)), (2, .int (nI i))] [] [ob o 11 [.int (nI 0), .ref qtx, .int (nI ts), .int (nI pl), .ref qrp, .ref qpg, .ref qtr, .ref qbk, .int (nI (dn + 1)), .ref qkp, .ref qik, .int (nI sn), .ref qsw, .ref qsi, .long sd, .ref qln, .ref qfm, .ref qby, .ref qwy, .int (nI wz), .ref qfo, .ref qon, .ref qmn, .ref qpr, .ref qle, .ref qst, .ref qwt, .int (nI rc), .int (nI tk), .int (nI ps), .int (nI gn), .int bd, .ref qwo], aI G qpg 22 (nF p), aI G qbk 308 (nF bk2_3)]
    refine wc_aload_n X 20 0 dX11_end_20 rfl ?_
    refine wc_get X 21 0 5 kd11 rfl (by decide) q_770 rfl dX11_end_21 ?_
    refine wc_iconstN X 24 2 dX11_end_24 ?_
    refine wc_iload_n X 25 1 dX11_end_25 rfl ?_
    refine wc_iaddN X 26 dX11_end_26 ?_
    refine wc_dup2 X 27 dX11_end_27 rfl rfl ?_
    refine wc_ialdG X 28 1 rfl (by omega) (by decide) dX11_end_28 ?_
    refine wc_iconstN X 29 1 dX11_end_29 ?_
    refine wc_iload_n X 30 2 dX11_end_30 rfl ?_
    refine wc_shl1 X 31 dX11_end_31 (by omega) ?_
    refine wc_ixorN X 32 dX11_end_32 ?_
    refine wc_iastG X Y 33 1 rfl (by omega) (by decide) (ws' := [ob o 11 [.int (nI 0), .ref qtx, .int (nI ts), .int (nI pl), .ref qrp, .ref qpg, .ref qtr, .ref qbk, .int (nI (dn + 1)), .ref qkp, .ref qik, .int (nI sn), .ref qsw, .ref qsi, .long sd, .ref qln, .ref qfm, .ref qby, .ref qwy, .int (nI wz), .ref qfo, .ref qon, .ref qmn, .ref qpr, .ref qle, .ref qst, .ref qwt, .int (nI rc), .int (nI tk), .int (nI ps), .int (nI gn), .int bd, .ref qwo], aI G qpg 22 (nF (up p (2 + 0) ((p (2 + 0)) ^^^ (2 ^ i)))), aI G qbk 308 (nF bk2_3)]) rfl dX11_end_33 ?_
    refine wc_ws (ws' := [ob o 11 [.int (nI 0), .ref qtx, .int (nI ts), .int (nI pl), .ref qrp, .ref qpg, .ref qtr, .ref qbk, .int (nI (dn + 1)), .ref qkp, .ref qik, .int (nI sn), .ref qsw, .ref qsi, .long sd, .ref qln, .ref qfm, .ref qby, .ref qwy, .int (nI wz), .ref qfo, .ref qon, .ref qmn, .ref qpr, .ref qle, .ref qst, .ref qwt, .int (nI rc), .int (nI tk), .int (nI ps), .int (nI gn), .int bd, .ref qwo], aI G qpg 22 (nF (flN p 0 i)), aI G qbk 308 (nF bk2_3)]) (rfl) ?_
    refine wc_aload_n X 34 0 dX11_end_34 rfl ?_
    refine wc_get X 35 0 5 kd11 rfl (by decide) q_770 rfl dX11_end_35 ?_
    refine wc_iconstN X 38 2 dX11_end_38 ?_
    refine wc_iload_n X 39 1 dX11_end_39 rfl ?_
    refine wc_iaddN X 40 dX11_end_40 ?_
    refine wc_ialdG X 41 1 rfl (by omega) (by decide) dX11_end_41 ?_
    refine wc_iload_n X 42 2 dX11_end_42 rfl ?_
    refine wc_callS X 43 [] (c_X11_has l G ((flN p 0 i) (2 + 0)) i (Nat.lt_trans (hz.2.2.2.2.1 _) (by decide)) (by omega)) ys_X11_has rfl q_916 ⟨rfl, rfl⟩ ⟨rfl, rfl⟩ ⟨rfl, rfl⟩ rfl rfl rfl dX11_end_43 ?_
    refine wc_if_eqB X 46 53 dX11_end_46 (by decide) (fun c46_4 => ?_) (fun c46_4 => ?_)
    ·
      refine wc_iconstN X 53 0 dX11_end_53 ?_
      exact ret 54 _ (nI 0) _ dX11_end_54 (⟨_, by rw [c46_4]; rfl, rfl, hbk⟩)
    ·
      refine wc_iconstN X 49 1 dX11_end_49 ?_
      refine wc_goto X 50 54 dX11_end_50 (by decide) ?_
      exact ret 54 _ (nI 1) _ dX11_end_54 (⟨_, by rw [c46_4]; rfl, rfl, hbk⟩)
  ·
    exact absurd c11_1 (by decide)

set_option maxHeartbeats 4000000 in
set_option maxRecDepth 100000 in
theorem c_X11_turn0B (l : Launch) (G : GG) (o : Nat) (th : Int32) (qtx ts pl qrp qpg qtr qbk qkp qik sn qsw qsi : Nat) (sd : Int64) (qln qfm qby qwy wz qfo qon qmn qpr qle qst qwt rc tk ps gn : Nat) (bd : Int32) (qwo : Nat) (p : Nat → Nat) (bk : Nat → Nat) (i c j : Nat) (hr : pgOk p) (hi : i < p 0) (h1 : 1 ≤ c) (h2 : c ≤ 2) (ht : j < p 0) : MM l G yX11_turn (Cond.code yX11_turn cX11_turn 5 (some .int)) { frames := 3, cells := 0, slots := 0, locals := 71 } [.ref o, .int (nI 0), .int (nI i), .int (nI c), .int (nI j)] [ob o 11 [.int th, .ref qtx, .int (nI ts), .int (nI pl), .ref qrp, .ref qpg, .ref qtr, .ref qbk, .int (nI 14), .ref qkp, .ref qik, .int (nI sn), .ref qsw, .ref qsi, .long sd, .ref qln, .ref qfm, .ref qby, .ref qwy, .int (nI wz), .ref qfo, .ref qon, .ref qmn, .ref qpr, .ref qle, .ref qst, .ref qwt, .int (nI rc), .int (nI tk), .int (nI ps), .int (nI gn), .int bd, .ref qwo], aI G qpg 22 (nF p), aI G qbk 308 (nF bk)] (fun (v : Option Value) (w : va_W) => ∃ (bk2 : Nat → Nat), v = some (.int (nI ((Nat.testBit (gz (flE p 0 i c j) (i * 2 + c - 1)) j).toNat))) ∧ w = [ob o 11 [.int (nI 0), .ref qtx, .int (nI ts), .int (nI pl), .ref qrp, .ref qpg, .ref qtr, .ref qbk, .int (nI 14), .ref qkp, .ref qik, .int (nI sn), .ref qsw, .ref qsi, .long sd, .ref qln, .ref qfm, .ref qby, .ref qwy, .int (nI wz), .ref qfo, .ref qon, .ref qmn, .ref qpr, .ref qle, .ref qst, .ref qwt, .int (nI rc), .int (nI tk), .int (nI ps), .int (nI gn), .int bd, .ref qwo], aI G qpg 22 (nF (flE p 0 i c j)), aI G qbk 308 (nF bk2)] ∧ ((∀ j, j < 286 → bk2 j = bk (j + 22)) ∧ ∀ k, k < 22 → bk2 (286 + k) = p k)) 0 0 := by
  refine MM.ofI (by decide) rfl (fun Γ X Y hnm ret => ?_)
  show Wc Γ 0 0 0 [(0, .ref o), (1, .int (nI 0)), (2, .int (nI i)), (3, .int (nI c)), (4, .int (nI j))] [] [ob o 11 [.int th, .ref qtx, .int (nI ts), .int (nI pl), .ref qrp, .ref qpg, .ref qtr, .ref qbk, .int (nI 14), .ref qkp, .ref qik, .int (nI sn), .ref qsw, .ref qsi, .long sd, .ref qln, .ref qfm, .ref qby, .ref qwy, .int (nI wz), .ref qfo, .ref qon, .ref qmn, .ref qpr, .ref qle, .ref qst, .ref qwt, .int (nI rc), .int (nI tk), .int (nI ps), .int (nI gn), .int bd, .ref qwo], aI G qpg 22 (nF p), aI G qbk 308 (nF bk)]
  have hb := pgOk_m hr (show 0 < 2 by decide)
  have hz := flE_ok (m := 0) hr (by decide) hi h1 h2 ht
  refine wc_aload_n X 0 0 dX11_turn_0 rfl ?_
  refine wc_iconstN X 1 0 dX11_turn_1 ?_
  refine wc_put X Y 2 0 0 kd11 rfl (by decide) q_765 rfl rfl rfl (Nat.le_of_ble_eq_true rfl) (ws' := [ob o 11 [.int (nI 0), .ref qtx, .int (nI ts), .int (nI pl), .ref qrp, .ref qpg, .ref qtr, .ref qbk, .int (nI 14), .ref qkp, .ref qik, .int (nI sn), .ref qsw, .ref qsi, .long sd, .ref qln, .ref qfm, .ref qby, .ref qwy, .int (nI wz), .ref qfo, .ref qon, .ref qmn, .ref qpr, .ref qle, .ref qst, .ref qwt, .int (nI rc), .int (nI tk), .int (nI ps), .int (nI gn), .int bd, .ref qwo], aI G qpg 22 (nF p), aI G qbk 308 (nF bk)]) rfl dX11_turn_2 ?_
  refine wc_aload_n X 5 0 dX11_turn_5 rfl ?_
  refine wc_iload_n X 6 1 dX11_turn_6 rfl ?_
  refine wc_iload_n X 7 2 dX11_turn_7 rfl ?_
  refine wc_iload_n X 8 3 dX11_turn_8 rfl ?_
  refine wc_iload X 9 4 dX11_turn_9 rfl ?_
  refine wc_callV X 11 [0, 1] 0 (c_X11_noEdge l G o (nI 0) qtx ts pl qrp qpg qtr qbk 14 qkp qik sn qsw qsi sd qln qfm qby qwy wz qfo qon qmn qpr qle qst qwt rc tk ps gn bd qwo p (nI 0) (nI i) (nI c) (nI j) (by first | assumption | omega)) yv_X11_noEdge kd11 rfl rfl q_937 ⟨rfl, rfl⟩ ⟨rfl, rfl⟩ ⟨rfl, rfl⟩ rfl rfl rfl dX11_turn_11 ?_
  refine wc_topi (b2i false) (congrArg b2i (by rw [edO_p (m := 0) hr (by decide) hi h1 h2 ht]; rfl)) ?_
  refine wc_if_eqB X 14 19 dX11_turn_14 (by decide) (fun c14_1 => ?_) (fun c14_1 => ?_)
  ·
    refine wc_aload_n X 19 0 dX11_turn_19 rfl ?_
    refine wc_mutV X Y 20 [0, 1, 2] [] 0 (c_X11_noteB l G o (nI 0) qtx ts pl qrp qpg qtr qbk qkp qik sn qsw qsi sd qln qfm qby qwy wz qfo qon qmn qpr qle qst qwt rc tk ps gn bd qwo p bk ) yv_X11_note kd11 rfl rfl (wr := []) rfl ⟨rfl, rfl, rfl⟩ q_950 ⟨rfl, rfl⟩ ⟨rfl, rfl⟩ ⟨rfl, rfl⟩ rfl rfl rfl dX11_turn_20 (fun v w hp_2 => ?_)
    obtain ⟨bk2_3, rfl, rfl, hbk⟩ := hp_2
    refine wc_perm Y [0, 1, 2] [ob o 11 [.int (nI 0), .ref qtx, .int (nI ts), .int (nI pl), .ref qrp, .ref qpg, .ref qtr, .ref qbk, .int (nI 14), .ref qkp, .ref qik, .int (nI sn), .ref qsw, .ref qsi, .long sd, .ref qln, .ref qfm, .ref qby, .ref qwy, .int (nI wz), .ref qfo, .ref qon, .ref qmn, .ref qpr, .ref qle, .ref qst, .ref qwt, .int (nI rc), .int (nI tk), .int (nI ps), .int (nI gn), .int bd, .ref qwo], aI G qpg 22 (nF p), aI G qbk 308 (nF bk2_3)] rfl rfl ?_
    show Wc Γ 0 0 23 [(0, .ref o), (1, .int (nI 0)), (2, .int (nI i)), (3, .int (nI c)), (4, .int (nI j))] [] [ob o 11 [.int (nI 0), .ref qtx, .int (nI ts), .int (nI pl), .ref qrp, .ref qpg, .ref qtr, .ref qbk, .int (nI 14), .ref qkp, .ref qik, .int (nI sn), .ref qsw, .ref qsi, .long sd, .ref qln, .ref qfm, .ref qby, .ref qwy, .int (nI wz), .ref qfo, .ref qon, .ref qmn, .ref qpr, .ref qle, .ref qst, .ref qwt, .int (nI rc), .int (nI tk), .int (nI ps), .int (nI gn), .int bd, .ref qwo], aI G qpg 22 (nF p), aI G qbk 308 (nF bk2_3)]
    refine wc_aload_n X 23 0 dX11_turn_23 rfl ?_
    refine wc_get X 24 0 5 kd11 rfl (by decide) q_770 rfl dX11_turn_24 ?_
    refine wc_iload_n X 27 1 dX11_turn_27 rfl ?_
    refine wc_iload_n X 28 2 dX11_turn_28 rfl ?_
    refine wc_iload_n X 29 3 dX11_turn_29 rfl ?_
    refine wc_callS X 30 [] (c_X11_at l G 0 i c (by decide) (by have := pgOk_m hr (show 0 < 2 by decide); omega) (by first | assumption | omega) (by first | assumption | omega)) ys_X11_at rfl q_896 ⟨rfl, rfl⟩ ⟨rfl, rfl⟩ ⟨rfl, rfl⟩ rfl rfl rfl dX11_turn_30 ?_
    refine wc_dup2 X 33 dX11_turn_33 rfl rfl ?_
    refine wc_ialdG X 34 1 rfl (atN_lt (by omega) h2) (by decide) dX11_turn_34 ?_
    refine wc_iconstN X 35 1 dX11_turn_35 ?_
    refine wc_iload X 36 4 dX11_turn_36 rfl ?_
    refine wc_shl1 X 38 dX11_turn_38 (by omega) ?_
    refine wc_ixorN X 39 dX11_turn_39 ?_
    refine wc_iastG X Y 40 1 rfl (atN_lt (by omega) h2) (by decide) (ws' := [ob o 11 [.int (nI 0), .ref qtx, .int (nI ts), .int (nI pl), .ref qrp, .ref qpg, .ref qtr, .ref qbk, .int (nI 14), .ref qkp, .ref qik, .int (nI sn), .ref qsw, .ref qsi, .long sd, .ref qln, .ref qfm, .ref qby, .ref qwy, .int (nI wz), .ref qfo, .ref qon, .ref qmn, .ref qpr, .ref qle, .ref qst, .ref qwt, .int (nI rc), .int (nI tk), .int (nI ps), .int (nI gn), .int bd, .ref qwo], aI G qpg 22 (nF (up p (atN 0 i c) ((p (atN 0 i c)) ^^^ (2 ^ j)))), aI G qbk 308 (nF bk2_3)]) rfl dX11_turn_40 ?_
    refine wc_ws (ws' := [ob o 11 [.int (nI 0), .ref qtx, .int (nI ts), .int (nI pl), .ref qrp, .ref qpg, .ref qtr, .ref qbk, .int (nI 14), .ref qkp, .ref qik, .int (nI sn), .ref qsw, .ref qsi, .long sd, .ref qln, .ref qfm, .ref qby, .ref qwy, .int (nI wz), .ref qfo, .ref qon, .ref qmn, .ref qpr, .ref qle, .ref qst, .ref qwt, .int (nI rc), .int (nI tk), .int (nI ps), .int (nI gn), .int bd, .ref qwo], aI G qpg 22 (nF (flE p 0 i c j)), aI G qbk 308 (nF bk2_3)]) (rfl) ?_
    refine wc_aload_n X 41 0 dX11_turn_41 rfl ?_
    refine wc_get X 42 0 5 kd11 rfl (by decide) q_770 rfl dX11_turn_42 ?_
    refine wc_iload_n X 45 1 dX11_turn_45 rfl ?_
    refine wc_iload_n X 46 2 dX11_turn_46 rfl ?_
    refine wc_iload_n X 47 3 dX11_turn_47 rfl ?_
    refine wc_callS X 48 [] (c_X11_at l G 0 i c (by decide) (by have := pgOk_m hr (show 0 < 2 by decide); omega) (by first | assumption | omega) (by first | assumption | omega)) ys_X11_at rfl q_896 ⟨rfl, rfl⟩ ⟨rfl, rfl⟩ ⟨rfl, rfl⟩ rfl rfl rfl dX11_turn_48 ?_
    refine wc_ialdG X 51 1 rfl (atN_lt (by omega) h2) (by decide) dX11_turn_51 ?_
    refine wc_topi (nI (gz (flE p 0 i c j) (i * 2 + c - 1))) (congrArg nI (atN_mG (m := 0) (p := flE p 0 i c j) (by decide) hz.2.1 (by rw [flE_lo (by decide) h1 (by decide)]; exact hi) h1 h2)) ?_
    refine wc_iload X 52 4 dX11_turn_52 rfl ?_
    refine wc_callS X 54 [] (c_X11_has l G (gz (flE p 0 i c j) (i * 2 + c - 1)) j (Nat.lt_trans (mG_lt (m := 0) hz.2.2.2.2.1 _) (by decide)) (by omega)) ys_X11_has rfl q_916 ⟨rfl, rfl⟩ ⟨rfl, rfl⟩ ⟨rfl, rfl⟩ rfl rfl rfl dX11_turn_54 ?_
    refine wc_if_eqB X 57 64 dX11_turn_57 (by decide) (fun c57_4 => ?_) (fun c57_4 => ?_)
    ·
      refine wc_iconstN X 64 0 dX11_turn_64 ?_
      exact ret 65 _ (nI 0) _ dX11_turn_65 (⟨_, by rw [c57_4]; rfl, rfl, hbk⟩)
    ·
      refine wc_iconstN X 60 1 dX11_turn_60 ?_
      refine wc_goto X 61 65 dX11_turn_61 (by decide) ?_
      exact ret 65 _ (nI 1) _ dX11_turn_65 (⟨_, by rw [c57_4]; rfl, rfl, hbk⟩)
  ·
    exact absurd c14_1 (by decide)

set_option maxHeartbeats 4000000 in
set_option maxRecDepth 100000 in
theorem c_X11_end0B (l : Launch) (G : GG) (o : Nat) (th : Int32) (qtx ts pl qrp qpg qtr qbk qkp qik sn qsw qsi : Nat) (sd : Int64) (qln qfm qby qwy wz qfo qon qmn qpr qle qst qwt rc tk ps gn : Nat) (bd : Int32) (qwo : Nat) (p : Nat → Nat) (bk : Nat → Nat) (i : Nat) (hr : pgOk p) (hi : i < p 0) : MM l G yX11_end (Cond.code yX11_end cX11_end 3 (some .int)) { frames := 2, cells := 0, slots := 0, locals := 47 } [.ref o, .int (nI 0), .int (nI i)] [ob o 11 [.int th, .ref qtx, .int (nI ts), .int (nI pl), .ref qrp, .ref qpg, .ref qtr, .ref qbk, .int (nI 14), .ref qkp, .ref qik, .int (nI sn), .ref qsw, .ref qsi, .long sd, .ref qln, .ref qfm, .ref qby, .ref qwy, .int (nI wz), .ref qfo, .ref qon, .ref qmn, .ref qpr, .ref qle, .ref qst, .ref qwt, .int (nI rc), .int (nI tk), .int (nI ps), .int (nI gn), .int bd, .ref qwo], aI G qpg 22 (nF p), aI G qbk 308 (nF bk)] (fun (v : Option Value) (w : va_W) => ∃ (bk2 : Nat → Nat), v = some (.int (nI ((Nat.testBit (flN p 0 i 2) i).toNat))) ∧ w = [ob o 11 [.int (nI 0), .ref qtx, .int (nI ts), .int (nI pl), .ref qrp, .ref qpg, .ref qtr, .ref qbk, .int (nI 14), .ref qkp, .ref qik, .int (nI sn), .ref qsw, .ref qsi, .long sd, .ref qln, .ref qfm, .ref qby, .ref qwy, .int (nI wz), .ref qfo, .ref qon, .ref qmn, .ref qpr, .ref qle, .ref qst, .ref qwt, .int (nI rc), .int (nI tk), .int (nI ps), .int (nI gn), .int bd, .ref qwo], aI G qpg 22 (nF (flN p 0 i)), aI G qbk 308 (nF bk2)] ∧ ((∀ j, j < 286 → bk2 j = bk (j + 22)) ∧ ∀ k, k < 22 → bk2 (286 + k) = p k)) 0 0 := by
  refine MM.ofI (by decide) rfl (fun Γ X Y hnm ret => ?_)
  show Wc Γ 0 0 0 [(0, .ref o), (1, .int (nI 0)), (2, .int (nI i))] [] [ob o 11 [.int th, .ref qtx, .int (nI ts), .int (nI pl), .ref qrp, .ref qpg, .ref qtr, .ref qbk, .int (nI 14), .ref qkp, .ref qik, .int (nI sn), .ref qsw, .ref qsi, .long sd, .ref qln, .ref qfm, .ref qby, .ref qwy, .int (nI wz), .ref qfo, .ref qon, .ref qmn, .ref qpr, .ref qle, .ref qst, .ref qwt, .int (nI rc), .int (nI tk), .int (nI ps), .int (nI gn), .int bd, .ref qwo], aI G qpg 22 (nF p), aI G qbk 308 (nF bk)]
  have hb := pgOk_m hr (show 0 < 2 by decide)
  have hz := flN_ok (m := 0) hr (by decide) hi
  refine wc_aload_n X 0 0 dX11_end_0 rfl ?_
  refine wc_iconstN X 1 0 dX11_end_1 ?_
  refine wc_put X Y 2 0 0 kd11 rfl (by decide) q_765 rfl rfl rfl (Nat.le_of_ble_eq_true rfl) (ws' := [ob o 11 [.int (nI 0), .ref qtx, .int (nI ts), .int (nI pl), .ref qrp, .ref qpg, .ref qtr, .ref qbk, .int (nI 14), .ref qkp, .ref qik, .int (nI sn), .ref qsw, .ref qsi, .long sd, .ref qln, .ref qfm, .ref qby, .ref qwy, .int (nI wz), .ref qfo, .ref qon, .ref qmn, .ref qpr, .ref qle, .ref qst, .ref qwt, .int (nI rc), .int (nI tk), .int (nI ps), .int (nI gn), .int bd, .ref qwo], aI G qpg 22 (nF p), aI G qbk 308 (nF bk)]) rfl dX11_end_2 ?_
  refine wc_aload_n X 5 0 dX11_end_5 rfl ?_
  refine wc_iload_n X 6 1 dX11_end_6 rfl ?_
  refine wc_iload_n X 7 2 dX11_end_7 rfl ?_
  refine wc_callV X 8 [0, 1] 0 (c_X11_noState l G o (nI 0) qtx ts pl qrp qpg qtr qbk 14 qkp qik sn qsw qsi sd qln qfm qby qwy wz qfo qon qmn qpr qle qst qwt rc tk ps gn bd qwo p (nI 0) (nI i) (by first | assumption | omega)) yv_X11_noState kd11 rfl rfl q_941 ⟨rfl, rfl⟩ ⟨rfl, rfl⟩ ⟨rfl, rfl⟩ rfl rfl rfl dX11_end_8 ?_
  refine wc_topi (b2i false) (congrArg b2i (by rw [stO_p (m := 0) hr (by decide) hi]; rfl)) ?_
  refine wc_if_eqB X 11 16 dX11_end_11 (by decide) (fun c11_1 => ?_) (fun c11_1 => ?_)
  ·
    refine wc_aload_n X 16 0 dX11_end_16 rfl ?_
    refine wc_mutV X Y 17 [0, 1, 2] [] 0 (c_X11_noteB l G o (nI 0) qtx ts pl qrp qpg qtr qbk qkp qik sn qsw qsi sd qln qfm qby qwy wz qfo qon qmn qpr qle qst qwt rc tk ps gn bd qwo p bk ) yv_X11_note kd11 rfl rfl (wr := []) rfl ⟨rfl, rfl, rfl⟩ q_950 ⟨rfl, rfl⟩ ⟨rfl, rfl⟩ ⟨rfl, rfl⟩ rfl rfl rfl dX11_end_17 (fun v w hp_2 => ?_)
    obtain ⟨bk2_3, rfl, rfl, hbk⟩ := hp_2
    refine wc_perm Y [0, 1, 2] [ob o 11 [.int (nI 0), .ref qtx, .int (nI ts), .int (nI pl), .ref qrp, .ref qpg, .ref qtr, .ref qbk, .int (nI 14), .ref qkp, .ref qik, .int (nI sn), .ref qsw, .ref qsi, .long sd, .ref qln, .ref qfm, .ref qby, .ref qwy, .int (nI wz), .ref qfo, .ref qon, .ref qmn, .ref qpr, .ref qle, .ref qst, .ref qwt, .int (nI rc), .int (nI tk), .int (nI ps), .int (nI gn), .int bd, .ref qwo], aI G qpg 22 (nF p), aI G qbk 308 (nF bk2_3)] rfl rfl ?_
    show Wc Γ 0 0 20 [(0, .ref o), (1, .int (nI 0)), (2, .int (nI i))] [] [ob o 11 [.int (nI 0), .ref qtx, .int (nI ts), .int (nI pl), .ref qrp, .ref qpg, .ref qtr, .ref qbk, .int (nI 14), .ref qkp, .ref qik, .int (nI sn), .ref qsw, .ref qsi, .long sd, .ref qln, .ref qfm, .ref qby, .ref qwy, .int (nI wz), .ref qfo, .ref qon, .ref qmn, .ref qpr, .ref qle, .ref qst, .ref qwt, .int (nI rc), .int (nI tk), .int (nI ps), .int (nI gn), .int bd, .ref qwo], aI G qpg 22 (nF p), aI G qbk 308 (nF bk2_3)]
    refine wc_aload_n X 20 0 dX11_end_20 rfl ?_
    refine wc_get X 21 0 5 kd11 rfl (by decide) q_770 rfl dX11_end_21 ?_
    refine wc_iconstN X 24 2 dX11_end_24 ?_
    refine wc_iload_n X 25 1 dX11_end_25 rfl ?_
    refine wc_iaddN X 26 dX11_end_26 ?_
    refine wc_dup2 X 27 dX11_end_27 rfl rfl ?_
    refine wc_ialdG X 28 1 rfl (by omega) (by decide) dX11_end_28 ?_
    refine wc_iconstN X 29 1 dX11_end_29 ?_
    refine wc_iload_n X 30 2 dX11_end_30 rfl ?_
    refine wc_shl1 X 31 dX11_end_31 (by omega) ?_
    refine wc_ixorN X 32 dX11_end_32 ?_
    refine wc_iastG X Y 33 1 rfl (by omega) (by decide) (ws' := [ob o 11 [.int (nI 0), .ref qtx, .int (nI ts), .int (nI pl), .ref qrp, .ref qpg, .ref qtr, .ref qbk, .int (nI 14), .ref qkp, .ref qik, .int (nI sn), .ref qsw, .ref qsi, .long sd, .ref qln, .ref qfm, .ref qby, .ref qwy, .int (nI wz), .ref qfo, .ref qon, .ref qmn, .ref qpr, .ref qle, .ref qst, .ref qwt, .int (nI rc), .int (nI tk), .int (nI ps), .int (nI gn), .int bd, .ref qwo], aI G qpg 22 (nF (up p (2 + 0) ((p (2 + 0)) ^^^ (2 ^ i)))), aI G qbk 308 (nF bk2_3)]) rfl dX11_end_33 ?_
    refine wc_ws (ws' := [ob o 11 [.int (nI 0), .ref qtx, .int (nI ts), .int (nI pl), .ref qrp, .ref qpg, .ref qtr, .ref qbk, .int (nI 14), .ref qkp, .ref qik, .int (nI sn), .ref qsw, .ref qsi, .long sd, .ref qln, .ref qfm, .ref qby, .ref qwy, .int (nI wz), .ref qfo, .ref qon, .ref qmn, .ref qpr, .ref qle, .ref qst, .ref qwt, .int (nI rc), .int (nI tk), .int (nI ps), .int (nI gn), .int bd, .ref qwo], aI G qpg 22 (nF (flN p 0 i)), aI G qbk 308 (nF bk2_3)]) (rfl) ?_
    refine wc_aload_n X 34 0 dX11_end_34 rfl ?_
    refine wc_get X 35 0 5 kd11 rfl (by decide) q_770 rfl dX11_end_35 ?_
    refine wc_iconstN X 38 2 dX11_end_38 ?_
    refine wc_iload_n X 39 1 dX11_end_39 rfl ?_
    refine wc_iaddN X 40 dX11_end_40 ?_
    refine wc_ialdG X 41 1 rfl (by omega) (by decide) dX11_end_41 ?_
    refine wc_iload_n X 42 2 dX11_end_42 rfl ?_
    refine wc_callS X 43 [] (c_X11_has l G ((flN p 0 i) (2 + 0)) i (Nat.lt_trans (hz.2.2.2.2.1 _) (by decide)) (by omega)) ys_X11_has rfl q_916 ⟨rfl, rfl⟩ ⟨rfl, rfl⟩ ⟨rfl, rfl⟩ rfl rfl rfl dX11_end_43 ?_
    refine wc_if_eqB X 46 53 dX11_end_46 (by decide) (fun c46_4 => ?_) (fun c46_4 => ?_)
    ·
      refine wc_iconstN X 53 0 dX11_end_53 ?_
      exact ret 54 _ (nI 0) _ dX11_end_54 (⟨_, by rw [c46_4]; rfl, rfl, hbk⟩)
    ·
      refine wc_iconstN X 49 1 dX11_end_49 ?_
      refine wc_goto X 50 54 dX11_end_50 (by decide) ?_
      exact ret 54 _ (nI 1) _ dX11_end_54 (⟨_, by rw [c46_4]; rfl, rfl, hbk⟩)
  ·
    exact absurd c11_1 (by decide)

set_option maxHeartbeats 4000000 in
set_option maxRecDepth 100000 in
theorem c_X11_edge1 (l : Launch) (G : GG) (o : Nat) (th : Int32) (qtx ts pl qrp qpg qtr qbk dn qkp qik sn qsw qsi : Nat) (sd : Int64) (qln qfm qby qwy wz qfo qon qmn qpr qle qst qwt rc tk ps gn : Nat) (bd : Int32) (qwo : Nat) (p : Nat → Nat) (i c j : Nat) (hr : pgOk p) (hi : i < p 1) (h1 : 1 ≤ c) (h2 : c ≤ 2) (ht : j < p 1) : MM l G yX11_edge (Cond.code yX11_edge cX11_edge 5 (some .int)) { frames := 3, cells := 0, slots := 0, locals := 71 } [.ref o, .int (nI 1), .int (nI i), .int (nI c), .int (nI j)] [ob o 11 [.int th, .ref qtx, .int (nI ts), .int (nI pl), .ref qrp, .ref qpg, .ref qtr, .ref qbk, .int (nI dn), .ref qkp, .ref qik, .int (nI sn), .ref qsw, .ref qsi, .long sd, .ref qln, .ref qfm, .ref qby, .ref qwy, .int (nI wz), .ref qfo, .ref qon, .ref qmn, .ref qpr, .ref qle, .ref qst, .ref qwt, .int (nI rc), .int (nI tk), .int (nI ps), .int (nI gn), .int bd, .ref qwo], aI G qpg 22 (nF p)] (fun (v : Option Value) (w : va_W) => v = some (.int (nI ((Nat.testBit (go p (i * 2 + c - 1)) j).toNat))) ∧ w = [ob o 11 [.int (nI 0), .ref qtx, .int (nI ts), .int (nI pl), .ref qrp, .ref qpg, .ref qtr, .ref qbk, .int (nI dn), .ref qkp, .ref qik, .int (nI sn), .ref qsw, .ref qsi, .long sd, .ref qln, .ref qfm, .ref qby, .ref qwy, .int (nI wz), .ref qfo, .ref qon, .ref qmn, .ref qpr, .ref qle, .ref qst, .ref qwt, .int (nI rc), .int (nI tk), .int (nI ps), .int (nI gn), .int bd, .ref qwo], aI G qpg 22 (nF p)]) 0 0 := by
  refine MM.ofI (by decide) rfl (fun Γ X Y hnm ret => ?_)
  show Wc Γ 0 0 0 [(0, .ref o), (1, .int (nI 1)), (2, .int (nI i)), (3, .int (nI c)), (4, .int (nI j))] [] [ob o 11 [.int th, .ref qtx, .int (nI ts), .int (nI pl), .ref qrp, .ref qpg, .ref qtr, .ref qbk, .int (nI dn), .ref qkp, .ref qik, .int (nI sn), .ref qsw, .ref qsi, .long sd, .ref qln, .ref qfm, .ref qby, .ref qwy, .int (nI wz), .ref qfo, .ref qon, .ref qmn, .ref qpr, .ref qle, .ref qst, .ref qwt, .int (nI rc), .int (nI tk), .int (nI ps), .int (nI gn), .int bd, .ref qwo], aI G qpg 22 (nF p)]
  have hb := pgOk_m hr (show 1 < 2 by decide)
  refine wc_aload_n X 0 0 dX11_edge_0 rfl ?_
  refine wc_iconstN X 1 0 dX11_edge_1 ?_
  refine wc_put X Y 2 0 0 kd11 rfl (by decide) q_765 rfl rfl rfl (Nat.le_of_ble_eq_true rfl) (ws' := [ob o 11 [.int (nI 0), .ref qtx, .int (nI ts), .int (nI pl), .ref qrp, .ref qpg, .ref qtr, .ref qbk, .int (nI dn), .ref qkp, .ref qik, .int (nI sn), .ref qsw, .ref qsi, .long sd, .ref qln, .ref qfm, .ref qby, .ref qwy, .int (nI wz), .ref qfo, .ref qon, .ref qmn, .ref qpr, .ref qle, .ref qst, .ref qwt, .int (nI rc), .int (nI tk), .int (nI ps), .int (nI gn), .int bd, .ref qwo], aI G qpg 22 (nF p)]) rfl dX11_edge_2 ?_
  refine wc_aload_n X 5 0 dX11_edge_5 rfl ?_
  refine wc_iload_n X 6 1 dX11_edge_6 rfl ?_
  refine wc_iload_n X 7 2 dX11_edge_7 rfl ?_
  refine wc_iload_n X 8 3 dX11_edge_8 rfl ?_
  refine wc_iload X 9 4 dX11_edge_9 rfl ?_
  refine wc_callV X 11 [0, 1] 0 (c_X11_noEdge l G o (nI 0) qtx ts pl qrp qpg qtr qbk dn qkp qik sn qsw qsi sd qln qfm qby qwy wz qfo qon qmn qpr qle qst qwt rc tk ps gn bd qwo p (nI 1) (nI i) (nI c) (nI j) (by first | assumption | omega)) yv_X11_noEdge kd11 rfl rfl q_937 ⟨rfl, rfl⟩ ⟨rfl, rfl⟩ ⟨rfl, rfl⟩ rfl rfl rfl dX11_edge_11 ?_
  refine wc_topi (b2i false) (congrArg b2i (by rw [edO_p (m := 1) hr (by decide) hi h1 h2 ht]; rfl)) ?_
  refine wc_if_eqB X 14 19 dX11_edge_14 (by decide) (fun c14_1 => ?_) (fun c14_1 => ?_)
  ·
    refine wc_aload_n X 19 0 dX11_edge_19 rfl ?_
    refine wc_get X 20 0 5 kd11 rfl (by decide) q_770 rfl dX11_edge_20 ?_
    refine wc_iload_n X 23 1 dX11_edge_23 rfl ?_
    refine wc_iload_n X 24 2 dX11_edge_24 rfl ?_
    refine wc_iload_n X 25 3 dX11_edge_25 rfl ?_
    refine wc_callS X 26 [] (c_X11_at l G 1 i c (by decide) (by have := pgOk_m hr (show 1 < 2 by decide); omega) (by first | assumption | omega) (by first | assumption | omega)) ys_X11_at rfl q_896 ⟨rfl, rfl⟩ ⟨rfl, rfl⟩ ⟨rfl, rfl⟩ rfl rfl rfl dX11_edge_26 ?_
    refine wc_ialdG X 29 1 rfl (atN_lt (by omega) h2) (by decide) dX11_edge_29 ?_
    refine wc_topi (nI (go p (i * 2 + c - 1))) (congrArg nI (atN_mG (m := 1) (by decide) hr.2.1 hi h1 h2)) ?_
    refine wc_iload X 30 4 dX11_edge_30 rfl ?_
    refine wc_callS X 32 [] (c_X11_has l G (go p (i * 2 + c - 1)) j (Nat.lt_trans (mG_lt (m := 1) hr.2.2.2.2.1 _) (by decide)) (by omega)) ys_X11_has rfl q_916 ⟨rfl, rfl⟩ ⟨rfl, rfl⟩ ⟨rfl, rfl⟩ rfl rfl rfl dX11_edge_32 ?_
    refine wc_if_eqB X 35 42 dX11_edge_35 (by decide) (fun c35_2 => ?_) (fun c35_2 => ?_)
    ·
      refine wc_iconstN X 42 0 dX11_edge_42 ?_
      exact ret 43 _ (nI 0) _ dX11_edge_43 (⟨by rw [c35_2]; rfl, rfl⟩)
    ·
      refine wc_iconstN X 38 1 dX11_edge_38 ?_
      refine wc_goto X 39 43 dX11_edge_39 (by decide) ?_
      exact ret 43 _ (nI 1) _ dX11_edge_43 (⟨by rw [c35_2]; rfl, rfl⟩)
  ·
    exact absurd c14_1 (by decide)

set_option maxHeartbeats 4000000 in
set_option maxRecDepth 100000 in
theorem c_X11_turn1A (l : Launch) (G : GG) (o : Nat) (th : Int32) (qtx ts pl qrp qpg qtr qbk dn qkp qik sn qsw qsi : Nat) (sd : Int64) (qln qfm qby qwy wz qfo qon qmn qpr qle qst qwt rc tk ps gn : Nat) (bd : Int32) (qwo : Nat) (p : Nat → Nat) (bk : Nat → Nat) (i c j : Nat) (hr : pgOk p) (hi : i < p 1) (h1 : 1 ≤ c) (h2 : c ≤ 2) (ht : j < p 1) (hl : dn < 14) : MM l G yX11_turn (Cond.code yX11_turn cX11_turn 5 (some .int)) { frames := 3, cells := 0, slots := 0, locals := 71 } [.ref o, .int (nI 1), .int (nI i), .int (nI c), .int (nI j)] [ob o 11 [.int th, .ref qtx, .int (nI ts), .int (nI pl), .ref qrp, .ref qpg, .ref qtr, .ref qbk, .int (nI dn), .ref qkp, .ref qik, .int (nI sn), .ref qsw, .ref qsi, .long sd, .ref qln, .ref qfm, .ref qby, .ref qwy, .int (nI wz), .ref qfo, .ref qon, .ref qmn, .ref qpr, .ref qle, .ref qst, .ref qwt, .int (nI rc), .int (nI tk), .int (nI ps), .int (nI gn), .int bd, .ref qwo], aI G qpg 22 (nF p), aI G qbk 308 (nF bk)] (fun (v : Option Value) (w : va_W) => ∃ (bk2 : Nat → Nat), v = some (.int (nI ((Nat.testBit (go (flE p 1 i c j) (i * 2 + c - 1)) j).toNat))) ∧ w = [ob o 11 [.int (nI 0), .ref qtx, .int (nI ts), .int (nI pl), .ref qrp, .ref qpg, .ref qtr, .ref qbk, .int (nI (dn + 1)), .ref qkp, .ref qik, .int (nI sn), .ref qsw, .ref qsi, .long sd, .ref qln, .ref qfm, .ref qby, .ref qwy, .int (nI wz), .ref qfo, .ref qon, .ref qmn, .ref qpr, .ref qle, .ref qst, .ref qwt, .int (nI rc), .int (nI tk), .int (nI ps), .int (nI gn), .int bd, .ref qwo], aI G qpg 22 (nF (flE p 1 i c j)), aI G qbk 308 (nF bk2)] ∧ ((∀ j, j < 22 * dn → bk2 j = bk j) ∧ ∀ k, k < 22 → bk2 (22 * dn + k) = p k)) 0 0 := by
  refine MM.ofI (by decide) rfl (fun Γ X Y hnm ret => ?_)
  show Wc Γ 0 0 0 [(0, .ref o), (1, .int (nI 1)), (2, .int (nI i)), (3, .int (nI c)), (4, .int (nI j))] [] [ob o 11 [.int th, .ref qtx, .int (nI ts), .int (nI pl), .ref qrp, .ref qpg, .ref qtr, .ref qbk, .int (nI dn), .ref qkp, .ref qik, .int (nI sn), .ref qsw, .ref qsi, .long sd, .ref qln, .ref qfm, .ref qby, .ref qwy, .int (nI wz), .ref qfo, .ref qon, .ref qmn, .ref qpr, .ref qle, .ref qst, .ref qwt, .int (nI rc), .int (nI tk), .int (nI ps), .int (nI gn), .int bd, .ref qwo], aI G qpg 22 (nF p), aI G qbk 308 (nF bk)]
  have hb := pgOk_m hr (show 1 < 2 by decide)
  have hz := flE_ok (m := 1) hr (by decide) hi h1 h2 ht
  refine wc_aload_n X 0 0 dX11_turn_0 rfl ?_
  refine wc_iconstN X 1 0 dX11_turn_1 ?_
  refine wc_put X Y 2 0 0 kd11 rfl (by decide) q_765 rfl rfl rfl (Nat.le_of_ble_eq_true rfl) (ws' := [ob o 11 [.int (nI 0), .ref qtx, .int (nI ts), .int (nI pl), .ref qrp, .ref qpg, .ref qtr, .ref qbk, .int (nI dn), .ref qkp, .ref qik, .int (nI sn), .ref qsw, .ref qsi, .long sd, .ref qln, .ref qfm, .ref qby, .ref qwy, .int (nI wz), .ref qfo, .ref qon, .ref qmn, .ref qpr, .ref qle, .ref qst, .ref qwt, .int (nI rc), .int (nI tk), .int (nI ps), .int (nI gn), .int bd, .ref qwo], aI G qpg 22 (nF p), aI G qbk 308 (nF bk)]) rfl dX11_turn_2 ?_
  refine wc_aload_n X 5 0 dX11_turn_5 rfl ?_
  refine wc_iload_n X 6 1 dX11_turn_6 rfl ?_
  refine wc_iload_n X 7 2 dX11_turn_7 rfl ?_
  refine wc_iload_n X 8 3 dX11_turn_8 rfl ?_
  refine wc_iload X 9 4 dX11_turn_9 rfl ?_
  refine wc_callV X 11 [0, 1] 0 (c_X11_noEdge l G o (nI 0) qtx ts pl qrp qpg qtr qbk dn qkp qik sn qsw qsi sd qln qfm qby qwy wz qfo qon qmn qpr qle qst qwt rc tk ps gn bd qwo p (nI 1) (nI i) (nI c) (nI j) (by first | assumption | omega)) yv_X11_noEdge kd11 rfl rfl q_937 ⟨rfl, rfl⟩ ⟨rfl, rfl⟩ ⟨rfl, rfl⟩ rfl rfl rfl dX11_turn_11 ?_
  refine wc_topi (b2i false) (congrArg b2i (by rw [edO_p (m := 1) hr (by decide) hi h1 h2 ht]; rfl)) ?_
  refine wc_if_eqB X 14 19 dX11_turn_14 (by decide) (fun c14_1 => ?_) (fun c14_1 => ?_)
  ·
    refine wc_aload_n X 19 0 dX11_turn_19 rfl ?_
    refine wc_mutV X Y 20 [0, 1, 2] [] 0 (c_X11_noteA l G o (nI 0) qtx ts pl qrp qpg qtr qbk dn qkp qik sn qsw qsi sd qln qfm qby qwy wz qfo qon qmn qpr qle qst qwt rc tk ps gn bd qwo p bk (by first | assumption | omega)) yv_X11_note kd11 rfl rfl (wr := []) rfl ⟨rfl, rfl, rfl⟩ q_950 ⟨rfl, rfl⟩ ⟨rfl, rfl⟩ ⟨rfl, rfl⟩ rfl rfl rfl dX11_turn_20 (fun v w hp_2 => ?_)
    obtain ⟨bk2_3, rfl, rfl, hbk⟩ := hp_2
    refine wc_perm Y [0, 1, 2] [ob o 11 [.int (nI 0), .ref qtx, .int (nI ts), .int (nI pl), .ref qrp, .ref qpg, .ref qtr, .ref qbk, .int (nI (dn + 1)), .ref qkp, .ref qik, .int (nI sn), .ref qsw, .ref qsi, .long sd, .ref qln, .ref qfm, .ref qby, .ref qwy, .int (nI wz), .ref qfo, .ref qon, .ref qmn, .ref qpr, .ref qle, .ref qst, .ref qwt, .int (nI rc), .int (nI tk), .int (nI ps), .int (nI gn), .int bd, .ref qwo], aI G qpg 22 (nF p), aI G qbk 308 (nF bk2_3)] rfl rfl ?_
    show Wc Γ 0 0 23 [(0, .ref o), (1, .int (nI 1)), (2, .int (nI i)), (3, .int (nI c)), (4, .int (nI j))] [] [ob o 11 [.int (nI 0), .ref qtx, .int (nI ts), .int (nI pl), .ref qrp, .ref qpg, .ref qtr, .ref qbk, .int (nI (dn + 1)), .ref qkp, .ref qik, .int (nI sn), .ref qsw, .ref qsi, .long sd, .ref qln, .ref qfm, .ref qby, .ref qwy, .int (nI wz), .ref qfo, .ref qon, .ref qmn, .ref qpr, .ref qle, .ref qst, .ref qwt, .int (nI rc), .int (nI tk), .int (nI ps), .int (nI gn), .int bd, .ref qwo], aI G qpg 22 (nF p), aI G qbk 308 (nF bk2_3)]
    refine wc_aload_n X 23 0 dX11_turn_23 rfl ?_
    refine wc_get X 24 0 5 kd11 rfl (by decide) q_770 rfl dX11_turn_24 ?_
    refine wc_iload_n X 27 1 dX11_turn_27 rfl ?_
    refine wc_iload_n X 28 2 dX11_turn_28 rfl ?_
    refine wc_iload_n X 29 3 dX11_turn_29 rfl ?_
    refine wc_callS X 30 [] (c_X11_at l G 1 i c (by decide) (by have := pgOk_m hr (show 1 < 2 by decide); omega) (by first | assumption | omega) (by first | assumption | omega)) ys_X11_at rfl q_896 ⟨rfl, rfl⟩ ⟨rfl, rfl⟩ ⟨rfl, rfl⟩ rfl rfl rfl dX11_turn_30 ?_
    refine wc_dup2 X 33 dX11_turn_33 rfl rfl ?_
    refine wc_ialdG X 34 1 rfl (atN_lt (by omega) h2) (by decide) dX11_turn_34 ?_
    refine wc_iconstN X 35 1 dX11_turn_35 ?_
    refine wc_iload X 36 4 dX11_turn_36 rfl ?_
    refine wc_shl1 X 38 dX11_turn_38 (by omega) ?_
    refine wc_ixorN X 39 dX11_turn_39 ?_
    refine wc_iastG X Y 40 1 rfl (atN_lt (by omega) h2) (by decide) (ws' := [ob o 11 [.int (nI 0), .ref qtx, .int (nI ts), .int (nI pl), .ref qrp, .ref qpg, .ref qtr, .ref qbk, .int (nI (dn + 1)), .ref qkp, .ref qik, .int (nI sn), .ref qsw, .ref qsi, .long sd, .ref qln, .ref qfm, .ref qby, .ref qwy, .int (nI wz), .ref qfo, .ref qon, .ref qmn, .ref qpr, .ref qle, .ref qst, .ref qwt, .int (nI rc), .int (nI tk), .int (nI ps), .int (nI gn), .int bd, .ref qwo], aI G qpg 22 (nF (up p (atN 1 i c) ((p (atN 1 i c)) ^^^ (2 ^ j)))), aI G qbk 308 (nF bk2_3)]) rfl dX11_turn_40 ?_
    refine wc_ws (ws' := [ob o 11 [.int (nI 0), .ref qtx, .int (nI ts), .int (nI pl), .ref qrp, .ref qpg, .ref qtr, .ref qbk, .int (nI (dn + 1)), .ref qkp, .ref qik, .int (nI sn), .ref qsw, .ref qsi, .long sd, .ref qln, .ref qfm, .ref qby, .ref qwy, .int (nI wz), .ref qfo, .ref qon, .ref qmn, .ref qpr, .ref qle, .ref qst, .ref qwt, .int (nI rc), .int (nI tk), .int (nI ps), .int (nI gn), .int bd, .ref qwo], aI G qpg 22 (nF (flE p 1 i c j)), aI G qbk 308 (nF bk2_3)]) (rfl) ?_
    refine wc_aload_n X 41 0 dX11_turn_41 rfl ?_
    refine wc_get X 42 0 5 kd11 rfl (by decide) q_770 rfl dX11_turn_42 ?_
    refine wc_iload_n X 45 1 dX11_turn_45 rfl ?_
    refine wc_iload_n X 46 2 dX11_turn_46 rfl ?_
    refine wc_iload_n X 47 3 dX11_turn_47 rfl ?_
    refine wc_callS X 48 [] (c_X11_at l G 1 i c (by decide) (by have := pgOk_m hr (show 1 < 2 by decide); omega) (by first | assumption | omega) (by first | assumption | omega)) ys_X11_at rfl q_896 ⟨rfl, rfl⟩ ⟨rfl, rfl⟩ ⟨rfl, rfl⟩ rfl rfl rfl dX11_turn_48 ?_
    refine wc_ialdG X 51 1 rfl (atN_lt (by omega) h2) (by decide) dX11_turn_51 ?_
    refine wc_topi (nI (go (flE p 1 i c j) (i * 2 + c - 1))) (congrArg nI (atN_mG (m := 1) (p := flE p 1 i c j) (by decide) hz.2.1 (by rw [flE_lo (by decide) h1 (by decide)]; exact hi) h1 h2)) ?_
    refine wc_iload X 52 4 dX11_turn_52 rfl ?_
    refine wc_callS X 54 [] (c_X11_has l G (go (flE p 1 i c j) (i * 2 + c - 1)) j (Nat.lt_trans (mG_lt (m := 1) hz.2.2.2.2.1 _) (by decide)) (by omega)) ys_X11_has rfl q_916 ⟨rfl, rfl⟩ ⟨rfl, rfl⟩ ⟨rfl, rfl⟩ rfl rfl rfl dX11_turn_54 ?_
    refine wc_if_eqB X 57 64 dX11_turn_57 (by decide) (fun c57_4 => ?_) (fun c57_4 => ?_)
    ·
      refine wc_iconstN X 64 0 dX11_turn_64 ?_
      exact ret 65 _ (nI 0) _ dX11_turn_65 (⟨_, by rw [c57_4]; rfl, rfl, hbk⟩)
    ·
      refine wc_iconstN X 60 1 dX11_turn_60 ?_
      refine wc_goto X 61 65 dX11_turn_61 (by decide) ?_
      exact ret 65 _ (nI 1) _ dX11_turn_65 (⟨_, by rw [c57_4]; rfl, rfl, hbk⟩)
  ·
    exact absurd c14_1 (by decide)

set_option maxHeartbeats 4000000 in
set_option maxRecDepth 100000 in
theorem c_X11_end1A (l : Launch) (G : GG) (o : Nat) (th : Int32) (qtx ts pl qrp qpg qtr qbk dn qkp qik sn qsw qsi : Nat) (sd : Int64) (qln qfm qby qwy wz qfo qon qmn qpr qle qst qwt rc tk ps gn : Nat) (bd : Int32) (qwo : Nat) (p : Nat → Nat) (bk : Nat → Nat) (i : Nat) (hr : pgOk p) (hi : i < p 1) (hl : dn < 14) : MM l G yX11_end (Cond.code yX11_end cX11_end 3 (some .int)) { frames := 2, cells := 0, slots := 0, locals := 47 } [.ref o, .int (nI 1), .int (nI i)] [ob o 11 [.int th, .ref qtx, .int (nI ts), .int (nI pl), .ref qrp, .ref qpg, .ref qtr, .ref qbk, .int (nI dn), .ref qkp, .ref qik, .int (nI sn), .ref qsw, .ref qsi, .long sd, .ref qln, .ref qfm, .ref qby, .ref qwy, .int (nI wz), .ref qfo, .ref qon, .ref qmn, .ref qpr, .ref qle, .ref qst, .ref qwt, .int (nI rc), .int (nI tk), .int (nI ps), .int (nI gn), .int bd, .ref qwo], aI G qpg 22 (nF p), aI G qbk 308 (nF bk)] (fun (v : Option Value) (w : va_W) => ∃ (bk2 : Nat → Nat), v = some (.int (nI ((Nat.testBit (flN p 1 i 3) i).toNat))) ∧ w = [ob o 11 [.int (nI 0), .ref qtx, .int (nI ts), .int (nI pl), .ref qrp, .ref qpg, .ref qtr, .ref qbk, .int (nI (dn + 1)), .ref qkp, .ref qik, .int (nI sn), .ref qsw, .ref qsi, .long sd, .ref qln, .ref qfm, .ref qby, .ref qwy, .int (nI wz), .ref qfo, .ref qon, .ref qmn, .ref qpr, .ref qle, .ref qst, .ref qwt, .int (nI rc), .int (nI tk), .int (nI ps), .int (nI gn), .int bd, .ref qwo], aI G qpg 22 (nF (flN p 1 i)), aI G qbk 308 (nF bk2)] ∧ ((∀ j, j < 22 * dn → bk2 j = bk j) ∧ ∀ k, k < 22 → bk2 (22 * dn + k) = p k)) 0 0 := by
  refine MM.ofI (by decide) rfl (fun Γ X Y hnm ret => ?_)
  show Wc Γ 0 0 0 [(0, .ref o), (1, .int (nI 1)), (2, .int (nI i))] [] [ob o 11 [.int th, .ref qtx, .int (nI ts), .int (nI pl), .ref qrp, .ref qpg, .ref qtr, .ref qbk, .int (nI dn), .ref qkp, .ref qik, .int (nI sn), .ref qsw, .ref qsi, .long sd, .ref qln, .ref qfm, .ref qby, .ref qwy, .int (nI wz), .ref qfo, .ref qon, .ref qmn, .ref qpr, .ref qle, .ref qst, .ref qwt, .int (nI rc), .int (nI tk), .int (nI ps), .int (nI gn), .int bd, .ref qwo], aI G qpg 22 (nF p), aI G qbk 308 (nF bk)]
  have hb := pgOk_m hr (show 1 < 2 by decide)
  have hz := flN_ok (m := 1) hr (by decide) hi
  refine wc_aload_n X 0 0 dX11_end_0 rfl ?_
  refine wc_iconstN X 1 0 dX11_end_1 ?_
  refine wc_put X Y 2 0 0 kd11 rfl (by decide) q_765 rfl rfl rfl (Nat.le_of_ble_eq_true rfl) (ws' := [ob o 11 [.int (nI 0), .ref qtx, .int (nI ts), .int (nI pl), .ref qrp, .ref qpg, .ref qtr, .ref qbk, .int (nI dn), .ref qkp, .ref qik, .int (nI sn), .ref qsw, .ref qsi, .long sd, .ref qln, .ref qfm, .ref qby, .ref qwy, .int (nI wz), .ref qfo, .ref qon, .ref qmn, .ref qpr, .ref qle, .ref qst, .ref qwt, .int (nI rc), .int (nI tk), .int (nI ps), .int (nI gn), .int bd, .ref qwo], aI G qpg 22 (nF p), aI G qbk 308 (nF bk)]) rfl dX11_end_2 ?_
  refine wc_aload_n X 5 0 dX11_end_5 rfl ?_
  refine wc_iload_n X 6 1 dX11_end_6 rfl ?_
  refine wc_iload_n X 7 2 dX11_end_7 rfl ?_
  refine wc_callV X 8 [0, 1] 0 (c_X11_noState l G o (nI 0) qtx ts pl qrp qpg qtr qbk dn qkp qik sn qsw qsi sd qln qfm qby qwy wz qfo qon qmn qpr qle qst qwt rc tk ps gn bd qwo p (nI 1) (nI i) (by first | assumption | omega)) yv_X11_noState kd11 rfl rfl q_941 ⟨rfl, rfl⟩ ⟨rfl, rfl⟩ ⟨rfl, rfl⟩ rfl rfl rfl dX11_end_8 ?_
  refine wc_topi (b2i false) (congrArg b2i (by rw [stO_p (m := 1) hr (by decide) hi]; rfl)) ?_
  refine wc_if_eqB X 11 16 dX11_end_11 (by decide) (fun c11_1 => ?_) (fun c11_1 => ?_)
  ·
    refine wc_aload_n X 16 0 dX11_end_16 rfl ?_
    refine wc_mutV X Y 17 [0, 1, 2] [] 0 (c_X11_noteA l G o (nI 0) qtx ts pl qrp qpg qtr qbk dn qkp qik sn qsw qsi sd qln qfm qby qwy wz qfo qon qmn qpr qle qst qwt rc tk ps gn bd qwo p bk (by first | assumption | omega)) yv_X11_note kd11 rfl rfl (wr := []) rfl ⟨rfl, rfl, rfl⟩ q_950 ⟨rfl, rfl⟩ ⟨rfl, rfl⟩ ⟨rfl, rfl⟩ rfl rfl rfl dX11_end_17 (fun v w hp_2 => ?_)
    obtain ⟨bk2_3, rfl, rfl, hbk⟩ := hp_2
    refine wc_perm Y [0, 1, 2] [ob o 11 [.int (nI 0), .ref qtx, .int (nI ts), .int (nI pl), .ref qrp, .ref qpg, .ref qtr, .ref qbk, .int (nI (dn + 1)), .ref qkp, .ref qik, .int (nI sn), .ref qsw, .ref qsi, .long sd, .ref qln, .ref qfm, .ref qby, .ref qwy, .int (nI wz), .ref qfo, .ref qon, .ref qmn, .ref qpr, .ref qle, .ref qst, .ref qwt, .int (nI rc), .int (nI tk), .int (nI ps), .int (nI gn), .int bd, .ref qwo], aI G qpg 22 (nF p), aI G qbk 308 (nF bk2_3)] rfl rfl ?_
    show Wc Γ 0 0 20 [(0, .ref o), (1, .int (nI 1)), (2, .int (nI i))] [] [ob o 11 [.int (nI 0), .ref qtx, .int (nI ts), .int (nI pl), .ref qrp, .ref qpg, .ref qtr, .ref qbk, .int (nI (dn + 1)), .ref qkp, .ref qik, .int (nI sn), .ref qsw, .ref qsi, .long sd, .ref qln, .ref qfm, .ref qby, .ref qwy, .int (nI wz), .ref qfo, .ref qon, .ref qmn, .ref qpr, .ref qle, .ref qst, .ref qwt, .int (nI rc), .int (nI tk), .int (nI ps), .int (nI gn), .int bd, .ref qwo], aI G qpg 22 (nF p), aI G qbk 308 (nF bk2_3)]
    refine wc_aload_n X 20 0 dX11_end_20 rfl ?_
    refine wc_get X 21 0 5 kd11 rfl (by decide) q_770 rfl dX11_end_21 ?_
    refine wc_iconstN X 24 2 dX11_end_24 ?_
    refine wc_iload_n X 25 1 dX11_end_25 rfl ?_
    refine wc_iaddN X 26 dX11_end_26 ?_
    refine wc_dup2 X 27 dX11_end_27 rfl rfl ?_
    refine wc_ialdG X 28 1 rfl (by omega) (by decide) dX11_end_28 ?_
    refine wc_iconstN X 29 1 dX11_end_29 ?_
    refine wc_iload_n X 30 2 dX11_end_30 rfl ?_
    refine wc_shl1 X 31 dX11_end_31 (by omega) ?_
    refine wc_ixorN X 32 dX11_end_32 ?_
    refine wc_iastG X Y 33 1 rfl (by omega) (by decide) (ws' := [ob o 11 [.int (nI 0), .ref qtx, .int (nI ts), .int (nI pl), .ref qrp, .ref qpg, .ref qtr, .ref qbk, .int (nI (dn + 1)), .ref qkp, .ref qik, .int (nI sn), .ref qsw, .ref qsi, .long sd, .ref qln, .ref qfm, .ref qby, .ref qwy, .int (nI wz), .ref qfo, .ref qon, .ref qmn, .ref qpr, .ref qle, .ref qst, .ref qwt, .int (nI rc), .int (nI tk), .int (nI ps), .int (nI gn), .int bd, .ref qwo], aI G qpg 22 (nF (up p (2 + 1) ((p (2 + 1)) ^^^ (2 ^ i)))), aI G qbk 308 (nF bk2_3)]) rfl dX11_end_33 ?_
    refine wc_ws (ws' := [ob o 11 [.int (nI 0), .ref qtx, .int (nI ts), .int (nI pl), .ref qrp, .ref qpg, .ref qtr, .ref qbk, .int (nI (dn + 1)), .ref qkp, .ref qik, .int (nI sn), .ref qsw, .ref qsi, .long sd, .ref qln, .ref qfm, .ref qby, .ref qwy, .int (nI wz), .ref qfo, .ref qon, .ref qmn, .ref qpr, .ref qle, .ref qst, .ref qwt, .int (nI rc), .int (nI tk), .int (nI ps), .int (nI gn), .int bd, .ref qwo], aI G qpg 22 (nF (flN p 1 i)), aI G qbk 308 (nF bk2_3)]) (rfl) ?_
    refine wc_aload_n X 34 0 dX11_end_34 rfl ?_
    refine wc_get X 35 0 5 kd11 rfl (by decide) q_770 rfl dX11_end_35 ?_
    refine wc_iconstN X 38 2 dX11_end_38 ?_
    refine wc_iload_n X 39 1 dX11_end_39 rfl ?_
    refine wc_iaddN X 40 dX11_end_40 ?_
    refine wc_ialdG X 41 1 rfl (by omega) (by decide) dX11_end_41 ?_
    refine wc_iload_n X 42 2 dX11_end_42 rfl ?_
    refine wc_callS X 43 [] (c_X11_has l G ((flN p 1 i) (2 + 1)) i (Nat.lt_trans (hz.2.2.2.2.1 _) (by decide)) (by omega)) ys_X11_has rfl q_916 ⟨rfl, rfl⟩ ⟨rfl, rfl⟩ ⟨rfl, rfl⟩ rfl rfl rfl dX11_end_43 ?_
    refine wc_if_eqB X 46 53 dX11_end_46 (by decide) (fun c46_4 => ?_) (fun c46_4 => ?_)
    ·
      refine wc_iconstN X 53 0 dX11_end_53 ?_
      exact ret 54 _ (nI 0) _ dX11_end_54 (⟨_, by rw [c46_4]; rfl, rfl, hbk⟩)
    ·
      refine wc_iconstN X 49 1 dX11_end_49 ?_
      refine wc_goto X 50 54 dX11_end_50 (by decide) ?_
      exact ret 54 _ (nI 1) _ dX11_end_54 (⟨_, by rw [c46_4]; rfl, rfl, hbk⟩)
  ·
    exact absurd c11_1 (by decide)

set_option maxHeartbeats 4000000 in
set_option maxRecDepth 100000 in
theorem c_X11_turn1B (l : Launch) (G : GG) (o : Nat) (th : Int32) (qtx ts pl qrp qpg qtr qbk qkp qik sn qsw qsi : Nat) (sd : Int64) (qln qfm qby qwy wz qfo qon qmn qpr qle qst qwt rc tk ps gn : Nat) (bd : Int32) (qwo : Nat) (p : Nat → Nat) (bk : Nat → Nat) (i c j : Nat) (hr : pgOk p) (hi : i < p 1) (h1 : 1 ≤ c) (h2 : c ≤ 2) (ht : j < p 1) : MM l G yX11_turn (Cond.code yX11_turn cX11_turn 5 (some .int)) { frames := 3, cells := 0, slots := 0, locals := 71 } [.ref o, .int (nI 1), .int (nI i), .int (nI c), .int (nI j)] [ob o 11 [.int th, .ref qtx, .int (nI ts), .int (nI pl), .ref qrp, .ref qpg, .ref qtr, .ref qbk, .int (nI 14), .ref qkp, .ref qik, .int (nI sn), .ref qsw, .ref qsi, .long sd, .ref qln, .ref qfm, .ref qby, .ref qwy, .int (nI wz), .ref qfo, .ref qon, .ref qmn, .ref qpr, .ref qle, .ref qst, .ref qwt, .int (nI rc), .int (nI tk), .int (nI ps), .int (nI gn), .int bd, .ref qwo], aI G qpg 22 (nF p), aI G qbk 308 (nF bk)] (fun (v : Option Value) (w : va_W) => ∃ (bk2 : Nat → Nat), v = some (.int (nI ((Nat.testBit (go (flE p 1 i c j) (i * 2 + c - 1)) j).toNat))) ∧ w = [ob o 11 [.int (nI 0), .ref qtx, .int (nI ts), .int (nI pl), .ref qrp, .ref qpg, .ref qtr, .ref qbk, .int (nI 14), .ref qkp, .ref qik, .int (nI sn), .ref qsw, .ref qsi, .long sd, .ref qln, .ref qfm, .ref qby, .ref qwy, .int (nI wz), .ref qfo, .ref qon, .ref qmn, .ref qpr, .ref qle, .ref qst, .ref qwt, .int (nI rc), .int (nI tk), .int (nI ps), .int (nI gn), .int bd, .ref qwo], aI G qpg 22 (nF (flE p 1 i c j)), aI G qbk 308 (nF bk2)] ∧ ((∀ j, j < 286 → bk2 j = bk (j + 22)) ∧ ∀ k, k < 22 → bk2 (286 + k) = p k)) 0 0 := by
  refine MM.ofI (by decide) rfl (fun Γ X Y hnm ret => ?_)
  show Wc Γ 0 0 0 [(0, .ref o), (1, .int (nI 1)), (2, .int (nI i)), (3, .int (nI c)), (4, .int (nI j))] [] [ob o 11 [.int th, .ref qtx, .int (nI ts), .int (nI pl), .ref qrp, .ref qpg, .ref qtr, .ref qbk, .int (nI 14), .ref qkp, .ref qik, .int (nI sn), .ref qsw, .ref qsi, .long sd, .ref qln, .ref qfm, .ref qby, .ref qwy, .int (nI wz), .ref qfo, .ref qon, .ref qmn, .ref qpr, .ref qle, .ref qst, .ref qwt, .int (nI rc), .int (nI tk), .int (nI ps), .int (nI gn), .int bd, .ref qwo], aI G qpg 22 (nF p), aI G qbk 308 (nF bk)]
  have hb := pgOk_m hr (show 1 < 2 by decide)
  have hz := flE_ok (m := 1) hr (by decide) hi h1 h2 ht
  refine wc_aload_n X 0 0 dX11_turn_0 rfl ?_
  refine wc_iconstN X 1 0 dX11_turn_1 ?_
  refine wc_put X Y 2 0 0 kd11 rfl (by decide) q_765 rfl rfl rfl (Nat.le_of_ble_eq_true rfl) (ws' := [ob o 11 [.int (nI 0), .ref qtx, .int (nI ts), .int (nI pl), .ref qrp, .ref qpg, .ref qtr, .ref qbk, .int (nI 14), .ref qkp, .ref qik, .int (nI sn), .ref qsw, .ref qsi, .long sd, .ref qln, .ref qfm, .ref qby, .ref qwy, .int (nI wz), .ref qfo, .ref qon, .ref qmn, .ref qpr, .ref qle, .ref qst, .ref qwt, .int (nI rc), .int (nI tk), .int (nI ps), .int (nI gn), .int bd, .ref qwo], aI G qpg 22 (nF p), aI G qbk 308 (nF bk)]) rfl dX11_turn_2 ?_
  refine wc_aload_n X 5 0 dX11_turn_5 rfl ?_
  refine wc_iload_n X 6 1 dX11_turn_6 rfl ?_
  refine wc_iload_n X 7 2 dX11_turn_7 rfl ?_
  refine wc_iload_n X 8 3 dX11_turn_8 rfl ?_
  refine wc_iload X 9 4 dX11_turn_9 rfl ?_
  refine wc_callV X 11 [0, 1] 0 (c_X11_noEdge l G o (nI 0) qtx ts pl qrp qpg qtr qbk 14 qkp qik sn qsw qsi sd qln qfm qby qwy wz qfo qon qmn qpr qle qst qwt rc tk ps gn bd qwo p (nI 1) (nI i) (nI c) (nI j) (by first | assumption | omega)) yv_X11_noEdge kd11 rfl rfl q_937 ⟨rfl, rfl⟩ ⟨rfl, rfl⟩ ⟨rfl, rfl⟩ rfl rfl rfl dX11_turn_11 ?_
  refine wc_topi (b2i false) (congrArg b2i (by rw [edO_p (m := 1) hr (by decide) hi h1 h2 ht]; rfl)) ?_
  refine wc_if_eqB X 14 19 dX11_turn_14 (by decide) (fun c14_1 => ?_) (fun c14_1 => ?_)
  ·
    refine wc_aload_n X 19 0 dX11_turn_19 rfl ?_
    refine wc_mutV X Y 20 [0, 1, 2] [] 0 (c_X11_noteB l G o (nI 0) qtx ts pl qrp qpg qtr qbk qkp qik sn qsw qsi sd qln qfm qby qwy wz qfo qon qmn qpr qle qst qwt rc tk ps gn bd qwo p bk ) yv_X11_note kd11 rfl rfl (wr := []) rfl ⟨rfl, rfl, rfl⟩ q_950 ⟨rfl, rfl⟩ ⟨rfl, rfl⟩ ⟨rfl, rfl⟩ rfl rfl rfl dX11_turn_20 (fun v w hp_2 => ?_)
    obtain ⟨bk2_3, rfl, rfl, hbk⟩ := hp_2
    refine wc_perm Y [0, 1, 2] [ob o 11 [.int (nI 0), .ref qtx, .int (nI ts), .int (nI pl), .ref qrp, .ref qpg, .ref qtr, .ref qbk, .int (nI 14), .ref qkp, .ref qik, .int (nI sn), .ref qsw, .ref qsi, .long sd, .ref qln, .ref qfm, .ref qby, .ref qwy, .int (nI wz), .ref qfo, .ref qon, .ref qmn, .ref qpr, .ref qle, .ref qst, .ref qwt, .int (nI rc), .int (nI tk), .int (nI ps), .int (nI gn), .int bd, .ref qwo], aI G qpg 22 (nF p), aI G qbk 308 (nF bk2_3)] rfl rfl ?_
    show Wc Γ 0 0 23 [(0, .ref o), (1, .int (nI 1)), (2, .int (nI i)), (3, .int (nI c)), (4, .int (nI j))] [] [ob o 11 [.int (nI 0), .ref qtx, .int (nI ts), .int (nI pl), .ref qrp, .ref qpg, .ref qtr, .ref qbk, .int (nI 14), .ref qkp, .ref qik, .int (nI sn), .ref qsw, .ref qsi, .long sd, .ref qln, .ref qfm, .ref qby, .ref qwy, .int (nI wz), .ref qfo, .ref qon, .ref qmn, .ref qpr, .ref qle, .ref qst, .ref qwt, .int (nI rc), .int (nI tk), .int (nI ps), .int (nI gn), .int bd, .ref qwo], aI G qpg 22 (nF p), aI G qbk 308 (nF bk2_3)]
    refine wc_aload_n X 23 0 dX11_turn_23 rfl ?_
    refine wc_get X 24 0 5 kd11 rfl (by decide) q_770 rfl dX11_turn_24 ?_
    refine wc_iload_n X 27 1 dX11_turn_27 rfl ?_
    refine wc_iload_n X 28 2 dX11_turn_28 rfl ?_
    refine wc_iload_n X 29 3 dX11_turn_29 rfl ?_
    refine wc_callS X 30 [] (c_X11_at l G 1 i c (by decide) (by have := pgOk_m hr (show 1 < 2 by decide); omega) (by first | assumption | omega) (by first | assumption | omega)) ys_X11_at rfl q_896 ⟨rfl, rfl⟩ ⟨rfl, rfl⟩ ⟨rfl, rfl⟩ rfl rfl rfl dX11_turn_30 ?_
    refine wc_dup2 X 33 dX11_turn_33 rfl rfl ?_
    refine wc_ialdG X 34 1 rfl (atN_lt (by omega) h2) (by decide) dX11_turn_34 ?_
    refine wc_iconstN X 35 1 dX11_turn_35 ?_
    refine wc_iload X 36 4 dX11_turn_36 rfl ?_
    refine wc_shl1 X 38 dX11_turn_38 (by omega) ?_
    refine wc_ixorN X 39 dX11_turn_39 ?_
    refine wc_iastG X Y 40 1 rfl (atN_lt (by omega) h2) (by decide) (ws' := [ob o 11 [.int (nI 0), .ref qtx, .int (nI ts), .int (nI pl), .ref qrp, .ref qpg, .ref qtr, .ref qbk, .int (nI 14), .ref qkp, .ref qik, .int (nI sn), .ref qsw, .ref qsi, .long sd, .ref qln, .ref qfm, .ref qby, .ref qwy, .int (nI wz), .ref qfo, .ref qon, .ref qmn, .ref qpr, .ref qle, .ref qst, .ref qwt, .int (nI rc), .int (nI tk), .int (nI ps), .int (nI gn), .int bd, .ref qwo], aI G qpg 22 (nF (up p (atN 1 i c) ((p (atN 1 i c)) ^^^ (2 ^ j)))), aI G qbk 308 (nF bk2_3)]) rfl dX11_turn_40 ?_
    refine wc_ws (ws' := [ob o 11 [.int (nI 0), .ref qtx, .int (nI ts), .int (nI pl), .ref qrp, .ref qpg, .ref qtr, .ref qbk, .int (nI 14), .ref qkp, .ref qik, .int (nI sn), .ref qsw, .ref qsi, .long sd, .ref qln, .ref qfm, .ref qby, .ref qwy, .int (nI wz), .ref qfo, .ref qon, .ref qmn, .ref qpr, .ref qle, .ref qst, .ref qwt, .int (nI rc), .int (nI tk), .int (nI ps), .int (nI gn), .int bd, .ref qwo], aI G qpg 22 (nF (flE p 1 i c j)), aI G qbk 308 (nF bk2_3)]) (rfl) ?_
    refine wc_aload_n X 41 0 dX11_turn_41 rfl ?_
    refine wc_get X 42 0 5 kd11 rfl (by decide) q_770 rfl dX11_turn_42 ?_
    refine wc_iload_n X 45 1 dX11_turn_45 rfl ?_
    refine wc_iload_n X 46 2 dX11_turn_46 rfl ?_
    refine wc_iload_n X 47 3 dX11_turn_47 rfl ?_
    refine wc_callS X 48 [] (c_X11_at l G 1 i c (by decide) (by have := pgOk_m hr (show 1 < 2 by decide); omega) (by first | assumption | omega) (by first | assumption | omega)) ys_X11_at rfl q_896 ⟨rfl, rfl⟩ ⟨rfl, rfl⟩ ⟨rfl, rfl⟩ rfl rfl rfl dX11_turn_48 ?_
    refine wc_ialdG X 51 1 rfl (atN_lt (by omega) h2) (by decide) dX11_turn_51 ?_
    refine wc_topi (nI (go (flE p 1 i c j) (i * 2 + c - 1))) (congrArg nI (atN_mG (m := 1) (p := flE p 1 i c j) (by decide) hz.2.1 (by rw [flE_lo (by decide) h1 (by decide)]; exact hi) h1 h2)) ?_
    refine wc_iload X 52 4 dX11_turn_52 rfl ?_
    refine wc_callS X 54 [] (c_X11_has l G (go (flE p 1 i c j) (i * 2 + c - 1)) j (Nat.lt_trans (mG_lt (m := 1) hz.2.2.2.2.1 _) (by decide)) (by omega)) ys_X11_has rfl q_916 ⟨rfl, rfl⟩ ⟨rfl, rfl⟩ ⟨rfl, rfl⟩ rfl rfl rfl dX11_turn_54 ?_
    refine wc_if_eqB X 57 64 dX11_turn_57 (by decide) (fun c57_4 => ?_) (fun c57_4 => ?_)
    ·
      refine wc_iconstN X 64 0 dX11_turn_64 ?_
      exact ret 65 _ (nI 0) _ dX11_turn_65 (⟨_, by rw [c57_4]; rfl, rfl, hbk⟩)
    ·
      refine wc_iconstN X 60 1 dX11_turn_60 ?_
      refine wc_goto X 61 65 dX11_turn_61 (by decide) ?_
      exact ret 65 _ (nI 1) _ dX11_turn_65 (⟨_, by rw [c57_4]; rfl, rfl, hbk⟩)
  ·
    exact absurd c14_1 (by decide)

set_option maxHeartbeats 4000000 in
set_option maxRecDepth 100000 in
theorem c_X11_end1B (l : Launch) (G : GG) (o : Nat) (th : Int32) (qtx ts pl qrp qpg qtr qbk qkp qik sn qsw qsi : Nat) (sd : Int64) (qln qfm qby qwy wz qfo qon qmn qpr qle qst qwt rc tk ps gn : Nat) (bd : Int32) (qwo : Nat) (p : Nat → Nat) (bk : Nat → Nat) (i : Nat) (hr : pgOk p) (hi : i < p 1) : MM l G yX11_end (Cond.code yX11_end cX11_end 3 (some .int)) { frames := 2, cells := 0, slots := 0, locals := 47 } [.ref o, .int (nI 1), .int (nI i)] [ob o 11 [.int th, .ref qtx, .int (nI ts), .int (nI pl), .ref qrp, .ref qpg, .ref qtr, .ref qbk, .int (nI 14), .ref qkp, .ref qik, .int (nI sn), .ref qsw, .ref qsi, .long sd, .ref qln, .ref qfm, .ref qby, .ref qwy, .int (nI wz), .ref qfo, .ref qon, .ref qmn, .ref qpr, .ref qle, .ref qst, .ref qwt, .int (nI rc), .int (nI tk), .int (nI ps), .int (nI gn), .int bd, .ref qwo], aI G qpg 22 (nF p), aI G qbk 308 (nF bk)] (fun (v : Option Value) (w : va_W) => ∃ (bk2 : Nat → Nat), v = some (.int (nI ((Nat.testBit (flN p 1 i 3) i).toNat))) ∧ w = [ob o 11 [.int (nI 0), .ref qtx, .int (nI ts), .int (nI pl), .ref qrp, .ref qpg, .ref qtr, .ref qbk, .int (nI 14), .ref qkp, .ref qik, .int (nI sn), .ref qsw, .ref qsi, .long sd, .ref qln, .ref qfm, .ref qby, .ref qwy, .int (nI wz), .ref qfo, .ref qon, .ref qmn, .ref qpr, .ref qle, .ref qst, .ref qwt, .int (nI rc), .int (nI tk), .int (nI ps), .int (nI gn), .int bd, .ref qwo], aI G qpg 22 (nF (flN p 1 i)), aI G qbk 308 (nF bk2)] ∧ ((∀ j, j < 286 → bk2 j = bk (j + 22)) ∧ ∀ k, k < 22 → bk2 (286 + k) = p k)) 0 0 := by
  refine MM.ofI (by decide) rfl (fun Γ X Y hnm ret => ?_)
  show Wc Γ 0 0 0 [(0, .ref o), (1, .int (nI 1)), (2, .int (nI i))] [] [ob o 11 [.int th, .ref qtx, .int (nI ts), .int (nI pl), .ref qrp, .ref qpg, .ref qtr, .ref qbk, .int (nI 14), .ref qkp, .ref qik, .int (nI sn), .ref qsw, .ref qsi, .long sd, .ref qln, .ref qfm, .ref qby, .ref qwy, .int (nI wz), .ref qfo, .ref qon, .ref qmn, .ref qpr, .ref qle, .ref qst, .ref qwt, .int (nI rc), .int (nI tk), .int (nI ps), .int (nI gn), .int bd, .ref qwo], aI G qpg 22 (nF p), aI G qbk 308 (nF bk)]
  have hb := pgOk_m hr (show 1 < 2 by decide)
  have hz := flN_ok (m := 1) hr (by decide) hi
  refine wc_aload_n X 0 0 dX11_end_0 rfl ?_
  refine wc_iconstN X 1 0 dX11_end_1 ?_
  refine wc_put X Y 2 0 0 kd11 rfl (by decide) q_765 rfl rfl rfl (Nat.le_of_ble_eq_true rfl) (ws' := [ob o 11 [.int (nI 0), .ref qtx, .int (nI ts), .int (nI pl), .ref qrp, .ref qpg, .ref qtr, .ref qbk, .int (nI 14), .ref qkp, .ref qik, .int (nI sn), .ref qsw, .ref qsi, .long sd, .ref qln, .ref qfm, .ref qby, .ref qwy, .int (nI wz), .ref qfo, .ref qon, .ref qmn, .ref qpr, .ref qle, .ref qst, .ref qwt, .int (nI rc), .int (nI tk), .int (nI ps), .int (nI gn), .int bd, .ref qwo], aI G qpg 22 (nF p), aI G qbk 308 (nF bk)]) rfl dX11_end_2 ?_
  refine wc_aload_n X 5 0 dX11_end_5 rfl ?_
  refine wc_iload_n X 6 1 dX11_end_6 rfl ?_
  refine wc_iload_n X 7 2 dX11_end_7 rfl ?_
  refine wc_callV X 8 [0, 1] 0 (c_X11_noState l G o (nI 0) qtx ts pl qrp qpg qtr qbk 14 qkp qik sn qsw qsi sd qln qfm qby qwy wz qfo qon qmn qpr qle qst qwt rc tk ps gn bd qwo p (nI 1) (nI i) (by first | assumption | omega)) yv_X11_noState kd11 rfl rfl q_941 ⟨rfl, rfl⟩ ⟨rfl, rfl⟩ ⟨rfl, rfl⟩ rfl rfl rfl dX11_end_8 ?_
  refine wc_topi (b2i false) (congrArg b2i (by rw [stO_p (m := 1) hr (by decide) hi]; rfl)) ?_
  refine wc_if_eqB X 11 16 dX11_end_11 (by decide) (fun c11_1 => ?_) (fun c11_1 => ?_)
  ·
    refine wc_aload_n X 16 0 dX11_end_16 rfl ?_
    refine wc_mutV X Y 17 [0, 1, 2] [] 0 (c_X11_noteB l G o (nI 0) qtx ts pl qrp qpg qtr qbk qkp qik sn qsw qsi sd qln qfm qby qwy wz qfo qon qmn qpr qle qst qwt rc tk ps gn bd qwo p bk ) yv_X11_note kd11 rfl rfl (wr := []) rfl ⟨rfl, rfl, rfl⟩ q_950 ⟨rfl, rfl⟩ ⟨rfl, rfl⟩ ⟨rfl, rfl⟩ rfl rfl rfl dX11_end_17 (fun v w hp_2 => ?_)
    obtain ⟨bk2_3, rfl, rfl, hbk⟩ := hp_2
    refine wc_perm Y [0, 1, 2] [ob o 11 [.int (nI 0), .ref qtx, .int (nI ts), .int (nI pl), .ref qrp, .ref qpg, .ref qtr, .ref qbk, .int (nI 14), .ref qkp, .ref qik, .int (nI sn), .ref qsw, .ref qsi, .long sd, .ref qln, .ref qfm, .ref qby, .ref qwy, .int (nI wz), .ref qfo, .ref qon, .ref qmn, .ref qpr, .ref qle, .ref qst, .ref qwt, .int (nI rc), .int (nI tk), .int (nI ps), .int (nI gn), .int bd, .ref qwo], aI G qpg 22 (nF p), aI G qbk 308 (nF bk2_3)] rfl rfl ?_
    show Wc Γ 0 0 20 [(0, .ref o), (1, .int (nI 1)), (2, .int (nI i))] [] [ob o 11 [.int (nI 0), .ref qtx, .int (nI ts), .int (nI pl), .ref qrp, .ref qpg, .ref qtr, .ref qbk, .int (nI 14), .ref qkp, .ref qik, .int (nI sn), .ref qsw, .ref qsi, .long sd, .ref qln, .ref qfm, .ref qby, .ref qwy, .int (nI wz), .ref qfo, .ref qon, .ref qmn, .ref qpr, .ref qle, .ref qst, .ref qwt, .int (nI rc), .int (nI tk), .int (nI ps), .int (nI gn), .int bd, .ref qwo], aI G qpg 22 (nF p), aI G qbk 308 (nF bk2_3)]
    refine wc_aload_n X 20 0 dX11_end_20 rfl ?_
    refine wc_get X 21 0 5 kd11 rfl (by decide) q_770 rfl dX11_end_21 ?_
    refine wc_iconstN X 24 2 dX11_end_24 ?_
    refine wc_iload_n X 25 1 dX11_end_25 rfl ?_
    refine wc_iaddN X 26 dX11_end_26 ?_
    refine wc_dup2 X 27 dX11_end_27 rfl rfl ?_
    refine wc_ialdG X 28 1 rfl (by omega) (by decide) dX11_end_28 ?_
    refine wc_iconstN X 29 1 dX11_end_29 ?_
    refine wc_iload_n X 30 2 dX11_end_30 rfl ?_
    refine wc_shl1 X 31 dX11_end_31 (by omega) ?_
    refine wc_ixorN X 32 dX11_end_32 ?_
    refine wc_iastG X Y 33 1 rfl (by omega) (by decide) (ws' := [ob o 11 [.int (nI 0), .ref qtx, .int (nI ts), .int (nI pl), .ref qrp, .ref qpg, .ref qtr, .ref qbk, .int (nI 14), .ref qkp, .ref qik, .int (nI sn), .ref qsw, .ref qsi, .long sd, .ref qln, .ref qfm, .ref qby, .ref qwy, .int (nI wz), .ref qfo, .ref qon, .ref qmn, .ref qpr, .ref qle, .ref qst, .ref qwt, .int (nI rc), .int (nI tk), .int (nI ps), .int (nI gn), .int bd, .ref qwo], aI G qpg 22 (nF (up p (2 + 1) ((p (2 + 1)) ^^^ (2 ^ i)))), aI G qbk 308 (nF bk2_3)]) rfl dX11_end_33 ?_
    refine wc_ws (ws' := [ob o 11 [.int (nI 0), .ref qtx, .int (nI ts), .int (nI pl), .ref qrp, .ref qpg, .ref qtr, .ref qbk, .int (nI 14), .ref qkp, .ref qik, .int (nI sn), .ref qsw, .ref qsi, .long sd, .ref qln, .ref qfm, .ref qby, .ref qwy, .int (nI wz), .ref qfo, .ref qon, .ref qmn, .ref qpr, .ref qle, .ref qst, .ref qwt, .int (nI rc), .int (nI tk), .int (nI ps), .int (nI gn), .int bd, .ref qwo], aI G qpg 22 (nF (flN p 1 i)), aI G qbk 308 (nF bk2_3)]) (rfl) ?_
    refine wc_aload_n X 34 0 dX11_end_34 rfl ?_
    refine wc_get X 35 0 5 kd11 rfl (by decide) q_770 rfl dX11_end_35 ?_
    refine wc_iconstN X 38 2 dX11_end_38 ?_
    refine wc_iload_n X 39 1 dX11_end_39 rfl ?_
    refine wc_iaddN X 40 dX11_end_40 ?_
    refine wc_ialdG X 41 1 rfl (by omega) (by decide) dX11_end_41 ?_
    refine wc_iload_n X 42 2 dX11_end_42 rfl ?_
    refine wc_callS X 43 [] (c_X11_has l G ((flN p 1 i) (2 + 1)) i (Nat.lt_trans (hz.2.2.2.2.1 _) (by decide)) (by omega)) ys_X11_has rfl q_916 ⟨rfl, rfl⟩ ⟨rfl, rfl⟩ ⟨rfl, rfl⟩ rfl rfl rfl dX11_end_43 ?_
    refine wc_if_eqB X 46 53 dX11_end_46 (by decide) (fun c46_4 => ?_) (fun c46_4 => ?_)
    ·
      refine wc_iconstN X 53 0 dX11_end_53 ?_
      exact ret 54 _ (nI 0) _ dX11_end_54 (⟨_, by rw [c46_4]; rfl, rfl, hbk⟩)
    ·
      refine wc_iconstN X 49 1 dX11_end_49 ?_
      refine wc_goto X 50 54 dX11_end_50 (by decide) ?_
      exact ret 54 _ (nI 1) _ dX11_end_54 (⟨_, by rw [c46_4]; rfl, rfl, hbk⟩)
  ·
    exact absurd c11_1 (by decide)

set_option maxHeartbeats 4000000 in
set_option maxRecDepth 100000 in
theorem c_X11_endF (l : Launch) (G : GG) (o : Nat) (th : Int32) (qtx ts pl qrp qpg qtr qbk dn qkp qik sn qsw qsi : Nat) (sd : Int64) (qln qfm qby qwy wz qfo qon qmn qpr qle qst qwt rc tk ps gn : Nat) (bd : Int32) (qwo : Nat) (p : Nat → Nat) (m i : Int32) (hr : pgOk p) (hb : stOf (p 0) (p 1) m i = false) : MM l G yX11_end (Cond.code yX11_end cX11_end 3 (some .int)) { frames := 2, cells := 0, slots := 0, locals := 47 } [.ref o, .int m, .int i] [ob o 11 [.int th, .ref qtx, .int (nI ts), .int (nI pl), .ref qrp, .ref qpg, .ref qtr, .ref qbk, .int (nI dn), .ref qkp, .ref qik, .int (nI sn), .ref qsw, .ref qsi, .long sd, .ref qln, .ref qfm, .ref qby, .ref qwy, .int (nI wz), .ref qfo, .ref qon, .ref qmn, .ref qpr, .ref qle, .ref qst, .ref qwt, .int (nI rc), .int (nI tk), .int (nI ps), .int (nI gn), .int bd, .ref qwo], aI G qpg 22 (nF p)] (fun (v : Option Value) (w : va_W) => v = some (.int (-1)) ∧ w = [ob o 11 [.int (nI 0), .ref qtx, .int (nI ts), .int (nI pl), .ref qrp, .ref qpg, .ref qtr, .ref qbk, .int (nI dn), .ref qkp, .ref qik, .int (nI sn), .ref qsw, .ref qsi, .long sd, .ref qln, .ref qfm, .ref qby, .ref qwy, .int (nI wz), .ref qfo, .ref qon, .ref qmn, .ref qpr, .ref qle, .ref qst, .ref qwt, .int (nI rc), .int (nI tk), .int (nI ps), .int (nI gn), .int bd, .ref qwo], aI G qpg 22 (nF p)]) 0 0 := by
  refine MM.ofI (by decide) rfl (fun Γ X Y hnm ret => ?_)
  show Wc Γ 0 0 0 [(0, .ref o), (1, .int m), (2, .int i)] [] [ob o 11 [.int th, .ref qtx, .int (nI ts), .int (nI pl), .ref qrp, .ref qpg, .ref qtr, .ref qbk, .int (nI dn), .ref qkp, .ref qik, .int (nI sn), .ref qsw, .ref qsi, .long sd, .ref qln, .ref qfm, .ref qby, .ref qwy, .int (nI wz), .ref qfo, .ref qon, .ref qmn, .ref qpr, .ref qle, .ref qst, .ref qwt, .int (nI rc), .int (nI tk), .int (nI ps), .int (nI gn), .int bd, .ref qwo], aI G qpg 22 (nF p)]
  refine wc_aload_n X 0 0 dX11_end_0 rfl ?_
  refine wc_iconstN X 1 0 dX11_end_1 ?_
  refine wc_put X Y 2 0 0 kd11 rfl (by decide) q_765 rfl rfl rfl (Nat.le_of_ble_eq_true rfl) (ws' := [ob o 11 [.int (nI 0), .ref qtx, .int (nI ts), .int (nI pl), .ref qrp, .ref qpg, .ref qtr, .ref qbk, .int (nI dn), .ref qkp, .ref qik, .int (nI sn), .ref qsw, .ref qsi, .long sd, .ref qln, .ref qfm, .ref qby, .ref qwy, .int (nI wz), .ref qfo, .ref qon, .ref qmn, .ref qpr, .ref qle, .ref qst, .ref qwt, .int (nI rc), .int (nI tk), .int (nI ps), .int (nI gn), .int bd, .ref qwo], aI G qpg 22 (nF p)]) rfl dX11_end_2 ?_
  refine wc_aload_n X 5 0 dX11_end_5 rfl ?_
  refine wc_iload_n X 6 1 dX11_end_6 rfl ?_
  refine wc_iload_n X 7 2 dX11_end_7 rfl ?_
  refine wc_callV X 8 [0, 1] 0 (c_X11_noState l G o (nI 0) qtx ts pl qrp qpg qtr qbk dn qkp qik sn qsw qsi sd qln qfm qby qwy wz qfo qon qmn qpr qle qst qwt rc tk ps gn bd qwo p m i (by first | assumption | omega)) yv_X11_noState kd11 rfl rfl q_941 ⟨rfl, rfl⟩ ⟨rfl, rfl⟩ ⟨rfl, rfl⟩ rfl rfl rfl dX11_end_8 ?_
  refine wc_topi (b2i true) (congrArg b2i (by rw [hb]; rfl)) ?_
  refine wc_if_eqB X 11 16 dX11_end_11 (by decide) (fun c11_1 => ?_) (fun c11_1 => ?_)
  ·
    exact absurd c11_1 (by decide)
  ·
    refine wc_iconst X 14 (-1) dX11_end_14 (by decide) ?_
    exact ret 15 _ (-1) _ dX11_end_15 (⟨rfl, rfl⟩)

set_option maxHeartbeats 4000000 in
set_option maxRecDepth 100000 in
theorem c_X11_undoF (l : Launch) (G : GG) (o : Nat) (th : Int32) (qtx ts pl qrp qpg qtr qbk dn qkp qik sn qsw qsi : Nat) (sd : Int64) (qln qfm qby qwy wz qfo qon qmn qpr qle qst qwt rc tk ps gn : Nat) (bd : Int32) (qwo : Nat) (hd : dn = 0) : MM l G yX11_undo (Cond.code yX11_undo cX11_undo 2 (some .int)) { frames := 0, cells := 0, slots := 0, locals := 0 } [.ref o] [ob o 11 [.int th, .ref qtx, .int (nI ts), .int (nI pl), .ref qrp, .ref qpg, .ref qtr, .ref qbk, .int (nI dn), .ref qkp, .ref qik, .int (nI sn), .ref qsw, .ref qsi, .long sd, .ref qln, .ref qfm, .ref qby, .ref qwy, .int (nI wz), .ref qfo, .ref qon, .ref qmn, .ref qpr, .ref qle, .ref qst, .ref qwt, .int (nI rc), .int (nI tk), .int (nI ps), .int (nI gn), .int bd, .ref qwo]] (fun (v : Option Value) (w : va_W) => v = some (.int (-3)) ∧ w = [ob o 11 [.int (nI 0), .ref qtx, .int (nI ts), .int (nI pl), .ref qrp, .ref qpg, .ref qtr, .ref qbk, .int (nI dn), .ref qkp, .ref qik, .int (nI sn), .ref qsw, .ref qsi, .long sd, .ref qln, .ref qfm, .ref qby, .ref qwy, .int (nI wz), .ref qfo, .ref qon, .ref qmn, .ref qpr, .ref qle, .ref qst, .ref qwt, .int (nI rc), .int (nI tk), .int (nI ps), .int (nI gn), .int bd, .ref qwo]]) 0 0 := by
  refine MM.ofI (by decide) rfl (fun Γ X Y hnm ret => ?_)
  show Wc Γ 0 0 0 [(0, .ref o)] [] [ob o 11 [.int th, .ref qtx, .int (nI ts), .int (nI pl), .ref qrp, .ref qpg, .ref qtr, .ref qbk, .int (nI dn), .ref qkp, .ref qik, .int (nI sn), .ref qsw, .ref qsi, .long sd, .ref qln, .ref qfm, .ref qby, .ref qwy, .int (nI wz), .ref qfo, .ref qon, .ref qmn, .ref qpr, .ref qle, .ref qst, .ref qwt, .int (nI rc), .int (nI tk), .int (nI ps), .int (nI gn), .int bd, .ref qwo]]
  refine wc_aload_n X 0 0 dX11_undo_0 rfl ?_
  refine wc_iconstN X 1 0 dX11_undo_1 ?_
  refine wc_put X Y 2 0 0 kd11 rfl (by decide) q_765 rfl rfl rfl (Nat.le_of_ble_eq_true rfl) (ws' := [ob o 11 [.int (nI 0), .ref qtx, .int (nI ts), .int (nI pl), .ref qrp, .ref qpg, .ref qtr, .ref qbk, .int (nI dn), .ref qkp, .ref qik, .int (nI sn), .ref qsw, .ref qsi, .long sd, .ref qln, .ref qfm, .ref qby, .ref qwy, .int (nI wz), .ref qfo, .ref qon, .ref qmn, .ref qpr, .ref qle, .ref qst, .ref qwt, .int (nI rc), .int (nI tk), .int (nI ps), .int (nI gn), .int bd, .ref qwo]]) rfl dX11_undo_2 ?_
  refine wc_aload_n X 5 0 dX11_undo_5 rfl ?_
  refine wc_get X 6 0 8 kd11 rfl (by decide) q_773 rfl dX11_undo_6 ?_
  refine wc_if_neN X 9 15 dX11_undo_9 (by decide) (by omega) (fun c9_1 => ?_) (fun c9_1 => ?_)
  ·
    exact absurd c9_1 (by omega)
  ·
    refine wc_bipush X 12 (-3) dX11_undo_12 (by decide) ?_
    exact ret 14 _ (-3) _ dX11_undo_14 (⟨rfl, rfl⟩)

set_option maxHeartbeats 4000000 in
set_option maxRecDepth 100000 in
theorem c_X11_undoS (l : Launch) (G : GG) (o : Nat) (th : Int32) (qtx ts pl qrp qpg qtr qbk dn qkp qik sn qsw qsi : Nat) (sd : Int64) (qln qfm qby qwy wz qfo qon qmn qpr qle qst qwt rc tk ps gn : Nat) (bd : Int32) (qwo : Nat) (p : Nat → Nat) (bk : Nat → Nat) (hd : 1 ≤ dn) (hd2 : dn ≤ 14) : MM l G yX11_undo (Cond.code yX11_undo cX11_undo 2 (some .int)) { frames := 0, cells := 0, slots := 0, locals := 0 } [.ref o] [ob o 11 [.int th, .ref qtx, .int (nI ts), .int (nI pl), .ref qrp, .ref qpg, .ref qtr, .ref qbk, .int (nI dn), .ref qkp, .ref qik, .int (nI sn), .ref qsw, .ref qsi, .long sd, .ref qln, .ref qfm, .ref qby, .ref qwy, .int (nI wz), .ref qfo, .ref qon, .ref qmn, .ref qpr, .ref qle, .ref qst, .ref qwt, .int (nI rc), .int (nI tk), .int (nI ps), .int (nI gn), .int bd, .ref qwo], aI G qpg 22 (nF p), aI G qbk 308 (nF bk)] (fun (v : Option Value) (w : va_W) => v = some (.int (nI (dn - 1))) ∧ w = [ob o 11 [.int (nI 0), .ref qtx, .int (nI ts), .int (nI pl), .ref qrp, .ref qpg, .ref qtr, .ref qbk, .int (nI (dn - 1)), .ref qkp, .ref qik, .int (nI sn), .ref qsw, .ref qsi, .long sd, .ref qln, .ref qfm, .ref qby, .ref qwy, .int (nI wz), .ref qfo, .ref qon, .ref qmn, .ref qpr, .ref qle, .ref qst, .ref qwt, .int (nI rc), .int (nI tk), .int (nI ps), .int (nI gn), .int bd, .ref qwo], aI G qpg 22 (nF (bkP bk (dn - 1))), aI G qbk 308 (nF bk)]) 0 0 := by
  refine MM.ofI (by decide) rfl (fun Γ X Y hnm ret => ?_)
  show Wc Γ 0 0 0 [(0, .ref o)] [] [ob o 11 [.int th, .ref qtx, .int (nI ts), .int (nI pl), .ref qrp, .ref qpg, .ref qtr, .ref qbk, .int (nI dn), .ref qkp, .ref qik, .int (nI sn), .ref qsw, .ref qsi, .long sd, .ref qln, .ref qfm, .ref qby, .ref qwy, .int (nI wz), .ref qfo, .ref qon, .ref qmn, .ref qpr, .ref qle, .ref qst, .ref qwt, .int (nI rc), .int (nI tk), .int (nI ps), .int (nI gn), .int bd, .ref qwo], aI G qpg 22 (nF p), aI G qbk 308 (nF bk)]
  refine wc_aload_n X 0 0 dX11_undo_0 rfl ?_
  refine wc_iconstN X 1 0 dX11_undo_1 ?_
  refine wc_put X Y 2 0 0 kd11 rfl (by decide) q_765 rfl rfl rfl (Nat.le_of_ble_eq_true rfl) (ws' := [ob o 11 [.int (nI 0), .ref qtx, .int (nI ts), .int (nI pl), .ref qrp, .ref qpg, .ref qtr, .ref qbk, .int (nI dn), .ref qkp, .ref qik, .int (nI sn), .ref qsw, .ref qsi, .long sd, .ref qln, .ref qfm, .ref qby, .ref qwy, .int (nI wz), .ref qfo, .ref qon, .ref qmn, .ref qpr, .ref qle, .ref qst, .ref qwt, .int (nI rc), .int (nI tk), .int (nI ps), .int (nI gn), .int bd, .ref qwo], aI G qpg 22 (nF p), aI G qbk 308 (nF bk)]) rfl dX11_undo_2 ?_
  refine wc_aload_n X 5 0 dX11_undo_5 rfl ?_
  refine wc_get X 6 0 8 kd11 rfl (by decide) q_773 rfl dX11_undo_6 ?_
  refine wc_if_neN X 9 15 dX11_undo_9 (by decide) (by omega) (fun c9_1 => ?_) (fun c9_1 => ?_)
  ·
    refine wc_aload_n X 15 0 dX11_undo_15 rfl ?_
    refine wc_dup X 16 dX11_undo_16 rfl ?_
    refine wc_get X 17 0 8 kd11 rfl (by decide) q_773 rfl dX11_undo_17 ?_
    refine wc_iconstN X 20 1 dX11_undo_20 ?_
    refine wc_isubN X 21 dX11_undo_21 (by omega) ?_
    refine wc_put X Y 22 0 8 kd11 rfl (by decide) q_773 rfl rfl rfl (Nat.le_of_ble_eq_true rfl) (ws' := [ob o 11 [.int (nI 0), .ref qtx, .int (nI ts), .int (nI pl), .ref qrp, .ref qpg, .ref qtr, .ref qbk, .int (nI (dn - 1)), .ref qkp, .ref qik, .int (nI sn), .ref qsw, .ref qsi, .long sd, .ref qln, .ref qfm, .ref qby, .ref qwy, .int (nI wz), .ref qfo, .ref qon, .ref qmn, .ref qpr, .ref qle, .ref qst, .ref qwt, .int (nI rc), .int (nI tk), .int (nI ps), .int (nI gn), .int bd, .ref qwo], aI G qpg 22 (nF p), aI G qbk 308 (nF bk)]) rfl dX11_undo_22 ?_
    refine wc_iconstN X 25 0 dX11_undo_25 ?_
    refine wc_istore_n X 26 (L' := [(0, .ref o), (1, .int (nI 0))]) dX11_undo_26 (by decide) rfl ?_
    have LP_3 : ∀ (fuel_2 : Nat) (i : Nat) (h : Nat → Nat), (i ≤ 22) → (∀ j, j < i → h j = bkP bk (dn - 1) j) → 22 - i < fuel_2 → Wc Γ 0 0 27 [(0, .ref o), (1, .int (nI i))] [] [ob o 11 [.int (nI 0), .ref qtx, .int (nI ts), .int (nI pl), .ref qrp, .ref qpg, .ref qtr, .ref qbk, .int (nI (dn - 1)), .ref qkp, .ref qik, .int (nI sn), .ref qsw, .ref qsi, .long sd, .ref qln, .ref qfm, .ref qby, .ref qwy, .int (nI wz), .ref qfo, .ref qon, .ref qmn, .ref qpr, .ref qle, .ref qst, .ref qwt, .int (nI rc), .int (nI tk), .int (nI ps), .int (nI gn), .int bd, .ref qwo], aI G qpg 22 (nF h), aI G qbk 308 (nF bk)] := by
      intro fuel_2
      induction fuel_2 with
      | zero => intro i h hi hh hm; exact absurd hm (Nat.not_lt_zero _)
      | succ fuel_2 ih_4 =>
        intro i h hi hh hm_5
        refine wc_iload_n X 27 1 dX11_undo_27 rfl ?_
        refine wc_bipush X 28 (nI 22) dX11_undo_28 (by decide) ?_
        refine wc_icmp_geN X 30 59 dX11_undo_30 (by decide) (by omega) (by decide) (fun c30_6 => ?_) (fun c30_6 => ?_)
        ·
          refine wc_ext X Y 1 (f' := nF ((bkP bk (dn - 1)))) rfl (fun j hj => congrArg nI (hh j (by omega))) (ws' := [ob o 11 [.int (nI 0), .ref qtx, .int (nI ts), .int (nI pl), .ref qrp, .ref qpg, .ref qtr, .ref qbk, .int (nI (dn - 1)), .ref qkp, .ref qik, .int (nI sn), .ref qsw, .ref qsi, .long sd, .ref qln, .ref qfm, .ref qby, .ref qwy, .int (nI wz), .ref qfo, .ref qon, .ref qmn, .ref qpr, .ref qle, .ref qst, .ref qwt, .int (nI rc), .int (nI tk), .int (nI ps), .int (nI gn), .int bd, .ref qwo], aI G qpg 22 (nF (bkP bk (dn - 1))), aI G qbk 308 (nF bk)]) rfl ?_
          refine wc_aload_n X 59 0 dX11_undo_59 rfl ?_
          refine wc_get X 60 0 8 kd11 rfl (by decide) q_773 rfl dX11_undo_60 ?_
          exact ret 63 _ (nI (dn - 1)) _ dX11_undo_63 (⟨rfl, rfl⟩)
        ·
          refine wc_aload_n X 33 0 dX11_undo_33 rfl ?_
          refine wc_get X 34 0 5 kd11 rfl (by decide) q_770 rfl dX11_undo_34 ?_
          refine wc_iload_n X 37 1 dX11_undo_37 rfl ?_
          refine wc_aload_n X 38 0 dX11_undo_38 rfl ?_
          refine wc_get X 39 0 7 kd11 rfl (by decide) q_772 rfl dX11_undo_39 ?_
          refine wc_bipush X 42 (nI 22) dX11_undo_42 (by decide) ?_
          refine wc_aload_n X 44 0 dX11_undo_44 rfl ?_
          refine wc_get X 45 0 8 kd11 rfl (by decide) q_773 rfl dX11_undo_45 ?_
          refine wc_imulN X 48 dX11_undo_48 ?_
          refine wc_iload_n X 49 1 dX11_undo_49 rfl ?_
          refine wc_iaddN X 50 dX11_undo_50 ?_
          refine wc_ialdG X 51 2 rfl (by omega) (by decide) dX11_undo_51 ?_
          refine wc_iastG X Y 52 1 rfl (by omega) (by decide) (ws' := [ob o 11 [.int (nI 0), .ref qtx, .int (nI ts), .int (nI pl), .ref qrp, .ref qpg, .ref qtr, .ref qbk, .int (nI (dn - 1)), .ref qkp, .ref qik, .int (nI sn), .ref qsw, .ref qsi, .long sd, .ref qln, .ref qfm, .ref qby, .ref qwy, .int (nI wz), .ref qfo, .ref qon, .ref qmn, .ref qpr, .ref qle, .ref qst, .ref qwt, .int (nI rc), .int (nI tk), .int (nI ps), .int (nI gn), .int bd, .ref qwo], aI G qpg 22 (nF (up h i (bk ((22 * (dn - 1)) + i)))), aI G qbk 308 (nF bk)]) rfl dX11_undo_52 ?_
          refine wc_iincN X 53 1 (L' := [(0, .ref o), (1, .int (nI (i + 1)))]) dX11_undo_53 rfl (by decide) rfl ?_
          refine wc_goto X 56 27 dX11_undo_56 (by decide) ?_
          refine wc_L (L' := [(0, .ref o), (1, .int (nI (i + 1)))]) (by rfl) ?_
          exact ih_4 (i + 1) (up h i (bk ((22 * (dn - 1)) + i))) (by omega) (up_lt9 hh (bkP_in (by omega)).symm) (by omega)
    exact LP_3 (22 - 0 + 1) 0 p (by decide) (fun j hj => absurd hj (Nat.not_lt_zero _)) (Nat.lt_succ_self _)
  ·
    exact absurd c9_1 (by omega)

set_option maxHeartbeats 4000000 in
set_option maxRecDepth 100000 in
theorem c_X11_takesF (l : Launch) (G : GG) (o : Nat) (th : Int32) (qtx ts pl qrp qpg qtr qbk dn qkp qik sn qsw qsi : Nat) (sd : Int64) (qln qfm qby qwy wz qfo qon qmn qpr qle qst qwt rc tk ps gn : Nat) (bd : Int32) (qwo : Nat) (m y : Int32) (ho : outR m 0 1) : MM l G yX11_takes (Cond.code yX11_takes cX11_takes 3 (some .int)) { frames := 1, cells := 0, slots := 0, locals := 25 } [.ref o, .int m, .int y] [ob o 11 [.int th, .ref qtx, .int (nI ts), .int (nI pl), .ref qrp, .ref qpg, .ref qtr, .ref qbk, .int (nI dn), .ref qkp, .ref qik, .int (nI sn), .ref qsw, .ref qsi, .long sd, .ref qln, .ref qfm, .ref qby, .ref qwy, .int (nI wz), .ref qfo, .ref qon, .ref qmn, .ref qpr, .ref qle, .ref qst, .ref qwt, .int (nI rc), .int (nI tk), .int (nI ps), .int (nI gn), .int bd, .ref qwo]] (fun (v : Option Value) (w : va_W) => v = some (.int (-1)) ∧ w = [ob o 11 [.int (nI 0), .ref qtx, .int (nI ts), .int (nI pl), .ref qrp, .ref qpg, .ref qtr, .ref qbk, .int (nI dn), .ref qkp, .ref qik, .int (nI sn), .ref qsw, .ref qsi, .long sd, .ref qln, .ref qfm, .ref qby, .ref qwy, .int (nI wz), .ref qfo, .ref qon, .ref qmn, .ref qpr, .ref qle, .ref qst, .ref qwt, .int (nI rc), .int (nI tk), .int (nI ps), .int (nI gn), .int bd, .ref qwo]]) 0 0 := by
  refine MM.ofI (by decide) rfl (fun Γ X Y hnm ret => ?_)
  show Wc Γ 0 0 0 [(0, .ref o), (1, .int m), (2, .int y)] [] [ob o 11 [.int th, .ref qtx, .int (nI ts), .int (nI pl), .ref qrp, .ref qpg, .ref qtr, .ref qbk, .int (nI dn), .ref qkp, .ref qik, .int (nI sn), .ref qsw, .ref qsi, .long sd, .ref qln, .ref qfm, .ref qby, .ref qwy, .int (nI wz), .ref qfo, .ref qon, .ref qmn, .ref qpr, .ref qle, .ref qst, .ref qwt, .int (nI rc), .int (nI tk), .int (nI ps), .int (nI gn), .int bd, .ref qwo]]
  refine wc_aload_n X 0 0 dX11_takes_0 rfl ?_
  refine wc_iconstN X 1 0 dX11_takes_1 ?_
  refine wc_put X Y 2 0 0 kd11 rfl (by decide) q_765 rfl rfl rfl (Nat.le_of_ble_eq_true rfl) (ws' := [ob o 11 [.int (nI 0), .ref qtx, .int (nI ts), .int (nI pl), .ref qrp, .ref qpg, .ref qtr, .ref qbk, .int (nI dn), .ref qkp, .ref qik, .int (nI sn), .ref qsw, .ref qsi, .long sd, .ref qln, .ref qfm, .ref qby, .ref qwy, .int (nI wz), .ref qfo, .ref qon, .ref qmn, .ref qpr, .ref qle, .ref qst, .ref qwt, .int (nI rc), .int (nI tk), .int (nI ps), .int (nI gn), .int bd, .ref qwo]]) rfl dX11_takes_2 ?_
  refine wc_iload_n X 5 1 dX11_takes_5 rfl ?_
  refine wc_i2l X 6 dX11_takes_6 ?_
  refine wc_lconst X 7 0 dX11_takes_7 (by decide) ?_
  refine wc_lconst X 8 1 dX11_takes_8 (by decide) ?_
  refine wc_callS X 9 [] (c_X11_in l G ((m).toInt64) 0 1 ) ys_X11_in rfl q_870 ⟨rfl, rfl⟩ ⟨rfl, rfl⟩ ⟨rfl, rfl⟩ rfl rfl rfl dX11_takes_9 ?_
  refine wc_topi (b2i false) (congrArg b2i (inL_out rfl rfl ho)) ?_
  refine wc_if_neB X 12 17 dX11_takes_12 (by decide) (fun c12_1 => ?_) (fun c12_1 => ?_)
  ·
    exact absurd c12_1 (by decide)
  ·
    refine wc_iconst X 15 (-1) dX11_takes_15 (by decide) ?_
    exact ret 16 _ (-1) _ dX11_takes_16 (⟨rfl, rfl⟩)

set_option maxHeartbeats 4000000 in
set_option maxRecDepth 100000 in
theorem c_X11_takesG (l : Launch) (G : GG) (o : Nat) (th : Int32) (qtx ts pl qrp qpg qtr qbk dn qkp qik sn qsw qsi : Nat) (sd : Int64) (qln qfm qby qwy wz qfo qon qmn qpr qle qst qwt rc tk ps gn : Nat) (bd : Int32) (qwo : Nat) (m : Int32) (y : Nat) (hm : (decide (m = 0) || decide (m = nI 1)) = true) (hy : y < 2147483648) (hw : wordOk y = false) : MM l G yX11_takes (Cond.code yX11_takes cX11_takes 3 (some .int)) { frames := 2, cells := 0, slots := 0, locals := 47 } [.ref o, .int m, .int (nI y)] [ob o 11 [.int th, .ref qtx, .int (nI ts), .int (nI pl), .ref qrp, .ref qpg, .ref qtr, .ref qbk, .int (nI dn), .ref qkp, .ref qik, .int (nI sn), .ref qsw, .ref qsi, .long sd, .ref qln, .ref qfm, .ref qby, .ref qwy, .int (nI wz), .ref qfo, .ref qon, .ref qmn, .ref qpr, .ref qle, .ref qst, .ref qwt, .int (nI rc), .int (nI tk), .int (nI ps), .int (nI gn), .int bd, .ref qwo]] (fun (v : Option Value) (w : va_W) => v = some (.int (-2)) ∧ w = [ob o 11 [.int (nI 0), .ref qtx, .int (nI ts), .int (nI pl), .ref qrp, .ref qpg, .ref qtr, .ref qbk, .int (nI dn), .ref qkp, .ref qik, .int (nI sn), .ref qsw, .ref qsi, .long sd, .ref qln, .ref qfm, .ref qby, .ref qwy, .int (nI wz), .ref qfo, .ref qon, .ref qmn, .ref qpr, .ref qle, .ref qst, .ref qwt, .int (nI rc), .int (nI tk), .int (nI ps), .int (nI gn), .int bd, .ref qwo]]) 0 0 := by
  refine MM.ofI (by decide) rfl (fun Γ X Y hnm ret => ?_)
  show Wc Γ 0 0 0 [(0, .ref o), (1, .int m), (2, .int (nI y))] [] [ob o 11 [.int th, .ref qtx, .int (nI ts), .int (nI pl), .ref qrp, .ref qpg, .ref qtr, .ref qbk, .int (nI dn), .ref qkp, .ref qik, .int (nI sn), .ref qsw, .ref qsi, .long sd, .ref qln, .ref qfm, .ref qby, .ref qwy, .int (nI wz), .ref qfo, .ref qon, .ref qmn, .ref qpr, .ref qle, .ref qst, .ref qwt, .int (nI rc), .int (nI tk), .int (nI ps), .int (nI gn), .int bd, .ref qwo]]
  refine wc_aload_n X 0 0 dX11_takes_0 rfl ?_
  refine wc_iconstN X 1 0 dX11_takes_1 ?_
  refine wc_put X Y 2 0 0 kd11 rfl (by decide) q_765 rfl rfl rfl (Nat.le_of_ble_eq_true rfl) (ws' := [ob o 11 [.int (nI 0), .ref qtx, .int (nI ts), .int (nI pl), .ref qrp, .ref qpg, .ref qtr, .ref qbk, .int (nI dn), .ref qkp, .ref qik, .int (nI sn), .ref qsw, .ref qsi, .long sd, .ref qln, .ref qfm, .ref qby, .ref qwy, .int (nI wz), .ref qfo, .ref qon, .ref qmn, .ref qpr, .ref qle, .ref qst, .ref qwt, .int (nI rc), .int (nI tk), .int (nI ps), .int (nI gn), .int bd, .ref qwo]]) rfl dX11_takes_2 ?_
  refine wc_iload_n X 5 1 dX11_takes_5 rfl ?_
  refine wc_i2l X 6 dX11_takes_6 ?_
  refine wc_lconst X 7 0 dX11_takes_7 (by decide) ?_
  refine wc_lconst X 8 1 dX11_takes_8 (by decide) ?_
  refine wc_callS X 9 [] (c_X11_in l G ((m).toInt64) 0 1 ) ys_X11_in rfl q_870 ⟨rfl, rfl⟩ ⟨rfl, rfl⟩ ⟨rfl, rfl⟩ rfl rfl rfl dX11_takes_9 ?_
  refine wc_topi (b2i true) (congrArg b2i (mach_in hm)) ?_
  refine wc_if_neB X 12 17 dX11_takes_12 (by decide) (fun c12_1 => ?_) (fun c12_1 => ?_)
  ·
    refine wc_iload_n X 17 2 dX11_takes_17 rfl ?_
    refine wc_callS X 18 [] (c_X11_isWordN l G y (by first | assumption | omega)) ys_X11_isWord rfl q_966 ⟨rfl, rfl⟩ ⟨rfl, rfl⟩ ⟨rfl, rfl⟩ rfl rfl rfl dX11_takes_18 ?_
    refine wc_topi (b2i false) (congrArg b2i hw) ?_
    refine wc_if_neB X 21 27 dX11_takes_21 (by decide) (fun c21_2 => ?_) (fun c21_2 => ?_)
    ·
      exact absurd c21_2 (by decide)
    ·
      refine wc_bipush X 24 (-2) dX11_takes_24 (by decide) ?_
      exact ret 26 _ (-2) _ dX11_takes_26 (⟨rfl, rfl⟩)
  ·
    exact absurd c12_1 (by decide)

set_option maxHeartbeats 4000000 in
set_option maxRecDepth 100000 in
theorem c_X11_takesH (l : Launch) (G : GG) (o : Nat) (th : Int32) (qtx ts pl qrp qpg qtr qbk dn qkp qik sn qsw qsi : Nat) (sd : Int64) (qln qfm qby qwy wz qfo qon qmn qpr qle qst qwt rc tk ps gn : Nat) (bd : Int32) (qwo : Nat) (m y : Int32) (hm : (decide (m = 0) || decide (m = nI 1)) = true) (hw : y < 0) : MM l G yX11_takes (Cond.code yX11_takes cX11_takes 3 (some .int)) { frames := 2, cells := 0, slots := 0, locals := 47 } [.ref o, .int m, .int y] [ob o 11 [.int th, .ref qtx, .int (nI ts), .int (nI pl), .ref qrp, .ref qpg, .ref qtr, .ref qbk, .int (nI dn), .ref qkp, .ref qik, .int (nI sn), .ref qsw, .ref qsi, .long sd, .ref qln, .ref qfm, .ref qby, .ref qwy, .int (nI wz), .ref qfo, .ref qon, .ref qmn, .ref qpr, .ref qle, .ref qst, .ref qwt, .int (nI rc), .int (nI tk), .int (nI ps), .int (nI gn), .int bd, .ref qwo]] (fun (v : Option Value) (w : va_W) => v = some (.int (-2)) ∧ w = [ob o 11 [.int (nI 0), .ref qtx, .int (nI ts), .int (nI pl), .ref qrp, .ref qpg, .ref qtr, .ref qbk, .int (nI dn), .ref qkp, .ref qik, .int (nI sn), .ref qsw, .ref qsi, .long sd, .ref qln, .ref qfm, .ref qby, .ref qwy, .int (nI wz), .ref qfo, .ref qon, .ref qmn, .ref qpr, .ref qle, .ref qst, .ref qwt, .int (nI rc), .int (nI tk), .int (nI ps), .int (nI gn), .int bd, .ref qwo]]) 0 0 := by
  refine MM.ofI (by decide) rfl (fun Γ X Y hnm ret => ?_)
  show Wc Γ 0 0 0 [(0, .ref o), (1, .int m), (2, .int y)] [] [ob o 11 [.int th, .ref qtx, .int (nI ts), .int (nI pl), .ref qrp, .ref qpg, .ref qtr, .ref qbk, .int (nI dn), .ref qkp, .ref qik, .int (nI sn), .ref qsw, .ref qsi, .long sd, .ref qln, .ref qfm, .ref qby, .ref qwy, .int (nI wz), .ref qfo, .ref qon, .ref qmn, .ref qpr, .ref qle, .ref qst, .ref qwt, .int (nI rc), .int (nI tk), .int (nI ps), .int (nI gn), .int bd, .ref qwo]]
  refine wc_aload_n X 0 0 dX11_takes_0 rfl ?_
  refine wc_iconstN X 1 0 dX11_takes_1 ?_
  refine wc_put X Y 2 0 0 kd11 rfl (by decide) q_765 rfl rfl rfl (Nat.le_of_ble_eq_true rfl) (ws' := [ob o 11 [.int (nI 0), .ref qtx, .int (nI ts), .int (nI pl), .ref qrp, .ref qpg, .ref qtr, .ref qbk, .int (nI dn), .ref qkp, .ref qik, .int (nI sn), .ref qsw, .ref qsi, .long sd, .ref qln, .ref qfm, .ref qby, .ref qwy, .int (nI wz), .ref qfo, .ref qon, .ref qmn, .ref qpr, .ref qle, .ref qst, .ref qwt, .int (nI rc), .int (nI tk), .int (nI ps), .int (nI gn), .int bd, .ref qwo]]) rfl dX11_takes_2 ?_
  refine wc_iload_n X 5 1 dX11_takes_5 rfl ?_
  refine wc_i2l X 6 dX11_takes_6 ?_
  refine wc_lconst X 7 0 dX11_takes_7 (by decide) ?_
  refine wc_lconst X 8 1 dX11_takes_8 (by decide) ?_
  refine wc_callS X 9 [] (c_X11_in l G ((m).toInt64) 0 1 ) ys_X11_in rfl q_870 ⟨rfl, rfl⟩ ⟨rfl, rfl⟩ ⟨rfl, rfl⟩ rfl rfl rfl dX11_takes_9 ?_
  refine wc_topi (b2i true) (congrArg b2i (mach_in hm)) ?_
  refine wc_if_neB X 12 17 dX11_takes_12 (by decide) (fun c12_1 => ?_) (fun c12_1 => ?_)
  ·
    refine wc_iload_n X 17 2 dX11_takes_17 rfl ?_
    refine wc_callS X 18 [] (c_X11_isWordF l G y hw) ys_X11_isWord rfl q_966 ⟨rfl, rfl⟩ ⟨rfl, rfl⟩ ⟨rfl, rfl⟩ rfl rfl rfl dX11_takes_18 ?_
    refine wc_if_neB X 21 27 dX11_takes_21 (by decide) (fun c21_2 => ?_) (fun c21_2 => ?_)
    ·
      exact absurd c21_2 (by decide)
    ·
      refine wc_bipush X 24 (-2) dX11_takes_24 (by decide) ?_
      exact ret 26 _ (-2) _ dX11_takes_26 (⟨rfl, rfl⟩)
  ·
    exact absurd c12_1 (by decide)

set_option maxHeartbeats 4000000 in
set_option maxRecDepth 100000 in
theorem c_X11_takes0 (l : Launch) (G : GG) (o : Nat) (th : Int32) (qtx ts pl qrp qpg qtr qbk dn qkp qik sn qsw qsi : Nat) (sd : Int64) (qln qfm qby qwy wz qfo qon qmn qpr qle qst qwt rc tk ps gn : Nat) (bd : Int32) (qwo : Nat) (p : Nat → Nat) (y : Nat) (hr : pgOk p) (hy : y < 2147483648) (hw : wordOk y = true) : MM l G yX11_takes (Cond.code yX11_takes cX11_takes 3 (some .int)) { frames := 4, cells := 0, slots := 0, locals := 95 } [.ref o, .int (nI 0), .int (nI y)] [ob o 11 [.int th, .ref qtx, .int (nI ts), .int (nI pl), .ref qrp, .ref qpg, .ref qtr, .ref qbk, .int (nI dn), .ref qkp, .ref qik, .int (nI sn), .ref qsw, .ref qsi, .long sd, .ref qln, .ref qfm, .ref qby, .ref qwy, .int (nI wz), .ref qfo, .ref qon, .ref qmn, .ref qpr, .ref qle, .ref qst, .ref qwt, .int (nI rc), .int (nI tk), .int (nI ps), .int (nI gn), .int bd, .ref qwo], aI G qpg 22 (nF p)] (fun (v : Option Value) (w : va_W) => v = some (.int (nI ((walkD (gz p) (p 0) y 1 9 &&& p 2 != 0).toNat))) ∧ w = [ob o 11 [.int (nI 0), .ref qtx, .int (nI ts), .int (nI pl), .ref qrp, .ref qpg, .ref qtr, .ref qbk, .int (nI dn), .ref qkp, .ref qik, .int (nI sn), .ref qsw, .ref qsi, .long sd, .ref qln, .ref qfm, .ref qby, .ref qwy, .int (nI wz), .ref qfo, .ref qon, .ref qmn, .ref qpr, .ref qle, .ref qst, .ref qwt, .int (nI rc), .int (nI tk), .int (nI ps), .int (nI gn), .int bd, .ref qwo], aI G qpg 22 (nF p)]) 0 0 := by
  refine MM.ofI (by decide) rfl (fun Γ X Y hnm ret => ?_)
  show Wc Γ 0 0 0 [(0, .ref o), (1, .int (nI 0)), (2, .int (nI y))] [] [ob o 11 [.int th, .ref qtx, .int (nI ts), .int (nI pl), .ref qrp, .ref qpg, .ref qtr, .ref qbk, .int (nI dn), .ref qkp, .ref qik, .int (nI sn), .ref qsw, .ref qsi, .long sd, .ref qln, .ref qfm, .ref qby, .ref qwy, .int (nI wz), .ref qfo, .ref qon, .ref qmn, .ref qpr, .ref qle, .ref qst, .ref qwt, .int (nI rc), .int (nI tk), .int (nI ps), .int (nI gn), .int bd, .ref qwo], aI G qpg 22 (nF p)]
  have hy9 : y < 1000000000 := by have := wordOk_lt hw; omega
  refine wc_aload_n X 0 0 dX11_takes_0 rfl ?_
  refine wc_iconstN X 1 0 dX11_takes_1 ?_
  refine wc_put X Y 2 0 0 kd11 rfl (by decide) q_765 rfl rfl rfl (Nat.le_of_ble_eq_true rfl) (ws' := [ob o 11 [.int (nI 0), .ref qtx, .int (nI ts), .int (nI pl), .ref qrp, .ref qpg, .ref qtr, .ref qbk, .int (nI dn), .ref qkp, .ref qik, .int (nI sn), .ref qsw, .ref qsi, .long sd, .ref qln, .ref qfm, .ref qby, .ref qwy, .int (nI wz), .ref qfo, .ref qon, .ref qmn, .ref qpr, .ref qle, .ref qst, .ref qwt, .int (nI rc), .int (nI tk), .int (nI ps), .int (nI gn), .int bd, .ref qwo], aI G qpg 22 (nF p)]) rfl dX11_takes_2 ?_
  refine wc_iload_n X 5 1 dX11_takes_5 rfl ?_
  refine wc_i2l X 6 dX11_takes_6 ?_
  refine wc_lconst X 7 0 dX11_takes_7 (by decide) ?_
  refine wc_lconst X 8 1 dX11_takes_8 (by decide) ?_
  refine wc_callS X 9 [] (c_X11_in l G ((nI 0).toInt64) 0 1 ) ys_X11_in rfl q_870 ⟨rfl, rfl⟩ ⟨rfl, rfl⟩ ⟨rfl, rfl⟩ rfl rfl rfl dX11_takes_9 ?_
  refine wc_topi (b2i true) (by decide) ?_
  refine wc_if_neB X 12 17 dX11_takes_12 (by decide) (fun c12_1 => ?_) (fun c12_1 => ?_)
  ·
    refine wc_iload_n X 17 2 dX11_takes_17 rfl ?_
    refine wc_callS X 18 [] (c_X11_isWordN l G y (by first | assumption | omega)) ys_X11_isWord rfl q_966 ⟨rfl, rfl⟩ ⟨rfl, rfl⟩ ⟨rfl, rfl⟩ rfl rfl rfl dX11_takes_18 ?_
    refine wc_topi (b2i true) (congrArg b2i hw) ?_
    refine wc_if_neB X 21 27 dX11_takes_21 (by decide) (fun c21_2 => ?_) (fun c21_2 => ?_)
    ·
      refine wc_aload_n X 27 0 dX11_takes_27 rfl ?_
      refine wc_get X 28 0 5 kd11 rfl (by decide) q_770 rfl dX11_takes_28 ?_
      refine wc_iload_n X 31 1 dX11_takes_31 rfl ?_
      refine wc_iconstN X 32 1 dX11_takes_32 ?_
      refine wc_iload_n X 33 2 dX11_takes_33 rfl ?_
      refine wc_callS X 34 [1] (c_X11_takesFrom l G qpg p 0 1 y hr.2.1 hr.2.2.2.1 hr.2.2.2.2.1 (by decide) (by decide) hy9 (fun k hk => word_dig hw hk)) ys_X11_takesFrom rfl q_970 ⟨rfl, rfl⟩ ⟨rfl, rfl⟩ ⟨rfl, rfl⟩ rfl rfl rfl dX11_takes_34 ?_
      refine wc_if_eqB X 37 44 dX11_takes_37 (by decide) (fun c37_3 => ?_) (fun c37_3 => ?_)
      ·
        refine wc_iconstN X 44 0 dX11_takes_44 ?_
        exact ret 45 _ (nI 0) _ dX11_takes_45 (⟨by rw [← walkD_eq hw]; rw [show (afterW (gz p) (p 0) y 1 (lenW y) (lenW y) &&& p 2 != 0) = false from c37_3]; rfl, rfl⟩)
      ·
        refine wc_iconstN X 40 1 dX11_takes_40 ?_
        refine wc_goto X 41 45 dX11_takes_41 (by decide) ?_
        exact ret 45 _ (nI 1) _ dX11_takes_45 (⟨by rw [← walkD_eq hw]; rw [show (afterW (gz p) (p 0) y 1 (lenW y) (lenW y) &&& p 2 != 0) = true from c37_3]; rfl, rfl⟩)
    ·
      exact absurd c21_2 (by decide)
  ·
    exact absurd c12_1 (by decide)

set_option maxHeartbeats 4000000 in
set_option maxRecDepth 100000 in
theorem c_X11_takes1 (l : Launch) (G : GG) (o : Nat) (th : Int32) (qtx ts pl qrp qpg qtr qbk dn qkp qik sn qsw qsi : Nat) (sd : Int64) (qln qfm qby qwy wz qfo qon qmn qpr qle qst qwt rc tk ps gn : Nat) (bd : Int32) (qwo : Nat) (p : Nat → Nat) (y : Nat) (hr : pgOk p) (hy : y < 2147483648) (hw : wordOk y = true) : MM l G yX11_takes (Cond.code yX11_takes cX11_takes 3 (some .int)) { frames := 4, cells := 0, slots := 0, locals := 95 } [.ref o, .int (nI 1), .int (nI y)] [ob o 11 [.int th, .ref qtx, .int (nI ts), .int (nI pl), .ref qrp, .ref qpg, .ref qtr, .ref qbk, .int (nI dn), .ref qkp, .ref qik, .int (nI sn), .ref qsw, .ref qsi, .long sd, .ref qln, .ref qfm, .ref qby, .ref qwy, .int (nI wz), .ref qfo, .ref qon, .ref qmn, .ref qpr, .ref qle, .ref qst, .ref qwt, .int (nI rc), .int (nI tk), .int (nI ps), .int (nI gn), .int bd, .ref qwo], aI G qpg 22 (nF p)] (fun (v : Option Value) (w : va_W) => v = some (.int (nI ((walkD (go p) (p 1) y 1 9 &&& p 3 != 0).toNat))) ∧ w = [ob o 11 [.int (nI 0), .ref qtx, .int (nI ts), .int (nI pl), .ref qrp, .ref qpg, .ref qtr, .ref qbk, .int (nI dn), .ref qkp, .ref qik, .int (nI sn), .ref qsw, .ref qsi, .long sd, .ref qln, .ref qfm, .ref qby, .ref qwy, .int (nI wz), .ref qfo, .ref qon, .ref qmn, .ref qpr, .ref qle, .ref qst, .ref qwt, .int (nI rc), .int (nI tk), .int (nI ps), .int (nI gn), .int bd, .ref qwo], aI G qpg 22 (nF p)]) 0 0 := by
  refine MM.ofI (by decide) rfl (fun Γ X Y hnm ret => ?_)
  show Wc Γ 0 0 0 [(0, .ref o), (1, .int (nI 1)), (2, .int (nI y))] [] [ob o 11 [.int th, .ref qtx, .int (nI ts), .int (nI pl), .ref qrp, .ref qpg, .ref qtr, .ref qbk, .int (nI dn), .ref qkp, .ref qik, .int (nI sn), .ref qsw, .ref qsi, .long sd, .ref qln, .ref qfm, .ref qby, .ref qwy, .int (nI wz), .ref qfo, .ref qon, .ref qmn, .ref qpr, .ref qle, .ref qst, .ref qwt, .int (nI rc), .int (nI tk), .int (nI ps), .int (nI gn), .int bd, .ref qwo], aI G qpg 22 (nF p)]
  have hy9 : y < 1000000000 := by have := wordOk_lt hw; omega
  refine wc_aload_n X 0 0 dX11_takes_0 rfl ?_
  refine wc_iconstN X 1 0 dX11_takes_1 ?_
  refine wc_put X Y 2 0 0 kd11 rfl (by decide) q_765 rfl rfl rfl (Nat.le_of_ble_eq_true rfl) (ws' := [ob o 11 [.int (nI 0), .ref qtx, .int (nI ts), .int (nI pl), .ref qrp, .ref qpg, .ref qtr, .ref qbk, .int (nI dn), .ref qkp, .ref qik, .int (nI sn), .ref qsw, .ref qsi, .long sd, .ref qln, .ref qfm, .ref qby, .ref qwy, .int (nI wz), .ref qfo, .ref qon, .ref qmn, .ref qpr, .ref qle, .ref qst, .ref qwt, .int (nI rc), .int (nI tk), .int (nI ps), .int (nI gn), .int bd, .ref qwo], aI G qpg 22 (nF p)]) rfl dX11_takes_2 ?_
  refine wc_iload_n X 5 1 dX11_takes_5 rfl ?_
  refine wc_i2l X 6 dX11_takes_6 ?_
  refine wc_lconst X 7 0 dX11_takes_7 (by decide) ?_
  refine wc_lconst X 8 1 dX11_takes_8 (by decide) ?_
  refine wc_callS X 9 [] (c_X11_in l G ((nI 1).toInt64) 0 1 ) ys_X11_in rfl q_870 ⟨rfl, rfl⟩ ⟨rfl, rfl⟩ ⟨rfl, rfl⟩ rfl rfl rfl dX11_takes_9 ?_
  refine wc_topi (b2i true) (by decide) ?_
  refine wc_if_neB X 12 17 dX11_takes_12 (by decide) (fun c12_1 => ?_) (fun c12_1 => ?_)
  ·
    refine wc_iload_n X 17 2 dX11_takes_17 rfl ?_
    refine wc_callS X 18 [] (c_X11_isWordN l G y (by first | assumption | omega)) ys_X11_isWord rfl q_966 ⟨rfl, rfl⟩ ⟨rfl, rfl⟩ ⟨rfl, rfl⟩ rfl rfl rfl dX11_takes_18 ?_
    refine wc_topi (b2i true) (congrArg b2i hw) ?_
    refine wc_if_neB X 21 27 dX11_takes_21 (by decide) (fun c21_2 => ?_) (fun c21_2 => ?_)
    ·
      refine wc_aload_n X 27 0 dX11_takes_27 rfl ?_
      refine wc_get X 28 0 5 kd11 rfl (by decide) q_770 rfl dX11_takes_28 ?_
      refine wc_iload_n X 31 1 dX11_takes_31 rfl ?_
      refine wc_iconstN X 32 1 dX11_takes_32 ?_
      refine wc_iload_n X 33 2 dX11_takes_33 rfl ?_
      refine wc_callS X 34 [1] (c_X11_takesFrom l G qpg p 1 1 y hr.2.1 hr.2.2.2.1 hr.2.2.2.2.1 (by decide) (by decide) hy9 (fun k hk => word_dig hw hk)) ys_X11_takesFrom rfl q_970 ⟨rfl, rfl⟩ ⟨rfl, rfl⟩ ⟨rfl, rfl⟩ rfl rfl rfl dX11_takes_34 ?_
      refine wc_if_eqB X 37 44 dX11_takes_37 (by decide) (fun c37_3 => ?_) (fun c37_3 => ?_)
      ·
        refine wc_iconstN X 44 0 dX11_takes_44 ?_
        exact ret 45 _ (nI 0) _ dX11_takes_45 (⟨by rw [← walkD_eq hw]; rw [show (afterW (go p) (p 1) y 1 (lenW y) (lenW y) &&& p 3 != 0) = false from c37_3]; rfl, rfl⟩)
      ·
        refine wc_iconstN X 40 1 dX11_takes_40 ?_
        refine wc_goto X 41 45 dX11_takes_41 (by decide) ?_
        exact ret 45 _ (nI 1) _ dX11_takes_45 (⟨by rw [← walkD_eq hw]; rw [show (afterW (go p) (p 1) y 1 (lenW y) (lenW y) &&& p 3 != 0) = true from c37_3]; rfl, rfl⟩)
    ·
      exact absurd c21_2 (by decide)
  ·
    exact absurd c12_1 (by decide)

set_option maxHeartbeats 4000000 in
set_option maxRecDepth 100000 in
theorem c_X11_afterF (l : Launch) (G : GG) (o : Nat) (th : Int32) (qtx ts pl qrp qpg qtr qbk dn qkp qik sn qsw qsi : Nat) (sd : Int64) (qln qfm qby qwy wz qfo qon qmn qpr qle qst qwt rc tk ps gn : Nat) (bd : Int32) (qwo : Nat) (m y : Int32) (ho : outR m 0 1) : MM l G yX11_after (Cond.code yX11_after cX11_after 3 (some .int)) { frames := 1, cells := 0, slots := 0, locals := 25 } [.ref o, .int m, .int y] [ob o 11 [.int th, .ref qtx, .int (nI ts), .int (nI pl), .ref qrp, .ref qpg, .ref qtr, .ref qbk, .int (nI dn), .ref qkp, .ref qik, .int (nI sn), .ref qsw, .ref qsi, .long sd, .ref qln, .ref qfm, .ref qby, .ref qwy, .int (nI wz), .ref qfo, .ref qon, .ref qmn, .ref qpr, .ref qle, .ref qst, .ref qwt, .int (nI rc), .int (nI tk), .int (nI ps), .int (nI gn), .int bd, .ref qwo]] (fun (v : Option Value) (w : va_W) => v = some (.int (-1)) ∧ w = [ob o 11 [.int (nI 0), .ref qtx, .int (nI ts), .int (nI pl), .ref qrp, .ref qpg, .ref qtr, .ref qbk, .int (nI dn), .ref qkp, .ref qik, .int (nI sn), .ref qsw, .ref qsi, .long sd, .ref qln, .ref qfm, .ref qby, .ref qwy, .int (nI wz), .ref qfo, .ref qon, .ref qmn, .ref qpr, .ref qle, .ref qst, .ref qwt, .int (nI rc), .int (nI tk), .int (nI ps), .int (nI gn), .int bd, .ref qwo]]) 0 0 := by
  refine MM.ofI (by decide) rfl (fun Γ X Y hnm ret => ?_)
  show Wc Γ 0 0 0 [(0, .ref o), (1, .int m), (2, .int y)] [] [ob o 11 [.int th, .ref qtx, .int (nI ts), .int (nI pl), .ref qrp, .ref qpg, .ref qtr, .ref qbk, .int (nI dn), .ref qkp, .ref qik, .int (nI sn), .ref qsw, .ref qsi, .long sd, .ref qln, .ref qfm, .ref qby, .ref qwy, .int (nI wz), .ref qfo, .ref qon, .ref qmn, .ref qpr, .ref qle, .ref qst, .ref qwt, .int (nI rc), .int (nI tk), .int (nI ps), .int (nI gn), .int bd, .ref qwo]]
  refine wc_aload_n X 0 0 dX11_after_0 rfl ?_
  refine wc_iconstN X 1 0 dX11_after_1 ?_
  refine wc_put X Y 2 0 0 kd11 rfl (by decide) q_765 rfl rfl rfl (Nat.le_of_ble_eq_true rfl) (ws' := [ob o 11 [.int (nI 0), .ref qtx, .int (nI ts), .int (nI pl), .ref qrp, .ref qpg, .ref qtr, .ref qbk, .int (nI dn), .ref qkp, .ref qik, .int (nI sn), .ref qsw, .ref qsi, .long sd, .ref qln, .ref qfm, .ref qby, .ref qwy, .int (nI wz), .ref qfo, .ref qon, .ref qmn, .ref qpr, .ref qle, .ref qst, .ref qwt, .int (nI rc), .int (nI tk), .int (nI ps), .int (nI gn), .int bd, .ref qwo]]) rfl dX11_after_2 ?_
  refine wc_iload_n X 5 1 dX11_after_5 rfl ?_
  refine wc_i2l X 6 dX11_after_6 ?_
  refine wc_lconst X 7 0 dX11_after_7 (by decide) ?_
  refine wc_lconst X 8 1 dX11_after_8 (by decide) ?_
  refine wc_callS X 9 [] (c_X11_in l G ((m).toInt64) 0 1 ) ys_X11_in rfl q_870 ⟨rfl, rfl⟩ ⟨rfl, rfl⟩ ⟨rfl, rfl⟩ rfl rfl rfl dX11_after_9 ?_
  refine wc_topi (b2i false) (congrArg b2i (inL_out rfl rfl ho)) ?_
  refine wc_if_neB X 12 17 dX11_after_12 (by decide) (fun c12_1 => ?_) (fun c12_1 => ?_)
  ·
    exact absurd c12_1 (by decide)
  ·
    refine wc_iconst X 15 (-1) dX11_after_15 (by decide) ?_
    exact ret 16 _ (-1) _ dX11_after_16 (⟨rfl, rfl⟩)

set_option maxHeartbeats 4000000 in
set_option maxRecDepth 100000 in
theorem c_X11_afterG (l : Launch) (G : GG) (o : Nat) (th : Int32) (qtx ts pl qrp qpg qtr qbk dn qkp qik sn qsw qsi : Nat) (sd : Int64) (qln qfm qby qwy wz qfo qon qmn qpr qle qst qwt rc tk ps gn : Nat) (bd : Int32) (qwo : Nat) (m : Int32) (y : Nat) (hm : (decide (m = 0) || decide (m = nI 1)) = true) (hy : y < 2147483648) (hw : wordOk y = false) : MM l G yX11_after (Cond.code yX11_after cX11_after 3 (some .int)) { frames := 2, cells := 0, slots := 0, locals := 47 } [.ref o, .int m, .int (nI y)] [ob o 11 [.int th, .ref qtx, .int (nI ts), .int (nI pl), .ref qrp, .ref qpg, .ref qtr, .ref qbk, .int (nI dn), .ref qkp, .ref qik, .int (nI sn), .ref qsw, .ref qsi, .long sd, .ref qln, .ref qfm, .ref qby, .ref qwy, .int (nI wz), .ref qfo, .ref qon, .ref qmn, .ref qpr, .ref qle, .ref qst, .ref qwt, .int (nI rc), .int (nI tk), .int (nI ps), .int (nI gn), .int bd, .ref qwo]] (fun (v : Option Value) (w : va_W) => v = some (.int (-2)) ∧ w = [ob o 11 [.int (nI 0), .ref qtx, .int (nI ts), .int (nI pl), .ref qrp, .ref qpg, .ref qtr, .ref qbk, .int (nI dn), .ref qkp, .ref qik, .int (nI sn), .ref qsw, .ref qsi, .long sd, .ref qln, .ref qfm, .ref qby, .ref qwy, .int (nI wz), .ref qfo, .ref qon, .ref qmn, .ref qpr, .ref qle, .ref qst, .ref qwt, .int (nI rc), .int (nI tk), .int (nI ps), .int (nI gn), .int bd, .ref qwo]]) 0 0 := by
  refine MM.ofI (by decide) rfl (fun Γ X Y hnm ret => ?_)
  show Wc Γ 0 0 0 [(0, .ref o), (1, .int m), (2, .int (nI y))] [] [ob o 11 [.int th, .ref qtx, .int (nI ts), .int (nI pl), .ref qrp, .ref qpg, .ref qtr, .ref qbk, .int (nI dn), .ref qkp, .ref qik, .int (nI sn), .ref qsw, .ref qsi, .long sd, .ref qln, .ref qfm, .ref qby, .ref qwy, .int (nI wz), .ref qfo, .ref qon, .ref qmn, .ref qpr, .ref qle, .ref qst, .ref qwt, .int (nI rc), .int (nI tk), .int (nI ps), .int (nI gn), .int bd, .ref qwo]]
  refine wc_aload_n X 0 0 dX11_after_0 rfl ?_
  refine wc_iconstN X 1 0 dX11_after_1 ?_
  refine wc_put X Y 2 0 0 kd11 rfl (by decide) q_765 rfl rfl rfl (Nat.le_of_ble_eq_true rfl) (ws' := [ob o 11 [.int (nI 0), .ref qtx, .int (nI ts), .int (nI pl), .ref qrp, .ref qpg, .ref qtr, .ref qbk, .int (nI dn), .ref qkp, .ref qik, .int (nI sn), .ref qsw, .ref qsi, .long sd, .ref qln, .ref qfm, .ref qby, .ref qwy, .int (nI wz), .ref qfo, .ref qon, .ref qmn, .ref qpr, .ref qle, .ref qst, .ref qwt, .int (nI rc), .int (nI tk), .int (nI ps), .int (nI gn), .int bd, .ref qwo]]) rfl dX11_after_2 ?_
  refine wc_iload_n X 5 1 dX11_after_5 rfl ?_
  refine wc_i2l X 6 dX11_after_6 ?_
  refine wc_lconst X 7 0 dX11_after_7 (by decide) ?_
  refine wc_lconst X 8 1 dX11_after_8 (by decide) ?_
  refine wc_callS X 9 [] (c_X11_in l G ((m).toInt64) 0 1 ) ys_X11_in rfl q_870 ⟨rfl, rfl⟩ ⟨rfl, rfl⟩ ⟨rfl, rfl⟩ rfl rfl rfl dX11_after_9 ?_
  refine wc_topi (b2i true) (congrArg b2i (mach_in hm)) ?_
  refine wc_if_neB X 12 17 dX11_after_12 (by decide) (fun c12_1 => ?_) (fun c12_1 => ?_)
  ·
    refine wc_iload_n X 17 2 dX11_after_17 rfl ?_
    refine wc_callS X 18 [] (c_X11_isWordN l G y (by first | assumption | omega)) ys_X11_isWord rfl q_966 ⟨rfl, rfl⟩ ⟨rfl, rfl⟩ ⟨rfl, rfl⟩ rfl rfl rfl dX11_after_18 ?_
    refine wc_topi (b2i false) (congrArg b2i hw) ?_
    refine wc_if_eqB X 21 37 dX11_after_21 (by decide) (fun c21_2 => ?_) (fun c21_2 => ?_)
    ·
      refine wc_bipush X 37 (-2) dX11_after_37 (by decide) ?_
      exact ret 39 _ (-2) _ dX11_after_39 (⟨rfl, rfl⟩)
    ·
      exact absurd c21_2 (by decide)
  ·
    exact absurd c12_1 (by decide)

set_option maxHeartbeats 4000000 in
set_option maxRecDepth 100000 in
theorem c_X11_afterH (l : Launch) (G : GG) (o : Nat) (th : Int32) (qtx ts pl qrp qpg qtr qbk dn qkp qik sn qsw qsi : Nat) (sd : Int64) (qln qfm qby qwy wz qfo qon qmn qpr qle qst qwt rc tk ps gn : Nat) (bd : Int32) (qwo : Nat) (m y : Int32) (hm : (decide (m = 0) || decide (m = nI 1)) = true) (hw : y < 0) : MM l G yX11_after (Cond.code yX11_after cX11_after 3 (some .int)) { frames := 2, cells := 0, slots := 0, locals := 47 } [.ref o, .int m, .int y] [ob o 11 [.int th, .ref qtx, .int (nI ts), .int (nI pl), .ref qrp, .ref qpg, .ref qtr, .ref qbk, .int (nI dn), .ref qkp, .ref qik, .int (nI sn), .ref qsw, .ref qsi, .long sd, .ref qln, .ref qfm, .ref qby, .ref qwy, .int (nI wz), .ref qfo, .ref qon, .ref qmn, .ref qpr, .ref qle, .ref qst, .ref qwt, .int (nI rc), .int (nI tk), .int (nI ps), .int (nI gn), .int bd, .ref qwo]] (fun (v : Option Value) (w : va_W) => v = some (.int (-2)) ∧ w = [ob o 11 [.int (nI 0), .ref qtx, .int (nI ts), .int (nI pl), .ref qrp, .ref qpg, .ref qtr, .ref qbk, .int (nI dn), .ref qkp, .ref qik, .int (nI sn), .ref qsw, .ref qsi, .long sd, .ref qln, .ref qfm, .ref qby, .ref qwy, .int (nI wz), .ref qfo, .ref qon, .ref qmn, .ref qpr, .ref qle, .ref qst, .ref qwt, .int (nI rc), .int (nI tk), .int (nI ps), .int (nI gn), .int bd, .ref qwo]]) 0 0 := by
  refine MM.ofI (by decide) rfl (fun Γ X Y hnm ret => ?_)
  show Wc Γ 0 0 0 [(0, .ref o), (1, .int m), (2, .int y)] [] [ob o 11 [.int th, .ref qtx, .int (nI ts), .int (nI pl), .ref qrp, .ref qpg, .ref qtr, .ref qbk, .int (nI dn), .ref qkp, .ref qik, .int (nI sn), .ref qsw, .ref qsi, .long sd, .ref qln, .ref qfm, .ref qby, .ref qwy, .int (nI wz), .ref qfo, .ref qon, .ref qmn, .ref qpr, .ref qle, .ref qst, .ref qwt, .int (nI rc), .int (nI tk), .int (nI ps), .int (nI gn), .int bd, .ref qwo]]
  refine wc_aload_n X 0 0 dX11_after_0 rfl ?_
  refine wc_iconstN X 1 0 dX11_after_1 ?_
  refine wc_put X Y 2 0 0 kd11 rfl (by decide) q_765 rfl rfl rfl (Nat.le_of_ble_eq_true rfl) (ws' := [ob o 11 [.int (nI 0), .ref qtx, .int (nI ts), .int (nI pl), .ref qrp, .ref qpg, .ref qtr, .ref qbk, .int (nI dn), .ref qkp, .ref qik, .int (nI sn), .ref qsw, .ref qsi, .long sd, .ref qln, .ref qfm, .ref qby, .ref qwy, .int (nI wz), .ref qfo, .ref qon, .ref qmn, .ref qpr, .ref qle, .ref qst, .ref qwt, .int (nI rc), .int (nI tk), .int (nI ps), .int (nI gn), .int bd, .ref qwo]]) rfl dX11_after_2 ?_
  refine wc_iload_n X 5 1 dX11_after_5 rfl ?_
  refine wc_i2l X 6 dX11_after_6 ?_
  refine wc_lconst X 7 0 dX11_after_7 (by decide) ?_
  refine wc_lconst X 8 1 dX11_after_8 (by decide) ?_
  refine wc_callS X 9 [] (c_X11_in l G ((m).toInt64) 0 1 ) ys_X11_in rfl q_870 ⟨rfl, rfl⟩ ⟨rfl, rfl⟩ ⟨rfl, rfl⟩ rfl rfl rfl dX11_after_9 ?_
  refine wc_topi (b2i true) (congrArg b2i (mach_in hm)) ?_
  refine wc_if_neB X 12 17 dX11_after_12 (by decide) (fun c12_1 => ?_) (fun c12_1 => ?_)
  ·
    refine wc_iload_n X 17 2 dX11_after_17 rfl ?_
    refine wc_callS X 18 [] (c_X11_isWordF l G y hw) ys_X11_isWord rfl q_966 ⟨rfl, rfl⟩ ⟨rfl, rfl⟩ ⟨rfl, rfl⟩ rfl rfl rfl dX11_after_18 ?_
    refine wc_if_eqB X 21 37 dX11_after_21 (by decide) (fun c21_2 => ?_) (fun c21_2 => ?_)
    ·
      refine wc_bipush X 37 (-2) dX11_after_37 (by decide) ?_
      exact ret 39 _ (-2) _ dX11_after_39 (⟨rfl, rfl⟩)
    ·
      exact absurd c21_2 (by decide)
  ·
    exact absurd c12_1 (by decide)

set_option maxHeartbeats 4000000 in
set_option maxRecDepth 100000 in
theorem c_X11_after0 (l : Launch) (G : GG) (o : Nat) (th : Int32) (qtx ts pl qrp qpg qtr qbk dn qkp qik sn qsw qsi : Nat) (sd : Int64) (qln qfm qby qwy wz qfo qon qmn qpr qle qst qwt rc tk ps gn : Nat) (bd : Int32) (qwo : Nat) (p : Nat → Nat) (y : Nat) (hr : pgOk p) (hy : y < 2147483648) (hw : wordOk y = true) : MM l G yX11_after (Cond.code yX11_after cX11_after 3 (some .int)) { frames := 3, cells := 0, slots := 0, locals := 72 } [.ref o, .int (nI 0), .int (nI y)] [ob o 11 [.int th, .ref qtx, .int (nI ts), .int (nI pl), .ref qrp, .ref qpg, .ref qtr, .ref qbk, .int (nI dn), .ref qkp, .ref qik, .int (nI sn), .ref qsw, .ref qsi, .long sd, .ref qln, .ref qfm, .ref qby, .ref qwy, .int (nI wz), .ref qfo, .ref qon, .ref qmn, .ref qpr, .ref qle, .ref qst, .ref qwt, .int (nI rc), .int (nI tk), .int (nI ps), .int (nI gn), .int bd, .ref qwo], aI G qpg 22 (nF p)] (fun (v : Option Value) (w : va_W) => v = some (.int (nI (walkD (gz p) (p 0) y 1 9))) ∧ w = [ob o 11 [.int (nI 0), .ref qtx, .int (nI ts), .int (nI pl), .ref qrp, .ref qpg, .ref qtr, .ref qbk, .int (nI dn), .ref qkp, .ref qik, .int (nI sn), .ref qsw, .ref qsi, .long sd, .ref qln, .ref qfm, .ref qby, .ref qwy, .int (nI wz), .ref qfo, .ref qon, .ref qmn, .ref qpr, .ref qle, .ref qst, .ref qwt, .int (nI rc), .int (nI tk), .int (nI ps), .int (nI gn), .int bd, .ref qwo], aI G qpg 22 (nF p)]) 0 0 := by
  refine MM.ofI (by decide) rfl (fun Γ X Y hnm ret => ?_)
  show Wc Γ 0 0 0 [(0, .ref o), (1, .int (nI 0)), (2, .int (nI y))] [] [ob o 11 [.int th, .ref qtx, .int (nI ts), .int (nI pl), .ref qrp, .ref qpg, .ref qtr, .ref qbk, .int (nI dn), .ref qkp, .ref qik, .int (nI sn), .ref qsw, .ref qsi, .long sd, .ref qln, .ref qfm, .ref qby, .ref qwy, .int (nI wz), .ref qfo, .ref qon, .ref qmn, .ref qpr, .ref qle, .ref qst, .ref qwt, .int (nI rc), .int (nI tk), .int (nI ps), .int (nI gn), .int bd, .ref qwo], aI G qpg 22 (nF p)]
  have hy9 : y < 1000000000 := by have := wordOk_lt hw; omega
  refine wc_aload_n X 0 0 dX11_after_0 rfl ?_
  refine wc_iconstN X 1 0 dX11_after_1 ?_
  refine wc_put X Y 2 0 0 kd11 rfl (by decide) q_765 rfl rfl rfl (Nat.le_of_ble_eq_true rfl) (ws' := [ob o 11 [.int (nI 0), .ref qtx, .int (nI ts), .int (nI pl), .ref qrp, .ref qpg, .ref qtr, .ref qbk, .int (nI dn), .ref qkp, .ref qik, .int (nI sn), .ref qsw, .ref qsi, .long sd, .ref qln, .ref qfm, .ref qby, .ref qwy, .int (nI wz), .ref qfo, .ref qon, .ref qmn, .ref qpr, .ref qle, .ref qst, .ref qwt, .int (nI rc), .int (nI tk), .int (nI ps), .int (nI gn), .int bd, .ref qwo], aI G qpg 22 (nF p)]) rfl dX11_after_2 ?_
  refine wc_iload_n X 5 1 dX11_after_5 rfl ?_
  refine wc_i2l X 6 dX11_after_6 ?_
  refine wc_lconst X 7 0 dX11_after_7 (by decide) ?_
  refine wc_lconst X 8 1 dX11_after_8 (by decide) ?_
  refine wc_callS X 9 [] (c_X11_in l G ((nI 0).toInt64) 0 1 ) ys_X11_in rfl q_870 ⟨rfl, rfl⟩ ⟨rfl, rfl⟩ ⟨rfl, rfl⟩ rfl rfl rfl dX11_after_9 ?_
  refine wc_topi (b2i true) (by decide) ?_
  refine wc_if_neB X 12 17 dX11_after_12 (by decide) (fun c12_1 => ?_) (fun c12_1 => ?_)
  ·
    refine wc_iload_n X 17 2 dX11_after_17 rfl ?_
    refine wc_callS X 18 [] (c_X11_isWordN l G y (by first | assumption | omega)) ys_X11_isWord rfl q_966 ⟨rfl, rfl⟩ ⟨rfl, rfl⟩ ⟨rfl, rfl⟩ rfl rfl rfl dX11_after_18 ?_
    refine wc_topi (b2i true) (congrArg b2i hw) ?_
    refine wc_if_eqB X 21 37 dX11_after_21 (by decide) (fun c21_2 => ?_) (fun c21_2 => ?_)
    ·
      exact absurd c21_2 (by decide)
    ·
      refine wc_aload_n X 24 0 dX11_after_24 rfl ?_
      refine wc_get X 25 0 5 kd11 rfl (by decide) q_770 rfl dX11_after_25 ?_
      refine wc_iload_n X 28 1 dX11_after_28 rfl ?_
      refine wc_iconstN X 29 1 dX11_after_29 ?_
      refine wc_iload_n X 30 2 dX11_after_30 rfl ?_
      refine wc_callS X 31 [1] (c_X11_afterWord l G qpg p 0 1 y hr.2.1 hr.2.2.2.1 hr.2.2.2.2.1 (by decide) (by decide) hy9 (fun k hk => word_dig hw hk)) ys_X11_afterWord rfl q_973 ⟨rfl, rfl⟩ ⟨rfl, rfl⟩ ⟨rfl, rfl⟩ rfl rfl rfl dX11_after_31 ?_
      refine wc_goto X 34 39 dX11_after_34 (by decide) ?_
      exact ret 39 _ (nI (afterW (mG p 0) (p 0) y 1 (lenW y) (lenW y))) _ dX11_after_39 (⟨by rw [← walkD_eq hw]; rfl, rfl⟩)
  ·
    exact absurd c12_1 (by decide)

set_option maxHeartbeats 4000000 in
set_option maxRecDepth 100000 in
theorem c_X11_after1 (l : Launch) (G : GG) (o : Nat) (th : Int32) (qtx ts pl qrp qpg qtr qbk dn qkp qik sn qsw qsi : Nat) (sd : Int64) (qln qfm qby qwy wz qfo qon qmn qpr qle qst qwt rc tk ps gn : Nat) (bd : Int32) (qwo : Nat) (p : Nat → Nat) (y : Nat) (hr : pgOk p) (hy : y < 2147483648) (hw : wordOk y = true) : MM l G yX11_after (Cond.code yX11_after cX11_after 3 (some .int)) { frames := 3, cells := 0, slots := 0, locals := 72 } [.ref o, .int (nI 1), .int (nI y)] [ob o 11 [.int th, .ref qtx, .int (nI ts), .int (nI pl), .ref qrp, .ref qpg, .ref qtr, .ref qbk, .int (nI dn), .ref qkp, .ref qik, .int (nI sn), .ref qsw, .ref qsi, .long sd, .ref qln, .ref qfm, .ref qby, .ref qwy, .int (nI wz), .ref qfo, .ref qon, .ref qmn, .ref qpr, .ref qle, .ref qst, .ref qwt, .int (nI rc), .int (nI tk), .int (nI ps), .int (nI gn), .int bd, .ref qwo], aI G qpg 22 (nF p)] (fun (v : Option Value) (w : va_W) => v = some (.int (nI (walkD (go p) (p 1) y 1 9))) ∧ w = [ob o 11 [.int (nI 0), .ref qtx, .int (nI ts), .int (nI pl), .ref qrp, .ref qpg, .ref qtr, .ref qbk, .int (nI dn), .ref qkp, .ref qik, .int (nI sn), .ref qsw, .ref qsi, .long sd, .ref qln, .ref qfm, .ref qby, .ref qwy, .int (nI wz), .ref qfo, .ref qon, .ref qmn, .ref qpr, .ref qle, .ref qst, .ref qwt, .int (nI rc), .int (nI tk), .int (nI ps), .int (nI gn), .int bd, .ref qwo], aI G qpg 22 (nF p)]) 0 0 := by
  refine MM.ofI (by decide) rfl (fun Γ X Y hnm ret => ?_)
  show Wc Γ 0 0 0 [(0, .ref o), (1, .int (nI 1)), (2, .int (nI y))] [] [ob o 11 [.int th, .ref qtx, .int (nI ts), .int (nI pl), .ref qrp, .ref qpg, .ref qtr, .ref qbk, .int (nI dn), .ref qkp, .ref qik, .int (nI sn), .ref qsw, .ref qsi, .long sd, .ref qln, .ref qfm, .ref qby, .ref qwy, .int (nI wz), .ref qfo, .ref qon, .ref qmn, .ref qpr, .ref qle, .ref qst, .ref qwt, .int (nI rc), .int (nI tk), .int (nI ps), .int (nI gn), .int bd, .ref qwo], aI G qpg 22 (nF p)]
  have hy9 : y < 1000000000 := by have := wordOk_lt hw; omega
  refine wc_aload_n X 0 0 dX11_after_0 rfl ?_
  refine wc_iconstN X 1 0 dX11_after_1 ?_
  refine wc_put X Y 2 0 0 kd11 rfl (by decide) q_765 rfl rfl rfl (Nat.le_of_ble_eq_true rfl) (ws' := [ob o 11 [.int (nI 0), .ref qtx, .int (nI ts), .int (nI pl), .ref qrp, .ref qpg, .ref qtr, .ref qbk, .int (nI dn), .ref qkp, .ref qik, .int (nI sn), .ref qsw, .ref qsi, .long sd, .ref qln, .ref qfm, .ref qby, .ref qwy, .int (nI wz), .ref qfo, .ref qon, .ref qmn, .ref qpr, .ref qle, .ref qst, .ref qwt, .int (nI rc), .int (nI tk), .int (nI ps), .int (nI gn), .int bd, .ref qwo], aI G qpg 22 (nF p)]) rfl dX11_after_2 ?_
  refine wc_iload_n X 5 1 dX11_after_5 rfl ?_
  refine wc_i2l X 6 dX11_after_6 ?_
  refine wc_lconst X 7 0 dX11_after_7 (by decide) ?_
  refine wc_lconst X 8 1 dX11_after_8 (by decide) ?_
  refine wc_callS X 9 [] (c_X11_in l G ((nI 1).toInt64) 0 1 ) ys_X11_in rfl q_870 ⟨rfl, rfl⟩ ⟨rfl, rfl⟩ ⟨rfl, rfl⟩ rfl rfl rfl dX11_after_9 ?_
  refine wc_topi (b2i true) (by decide) ?_
  refine wc_if_neB X 12 17 dX11_after_12 (by decide) (fun c12_1 => ?_) (fun c12_1 => ?_)
  ·
    refine wc_iload_n X 17 2 dX11_after_17 rfl ?_
    refine wc_callS X 18 [] (c_X11_isWordN l G y (by first | assumption | omega)) ys_X11_isWord rfl q_966 ⟨rfl, rfl⟩ ⟨rfl, rfl⟩ ⟨rfl, rfl⟩ rfl rfl rfl dX11_after_18 ?_
    refine wc_topi (b2i true) (congrArg b2i hw) ?_
    refine wc_if_eqB X 21 37 dX11_after_21 (by decide) (fun c21_2 => ?_) (fun c21_2 => ?_)
    ·
      exact absurd c21_2 (by decide)
    ·
      refine wc_aload_n X 24 0 dX11_after_24 rfl ?_
      refine wc_get X 25 0 5 kd11 rfl (by decide) q_770 rfl dX11_after_25 ?_
      refine wc_iload_n X 28 1 dX11_after_28 rfl ?_
      refine wc_iconstN X 29 1 dX11_after_29 ?_
      refine wc_iload_n X 30 2 dX11_after_30 rfl ?_
      refine wc_callS X 31 [1] (c_X11_afterWord l G qpg p 1 1 y hr.2.1 hr.2.2.2.1 hr.2.2.2.2.1 (by decide) (by decide) hy9 (fun k hk => word_dig hw hk)) ys_X11_afterWord rfl q_973 ⟨rfl, rfl⟩ ⟨rfl, rfl⟩ ⟨rfl, rfl⟩ rfl rfl rfl dX11_after_31 ?_
      refine wc_goto X 34 39 dX11_after_34 (by decide) ?_
      exact ret 39 _ (nI (afterW (mG p 1) (p 1) y 1 (lenW y) (lenW y))) _ dX11_after_39 (⟨by rw [← walkD_eq hw]; rfl, rfl⟩)
  ·
    exact absurd c12_1 (by decide)

set_option maxHeartbeats 4000000 in
set_option maxRecDepth 100000 in
theorem c_X11_within (l : Launch) (G : GG) (o : Nat) (th : Int32) (qtx ts pl qrp qpg qtr qbk dn qkp qik sn qsw qsi : Nat) (sd : Int64) (qln qfm qby qwy wz qfo qon qmn qpr qle qst qwt rc tk ps gn : Nat) (bd : Int32) (qwo : Nat) (p : Nat → Nat) (ln0 : Nat → Nat) (fm0 : Nat → Int32) (bf0 wy0 : Nat → Nat) (hr : pgOk p) : MM l G yX11_within (Cond.code yX11_within cX11_within 1 (some .int)) { frames := 5, cells := 0, slots := 0, locals := 117 } [.ref o] [ob o 11 [.int th, .ref qtx, .int (nI ts), .int (nI pl), .ref qrp, .ref qpg, .ref qtr, .ref qbk, .int (nI dn), .ref qkp, .ref qik, .int (nI sn), .ref qsw, .ref qsi, .long sd, .ref qln, .ref qfm, .ref qby, .ref qwy, .int (nI wz), .ref qfo, .ref qon, .ref qmn, .ref qpr, .ref qle, .ref qst, .ref qwt, .int (nI rc), .int (nI tk), .int (nI ps), .int (nI gn), .int bd, .ref qwo], aI G qpg 22 (nF p), aI G qln 512 (nF ln0), aI G qfm 512 fm0, aI G qby 512 (nF bf0), aI G qwy 512 (nF wy0)] (fun (v : Option Value) (w : va_W) => ∃ (wz2 : Nat) (ln2 : Nat → Nat) (fm2 : Nat → Int32) (bf2 wy2 : Nat → Nat), v = some (.int (nI ((withB (gz p) (p 0) (p 2) (go p) (p 1) (p 3)).toNat))) ∧ w = [ob o 11 [.int (nI 0), .ref qtx, .int (nI ts), .int (nI pl), .ref qrp, .ref qpg, .ref qtr, .ref qbk, .int (nI dn), .ref qkp, .ref qik, .int (nI sn), .ref qsw, .ref qsi, .long sd, .ref qln, .ref qfm, .ref qby, .ref qwy, .int (nI wz2), .ref qfo, .ref qon, .ref qmn, .ref qpr, .ref qle, .ref qst, .ref qwt, .int (nI rc), .int (nI tk), .int (nI ps), .int (nI gn), .int bd, .ref qwo], aI G qpg 22 (nF p), aI G qln 512 (nF ln2), aI G qfm 512 fm2, aI G qby 512 (nF bf2), aI G qwy 512 (nF wy2)]) 0 0 := by
  refine MM.ofI (by decide) rfl (fun Γ X Y hnm ret => ?_)
  show Wc Γ 0 0 0 [(0, .ref o)] [] [ob o 11 [.int th, .ref qtx, .int (nI ts), .int (nI pl), .ref qrp, .ref qpg, .ref qtr, .ref qbk, .int (nI dn), .ref qkp, .ref qik, .int (nI sn), .ref qsw, .ref qsi, .long sd, .ref qln, .ref qfm, .ref qby, .ref qwy, .int (nI wz), .ref qfo, .ref qon, .ref qmn, .ref qpr, .ref qle, .ref qst, .ref qwt, .int (nI rc), .int (nI tk), .int (nI ps), .int (nI gn), .int bd, .ref qwo], aI G qpg 22 (nF p), aI G qln 512 (nF ln0), aI G qfm 512 fm0, aI G qby 512 (nF bf0), aI G qwy 512 (nF wy0)]
  refine wc_aload_n X 0 0 dX11_within_0 rfl ?_
  refine wc_iconstN X 1 0 dX11_within_1 ?_
  refine wc_put X Y 2 0 0 kd11 rfl (by decide) q_765 rfl rfl rfl (Nat.le_of_ble_eq_true rfl) (ws' := [ob o 11 [.int (nI 0), .ref qtx, .int (nI ts), .int (nI pl), .ref qrp, .ref qpg, .ref qtr, .ref qbk, .int (nI dn), .ref qkp, .ref qik, .int (nI sn), .ref qsw, .ref qsi, .long sd, .ref qln, .ref qfm, .ref qby, .ref qwy, .int (nI wz), .ref qfo, .ref qon, .ref qmn, .ref qpr, .ref qle, .ref qst, .ref qwt, .int (nI rc), .int (nI tk), .int (nI ps), .int (nI gn), .int bd, .ref qwo], aI G qpg 22 (nF p), aI G qln 512 (nF ln0), aI G qfm 512 fm0, aI G qby 512 (nF bf0), aI G qwy 512 (nF wy0)]) rfl dX11_within_2 ?_
  refine wc_aload_n X 5 0 dX11_within_5 rfl ?_
  refine wc_aload_n X 6 0 dX11_within_6 rfl ?_
  refine wc_get X 7 0 5 kd11 rfl (by decide) q_770 rfl dX11_within_7 ?_
  refine wc_mutV X Y 10 [0, 1, 2, 3, 4, 5] [] 0 (c_X11_isWithin l G o (nI 0) qtx ts pl qrp qpg qtr qbk dn qkp qik sn qsw qsi sd qln qfm qby qwy wz qfo qon qmn qpr qle qst qwt rc tk ps gn bd qwo qpg p ln0 fm0 bf0 wy0 (by first | assumption | omega)) yv_X11_isWithin kd11 rfl rfl (wr := []) rfl ⟨rfl, rfl, rfl⟩ q_1005 ⟨rfl, rfl⟩ ⟨rfl, rfl⟩ ⟨rfl, rfl⟩ rfl rfl rfl dX11_within_10 (fun v w hp_1 => ?_)
  obtain ⟨wz2_2, ln2_3, fm2_4, bf2_5, wy2_6, rfl, rfl⟩ := hp_1
  refine wc_perm Y [0, 1, 2, 3, 4, 5] [ob o 11 [.int (nI 0), .ref qtx, .int (nI ts), .int (nI pl), .ref qrp, .ref qpg, .ref qtr, .ref qbk, .int (nI dn), .ref qkp, .ref qik, .int (nI sn), .ref qsw, .ref qsi, .long sd, .ref qln, .ref qfm, .ref qby, .ref qwy, .int (nI wz2_2), .ref qfo, .ref qon, .ref qmn, .ref qpr, .ref qle, .ref qst, .ref qwt, .int (nI rc), .int (nI tk), .int (nI ps), .int (nI gn), .int bd, .ref qwo], aI G qpg 22 (nF p), aI G qln 512 (nF ln2_3), aI G qfm 512 fm2_4, aI G qby 512 (nF bf2_5), aI G qwy 512 (nF wy2_6)] rfl rfl ?_
  show Wc Γ 0 0 13 [(0, .ref o)] [.int (b2i (withB (gz p) (p 0) (p 2) (go p) (p 1) (p 3)))] [ob o 11 [.int (nI 0), .ref qtx, .int (nI ts), .int (nI pl), .ref qrp, .ref qpg, .ref qtr, .ref qbk, .int (nI dn), .ref qkp, .ref qik, .int (nI sn), .ref qsw, .ref qsi, .long sd, .ref qln, .ref qfm, .ref qby, .ref qwy, .int (nI wz2_2), .ref qfo, .ref qon, .ref qmn, .ref qpr, .ref qle, .ref qst, .ref qwt, .int (nI rc), .int (nI tk), .int (nI ps), .int (nI gn), .int bd, .ref qwo], aI G qpg 22 (nF p), aI G qln 512 (nF ln2_3), aI G qfm 512 fm2_4, aI G qby 512 (nF bf2_5), aI G qwy 512 (nF wy2_6)]
  refine wc_if_eqB X 13 20 dX11_within_13 (by decide) (fun c13_7 => ?_) (fun c13_7 => ?_)
  ·
    refine wc_iconstN X 20 0 dX11_within_20 ?_
    exact ret 21 _ (nI 0) _ dX11_within_21 (⟨_, _, _, _, _, by rw [c13_7]; rfl, rfl⟩)
  ·
    refine wc_iconstN X 16 1 dX11_within_16 ?_
    refine wc_goto X 17 21 dX11_within_17 (by decide) ?_
    exact ret 21 _ (nI 1) _ dX11_within_21 (⟨_, _, _, _, _, by rw [c13_7]; rfl, rfl⟩)

set_option maxHeartbeats 4000000 in
set_option maxRecDepth 100000 in
theorem c_X11_missingF (l : Launch) (G : GG) (o : Nat) (th : Int32) (qtx ts pl qrp qpg qtr qbk dn qkp qik sn qsw qsi : Nat) (sd : Int64) (qln qfm qby qwy wz qfo qon qmn qpr qle qst qwt rc tk ps gn : Nat) (bd : Int32) (qwo : Nat) (k : Int32) (ho : outR k 0 200) : MM l G yX11_missing (Cond.code yX11_missing cX11_missing 2 (some .int)) { frames := 1, cells := 0, slots := 0, locals := 25 } [.ref o, .int k] [ob o 11 [.int th, .ref qtx, .int (nI ts), .int (nI pl), .ref qrp, .ref qpg, .ref qtr, .ref qbk, .int (nI dn), .ref qkp, .ref qik, .int (nI sn), .ref qsw, .ref qsi, .long sd, .ref qln, .ref qfm, .ref qby, .ref qwy, .int (nI wz), .ref qfo, .ref qon, .ref qmn, .ref qpr, .ref qle, .ref qst, .ref qwt, .int (nI rc), .int (nI tk), .int (nI ps), .int (nI gn), .int bd, .ref qwo]] (fun (v : Option Value) (w : va_W) => v = some (.int (-2)) ∧ w = [ob o 11 [.int (nI 0), .ref qtx, .int (nI ts), .int (nI pl), .ref qrp, .ref qpg, .ref qtr, .ref qbk, .int (nI dn), .ref qkp, .ref qik, .int (nI sn), .ref qsw, .ref qsi, .long sd, .ref qln, .ref qfm, .ref qby, .ref qwy, .int (nI wz), .ref qfo, .ref qon, .ref qmn, .ref qpr, .ref qle, .ref qst, .ref qwt, .int (nI rc), .int (nI tk), .int (nI ps), .int (nI gn), .int bd, .ref qwo]]) 0 0 := by
  refine MM.ofI (by decide) rfl (fun Γ X Y hnm ret => ?_)
  show Wc Γ 0 0 0 [(0, .ref o), (1, .int k)] [] [ob o 11 [.int th, .ref qtx, .int (nI ts), .int (nI pl), .ref qrp, .ref qpg, .ref qtr, .ref qbk, .int (nI dn), .ref qkp, .ref qik, .int (nI sn), .ref qsw, .ref qsi, .long sd, .ref qln, .ref qfm, .ref qby, .ref qwy, .int (nI wz), .ref qfo, .ref qon, .ref qmn, .ref qpr, .ref qle, .ref qst, .ref qwt, .int (nI rc), .int (nI tk), .int (nI ps), .int (nI gn), .int bd, .ref qwo]]
  refine wc_aload_n X 0 0 dX11_missing_0 rfl ?_
  refine wc_iconstN X 1 0 dX11_missing_1 ?_
  refine wc_put X Y 2 0 0 kd11 rfl (by decide) q_765 rfl rfl rfl (Nat.le_of_ble_eq_true rfl) (ws' := [ob o 11 [.int (nI 0), .ref qtx, .int (nI ts), .int (nI pl), .ref qrp, .ref qpg, .ref qtr, .ref qbk, .int (nI dn), .ref qkp, .ref qik, .int (nI sn), .ref qsw, .ref qsi, .long sd, .ref qln, .ref qfm, .ref qby, .ref qwy, .int (nI wz), .ref qfo, .ref qon, .ref qmn, .ref qpr, .ref qle, .ref qst, .ref qwt, .int (nI rc), .int (nI tk), .int (nI ps), .int (nI gn), .int bd, .ref qwo]]) rfl dX11_missing_2 ?_
  refine wc_iload_n X 5 1 dX11_missing_5 rfl ?_
  refine wc_i2l X 6 dX11_missing_6 ?_
  refine wc_lconst X 7 0 dX11_missing_7 (by decide) ?_
  refine wc_ldc2 X 8 213 (200) q_1027 dX11_missing_8 ?_
  refine wc_callS X 11 [] (c_X11_in l G ((k).toInt64) 0 200 ) ys_X11_in rfl q_870 ⟨rfl, rfl⟩ ⟨rfl, rfl⟩ ⟨rfl, rfl⟩ rfl rfl rfl dX11_missing_11 ?_
  refine wc_topi (b2i false) (congrArg b2i (inL_out rfl rfl ho)) ?_
  refine wc_if_eqB X 14 34 dX11_missing_14 (by decide) (fun c14_1 => ?_) (fun c14_1 => ?_)
  ·
    refine wc_bipush X 34 (-2) dX11_missing_34 (by decide) ?_
    exact ret 36 _ (-2) _ dX11_missing_36 (⟨rfl, rfl⟩)
  ·
    exact absurd c14_1 (by decide)

set_option maxHeartbeats 4000000 in
set_option maxRecDepth 100000 in
theorem c_X11_missingS (l : Launch) (G : GG) (o : Nat) (th : Int32) (qtx ts pl qrp qpg qtr qbk dn qkp qik sn qsw qsi : Nat) (sd : Int64) (qln qfm qby qwy wz qfo qon qmn qpr qle qst qwt rc tk ps gn : Nat) (bd : Int32) (qwo : Nat) (p : Nat → Nat) (ln0 : Nat → Nat) (fm0 : Nat → Int32) (bf0 wy0 : Nat → Nat) (k : Nat) (hr : pgOk p) (hk : k ≤ 200) : MM l G yX11_missing (Cond.code yX11_missing cX11_missing 2 (some .int)) { frames := 4, cells := 0, slots := 0, locals := 96 } [.ref o, .int (nI k)] [ob o 11 [.int th, .ref qtx, .int (nI ts), .int (nI pl), .ref qrp, .ref qpg, .ref qtr, .ref qbk, .int (nI dn), .ref qkp, .ref qik, .int (nI sn), .ref qsw, .ref qsi, .long sd, .ref qln, .ref qfm, .ref qby, .ref qwy, .int (nI wz), .ref qfo, .ref qon, .ref qmn, .ref qpr, .ref qle, .ref qst, .ref qwt, .int (nI rc), .int (nI tk), .int (nI ps), .int (nI gn), .int bd, .ref qwo], aI G qpg 22 (nF p), aI G qln 512 (nF ln0), aI G qfm 512 fm0, aI G qby 512 (nF bf0), aI G qwy 512 (nF wy0)] (fun (v : Option Value) (w : va_W) => ∃ (wz2 : Nat) (ln2 : Nat → Nat) (fm2 : Nat → Int32) (bf2 wy2 : Nat → Nat), v = some (.int (tellW (leastW (gz p) (p 0) (p 2) (go p) (p 1) (p 3) 0) k)) ∧ w = [ob o 11 [.int (nI 0), .ref qtx, .int (nI ts), .int (nI pl), .ref qrp, .ref qpg, .ref qtr, .ref qbk, .int (nI dn), .ref qkp, .ref qik, .int (nI sn), .ref qsw, .ref qsi, .long sd, .ref qln, .ref qfm, .ref qby, .ref qwy, .int (nI wz2), .ref qfo, .ref qon, .ref qmn, .ref qpr, .ref qle, .ref qst, .ref qwt, .int (nI rc), .int (nI tk), .int (nI ps), .int (nI gn), .int bd, .ref qwo], aI G qpg 22 (nF p), aI G qln 512 (nF ln2), aI G qfm 512 fm2, aI G qby 512 (nF bf2), aI G qwy 512 (nF wy2)]) 0 0 := by
  refine MM.ofI (by decide) rfl (fun Γ X Y hnm ret => ?_)
  show Wc Γ 0 0 0 [(0, .ref o), (1, .int (nI k))] [] [ob o 11 [.int th, .ref qtx, .int (nI ts), .int (nI pl), .ref qrp, .ref qpg, .ref qtr, .ref qbk, .int (nI dn), .ref qkp, .ref qik, .int (nI sn), .ref qsw, .ref qsi, .long sd, .ref qln, .ref qfm, .ref qby, .ref qwy, .int (nI wz), .ref qfo, .ref qon, .ref qmn, .ref qpr, .ref qle, .ref qst, .ref qwt, .int (nI rc), .int (nI tk), .int (nI ps), .int (nI gn), .int bd, .ref qwo], aI G qpg 22 (nF p), aI G qln 512 (nF ln0), aI G qfm 512 fm0, aI G qby 512 (nF bf0), aI G qwy 512 (nF wy0)]
  refine wc_aload_n X 0 0 dX11_missing_0 rfl ?_
  refine wc_iconstN X 1 0 dX11_missing_1 ?_
  refine wc_put X Y 2 0 0 kd11 rfl (by decide) q_765 rfl rfl rfl (Nat.le_of_ble_eq_true rfl) (ws' := [ob o 11 [.int (nI 0), .ref qtx, .int (nI ts), .int (nI pl), .ref qrp, .ref qpg, .ref qtr, .ref qbk, .int (nI dn), .ref qkp, .ref qik, .int (nI sn), .ref qsw, .ref qsi, .long sd, .ref qln, .ref qfm, .ref qby, .ref qwy, .int (nI wz), .ref qfo, .ref qon, .ref qmn, .ref qpr, .ref qle, .ref qst, .ref qwt, .int (nI rc), .int (nI tk), .int (nI ps), .int (nI gn), .int bd, .ref qwo], aI G qpg 22 (nF p), aI G qln 512 (nF ln0), aI G qfm 512 fm0, aI G qby 512 (nF bf0), aI G qwy 512 (nF wy0)]) rfl dX11_missing_2 ?_
  refine wc_iload_n X 5 1 dX11_missing_5 rfl ?_
  refine wc_i2l X 6 dX11_missing_6 ?_
  refine wc_lconst X 7 0 dX11_missing_7 (by decide) ?_
  refine wc_ldc2 X 8 213 (200) q_1027 dX11_missing_8 ?_
  refine wc_callS X 11 [] (c_X11_in l G ((nI k).toInt64) 0 200 ) ys_X11_in rfl q_870 ⟨rfl, rfl⟩ ⟨rfl, rfl⟩ ⟨rfl, rfl⟩ rfl rfl rfl dX11_missing_11 ?_
  refine wc_topi (b2i true) (congrArg b2i (inL_in (a := 0) (b := 200) rfl rfl (by omega) (by omega) (by omega))) ?_
  refine wc_if_eqB X 14 34 dX11_missing_14 (by decide) (fun c14_1 => ?_) (fun c14_1 => ?_)
  ·
    exact absurd c14_1 (by decide)
  ·
    refine wc_aload_n X 17 0 dX11_missing_17 rfl ?_
    refine wc_aload_n X 18 0 dX11_missing_18 rfl ?_
    refine wc_aload_n X 19 0 dX11_missing_19 rfl ?_
    refine wc_get X 20 0 5 kd11 rfl (by decide) q_770 rfl dX11_missing_20 ?_
    refine wc_iconstN X 23 0 dX11_missing_23 ?_
    refine wc_mutV X Y 24 [0, 1, 2, 3, 4, 5] [] 0 (c_X11_find l G o (nI 0) qtx ts pl qrp qpg qtr qbk dn qkp qik sn qsw qsi sd qln qfm qby qwy wz qfo qon qmn qpr qle qst qwt rc tk ps gn bd qwo qpg p ln0 fm0 bf0 wy0 0 (by first | assumption | omega) (by decide)) yv_X11_find kd11 rfl rfl (wr := []) rfl ⟨rfl, rfl, rfl⟩ q_1009 ⟨rfl, rfl⟩ ⟨rfl, rfl⟩ ⟨rfl, rfl⟩ rfl rfl rfl dX11_missing_24 (fun v w hp_2 => ?_)
    obtain ⟨wz2_3, ln2_4, fm2_5, bf2_6, wy2_7, rfl, rfl, hf1⟩ := hp_2
    refine wc_perm Y [0, 1, 2, 3, 4, 5] [ob o 11 [.int (nI 0), .ref qtx, .int (nI ts), .int (nI pl), .ref qrp, .ref qpg, .ref qtr, .ref qbk, .int (nI dn), .ref qkp, .ref qik, .int (nI sn), .ref qsw, .ref qsi, .long sd, .ref qln, .ref qfm, .ref qby, .ref qwy, .int (nI wz2_3), .ref qfo, .ref qon, .ref qmn, .ref qpr, .ref qle, .ref qst, .ref qwt, .int (nI rc), .int (nI tk), .int (nI ps), .int (nI gn), .int bd, .ref qwo], aI G qpg 22 (nF p), aI G qln 512 (nF ln2_4), aI G qfm 512 fm2_5, aI G qby 512 (nF bf2_6), aI G qwy 512 (nF wy2_7)] rfl rfl ?_
    show Wc Γ 0 0 27 [(0, .ref o), (1, .int (nI k))] [.int (b2i ((leastW (gz p) (p 0) (p 2) (go p) (p 1) (p 3) 0).isSome)), .ref o] [ob o 11 [.int (nI 0), .ref qtx, .int (nI ts), .int (nI pl), .ref qrp, .ref qpg, .ref qtr, .ref qbk, .int (nI dn), .ref qkp, .ref qik, .int (nI sn), .ref qsw, .ref qsi, .long sd, .ref qln, .ref qfm, .ref qby, .ref qwy, .int (nI wz2_3), .ref qfo, .ref qon, .ref qmn, .ref qpr, .ref qle, .ref qst, .ref qwt, .int (nI rc), .int (nI tk), .int (nI ps), .int (nI gn), .int bd, .ref qwo], aI G qpg 22 (nF p), aI G qln 512 (nF ln2_4), aI G qfm 512 fm2_5, aI G qby 512 (nF bf2_6), aI G qwy 512 (nF wy2_7)]
    refine wc_iload_n X 27 1 dX11_missing_27 rfl ?_
    refine wc_callV X 28 [0, 5] 0 (c_X11_tellWay l G o (nI 0) qtx ts pl qrp qpg qtr qbk dn qkp qik sn qsw qsi sd qln qfm qby qwy wz2_3 qfo qon qmn qpr qle qst qwt rc tk ps gn bd qwo wy2_7 ((leastW (gz p) (p 0) (p 2) (go p) (p 1) (p 3) 0).isSome) k (by first | assumption | omega) (fun z => by obtain ⟨q, hq⟩ := Option.isSome_iff_exists.mp z; have := hf1 q hq; omega)) yv_X11_tellWay kd11 rfl rfl q_1028 ⟨rfl, rfl⟩ ⟨rfl, rfl⟩ ⟨rfl, rfl⟩ rfl rfl rfl dX11_missing_28 ?_
    refine wc_goto X 31 36 dX11_missing_31 (by decide) ?_
    exact ret 36 _ (if ((leastW (gz p) (p 0) (p 2) (go p) (p 1) (p 3) 0).isSome) && decide (k ≤ wz2_3) then (if k = 0 then nI wz2_3 else nI (wy2_7 (k - 1))) else -9) _ dX11_missing_36 (⟨_, _, _, _, _, by rw [tell_wy hf1], rfl⟩)

set_option maxHeartbeats 4000000 in
set_option maxRecDepth 100000 in
theorem c_X11_leftOutF (l : Launch) (G : GG) (o : Nat) (th : Int32) (qtx ts pl qrp qpg qtr qbk dn qkp qik sn qsw qsi : Nat) (sd : Int64) (qln qfm qby qwy wz qfo qon qmn qpr qle qst qwt rc tk ps gn : Nat) (bd : Int32) (qwo : Nat) (m k : Int32) (ho : outR m 0 1) : MM l G yX11_leftOut (Cond.code yX11_leftOut cX11_leftOut 3 (some .int)) { frames := 1, cells := 0, slots := 0, locals := 25 } [.ref o, .int m, .int k] [ob o 11 [.int th, .ref qtx, .int (nI ts), .int (nI pl), .ref qrp, .ref qpg, .ref qtr, .ref qbk, .int (nI dn), .ref qkp, .ref qik, .int (nI sn), .ref qsw, .ref qsi, .long sd, .ref qln, .ref qfm, .ref qby, .ref qwy, .int (nI wz), .ref qfo, .ref qon, .ref qmn, .ref qpr, .ref qle, .ref qst, .ref qwt, .int (nI rc), .int (nI tk), .int (nI ps), .int (nI gn), .int bd, .ref qwo]] (fun (v : Option Value) (w : va_W) => v = some (.int (-1)) ∧ w = [ob o 11 [.int (nI 0), .ref qtx, .int (nI ts), .int (nI pl), .ref qrp, .ref qpg, .ref qtr, .ref qbk, .int (nI dn), .ref qkp, .ref qik, .int (nI sn), .ref qsw, .ref qsi, .long sd, .ref qln, .ref qfm, .ref qby, .ref qwy, .int (nI wz), .ref qfo, .ref qon, .ref qmn, .ref qpr, .ref qle, .ref qst, .ref qwt, .int (nI rc), .int (nI tk), .int (nI ps), .int (nI gn), .int bd, .ref qwo]]) 0 0 := by
  refine MM.ofI (by decide) rfl (fun Γ X Y hnm ret => ?_)
  show Wc Γ 0 0 0 [(0, .ref o), (1, .int m), (2, .int k)] [] [ob o 11 [.int th, .ref qtx, .int (nI ts), .int (nI pl), .ref qrp, .ref qpg, .ref qtr, .ref qbk, .int (nI dn), .ref qkp, .ref qik, .int (nI sn), .ref qsw, .ref qsi, .long sd, .ref qln, .ref qfm, .ref qby, .ref qwy, .int (nI wz), .ref qfo, .ref qon, .ref qmn, .ref qpr, .ref qle, .ref qst, .ref qwt, .int (nI rc), .int (nI tk), .int (nI ps), .int (nI gn), .int bd, .ref qwo]]
  refine wc_aload_n X 0 0 dX11_leftOut_0 rfl ?_
  refine wc_iconstN X 1 0 dX11_leftOut_1 ?_
  refine wc_put X Y 2 0 0 kd11 rfl (by decide) q_765 rfl rfl rfl (Nat.le_of_ble_eq_true rfl) (ws' := [ob o 11 [.int (nI 0), .ref qtx, .int (nI ts), .int (nI pl), .ref qrp, .ref qpg, .ref qtr, .ref qbk, .int (nI dn), .ref qkp, .ref qik, .int (nI sn), .ref qsw, .ref qsi, .long sd, .ref qln, .ref qfm, .ref qby, .ref qwy, .int (nI wz), .ref qfo, .ref qon, .ref qmn, .ref qpr, .ref qle, .ref qst, .ref qwt, .int (nI rc), .int (nI tk), .int (nI ps), .int (nI gn), .int bd, .ref qwo]]) rfl dX11_leftOut_2 ?_
  refine wc_iload_n X 5 1 dX11_leftOut_5 rfl ?_
  refine wc_i2l X 6 dX11_leftOut_6 ?_
  refine wc_lconst X 7 0 dX11_leftOut_7 (by decide) ?_
  refine wc_lconst X 8 1 dX11_leftOut_8 (by decide) ?_
  refine wc_callS X 9 [] (c_X11_in l G ((m).toInt64) 0 1 ) ys_X11_in rfl q_870 ⟨rfl, rfl⟩ ⟨rfl, rfl⟩ ⟨rfl, rfl⟩ rfl rfl rfl dX11_leftOut_9 ?_
  refine wc_topi (b2i false) (congrArg b2i (inL_out rfl rfl ho)) ?_
  refine wc_if_neB X 12 17 dX11_leftOut_12 (by decide) (fun c12_1 => ?_) (fun c12_1 => ?_)
  ·
    exact absurd c12_1 (by decide)
  ·
    refine wc_iconst X 15 (-1) dX11_leftOut_15 (by decide) ?_
    exact ret 16 _ (-1) _ dX11_leftOut_16 (⟨rfl, rfl⟩)

set_option maxHeartbeats 4000000 in
set_option maxRecDepth 100000 in
theorem c_X11_leftOutG (l : Launch) (G : GG) (o : Nat) (th : Int32) (qtx ts pl qrp qpg qtr qbk dn qkp qik sn qsw qsi : Nat) (sd : Int64) (qln qfm qby qwy wz qfo qon qmn qpr qle qst qwt rc tk ps gn : Nat) (bd : Int32) (qwo : Nat) (m k : Int32) (hm : (decide (m = 0) || decide (m = nI 1)) = true) (ho : outR k 0 200) : MM l G yX11_leftOut (Cond.code yX11_leftOut cX11_leftOut 3 (some .int)) { frames := 1, cells := 0, slots := 0, locals := 25 } [.ref o, .int m, .int k] [ob o 11 [.int th, .ref qtx, .int (nI ts), .int (nI pl), .ref qrp, .ref qpg, .ref qtr, .ref qbk, .int (nI dn), .ref qkp, .ref qik, .int (nI sn), .ref qsw, .ref qsi, .long sd, .ref qln, .ref qfm, .ref qby, .ref qwy, .int (nI wz), .ref qfo, .ref qon, .ref qmn, .ref qpr, .ref qle, .ref qst, .ref qwt, .int (nI rc), .int (nI tk), .int (nI ps), .int (nI gn), .int bd, .ref qwo]] (fun (v : Option Value) (w : va_W) => v = some (.int (-2)) ∧ w = [ob o 11 [.int (nI 0), .ref qtx, .int (nI ts), .int (nI pl), .ref qrp, .ref qpg, .ref qtr, .ref qbk, .int (nI dn), .ref qkp, .ref qik, .int (nI sn), .ref qsw, .ref qsi, .long sd, .ref qln, .ref qfm, .ref qby, .ref qwy, .int (nI wz), .ref qfo, .ref qon, .ref qmn, .ref qpr, .ref qle, .ref qst, .ref qwt, .int (nI rc), .int (nI tk), .int (nI ps), .int (nI gn), .int bd, .ref qwo]]) 0 0 := by
  refine MM.ofI (by decide) rfl (fun Γ X Y hnm ret => ?_)
  show Wc Γ 0 0 0 [(0, .ref o), (1, .int m), (2, .int k)] [] [ob o 11 [.int th, .ref qtx, .int (nI ts), .int (nI pl), .ref qrp, .ref qpg, .ref qtr, .ref qbk, .int (nI dn), .ref qkp, .ref qik, .int (nI sn), .ref qsw, .ref qsi, .long sd, .ref qln, .ref qfm, .ref qby, .ref qwy, .int (nI wz), .ref qfo, .ref qon, .ref qmn, .ref qpr, .ref qle, .ref qst, .ref qwt, .int (nI rc), .int (nI tk), .int (nI ps), .int (nI gn), .int bd, .ref qwo]]
  refine wc_aload_n X 0 0 dX11_leftOut_0 rfl ?_
  refine wc_iconstN X 1 0 dX11_leftOut_1 ?_
  refine wc_put X Y 2 0 0 kd11 rfl (by decide) q_765 rfl rfl rfl (Nat.le_of_ble_eq_true rfl) (ws' := [ob o 11 [.int (nI 0), .ref qtx, .int (nI ts), .int (nI pl), .ref qrp, .ref qpg, .ref qtr, .ref qbk, .int (nI dn), .ref qkp, .ref qik, .int (nI sn), .ref qsw, .ref qsi, .long sd, .ref qln, .ref qfm, .ref qby, .ref qwy, .int (nI wz), .ref qfo, .ref qon, .ref qmn, .ref qpr, .ref qle, .ref qst, .ref qwt, .int (nI rc), .int (nI tk), .int (nI ps), .int (nI gn), .int bd, .ref qwo]]) rfl dX11_leftOut_2 ?_
  refine wc_iload_n X 5 1 dX11_leftOut_5 rfl ?_
  refine wc_i2l X 6 dX11_leftOut_6 ?_
  refine wc_lconst X 7 0 dX11_leftOut_7 (by decide) ?_
  refine wc_lconst X 8 1 dX11_leftOut_8 (by decide) ?_
  refine wc_callS X 9 [] (c_X11_in l G ((m).toInt64) 0 1 ) ys_X11_in rfl q_870 ⟨rfl, rfl⟩ ⟨rfl, rfl⟩ ⟨rfl, rfl⟩ rfl rfl rfl dX11_leftOut_9 ?_
  refine wc_topi (b2i true) (congrArg b2i (mach_in hm)) ?_
  refine wc_if_neB X 12 17 dX11_leftOut_12 (by decide) (fun c12_1 => ?_) (fun c12_1 => ?_)
  ·
    refine wc_iload_n X 17 2 dX11_leftOut_17 rfl ?_
    refine wc_i2l X 18 dX11_leftOut_18 ?_
    refine wc_lconst X 19 0 dX11_leftOut_19 (by decide) ?_
    refine wc_ldc2 X 20 213 (200) q_1027 dX11_leftOut_20 ?_
    refine wc_callS X 23 [] (c_X11_in l G ((k).toInt64) 0 200 ) ys_X11_in rfl q_870 ⟨rfl, rfl⟩ ⟨rfl, rfl⟩ ⟨rfl, rfl⟩ rfl rfl rfl dX11_leftOut_23 ?_
    refine wc_topi (b2i false) (congrArg b2i (inL_out rfl rfl ho)) ?_
    refine wc_if_eqB X 26 48 dX11_leftOut_26 (by decide) (fun c26_2 => ?_) (fun c26_2 => ?_)
    ·
      refine wc_bipush X 48 (-2) dX11_leftOut_48 (by decide) ?_
      exact ret 50 _ (-2) _ dX11_leftOut_50 (⟨rfl, rfl⟩)
    ·
      exact absurd c26_2 (by decide)
  ·
    exact absurd c12_1 (by decide)

set_option maxHeartbeats 4000000 in
set_option maxRecDepth 100000 in
theorem c_X11_leftOut0 (l : Launch) (G : GG) (o : Nat) (th : Int32) (qtx ts pl qrp qpg qtr qbk dn qkp qik sn qsw qsi : Nat) (sd : Int64) (qln qfm qby qwy wz qfo qon qmn qpr qle qst qwt rc tk ps gn : Nat) (bd : Int32) (qwo : Nat) (p : Nat → Nat) (ln0 : Nat → Nat) (fm0 : Nat → Int32) (bf0 wy0 : Nat → Nat) (k : Nat) (hr : pgOk p) (hk : k ≤ 200) : MM l G yX11_leftOut (Cond.code yX11_leftOut cX11_leftOut 3 (some .int)) { frames := 4, cells := 0, slots := 0, locals := 96 } [.ref o, .int (nI 0), .int (nI k)] [ob o 11 [.int th, .ref qtx, .int (nI ts), .int (nI pl), .ref qrp, .ref qpg, .ref qtr, .ref qbk, .int (nI dn), .ref qkp, .ref qik, .int (nI sn), .ref qsw, .ref qsi, .long sd, .ref qln, .ref qfm, .ref qby, .ref qwy, .int (nI wz), .ref qfo, .ref qon, .ref qmn, .ref qpr, .ref qle, .ref qst, .ref qwt, .int (nI rc), .int (nI tk), .int (nI ps), .int (nI gn), .int bd, .ref qwo], aI G qpg 22 (nF p), aI G qln 512 (nF ln0), aI G qfm 512 fm0, aI G qby 512 (nF bf0), aI G qwy 512 (nF wy0)] (fun (v : Option Value) (w : va_W) => ∃ (wz2 : Nat) (ln2 : Nat → Nat) (fm2 : Nat → Int32) (bf2 wy2 : Nat → Nat), v = some (.int (tellW (leastW (gz p) (p 0) (p 2) (go p) (p 1) (p 3) 1) k)) ∧ w = [ob o 11 [.int (nI 0), .ref qtx, .int (nI ts), .int (nI pl), .ref qrp, .ref qpg, .ref qtr, .ref qbk, .int (nI dn), .ref qkp, .ref qik, .int (nI sn), .ref qsw, .ref qsi, .long sd, .ref qln, .ref qfm, .ref qby, .ref qwy, .int (nI wz2), .ref qfo, .ref qon, .ref qmn, .ref qpr, .ref qle, .ref qst, .ref qwt, .int (nI rc), .int (nI tk), .int (nI ps), .int (nI gn), .int bd, .ref qwo], aI G qpg 22 (nF p), aI G qln 512 (nF ln2), aI G qfm 512 fm2, aI G qby 512 (nF bf2), aI G qwy 512 (nF wy2)]) 0 0 := by
  refine MM.ofI (by decide) rfl (fun Γ X Y hnm ret => ?_)
  show Wc Γ 0 0 0 [(0, .ref o), (1, .int (nI 0)), (2, .int (nI k))] [] [ob o 11 [.int th, .ref qtx, .int (nI ts), .int (nI pl), .ref qrp, .ref qpg, .ref qtr, .ref qbk, .int (nI dn), .ref qkp, .ref qik, .int (nI sn), .ref qsw, .ref qsi, .long sd, .ref qln, .ref qfm, .ref qby, .ref qwy, .int (nI wz), .ref qfo, .ref qon, .ref qmn, .ref qpr, .ref qle, .ref qst, .ref qwt, .int (nI rc), .int (nI tk), .int (nI ps), .int (nI gn), .int bd, .ref qwo], aI G qpg 22 (nF p), aI G qln 512 (nF ln0), aI G qfm 512 fm0, aI G qby 512 (nF bf0), aI G qwy 512 (nF wy0)]
  refine wc_aload_n X 0 0 dX11_leftOut_0 rfl ?_
  refine wc_iconstN X 1 0 dX11_leftOut_1 ?_
  refine wc_put X Y 2 0 0 kd11 rfl (by decide) q_765 rfl rfl rfl (Nat.le_of_ble_eq_true rfl) (ws' := [ob o 11 [.int (nI 0), .ref qtx, .int (nI ts), .int (nI pl), .ref qrp, .ref qpg, .ref qtr, .ref qbk, .int (nI dn), .ref qkp, .ref qik, .int (nI sn), .ref qsw, .ref qsi, .long sd, .ref qln, .ref qfm, .ref qby, .ref qwy, .int (nI wz), .ref qfo, .ref qon, .ref qmn, .ref qpr, .ref qle, .ref qst, .ref qwt, .int (nI rc), .int (nI tk), .int (nI ps), .int (nI gn), .int bd, .ref qwo], aI G qpg 22 (nF p), aI G qln 512 (nF ln0), aI G qfm 512 fm0, aI G qby 512 (nF bf0), aI G qwy 512 (nF wy0)]) rfl dX11_leftOut_2 ?_
  refine wc_iload_n X 5 1 dX11_leftOut_5 rfl ?_
  refine wc_i2l X 6 dX11_leftOut_6 ?_
  refine wc_lconst X 7 0 dX11_leftOut_7 (by decide) ?_
  refine wc_lconst X 8 1 dX11_leftOut_8 (by decide) ?_
  refine wc_callS X 9 [] (c_X11_in l G ((nI 0).toInt64) 0 1 ) ys_X11_in rfl q_870 ⟨rfl, rfl⟩ ⟨rfl, rfl⟩ ⟨rfl, rfl⟩ rfl rfl rfl dX11_leftOut_9 ?_
  refine wc_topi (b2i true) (by decide) ?_
  refine wc_if_neB X 12 17 dX11_leftOut_12 (by decide) (fun c12_1 => ?_) (fun c12_1 => ?_)
  ·
    refine wc_iload_n X 17 2 dX11_leftOut_17 rfl ?_
    refine wc_i2l X 18 dX11_leftOut_18 ?_
    refine wc_lconst X 19 0 dX11_leftOut_19 (by decide) ?_
    refine wc_ldc2 X 20 213 (200) q_1027 dX11_leftOut_20 ?_
    refine wc_callS X 23 [] (c_X11_in l G ((nI k).toInt64) 0 200 ) ys_X11_in rfl q_870 ⟨rfl, rfl⟩ ⟨rfl, rfl⟩ ⟨rfl, rfl⟩ rfl rfl rfl dX11_leftOut_23 ?_
    refine wc_topi (b2i true) (congrArg b2i (inL_in (a := 0) (b := 200) rfl rfl (by omega) (by omega) (by omega))) ?_
    refine wc_if_eqB X 26 48 dX11_leftOut_26 (by decide) (fun c26_2 => ?_) (fun c26_2 => ?_)
    ·
      exact absurd c26_2 (by decide)
    ·
      refine wc_aload_n X 29 0 dX11_leftOut_29 rfl ?_
      refine wc_aload_n X 30 0 dX11_leftOut_30 rfl ?_
      refine wc_aload_n X 31 0 dX11_leftOut_31 rfl ?_
      refine wc_get X 32 0 5 kd11 rfl (by decide) q_770 rfl dX11_leftOut_32 ?_
      refine wc_iconstN X 35 1 dX11_leftOut_35 ?_
      refine wc_iload_n X 36 1 dX11_leftOut_36 rfl ?_
      refine wc_iaddN X 37 dX11_leftOut_37 ?_
      refine wc_topi (nI 1) (congrArg nI (rfl)) ?_
      refine wc_mutV X Y 38 [0, 1, 2, 3, 4, 5] [] 0 (c_X11_find l G o (nI 0) qtx ts pl qrp qpg qtr qbk dn qkp qik sn qsw qsi sd qln qfm qby qwy wz qfo qon qmn qpr qle qst qwt rc tk ps gn bd qwo qpg p ln0 fm0 bf0 wy0 1 (by first | assumption | omega) (by decide)) yv_X11_find kd11 rfl rfl (wr := []) rfl ⟨rfl, rfl, rfl⟩ q_1009 ⟨rfl, rfl⟩ ⟨rfl, rfl⟩ ⟨rfl, rfl⟩ rfl rfl rfl dX11_leftOut_38 (fun v w hp_3 => ?_)
      obtain ⟨wz2_4, ln2_5, fm2_6, bf2_7, wy2_8, rfl, rfl, hf1⟩ := hp_3
      refine wc_perm Y [0, 1, 2, 3, 4, 5] [ob o 11 [.int (nI 0), .ref qtx, .int (nI ts), .int (nI pl), .ref qrp, .ref qpg, .ref qtr, .ref qbk, .int (nI dn), .ref qkp, .ref qik, .int (nI sn), .ref qsw, .ref qsi, .long sd, .ref qln, .ref qfm, .ref qby, .ref qwy, .int (nI wz2_4), .ref qfo, .ref qon, .ref qmn, .ref qpr, .ref qle, .ref qst, .ref qwt, .int (nI rc), .int (nI tk), .int (nI ps), .int (nI gn), .int bd, .ref qwo], aI G qpg 22 (nF p), aI G qln 512 (nF ln2_5), aI G qfm 512 fm2_6, aI G qby 512 (nF bf2_7), aI G qwy 512 (nF wy2_8)] rfl rfl ?_
      show Wc Γ 0 0 41 [(0, .ref o), (1, .int (nI 0)), (2, .int (nI k))] [.int (b2i ((leastW (gz p) (p 0) (p 2) (go p) (p 1) (p 3) 1).isSome)), .ref o] [ob o 11 [.int (nI 0), .ref qtx, .int (nI ts), .int (nI pl), .ref qrp, .ref qpg, .ref qtr, .ref qbk, .int (nI dn), .ref qkp, .ref qik, .int (nI sn), .ref qsw, .ref qsi, .long sd, .ref qln, .ref qfm, .ref qby, .ref qwy, .int (nI wz2_4), .ref qfo, .ref qon, .ref qmn, .ref qpr, .ref qle, .ref qst, .ref qwt, .int (nI rc), .int (nI tk), .int (nI ps), .int (nI gn), .int bd, .ref qwo], aI G qpg 22 (nF p), aI G qln 512 (nF ln2_5), aI G qfm 512 fm2_6, aI G qby 512 (nF bf2_7), aI G qwy 512 (nF wy2_8)]
      refine wc_iload_n X 41 2 dX11_leftOut_41 rfl ?_
      refine wc_callV X 42 [0, 5] 0 (c_X11_tellWay l G o (nI 0) qtx ts pl qrp qpg qtr qbk dn qkp qik sn qsw qsi sd qln qfm qby qwy wz2_4 qfo qon qmn qpr qle qst qwt rc tk ps gn bd qwo wy2_8 ((leastW (gz p) (p 0) (p 2) (go p) (p 1) (p 3) 1).isSome) k (by first | assumption | omega) (fun z => by obtain ⟨q, hq⟩ := Option.isSome_iff_exists.mp z; have := hf1 q hq; omega)) yv_X11_tellWay kd11 rfl rfl q_1028 ⟨rfl, rfl⟩ ⟨rfl, rfl⟩ ⟨rfl, rfl⟩ rfl rfl rfl dX11_leftOut_42 ?_
      refine wc_goto X 45 50 dX11_leftOut_45 (by decide) ?_
      exact ret 50 _ (if ((leastW (gz p) (p 0) (p 2) (go p) (p 1) (p 3) 1).isSome) && decide (k ≤ wz2_4) then (if k = 0 then nI wz2_4 else nI (wy2_8 (k - 1))) else -9) _ dX11_leftOut_50 (⟨_, _, _, _, _, by rw [tell_wy hf1], rfl⟩)
  ·
    exact absurd c12_1 (by decide)

set_option maxHeartbeats 4000000 in
set_option maxRecDepth 100000 in
theorem c_X11_leftOut1 (l : Launch) (G : GG) (o : Nat) (th : Int32) (qtx ts pl qrp qpg qtr qbk dn qkp qik sn qsw qsi : Nat) (sd : Int64) (qln qfm qby qwy wz qfo qon qmn qpr qle qst qwt rc tk ps gn : Nat) (bd : Int32) (qwo : Nat) (p : Nat → Nat) (ln0 : Nat → Nat) (fm0 : Nat → Int32) (bf0 wy0 : Nat → Nat) (k : Nat) (hr : pgOk p) (hk : k ≤ 200) : MM l G yX11_leftOut (Cond.code yX11_leftOut cX11_leftOut 3 (some .int)) { frames := 4, cells := 0, slots := 0, locals := 96 } [.ref o, .int (nI 1), .int (nI k)] [ob o 11 [.int th, .ref qtx, .int (nI ts), .int (nI pl), .ref qrp, .ref qpg, .ref qtr, .ref qbk, .int (nI dn), .ref qkp, .ref qik, .int (nI sn), .ref qsw, .ref qsi, .long sd, .ref qln, .ref qfm, .ref qby, .ref qwy, .int (nI wz), .ref qfo, .ref qon, .ref qmn, .ref qpr, .ref qle, .ref qst, .ref qwt, .int (nI rc), .int (nI tk), .int (nI ps), .int (nI gn), .int bd, .ref qwo], aI G qpg 22 (nF p), aI G qln 512 (nF ln0), aI G qfm 512 fm0, aI G qby 512 (nF bf0), aI G qwy 512 (nF wy0)] (fun (v : Option Value) (w : va_W) => ∃ (wz2 : Nat) (ln2 : Nat → Nat) (fm2 : Nat → Int32) (bf2 wy2 : Nat → Nat), v = some (.int (tellW (leastW (gz p) (p 0) (p 2) (go p) (p 1) (p 3) 2) k)) ∧ w = [ob o 11 [.int (nI 0), .ref qtx, .int (nI ts), .int (nI pl), .ref qrp, .ref qpg, .ref qtr, .ref qbk, .int (nI dn), .ref qkp, .ref qik, .int (nI sn), .ref qsw, .ref qsi, .long sd, .ref qln, .ref qfm, .ref qby, .ref qwy, .int (nI wz2), .ref qfo, .ref qon, .ref qmn, .ref qpr, .ref qle, .ref qst, .ref qwt, .int (nI rc), .int (nI tk), .int (nI ps), .int (nI gn), .int bd, .ref qwo], aI G qpg 22 (nF p), aI G qln 512 (nF ln2), aI G qfm 512 fm2, aI G qby 512 (nF bf2), aI G qwy 512 (nF wy2)]) 0 0 := by
  refine MM.ofI (by decide) rfl (fun Γ X Y hnm ret => ?_)
  show Wc Γ 0 0 0 [(0, .ref o), (1, .int (nI 1)), (2, .int (nI k))] [] [ob o 11 [.int th, .ref qtx, .int (nI ts), .int (nI pl), .ref qrp, .ref qpg, .ref qtr, .ref qbk, .int (nI dn), .ref qkp, .ref qik, .int (nI sn), .ref qsw, .ref qsi, .long sd, .ref qln, .ref qfm, .ref qby, .ref qwy, .int (nI wz), .ref qfo, .ref qon, .ref qmn, .ref qpr, .ref qle, .ref qst, .ref qwt, .int (nI rc), .int (nI tk), .int (nI ps), .int (nI gn), .int bd, .ref qwo], aI G qpg 22 (nF p), aI G qln 512 (nF ln0), aI G qfm 512 fm0, aI G qby 512 (nF bf0), aI G qwy 512 (nF wy0)]
  refine wc_aload_n X 0 0 dX11_leftOut_0 rfl ?_
  refine wc_iconstN X 1 0 dX11_leftOut_1 ?_
  refine wc_put X Y 2 0 0 kd11 rfl (by decide) q_765 rfl rfl rfl (Nat.le_of_ble_eq_true rfl) (ws' := [ob o 11 [.int (nI 0), .ref qtx, .int (nI ts), .int (nI pl), .ref qrp, .ref qpg, .ref qtr, .ref qbk, .int (nI dn), .ref qkp, .ref qik, .int (nI sn), .ref qsw, .ref qsi, .long sd, .ref qln, .ref qfm, .ref qby, .ref qwy, .int (nI wz), .ref qfo, .ref qon, .ref qmn, .ref qpr, .ref qle, .ref qst, .ref qwt, .int (nI rc), .int (nI tk), .int (nI ps), .int (nI gn), .int bd, .ref qwo], aI G qpg 22 (nF p), aI G qln 512 (nF ln0), aI G qfm 512 fm0, aI G qby 512 (nF bf0), aI G qwy 512 (nF wy0)]) rfl dX11_leftOut_2 ?_
  refine wc_iload_n X 5 1 dX11_leftOut_5 rfl ?_
  refine wc_i2l X 6 dX11_leftOut_6 ?_
  refine wc_lconst X 7 0 dX11_leftOut_7 (by decide) ?_
  refine wc_lconst X 8 1 dX11_leftOut_8 (by decide) ?_
  refine wc_callS X 9 [] (c_X11_in l G ((nI 1).toInt64) 0 1 ) ys_X11_in rfl q_870 ⟨rfl, rfl⟩ ⟨rfl, rfl⟩ ⟨rfl, rfl⟩ rfl rfl rfl dX11_leftOut_9 ?_
  refine wc_topi (b2i true) (by decide) ?_
  refine wc_if_neB X 12 17 dX11_leftOut_12 (by decide) (fun c12_1 => ?_) (fun c12_1 => ?_)
  ·
    refine wc_iload_n X 17 2 dX11_leftOut_17 rfl ?_
    refine wc_i2l X 18 dX11_leftOut_18 ?_
    refine wc_lconst X 19 0 dX11_leftOut_19 (by decide) ?_
    refine wc_ldc2 X 20 213 (200) q_1027 dX11_leftOut_20 ?_
    refine wc_callS X 23 [] (c_X11_in l G ((nI k).toInt64) 0 200 ) ys_X11_in rfl q_870 ⟨rfl, rfl⟩ ⟨rfl, rfl⟩ ⟨rfl, rfl⟩ rfl rfl rfl dX11_leftOut_23 ?_
    refine wc_topi (b2i true) (congrArg b2i (inL_in (a := 0) (b := 200) rfl rfl (by omega) (by omega) (by omega))) ?_
    refine wc_if_eqB X 26 48 dX11_leftOut_26 (by decide) (fun c26_2 => ?_) (fun c26_2 => ?_)
    ·
      exact absurd c26_2 (by decide)
    ·
      refine wc_aload_n X 29 0 dX11_leftOut_29 rfl ?_
      refine wc_aload_n X 30 0 dX11_leftOut_30 rfl ?_
      refine wc_aload_n X 31 0 dX11_leftOut_31 rfl ?_
      refine wc_get X 32 0 5 kd11 rfl (by decide) q_770 rfl dX11_leftOut_32 ?_
      refine wc_iconstN X 35 1 dX11_leftOut_35 ?_
      refine wc_iload_n X 36 1 dX11_leftOut_36 rfl ?_
      refine wc_iaddN X 37 dX11_leftOut_37 ?_
      refine wc_topi (nI 2) (congrArg nI (rfl)) ?_
      refine wc_mutV X Y 38 [0, 1, 2, 3, 4, 5] [] 0 (c_X11_find l G o (nI 0) qtx ts pl qrp qpg qtr qbk dn qkp qik sn qsw qsi sd qln qfm qby qwy wz qfo qon qmn qpr qle qst qwt rc tk ps gn bd qwo qpg p ln0 fm0 bf0 wy0 2 (by first | assumption | omega) (by decide)) yv_X11_find kd11 rfl rfl (wr := []) rfl ⟨rfl, rfl, rfl⟩ q_1009 ⟨rfl, rfl⟩ ⟨rfl, rfl⟩ ⟨rfl, rfl⟩ rfl rfl rfl dX11_leftOut_38 (fun v w hp_3 => ?_)
      obtain ⟨wz2_4, ln2_5, fm2_6, bf2_7, wy2_8, rfl, rfl, hf1⟩ := hp_3
      refine wc_perm Y [0, 1, 2, 3, 4, 5] [ob o 11 [.int (nI 0), .ref qtx, .int (nI ts), .int (nI pl), .ref qrp, .ref qpg, .ref qtr, .ref qbk, .int (nI dn), .ref qkp, .ref qik, .int (nI sn), .ref qsw, .ref qsi, .long sd, .ref qln, .ref qfm, .ref qby, .ref qwy, .int (nI wz2_4), .ref qfo, .ref qon, .ref qmn, .ref qpr, .ref qle, .ref qst, .ref qwt, .int (nI rc), .int (nI tk), .int (nI ps), .int (nI gn), .int bd, .ref qwo], aI G qpg 22 (nF p), aI G qln 512 (nF ln2_5), aI G qfm 512 fm2_6, aI G qby 512 (nF bf2_7), aI G qwy 512 (nF wy2_8)] rfl rfl ?_
      show Wc Γ 0 0 41 [(0, .ref o), (1, .int (nI 1)), (2, .int (nI k))] [.int (b2i ((leastW (gz p) (p 0) (p 2) (go p) (p 1) (p 3) 2).isSome)), .ref o] [ob o 11 [.int (nI 0), .ref qtx, .int (nI ts), .int (nI pl), .ref qrp, .ref qpg, .ref qtr, .ref qbk, .int (nI dn), .ref qkp, .ref qik, .int (nI sn), .ref qsw, .ref qsi, .long sd, .ref qln, .ref qfm, .ref qby, .ref qwy, .int (nI wz2_4), .ref qfo, .ref qon, .ref qmn, .ref qpr, .ref qle, .ref qst, .ref qwt, .int (nI rc), .int (nI tk), .int (nI ps), .int (nI gn), .int bd, .ref qwo], aI G qpg 22 (nF p), aI G qln 512 (nF ln2_5), aI G qfm 512 fm2_6, aI G qby 512 (nF bf2_7), aI G qwy 512 (nF wy2_8)]
      refine wc_iload_n X 41 2 dX11_leftOut_41 rfl ?_
      refine wc_callV X 42 [0, 5] 0 (c_X11_tellWay l G o (nI 0) qtx ts pl qrp qpg qtr qbk dn qkp qik sn qsw qsi sd qln qfm qby qwy wz2_4 qfo qon qmn qpr qle qst qwt rc tk ps gn bd qwo wy2_8 ((leastW (gz p) (p 0) (p 2) (go p) (p 1) (p 3) 2).isSome) k (by first | assumption | omega) (fun z => by obtain ⟨q, hq⟩ := Option.isSome_iff_exists.mp z; have := hf1 q hq; omega)) yv_X11_tellWay kd11 rfl rfl q_1028 ⟨rfl, rfl⟩ ⟨rfl, rfl⟩ ⟨rfl, rfl⟩ rfl rfl rfl dX11_leftOut_42 ?_
      refine wc_goto X 45 50 dX11_leftOut_45 (by decide) ?_
      exact ret 50 _ (if ((leastW (gz p) (p 0) (p 2) (go p) (p 1) (p 3) 2).isSome) && decide (k ≤ wz2_4) then (if k = 0 then nI wz2_4 else nI (wy2_8 (k - 1))) else -9) _ dX11_leftOut_50 (⟨_, _, _, _, _, by rw [tell_wy hf1], rfl⟩)
  ·
    exact absurd c12_1 (by decide)

set_option maxHeartbeats 4000000 in
set_option maxRecDepth 100000 in
theorem c_X11_followsF (l : Launch) (G : GG) (o : Nat) (th : Int32) (qtx ts pl qrp qpg qtr qbk dn qkp qik sn qsw qsi : Nat) (sd : Int64) (qln qfm qby qwy wz qfo qon qmn qpr qle qst qwt rc tk ps gn : Nat) (bd : Int32) (qwo : Nat) (p : Nat → Nat) (m i mm j : Int32) (hr : pgOk p) (hb : (stOf (p 0) (p 1) m i && stOf (p 0) (p 1) mm j) = false) : MM l G yX11_follows (Cond.code yX11_follows cX11_follows 5 (some .int)) { frames := 2, cells := 0, slots := 0, locals := 47 } [.ref o, .int m, .int i, .int mm, .int j] [ob o 11 [.int th, .ref qtx, .int (nI ts), .int (nI pl), .ref qrp, .ref qpg, .ref qtr, .ref qbk, .int (nI dn), .ref qkp, .ref qik, .int (nI sn), .ref qsw, .ref qsi, .long sd, .ref qln, .ref qfm, .ref qby, .ref qwy, .int (nI wz), .ref qfo, .ref qon, .ref qmn, .ref qpr, .ref qle, .ref qst, .ref qwt, .int (nI rc), .int (nI tk), .int (nI ps), .int (nI gn), .int bd, .ref qwo], aI G qpg 22 (nF p)] (fun (v : Option Value) (w : va_W) => v = some (.int (-1)) ∧ w = [ob o 11 [.int (nI 0), .ref qtx, .int (nI ts), .int (nI pl), .ref qrp, .ref qpg, .ref qtr, .ref qbk, .int (nI dn), .ref qkp, .ref qik, .int (nI sn), .ref qsw, .ref qsi, .long sd, .ref qln, .ref qfm, .ref qby, .ref qwy, .int (nI wz), .ref qfo, .ref qon, .ref qmn, .ref qpr, .ref qle, .ref qst, .ref qwt, .int (nI rc), .int (nI tk), .int (nI ps), .int (nI gn), .int bd, .ref qwo], aI G qpg 22 (nF p)]) 0 0 := by
  refine MM.ofI (by decide) rfl (fun Γ X Y hnm ret => ?_)
  show Wc Γ 0 0 0 [(0, .ref o), (1, .int m), (2, .int i), (3, .int mm), (4, .int j)] [] [ob o 11 [.int th, .ref qtx, .int (nI ts), .int (nI pl), .ref qrp, .ref qpg, .ref qtr, .ref qbk, .int (nI dn), .ref qkp, .ref qik, .int (nI sn), .ref qsw, .ref qsi, .long sd, .ref qln, .ref qfm, .ref qby, .ref qwy, .int (nI wz), .ref qfo, .ref qon, .ref qmn, .ref qpr, .ref qle, .ref qst, .ref qwt, .int (nI rc), .int (nI tk), .int (nI ps), .int (nI gn), .int bd, .ref qwo], aI G qpg 22 (nF p)]
  refine wc_aload_n X 0 0 dX11_follows_0 rfl ?_
  refine wc_iconstN X 1 0 dX11_follows_1 ?_
  refine wc_put X Y 2 0 0 kd11 rfl (by decide) q_765 rfl rfl rfl (Nat.le_of_ble_eq_true rfl) (ws' := [ob o 11 [.int (nI 0), .ref qtx, .int (nI ts), .int (nI pl), .ref qrp, .ref qpg, .ref qtr, .ref qbk, .int (nI dn), .ref qkp, .ref qik, .int (nI sn), .ref qsw, .ref qsi, .long sd, .ref qln, .ref qfm, .ref qby, .ref qwy, .int (nI wz), .ref qfo, .ref qon, .ref qmn, .ref qpr, .ref qle, .ref qst, .ref qwt, .int (nI rc), .int (nI tk), .int (nI ps), .int (nI gn), .int bd, .ref qwo], aI G qpg 22 (nF p)]) rfl dX11_follows_2 ?_
  refine wc_aload_n X 5 0 dX11_follows_5 rfl ?_
  refine wc_iload_n X 6 1 dX11_follows_6 rfl ?_
  refine wc_iload_n X 7 2 dX11_follows_7 rfl ?_
  refine wc_callV X 8 [0, 1] 0 (c_X11_noState l G o (nI 0) qtx ts pl qrp qpg qtr qbk dn qkp qik sn qsw qsi sd qln qfm qby qwy wz qfo qon qmn qpr qle qst qwt rc tk ps gn bd qwo p m i (by first | assumption | omega)) yv_X11_noState kd11 rfl rfl q_941 ⟨rfl, rfl⟩ ⟨rfl, rfl⟩ ⟨rfl, rfl⟩ rfl rfl rfl dX11_follows_8 ?_
  refine wc_if_neB X 11 24 dX11_follows_11 (by decide) (fun c11_1 => ?_) (fun c11_1 => ?_)
  ·
    refine wc_iconst X 24 (-1) dX11_follows_24 (by decide) ?_
    exact ret 25 _ (-1) _ dX11_follows_25 (⟨rfl, rfl⟩)
  ·
    refine wc_aload_n X 14 0 dX11_follows_14 rfl ?_
    refine wc_iload_n X 15 3 dX11_follows_15 rfl ?_
    refine wc_iload X 16 4 dX11_follows_16 rfl ?_
    refine wc_callV X 18 [0, 1] 0 (c_X11_noState l G o (nI 0) qtx ts pl qrp qpg qtr qbk dn qkp qik sn qsw qsi sd qln qfm qby qwy wz qfo qon qmn qpr qle qst qwt rc tk ps gn bd qwo p mm j (by first | assumption | omega)) yv_X11_noState kd11 rfl rfl q_941 ⟨rfl, rfl⟩ ⟨rfl, rfl⟩ ⟨rfl, rfl⟩ rfl rfl rfl dX11_follows_18 ?_
    refine wc_if_eqB X 21 26 dX11_follows_21 (by decide) (fun c21_2 => ?_) (fun c21_2 => ?_)
    ·
      exact absurd hb (by rw [ns_f c11_1, ns_f c21_2]; decide)
    ·
      refine wc_iconst X 24 (-1) dX11_follows_24 (by decide) ?_
      exact ret 25 _ (-1) _ dX11_follows_25 (⟨rfl, rfl⟩)

set_option maxHeartbeats 4000000 in
set_option maxRecDepth 100000 in
theorem c_X11_followsS (l : Launch) (G : GG) (o : Nat) (th : Int32) (qtx ts pl qrp qpg qtr qbk dn qkp qik sn qsw qsi : Nat) (sd : Int64) (qln qfm qby qwy wz qfo qon qmn qpr qle qst qwt rc tk ps gn : Nat) (bd : Int32) (qwo : Nat) (p : Nat → Nat) (fo : Nat → Bool) (m i mm j : Nat) (hr : pgOk p) (hm : m < 2) (hi : i < p m) (hmm : mm < 2) (hj : j < p mm) : MM l G yX11_follows (Cond.code yX11_follows cX11_follows 5 (some .int)) { frames := 4, cells := 0, slots := 0, locals := 96 } [.ref o, .int (nI m), .int (nI i), .int (nI mm), .int (nI j)] [ob o 11 [.int th, .ref qtx, .int (nI ts), .int (nI pl), .ref qrp, .ref qpg, .ref qtr, .ref qbk, .int (nI dn), .ref qkp, .ref qik, .int (nI sn), .ref qsw, .ref qsi, .long sd, .ref qln, .ref qfm, .ref qby, .ref qwy, .int (nI wz), .ref qfo, .ref qon, .ref qmn, .ref qpr, .ref qle, .ref qst, .ref qwt, .int (nI rc), .int (nI tk), .int (nI ps), .int (nI gn), .int bd, .ref qwo], aI G qpg 22 (nF p), aZ G qfo 81 (bF fo)] (fun (v : Option Value) (w : va_W) => ∃ (fo2 : Nat → Bool), v = some (.int (nI ((folB (gz p) (p 0) (p 2) (go p) (p 1) (p 3) (4 * m + i) (4 * mm + j)).toNat))) ∧ w = [ob o 11 [.int (nI 0), .ref qtx, .int (nI ts), .int (nI pl), .ref qrp, .ref qpg, .ref qtr, .ref qbk, .int (nI dn), .ref qkp, .ref qik, .int (nI sn), .ref qsw, .ref qsi, .long sd, .ref qln, .ref qfm, .ref qby, .ref qwy, .int (nI wz), .ref qfo, .ref qon, .ref qmn, .ref qpr, .ref qle, .ref qst, .ref qwt, .int (nI rc), .int (nI tk), .int (nI ps), .int (nI gn), .int bd, .ref qwo], aI G qpg 22 (nF p), aZ G qfo 81 (bF fo2)]) 0 0 := by
  refine MM.ofI (by decide) rfl (fun Γ X Y hnm ret => ?_)
  show Wc Γ 0 0 0 [(0, .ref o), (1, .int (nI m)), (2, .int (nI i)), (3, .int (nI mm)), (4, .int (nI j))] [] [ob o 11 [.int th, .ref qtx, .int (nI ts), .int (nI pl), .ref qrp, .ref qpg, .ref qtr, .ref qbk, .int (nI dn), .ref qkp, .ref qik, .int (nI sn), .ref qsw, .ref qsi, .long sd, .ref qln, .ref qfm, .ref qby, .ref qwy, .int (nI wz), .ref qfo, .ref qon, .ref qmn, .ref qpr, .ref qle, .ref qst, .ref qwt, .int (nI rc), .int (nI tk), .int (nI ps), .int (nI gn), .int bd, .ref qwo], aI G qpg 22 (nF p), aZ G qfo 81 (bF fo)]
  have hx9 := st9 hr hm hi
  have hy9 := st9 hr hmm hj
  refine wc_aload_n X 0 0 dX11_follows_0 rfl ?_
  refine wc_iconstN X 1 0 dX11_follows_1 ?_
  refine wc_put X Y 2 0 0 kd11 rfl (by decide) q_765 rfl rfl rfl (Nat.le_of_ble_eq_true rfl) (ws' := [ob o 11 [.int (nI 0), .ref qtx, .int (nI ts), .int (nI pl), .ref qrp, .ref qpg, .ref qtr, .ref qbk, .int (nI dn), .ref qkp, .ref qik, .int (nI sn), .ref qsw, .ref qsi, .long sd, .ref qln, .ref qfm, .ref qby, .ref qwy, .int (nI wz), .ref qfo, .ref qon, .ref qmn, .ref qpr, .ref qle, .ref qst, .ref qwt, .int (nI rc), .int (nI tk), .int (nI ps), .int (nI gn), .int bd, .ref qwo], aI G qpg 22 (nF p), aZ G qfo 81 (bF fo)]) rfl dX11_follows_2 ?_
  refine wc_aload_n X 5 0 dX11_follows_5 rfl ?_
  refine wc_iload_n X 6 1 dX11_follows_6 rfl ?_
  refine wc_iload_n X 7 2 dX11_follows_7 rfl ?_
  refine wc_callV X 8 [0, 1] 0 (c_X11_noState l G o (nI 0) qtx ts pl qrp qpg qtr qbk dn qkp qik sn qsw qsi sd qln qfm qby qwy wz qfo qon qmn qpr qle qst qwt rc tk ps gn bd qwo p (nI m) (nI i) (by first | assumption | omega)) yv_X11_noState kd11 rfl rfl q_941 ⟨rfl, rfl⟩ ⟨rfl, rfl⟩ ⟨rfl, rfl⟩ rfl rfl rfl dX11_follows_8 ?_
  refine wc_topi (b2i false) (congrArg b2i (by rw [stO_p hr hm hi]; rfl)) ?_
  refine wc_if_neB X 11 24 dX11_follows_11 (by decide) (fun c11_1 => ?_) (fun c11_1 => ?_)
  ·
    exact absurd c11_1 (by decide)
  ·
    refine wc_aload_n X 14 0 dX11_follows_14 rfl ?_
    refine wc_iload_n X 15 3 dX11_follows_15 rfl ?_
    refine wc_iload X 16 4 dX11_follows_16 rfl ?_
    refine wc_callV X 18 [0, 1] 0 (c_X11_noState l G o (nI 0) qtx ts pl qrp qpg qtr qbk dn qkp qik sn qsw qsi sd qln qfm qby qwy wz qfo qon qmn qpr qle qst qwt rc tk ps gn bd qwo p (nI mm) (nI j) (by first | assumption | omega)) yv_X11_noState kd11 rfl rfl q_941 ⟨rfl, rfl⟩ ⟨rfl, rfl⟩ ⟨rfl, rfl⟩ rfl rfl rfl dX11_follows_18 ?_
    refine wc_topi (b2i false) (congrArg b2i (by rw [stO_p hr hmm hj]; rfl)) ?_
    refine wc_if_eqB X 21 26 dX11_follows_21 (by decide) (fun c21_2 => ?_) (fun c21_2 => ?_)
    ·
      refine wc_aload_n X 26 0 dX11_follows_26 rfl ?_
      refine wc_aload_n X 27 0 dX11_follows_27 rfl ?_
      refine wc_get X 28 0 5 kd11 rfl (by decide) q_770 rfl dX11_follows_28 ?_
      refine wc_mutV X Y 31 [0, 1, 2] [] 0 (c_X11_findFollows l G o (nI 0) qtx ts pl qrp qpg qtr qbk dn qkp qik sn qsw qsi sd qln qfm qby qwy wz qfo qon qmn qpr qle qst qwt rc tk ps gn bd qwo qpg p fo (by first | assumption | omega)) yv_X11_findFollows kd11 rfl rfl (wr := []) rfl ⟨rfl, rfl, rfl⟩ q_1040 ⟨rfl, rfl⟩ ⟨rfl, rfl⟩ ⟨rfl, rfl⟩ rfl rfl rfl dX11_follows_31 (fun v w hp_3 => ?_)
      obtain ⟨fo2_4, rfl, rfl, hfo⟩ := hp_3
      refine wc_perm Y [0, 1, 2] [ob o 11 [.int (nI 0), .ref qtx, .int (nI ts), .int (nI pl), .ref qrp, .ref qpg, .ref qtr, .ref qbk, .int (nI dn), .ref qkp, .ref qik, .int (nI sn), .ref qsw, .ref qsi, .long sd, .ref qln, .ref qfm, .ref qby, .ref qwy, .int (nI wz), .ref qfo, .ref qon, .ref qmn, .ref qpr, .ref qle, .ref qst, .ref qwt, .int (nI rc), .int (nI tk), .int (nI ps), .int (nI gn), .int bd, .ref qwo], aI G qpg 22 (nF p), aZ G qfo 81 (bF fo2_4)] rfl rfl ?_
      show Wc Γ 0 0 34 [(0, .ref o), (1, .int (nI m)), (2, .int (nI i)), (3, .int (nI mm)), (4, .int (nI j))] [] [ob o 11 [.int (nI 0), .ref qtx, .int (nI ts), .int (nI pl), .ref qrp, .ref qpg, .ref qtr, .ref qbk, .int (nI dn), .ref qkp, .ref qik, .int (nI sn), .ref qsw, .ref qsi, .long sd, .ref qln, .ref qfm, .ref qby, .ref qwy, .int (nI wz), .ref qfo, .ref qon, .ref qmn, .ref qpr, .ref qle, .ref qst, .ref qwt, .int (nI rc), .int (nI tk), .int (nI ps), .int (nI gn), .int bd, .ref qwo], aI G qpg 22 (nF p), aZ G qfo 81 (bF fo2_4)]
      refine wc_aload_n X 34 0 dX11_follows_34 rfl ?_
      refine wc_get X 35 0 20 kd11 rfl (by decide) q_785 rfl dX11_follows_35 ?_
      refine wc_bipush X 38 (nI 9) dX11_follows_38 (by decide) ?_
      refine wc_iconstN X 40 4 dX11_follows_40 ?_
      refine wc_iload_n X 41 1 dX11_follows_41 rfl ?_
      refine wc_imulN X 42 dX11_follows_42 ?_
      refine wc_iload_n X 43 2 dX11_follows_43 rfl ?_
      refine wc_iaddN X 44 dX11_follows_44 ?_
      refine wc_imulN X 45 dX11_follows_45 ?_
      refine wc_iconstN X 46 4 dX11_follows_46 ?_
      refine wc_iload_n X 47 3 dX11_follows_47 rfl ?_
      refine wc_imulN X 48 dX11_follows_48 ?_
      refine wc_iaddN X 49 dX11_follows_49 ?_
      refine wc_iload X 50 4 dX11_follows_50 rfl ?_
      refine wc_iaddN X 52 dX11_follows_52 ?_
      refine wc_zaldG X 53 2 rfl (by omega) (by decide) dX11_follows_53 ?_
      refine wc_topi (b2i (folB (gz p) (p 0) (p 2) (go p) (p 1) (p 3) (4 * m + i) (4 * mm + j))) (congrArg b2i (by rw [Nat.add_assoc]; exact hfo _ _ hx9 hy9)) ?_
      refine wc_if_eqB X 54 61 dX11_follows_54 (by decide) (fun c54_5 => ?_) (fun c54_5 => ?_)
      ·
        refine wc_iconstN X 61 0 dX11_follows_61 ?_
        exact ret 62 _ (nI 0) _ dX11_follows_62 (⟨_, by rw [c54_5]; rfl, rfl⟩)
      ·
        refine wc_iconstN X 57 1 dX11_follows_57 ?_
        refine wc_goto X 58 62 dX11_follows_58 (by decide) ?_
        exact ret 62 _ (nI 1) _ dX11_follows_62 (⟨_, by rw [c54_5]; rfl, rfl⟩)
    ·
      exact absurd c21_2 (by decide)

set_option maxHeartbeats 4000000 in
set_option maxRecDepth 100000 in
theorem c_X11_searchF (l : Launch) (G : GG) (o : Nat) (th : Int32) (qtx ts pl qrp qpg qtr qbk dn qkp qik sn qsw qsi : Nat) (sd : Int64) (qln qfm qby qwy wz qfo qon qmn qpr qle qst qwt rc tk ps gn : Nat) (bd : Int32) (qwo : Nat) (md k : Int32) (ho : outR md 0 2 ∨ outR k 0 4) : MM l G yX11_search (Cond.code yX11_search cX11_search 3 (some .int)) { frames := 1, cells := 0, slots := 0, locals := 25 } [.ref o, .int md, .int k] [ob o 11 [.int th, .ref qtx, .int (nI ts), .int (nI pl), .ref qrp, .ref qpg, .ref qtr, .ref qbk, .int (nI dn), .ref qkp, .ref qik, .int (nI sn), .ref qsw, .ref qsi, .long sd, .ref qln, .ref qfm, .ref qby, .ref qwy, .int (nI wz), .ref qfo, .ref qon, .ref qmn, .ref qpr, .ref qle, .ref qst, .ref qwt, .int (nI rc), .int (nI tk), .int (nI ps), .int (nI gn), .int bd, .ref qwo]] (fun (v : Option Value) (w : va_W) => v = some (.int (-2)) ∧ w = [ob o 11 [.int (nI 0), .ref qtx, .int (nI ts), .int (nI pl), .ref qrp, .ref qpg, .ref qtr, .ref qbk, .int (nI dn), .ref qkp, .ref qik, .int (nI sn), .ref qsw, .ref qsi, .long sd, .ref qln, .ref qfm, .ref qby, .ref qwy, .int (nI wz), .ref qfo, .ref qon, .ref qmn, .ref qpr, .ref qle, .ref qst, .ref qwt, .int (nI rc), .int (nI tk), .int (nI ps), .int (nI gn), .int bd, .ref qwo]]) 0 0 := by
  refine MM.ofI (by decide) rfl (fun Γ X Y hnm ret => ?_)
  show Wc Γ 0 0 0 [(0, .ref o), (1, .int md), (2, .int k)] [] [ob o 11 [.int th, .ref qtx, .int (nI ts), .int (nI pl), .ref qrp, .ref qpg, .ref qtr, .ref qbk, .int (nI dn), .ref qkp, .ref qik, .int (nI sn), .ref qsw, .ref qsi, .long sd, .ref qln, .ref qfm, .ref qby, .ref qwy, .int (nI wz), .ref qfo, .ref qon, .ref qmn, .ref qpr, .ref qle, .ref qst, .ref qwt, .int (nI rc), .int (nI tk), .int (nI ps), .int (nI gn), .int bd, .ref qwo]]
  refine wc_aload_n X 0 0 dX11_search_0 rfl ?_
  refine wc_iconstN X 1 0 dX11_search_1 ?_
  refine wc_put X Y 2 0 0 kd11 rfl (by decide) q_765 rfl rfl rfl (Nat.le_of_ble_eq_true rfl) (ws' := [ob o 11 [.int (nI 0), .ref qtx, .int (nI ts), .int (nI pl), .ref qrp, .ref qpg, .ref qtr, .ref qbk, .int (nI dn), .ref qkp, .ref qik, .int (nI sn), .ref qsw, .ref qsi, .long sd, .ref qln, .ref qfm, .ref qby, .ref qwy, .int (nI wz), .ref qfo, .ref qon, .ref qmn, .ref qpr, .ref qle, .ref qst, .ref qwt, .int (nI rc), .int (nI tk), .int (nI ps), .int (nI gn), .int bd, .ref qwo]]) rfl dX11_search_2 ?_
  refine wc_iload_n X 5 1 dX11_search_5 rfl ?_
  refine wc_i2l X 6 dX11_search_6 ?_
  refine wc_lconst X 7 0 dX11_search_7 (by decide) ?_
  refine wc_ldc2 X 8 149 (2) q_945 dX11_search_8 ?_
  refine wc_callS X 11 [] (c_X11_in l G ((md).toInt64) 0 2 ) ys_X11_in rfl q_870 ⟨rfl, rfl⟩ ⟨rfl, rfl⟩ ⟨rfl, rfl⟩ rfl rfl rfl dX11_search_11 ?_
  refine wc_if_eqB X 14 29 dX11_search_14 (by decide) (fun c14_1 => ?_) (fun c14_1 => ?_)
  ·
    refine wc_bipush X 29 (-2) dX11_search_29 (by decide) ?_
    exact ret 31 _ (-2) _ dX11_search_31 (⟨rfl, rfl⟩)
  ·
    refine wc_iload_n X 17 2 dX11_search_17 rfl ?_
    refine wc_i2l X 18 dX11_search_18 ?_
    refine wc_lconst X 19 0 dX11_search_19 (by decide) ?_
    refine wc_ldc2 X 20 273 (4) q_1061 dX11_search_20 ?_
    refine wc_callS X 23 [] (c_X11_in l G ((k).toInt64) 0 4 ) ys_X11_in rfl q_870 ⟨rfl, rfl⟩ ⟨rfl, rfl⟩ ⟨rfl, rfl⟩ rfl rfl rfl dX11_search_23 ?_
    refine wc_if_neB X 26 32 dX11_search_26 (by decide) (fun c26_2 => ?_) (fun c26_2 => ?_)
    ·
      rcases ho with ho | ho
      · exact absurd c14_1 (by rw [inL_out rfl rfl ho]; decide)
      · exact absurd c26_2 (by rw [inL_out rfl rfl ho]; decide)
    ·
      refine wc_bipush X 29 (-2) dX11_search_29 (by decide) ?_
      exact ret 31 _ (-2) _ dX11_search_31 (⟨rfl, rfl⟩)

set_option maxHeartbeats 4000000 in
set_option maxRecDepth 100000 in
theorem c_X11_foundF (l : Launch) (G : GG) (o : Nat) (th : Int32) (qtx ts pl qrp qpg qtr qbk dn qkp qik sn qsw qsi : Nat) (sd : Int64) (qln qfm qby qwy wz qfo qon qmn qpr qle qst qwt rc tk ps gn : Nat) (bd : Int32) (qwo : Nat) (md k : Int32) (ho : outR md 0 2 ∨ outR k 0 200) : MM l G yX11_found (Cond.code yX11_found cX11_found 6 (some .int)) { frames := 1, cells := 0, slots := 0, locals := 25 } [.ref o, .int md, .int k] [ob o 11 [.int th, .ref qtx, .int (nI ts), .int (nI pl), .ref qrp, .ref qpg, .ref qtr, .ref qbk, .int (nI dn), .ref qkp, .ref qik, .int (nI sn), .ref qsw, .ref qsi, .long sd, .ref qln, .ref qfm, .ref qby, .ref qwy, .int (nI wz), .ref qfo, .ref qon, .ref qmn, .ref qpr, .ref qle, .ref qst, .ref qwt, .int (nI rc), .int (nI tk), .int (nI ps), .int (nI gn), .int bd, .ref qwo]] (fun (v : Option Value) (w : va_W) => v = some (.int (-2)) ∧ w = [ob o 11 [.int (nI 0), .ref qtx, .int (nI ts), .int (nI pl), .ref qrp, .ref qpg, .ref qtr, .ref qbk, .int (nI dn), .ref qkp, .ref qik, .int (nI sn), .ref qsw, .ref qsi, .long sd, .ref qln, .ref qfm, .ref qby, .ref qwy, .int (nI wz), .ref qfo, .ref qon, .ref qmn, .ref qpr, .ref qle, .ref qst, .ref qwt, .int (nI rc), .int (nI tk), .int (nI ps), .int (nI gn), .int bd, .ref qwo]]) 0 0 := by
  refine MM.ofI (by decide) rfl (fun Γ X Y hnm ret => ?_)
  show Wc Γ 0 0 0 [(0, .ref o), (1, .int md), (2, .int k)] [] [ob o 11 [.int th, .ref qtx, .int (nI ts), .int (nI pl), .ref qrp, .ref qpg, .ref qtr, .ref qbk, .int (nI dn), .ref qkp, .ref qik, .int (nI sn), .ref qsw, .ref qsi, .long sd, .ref qln, .ref qfm, .ref qby, .ref qwy, .int (nI wz), .ref qfo, .ref qon, .ref qmn, .ref qpr, .ref qle, .ref qst, .ref qwt, .int (nI rc), .int (nI tk), .int (nI ps), .int (nI gn), .int bd, .ref qwo]]
  refine wc_aload_n X 0 0 dX11_found_0 rfl ?_
  refine wc_iconstN X 1 0 dX11_found_1 ?_
  refine wc_put X Y 2 0 0 kd11 rfl (by decide) q_765 rfl rfl rfl (Nat.le_of_ble_eq_true rfl) (ws' := [ob o 11 [.int (nI 0), .ref qtx, .int (nI ts), .int (nI pl), .ref qrp, .ref qpg, .ref qtr, .ref qbk, .int (nI dn), .ref qkp, .ref qik, .int (nI sn), .ref qsw, .ref qsi, .long sd, .ref qln, .ref qfm, .ref qby, .ref qwy, .int (nI wz), .ref qfo, .ref qon, .ref qmn, .ref qpr, .ref qle, .ref qst, .ref qwt, .int (nI rc), .int (nI tk), .int (nI ps), .int (nI gn), .int bd, .ref qwo]]) rfl dX11_found_2 ?_
  refine wc_iload_n X 5 1 dX11_found_5 rfl ?_
  refine wc_i2l X 6 dX11_found_6 ?_
  refine wc_lconst X 7 0 dX11_found_7 (by decide) ?_
  refine wc_ldc2 X 8 149 (2) q_945 dX11_found_8 ?_
  refine wc_callS X 11 [] (c_X11_in l G ((md).toInt64) 0 2 ) ys_X11_in rfl q_870 ⟨rfl, rfl⟩ ⟨rfl, rfl⟩ ⟨rfl, rfl⟩ rfl rfl rfl dX11_found_11 ?_
  refine wc_if_eqB X 14 29 dX11_found_14 (by decide) (fun c14_1 => ?_) (fun c14_1 => ?_)
  ·
    refine wc_bipush X 29 (-2) dX11_found_29 (by decide) ?_
    exact ret 31 _ (-2) _ dX11_found_31 (⟨rfl, rfl⟩)
  ·
    refine wc_iload_n X 17 2 dX11_found_17 rfl ?_
    refine wc_i2l X 18 dX11_found_18 ?_
    refine wc_lconst X 19 0 dX11_found_19 (by decide) ?_
    refine wc_ldc2 X 20 213 (200) q_1027 dX11_found_20 ?_
    refine wc_callS X 23 [] (c_X11_in l G ((k).toInt64) 0 200 ) ys_X11_in rfl q_870 ⟨rfl, rfl⟩ ⟨rfl, rfl⟩ ⟨rfl, rfl⟩ rfl rfl rfl dX11_found_23 ?_
    refine wc_if_neB X 26 32 dX11_found_26 (by decide) (fun c26_2 => ?_) (fun c26_2 => ?_)
    ·
      rcases ho with ho | ho
      · exact absurd c14_1 (by rw [inL_out rfl rfl ho]; decide)
      · exact absurd c26_2 (by rw [inL_out rfl rfl ho]; decide)
    ·
      refine wc_bipush X 29 (-2) dX11_found_29 (by decide) ?_
      exact ret 31 _ (-2) _ dX11_found_31 (⟨rfl, rfl⟩)

set_option maxHeartbeats 4000000 in
set_option maxRecDepth 100000 in
theorem c_X11_search0 (l : Launch) (G : GG) (o : Nat) (th : Int32) (qtx ts pl qrp qpg qtr qbk dn qkp qik sn qsw qsi : Nat) (sd : Int64) (qln qfm qby qwy wz qfo qon qmn qpr qle qst qwt qwo : Nat) (fo : Nat → Bool) (rs : Sr) (wt : Nat → Bool) (p : Nat → Nat) (md : Nat) (hr : pgOk p) (hmd : md ≤ 2) : MM l G yX11_search (Cond.code yX11_search cX11_search 3 (some .int)) { frames := 8, cells := 0, slots := 0, locals := 195 } [.ref o, .int (nI md), .int (nI 0)] [ob o 11 [.int th, .ref qtx, .int (nI ts), .int (nI pl), .ref qrp, .ref qpg, .ref qtr, .ref qbk, .int (nI dn), .ref qkp, .ref qik, .int (nI sn), .ref qsw, .ref qsi, .long sd, .ref qln, .ref qfm, .ref qby, .ref qwy, .int (nI wz), .ref qfo, .ref qon, .ref qmn, .ref qpr, .ref qle, .ref qst, .ref qwt, .int (nI (srN rs)), .int (nI (srT rs)), .int (nI (srA rs)), .int (nI (srD rs)), .int (bI (srB rs)), .ref qwo], aI G qpg 22 (nF p), aZ G qfo 81 (bF fo), aI G qon 128 (nF (srO rs)), aI G qmn 128 (nF (srM rs)), aI G qpr 128 (srP rs), aI G qle 128 (nF (srL rs)), aZ G qst 128 (bF (ntF (srG rs))), aZ G qwt 128 (bF wt)] (fun (v : Option Value) (w : va_W) => ∃ (rs2 : Sr) (wt2 : Nat → Bool) (fo2 : Nat → Bool), v = some (.int (nI (srV (runS (folB (gz p) (p 0) (p 2) (go p) (p 1) (p 3)) md (p 2) (p 3) (gz p) (go p) (p 1) c0S 128) 0))) ∧ w = [ob o 11 [.int (nI 0), .ref qtx, .int (nI ts), .int (nI pl), .ref qrp, .ref qpg, .ref qtr, .ref qbk, .int (nI dn), .ref qkp, .ref qik, .int (nI sn), .ref qsw, .ref qsi, .long sd, .ref qln, .ref qfm, .ref qby, .ref qwy, .int (nI wz), .ref qfo, .ref qon, .ref qmn, .ref qpr, .ref qle, .ref qst, .ref qwt, .int (nI (srN rs2)), .int (nI (srT rs2)), .int (nI (srA rs2)), .int (nI (srD rs2)), .int (bI (srB rs2)), .ref qwo], aI G qpg 22 (nF p), aZ G qfo 81 (bF fo2), aI G qon 128 (nF (srO rs2)), aI G qmn 128 (nF (srM rs2)), aI G qpr 128 (srP rs2), aI G qle 128 (nF (srL rs2)), aZ G qst 128 (bF (ntF (srG rs2))), aZ G qwt 128 (bF wt2)]) 0 0 := by
  refine MM.ofI (by decide) rfl (fun Γ X Y hnm ret => ?_)
  show Wc Γ 0 0 0 [(0, .ref o), (1, .int (nI md)), (2, .int (nI 0))] [] [ob o 11 [.int th, .ref qtx, .int (nI ts), .int (nI pl), .ref qrp, .ref qpg, .ref qtr, .ref qbk, .int (nI dn), .ref qkp, .ref qik, .int (nI sn), .ref qsw, .ref qsi, .long sd, .ref qln, .ref qfm, .ref qby, .ref qwy, .int (nI wz), .ref qfo, .ref qon, .ref qmn, .ref qpr, .ref qle, .ref qst, .ref qwt, .int (nI (srN rs)), .int (nI (srT rs)), .int (nI (srA rs)), .int (nI (srD rs)), .int (bI (srB rs)), .ref qwo], aI G qpg 22 (nF p), aZ G qfo 81 (bF fo), aI G qon 128 (nF (srO rs)), aI G qmn 128 (nF (srM rs)), aI G qpr 128 (srP rs), aI G qle 128 (nF (srL rs)), aZ G qst 128 (bF (ntF (srG rs))), aZ G qwt 128 (bF wt)]
  have hn0 := hr.2.1
  have hn01 := hr.1
  have hn1 := hr.2.2.2.1
  have hn11 := hr.2.2.1
  have he0 := pg_e0 hr
  have he1 := hr.2.2.2.2.1 3
  have hg0 := hr.2.2.2.2.2.1
  have hg1 := (fun j => hr.2.2.2.2.1 (12 + j) : ∀ j, go p j < 32)
  have hg0n := (hr.2.2.2.2.2.2.1 0 (by decide) : ∀ j, gz p j < 2 ^ p 0)
  have hg1n := (hr.2.2.2.2.2.2.1 1 (by decide) : ∀ j, go p j < 2 ^ p 1)
  have he0n := hr.2.2.2.2.2.2.2 0 (by decide)
  have he1n := hr.2.2.2.2.2.2.2 1 (by decide)
  have hg0w := (fun j => Nat.lt_trans (hg0 j) (by decide) : ∀ j, gz p j < 32)
  have hC := Cvr_fol (e0 := p 2) (e1 := p 3) hn0 hn1 hg0n hg1n
  refine wc_aload_n X 0 0 dX11_search_0 rfl ?_
  refine wc_iconstN X 1 0 dX11_search_1 ?_
  refine wc_put X Y 2 0 0 kd11 rfl (by decide) q_765 rfl rfl rfl (Nat.le_of_ble_eq_true rfl) (ws' := [ob o 11 [.int (nI 0), .ref qtx, .int (nI ts), .int (nI pl), .ref qrp, .ref qpg, .ref qtr, .ref qbk, .int (nI dn), .ref qkp, .ref qik, .int (nI sn), .ref qsw, .ref qsi, .long sd, .ref qln, .ref qfm, .ref qby, .ref qwy, .int (nI wz), .ref qfo, .ref qon, .ref qmn, .ref qpr, .ref qle, .ref qst, .ref qwt, .int (nI (srN rs)), .int (nI (srT rs)), .int (nI (srA rs)), .int (nI (srD rs)), .int (bI (srB rs)), .ref qwo], aI G qpg 22 (nF p), aZ G qfo 81 (bF fo), aI G qon 128 (nF (srO rs)), aI G qmn 128 (nF (srM rs)), aI G qpr 128 (srP rs), aI G qle 128 (nF (srL rs)), aZ G qst 128 (bF (ntF (srG rs))), aZ G qwt 128 (bF wt)]) rfl dX11_search_2 ?_
  refine wc_iload_n X 5 1 dX11_search_5 rfl ?_
  refine wc_i2l X 6 dX11_search_6 ?_
  refine wc_lconst X 7 0 dX11_search_7 (by decide) ?_
  refine wc_ldc2 X 8 149 (2) q_945 dX11_search_8 ?_
  refine wc_callS X 11 [] (c_X11_in l G ((nI md).toInt64) 0 2 ) ys_X11_in rfl q_870 ⟨rfl, rfl⟩ ⟨rfl, rfl⟩ ⟨rfl, rfl⟩ rfl rfl rfl dX11_search_11 ?_
  refine wc_topi (b2i true) (congrArg b2i (inL_in (a := 0) (b := 2) rfl rfl (by omega) (by omega) (by omega))) ?_
  refine wc_if_eqB X 14 29 dX11_search_14 (by decide) (fun c14_1 => ?_) (fun c14_1 => ?_)
  ·
    exact absurd c14_1 (by decide)
  ·
    refine wc_iload_n X 17 2 dX11_search_17 rfl ?_
    refine wc_i2l X 18 dX11_search_18 ?_
    refine wc_lconst X 19 0 dX11_search_19 (by decide) ?_
    refine wc_ldc2 X 20 273 (4) q_1061 dX11_search_20 ?_
    refine wc_callS X 23 [] (c_X11_in l G ((nI 0).toInt64) 0 4 ) ys_X11_in rfl q_870 ⟨rfl, rfl⟩ ⟨rfl, rfl⟩ ⟨rfl, rfl⟩ rfl rfl rfl dX11_search_23 ?_
    refine wc_topi (b2i true) (by decide) ?_
    refine wc_if_neB X 26 32 dX11_search_26 (by decide) (fun c26_2 => ?_) (fun c26_2 => ?_)
    ·
      refine wc_aload_n X 32 0 dX11_search_32 rfl ?_
      refine wc_iload_n X 33 1 dX11_search_33 rfl ?_
      refine wc_mutV X Y 34 [0, 1, 2, 3, 4, 5, 6, 7, 8] [] 0 (c_X11_goSearch l G o (nI 0) qtx ts pl qrp qpg qtr qbk dn qkp qik sn qsw qsi sd qln qfm qby qwy wz qfo qon qmn qpr qle qst qwt qwo fo (folB (gz p) (p 0) (p 2) (go p) (p 1) (p 3)) md rs wt p (by first | assumption | omega) (by first | assumption | omega) (fun _ _ => rfl) hC) yv_X11_goSearch kd11 rfl rfl (wr := []) rfl ⟨rfl, rfl, rfl⟩ q_1062 ⟨rfl, rfl⟩ ⟨rfl, rfl⟩ ⟨rfl, rfl⟩ rfl rfl rfl dX11_search_34 (fun v w hp_3 => ?_)
      obtain ⟨s9, w9, fo9, rfl, rfl, hs9⟩ := hp_3
      refine wc_perm Y [0, 1, 2, 3, 4, 5, 6, 7, 8] [ob o 11 [.int (nI 0), .ref qtx, .int (nI ts), .int (nI pl), .ref qrp, .ref qpg, .ref qtr, .ref qbk, .int (nI dn), .ref qkp, .ref qik, .int (nI sn), .ref qsw, .ref qsi, .long sd, .ref qln, .ref qfm, .ref qby, .ref qwy, .int (nI wz), .ref qfo, .ref qon, .ref qmn, .ref qpr, .ref qle, .ref qst, .ref qwt, .int (nI (srN s9)), .int (nI (srT s9)), .int (nI (srA s9)), .int (nI (srD s9)), .int (bI (srB s9)), .ref qwo], aI G qpg 22 (nF p), aZ G qfo 81 (bF fo9), aI G qon 128 (nF (srO s9)), aI G qmn 128 (nF (srM s9)), aI G qpr 128 (srP s9), aI G qle 128 (nF (srL s9)), aZ G qst 128 (bF (ntF (srG s9))), aZ G qwt 128 (bF w9)] rfl rfl ?_
      show Wc Γ 0 0 37 [(0, .ref o), (1, .int (nI md)), (2, .int (nI 0))] [] [ob o 11 [.int (nI 0), .ref qtx, .int (nI ts), .int (nI pl), .ref qrp, .ref qpg, .ref qtr, .ref qbk, .int (nI dn), .ref qkp, .ref qik, .int (nI sn), .ref qsw, .ref qsi, .long sd, .ref qln, .ref qfm, .ref qby, .ref qwy, .int (nI wz), .ref qfo, .ref qon, .ref qmn, .ref qpr, .ref qle, .ref qst, .ref qwt, .int (nI (srN s9)), .int (nI (srT s9)), .int (nI (srA s9)), .int (nI (srD s9)), .int (bI (srB s9)), .ref qwo], aI G qpg 22 (nF p), aZ G qfo 81 (bF fo9), aI G qon 128 (nF (srO s9)), aI G qmn 128 (nF (srM s9)), aI G qpr 128 (srP s9), aI G qle 128 (nF (srL s9)), aZ G qst 128 (bF (ntF (srG s9))), aZ G qwt 128 (bF w9)]
      have hI9 : Inv (folB (gz p) (p 0) (p 2) (go p) (p 1) (p 3)) md (p 0) (p 1) s9 := by rw [hs9]; exact run_inv hC hn01 hn1 hn11 hg0n hg1n rfl rfl 128
      have hN9 := Inv_le hn0 hn1 hI9
      have e9 : Eqv s9 (runS (folB (gz p) (p 0) (p 2) (go p) (p 1) (p 3)) md (p 2) (p 3) (gz p) (go p) (p 1) c0S 128) := by rw [hs9]; exact run_c0
      refine wc_iload_n X 37 2 dX11_search_37 rfl ?_
      refine wc_tsI X 38 68 0 (nI 0) (off := 30) dX11_search_38 rfl (by decide) (by decide) (by decide) (by decide) ?_
      refine wc_aload_n X 68 0 dX11_search_68 rfl ?_
      refine wc_get X 69 0 31 kd11 rfl (by decide) q_796 rfl dX11_search_69 ?_
      refine wc_bipush X 72 (-9) dX11_search_72 (by decide) ?_
      rcases opt_cases (srB s9) with hb9 | ⟨kb, hb9⟩
      ·
        refine wc_icmp_ne X 74 81 dX11_search_74 (by decide) (fun c74_4 => ?_) (fun c74_4 => ?_)
        ·
          exact absurd (show bI (srB s9) = -9 by rw [hb9]; rfl) c74_4
        ·
          refine wc_iconstN X 77 1 dX11_search_77 ?_
          refine wc_goto X 78 82 dX11_search_78 (by decide) ?_
          exact ret 82 _ (nI 1) _ dX11_search_82 (⟨_, _, _, by rw [← srV_eqv e9]; unfold srV; rw [hb9]; rfl, rfl⟩)
      ·
        have hkb := hI9.2.2.2 kb hb9
        refine wc_icmp_ne X 74 81 dX11_search_74 (by decide) (fun c74_5 => ?_) (fun c74_5 => ?_)
        ·
          refine wc_iconstN X 81 0 dX11_search_81 ?_
          exact ret 82 _ (nI 0) _ dX11_search_82 (⟨_, _, _, by rw [← srV_eqv e9]; unfold srV; rw [hb9]; rfl, rfl⟩)
        ·
          exact absurd c74_5 (show ¬ bI (srB s9) = -9 by rw [hb9]; exact nI_ne9 (by omega))
    ·
      exact absurd c26_2 (by decide)

set_option maxHeartbeats 4000000 in
set_option maxRecDepth 100000 in
theorem c_X11_search1 (l : Launch) (G : GG) (o : Nat) (th : Int32) (qtx ts pl qrp qpg qtr qbk dn qkp qik sn qsw qsi : Nat) (sd : Int64) (qln qfm qby qwy wz qfo qon qmn qpr qle qst qwt qwo : Nat) (fo : Nat → Bool) (rs : Sr) (wt : Nat → Bool) (p : Nat → Nat) (md : Nat) (hr : pgOk p) (hmd : md ≤ 2) : MM l G yX11_search (Cond.code yX11_search cX11_search 3 (some .int)) { frames := 8, cells := 0, slots := 0, locals := 195 } [.ref o, .int (nI md), .int (nI 1)] [ob o 11 [.int th, .ref qtx, .int (nI ts), .int (nI pl), .ref qrp, .ref qpg, .ref qtr, .ref qbk, .int (nI dn), .ref qkp, .ref qik, .int (nI sn), .ref qsw, .ref qsi, .long sd, .ref qln, .ref qfm, .ref qby, .ref qwy, .int (nI wz), .ref qfo, .ref qon, .ref qmn, .ref qpr, .ref qle, .ref qst, .ref qwt, .int (nI (srN rs)), .int (nI (srT rs)), .int (nI (srA rs)), .int (nI (srD rs)), .int (bI (srB rs)), .ref qwo], aI G qpg 22 (nF p), aZ G qfo 81 (bF fo), aI G qon 128 (nF (srO rs)), aI G qmn 128 (nF (srM rs)), aI G qpr 128 (srP rs), aI G qle 128 (nF (srL rs)), aZ G qst 128 (bF (ntF (srG rs))), aZ G qwt 128 (bF wt)] (fun (v : Option Value) (w : va_W) => ∃ (rs2 : Sr) (wt2 : Nat → Bool) (fo2 : Nat → Bool), v = some (.int (nI (srV (runS (folB (gz p) (p 0) (p 2) (go p) (p 1) (p 3)) md (p 2) (p 3) (gz p) (go p) (p 1) c0S 128) 1))) ∧ w = [ob o 11 [.int (nI 0), .ref qtx, .int (nI ts), .int (nI pl), .ref qrp, .ref qpg, .ref qtr, .ref qbk, .int (nI dn), .ref qkp, .ref qik, .int (nI sn), .ref qsw, .ref qsi, .long sd, .ref qln, .ref qfm, .ref qby, .ref qwy, .int (nI wz), .ref qfo, .ref qon, .ref qmn, .ref qpr, .ref qle, .ref qst, .ref qwt, .int (nI (srN rs2)), .int (nI (srT rs2)), .int (nI (srA rs2)), .int (nI (srD rs2)), .int (bI (srB rs2)), .ref qwo], aI G qpg 22 (nF p), aZ G qfo 81 (bF fo2), aI G qon 128 (nF (srO rs2)), aI G qmn 128 (nF (srM rs2)), aI G qpr 128 (srP rs2), aI G qle 128 (nF (srL rs2)), aZ G qst 128 (bF (ntF (srG rs2))), aZ G qwt 128 (bF wt2)]) 0 0 := by
  refine MM.ofI (by decide) rfl (fun Γ X Y hnm ret => ?_)
  show Wc Γ 0 0 0 [(0, .ref o), (1, .int (nI md)), (2, .int (nI 1))] [] [ob o 11 [.int th, .ref qtx, .int (nI ts), .int (nI pl), .ref qrp, .ref qpg, .ref qtr, .ref qbk, .int (nI dn), .ref qkp, .ref qik, .int (nI sn), .ref qsw, .ref qsi, .long sd, .ref qln, .ref qfm, .ref qby, .ref qwy, .int (nI wz), .ref qfo, .ref qon, .ref qmn, .ref qpr, .ref qle, .ref qst, .ref qwt, .int (nI (srN rs)), .int (nI (srT rs)), .int (nI (srA rs)), .int (nI (srD rs)), .int (bI (srB rs)), .ref qwo], aI G qpg 22 (nF p), aZ G qfo 81 (bF fo), aI G qon 128 (nF (srO rs)), aI G qmn 128 (nF (srM rs)), aI G qpr 128 (srP rs), aI G qle 128 (nF (srL rs)), aZ G qst 128 (bF (ntF (srG rs))), aZ G qwt 128 (bF wt)]
  have hn0 := hr.2.1
  have hn01 := hr.1
  have hn1 := hr.2.2.2.1
  have hn11 := hr.2.2.1
  have he0 := pg_e0 hr
  have he1 := hr.2.2.2.2.1 3
  have hg0 := hr.2.2.2.2.2.1
  have hg1 := (fun j => hr.2.2.2.2.1 (12 + j) : ∀ j, go p j < 32)
  have hg0n := (hr.2.2.2.2.2.2.1 0 (by decide) : ∀ j, gz p j < 2 ^ p 0)
  have hg1n := (hr.2.2.2.2.2.2.1 1 (by decide) : ∀ j, go p j < 2 ^ p 1)
  have he0n := hr.2.2.2.2.2.2.2 0 (by decide)
  have he1n := hr.2.2.2.2.2.2.2 1 (by decide)
  have hg0w := (fun j => Nat.lt_trans (hg0 j) (by decide) : ∀ j, gz p j < 32)
  have hC := Cvr_fol (e0 := p 2) (e1 := p 3) hn0 hn1 hg0n hg1n
  refine wc_aload_n X 0 0 dX11_search_0 rfl ?_
  refine wc_iconstN X 1 0 dX11_search_1 ?_
  refine wc_put X Y 2 0 0 kd11 rfl (by decide) q_765 rfl rfl rfl (Nat.le_of_ble_eq_true rfl) (ws' := [ob o 11 [.int (nI 0), .ref qtx, .int (nI ts), .int (nI pl), .ref qrp, .ref qpg, .ref qtr, .ref qbk, .int (nI dn), .ref qkp, .ref qik, .int (nI sn), .ref qsw, .ref qsi, .long sd, .ref qln, .ref qfm, .ref qby, .ref qwy, .int (nI wz), .ref qfo, .ref qon, .ref qmn, .ref qpr, .ref qle, .ref qst, .ref qwt, .int (nI (srN rs)), .int (nI (srT rs)), .int (nI (srA rs)), .int (nI (srD rs)), .int (bI (srB rs)), .ref qwo], aI G qpg 22 (nF p), aZ G qfo 81 (bF fo), aI G qon 128 (nF (srO rs)), aI G qmn 128 (nF (srM rs)), aI G qpr 128 (srP rs), aI G qle 128 (nF (srL rs)), aZ G qst 128 (bF (ntF (srG rs))), aZ G qwt 128 (bF wt)]) rfl dX11_search_2 ?_
  refine wc_iload_n X 5 1 dX11_search_5 rfl ?_
  refine wc_i2l X 6 dX11_search_6 ?_
  refine wc_lconst X 7 0 dX11_search_7 (by decide) ?_
  refine wc_ldc2 X 8 149 (2) q_945 dX11_search_8 ?_
  refine wc_callS X 11 [] (c_X11_in l G ((nI md).toInt64) 0 2 ) ys_X11_in rfl q_870 ⟨rfl, rfl⟩ ⟨rfl, rfl⟩ ⟨rfl, rfl⟩ rfl rfl rfl dX11_search_11 ?_
  refine wc_topi (b2i true) (congrArg b2i (inL_in (a := 0) (b := 2) rfl rfl (by omega) (by omega) (by omega))) ?_
  refine wc_if_eqB X 14 29 dX11_search_14 (by decide) (fun c14_1 => ?_) (fun c14_1 => ?_)
  ·
    exact absurd c14_1 (by decide)
  ·
    refine wc_iload_n X 17 2 dX11_search_17 rfl ?_
    refine wc_i2l X 18 dX11_search_18 ?_
    refine wc_lconst X 19 0 dX11_search_19 (by decide) ?_
    refine wc_ldc2 X 20 273 (4) q_1061 dX11_search_20 ?_
    refine wc_callS X 23 [] (c_X11_in l G ((nI 1).toInt64) 0 4 ) ys_X11_in rfl q_870 ⟨rfl, rfl⟩ ⟨rfl, rfl⟩ ⟨rfl, rfl⟩ rfl rfl rfl dX11_search_23 ?_
    refine wc_topi (b2i true) (by decide) ?_
    refine wc_if_neB X 26 32 dX11_search_26 (by decide) (fun c26_2 => ?_) (fun c26_2 => ?_)
    ·
      refine wc_aload_n X 32 0 dX11_search_32 rfl ?_
      refine wc_iload_n X 33 1 dX11_search_33 rfl ?_
      refine wc_mutV X Y 34 [0, 1, 2, 3, 4, 5, 6, 7, 8] [] 0 (c_X11_goSearch l G o (nI 0) qtx ts pl qrp qpg qtr qbk dn qkp qik sn qsw qsi sd qln qfm qby qwy wz qfo qon qmn qpr qle qst qwt qwo fo (folB (gz p) (p 0) (p 2) (go p) (p 1) (p 3)) md rs wt p (by first | assumption | omega) (by first | assumption | omega) (fun _ _ => rfl) hC) yv_X11_goSearch kd11 rfl rfl (wr := []) rfl ⟨rfl, rfl, rfl⟩ q_1062 ⟨rfl, rfl⟩ ⟨rfl, rfl⟩ ⟨rfl, rfl⟩ rfl rfl rfl dX11_search_34 (fun v w hp_3 => ?_)
      obtain ⟨s9, w9, fo9, rfl, rfl, hs9⟩ := hp_3
      refine wc_perm Y [0, 1, 2, 3, 4, 5, 6, 7, 8] [ob o 11 [.int (nI 0), .ref qtx, .int (nI ts), .int (nI pl), .ref qrp, .ref qpg, .ref qtr, .ref qbk, .int (nI dn), .ref qkp, .ref qik, .int (nI sn), .ref qsw, .ref qsi, .long sd, .ref qln, .ref qfm, .ref qby, .ref qwy, .int (nI wz), .ref qfo, .ref qon, .ref qmn, .ref qpr, .ref qle, .ref qst, .ref qwt, .int (nI (srN s9)), .int (nI (srT s9)), .int (nI (srA s9)), .int (nI (srD s9)), .int (bI (srB s9)), .ref qwo], aI G qpg 22 (nF p), aZ G qfo 81 (bF fo9), aI G qon 128 (nF (srO s9)), aI G qmn 128 (nF (srM s9)), aI G qpr 128 (srP s9), aI G qle 128 (nF (srL s9)), aZ G qst 128 (bF (ntF (srG s9))), aZ G qwt 128 (bF w9)] rfl rfl ?_
      show Wc Γ 0 0 37 [(0, .ref o), (1, .int (nI md)), (2, .int (nI 1))] [] [ob o 11 [.int (nI 0), .ref qtx, .int (nI ts), .int (nI pl), .ref qrp, .ref qpg, .ref qtr, .ref qbk, .int (nI dn), .ref qkp, .ref qik, .int (nI sn), .ref qsw, .ref qsi, .long sd, .ref qln, .ref qfm, .ref qby, .ref qwy, .int (nI wz), .ref qfo, .ref qon, .ref qmn, .ref qpr, .ref qle, .ref qst, .ref qwt, .int (nI (srN s9)), .int (nI (srT s9)), .int (nI (srA s9)), .int (nI (srD s9)), .int (bI (srB s9)), .ref qwo], aI G qpg 22 (nF p), aZ G qfo 81 (bF fo9), aI G qon 128 (nF (srO s9)), aI G qmn 128 (nF (srM s9)), aI G qpr 128 (srP s9), aI G qle 128 (nF (srL s9)), aZ G qst 128 (bF (ntF (srG s9))), aZ G qwt 128 (bF w9)]
      have hI9 : Inv (folB (gz p) (p 0) (p 2) (go p) (p 1) (p 3)) md (p 0) (p 1) s9 := by rw [hs9]; exact run_inv hC hn01 hn1 hn11 hg0n hg1n rfl rfl 128
      have hN9 := Inv_le hn0 hn1 hI9
      have e9 : Eqv s9 (runS (folB (gz p) (p 0) (p 2) (go p) (p 1) (p 3)) md (p 2) (p 3) (gz p) (go p) (p 1) c0S 128) := by rw [hs9]; exact run_c0
      refine wc_iload_n X 37 2 dX11_search_37 rfl ?_
      refine wc_tsI X 38 83 1 (nI 1) (off := 45) dX11_search_38 rfl (by decide) (by decide) (by decide) (by decide) ?_
      refine wc_aload_n X 83 0 dX11_search_83 rfl ?_
      refine wc_get X 84 0 28 kd11 rfl (by decide) q_793 rfl dX11_search_84 ?_
      exact ret 87 _ (nI (srT s9)) _ dX11_search_87 (⟨_, _, _, by rw [← srV_eqv e9]; rfl, rfl⟩)
    ·
      exact absurd c26_2 (by decide)

set_option maxHeartbeats 4000000 in
set_option maxRecDepth 100000 in
theorem c_X11_search2 (l : Launch) (G : GG) (o : Nat) (th : Int32) (qtx ts pl qrp qpg qtr qbk dn qkp qik sn qsw qsi : Nat) (sd : Int64) (qln qfm qby qwy wz qfo qon qmn qpr qle qst qwt qwo : Nat) (fo : Nat → Bool) (rs : Sr) (wt : Nat → Bool) (p : Nat → Nat) (md : Nat) (hr : pgOk p) (hmd : md ≤ 2) : MM l G yX11_search (Cond.code yX11_search cX11_search 3 (some .int)) { frames := 8, cells := 0, slots := 0, locals := 195 } [.ref o, .int (nI md), .int (nI 2)] [ob o 11 [.int th, .ref qtx, .int (nI ts), .int (nI pl), .ref qrp, .ref qpg, .ref qtr, .ref qbk, .int (nI dn), .ref qkp, .ref qik, .int (nI sn), .ref qsw, .ref qsi, .long sd, .ref qln, .ref qfm, .ref qby, .ref qwy, .int (nI wz), .ref qfo, .ref qon, .ref qmn, .ref qpr, .ref qle, .ref qst, .ref qwt, .int (nI (srN rs)), .int (nI (srT rs)), .int (nI (srA rs)), .int (nI (srD rs)), .int (bI (srB rs)), .ref qwo], aI G qpg 22 (nF p), aZ G qfo 81 (bF fo), aI G qon 128 (nF (srO rs)), aI G qmn 128 (nF (srM rs)), aI G qpr 128 (srP rs), aI G qle 128 (nF (srL rs)), aZ G qst 128 (bF (ntF (srG rs))), aZ G qwt 128 (bF wt)] (fun (v : Option Value) (w : va_W) => ∃ (rs2 : Sr) (wt2 : Nat → Bool) (fo2 : Nat → Bool), v = some (.int (nI (srV (runS (folB (gz p) (p 0) (p 2) (go p) (p 1) (p 3)) md (p 2) (p 3) (gz p) (go p) (p 1) c0S 128) 2))) ∧ w = [ob o 11 [.int (nI 0), .ref qtx, .int (nI ts), .int (nI pl), .ref qrp, .ref qpg, .ref qtr, .ref qbk, .int (nI dn), .ref qkp, .ref qik, .int (nI sn), .ref qsw, .ref qsi, .long sd, .ref qln, .ref qfm, .ref qby, .ref qwy, .int (nI wz), .ref qfo, .ref qon, .ref qmn, .ref qpr, .ref qle, .ref qst, .ref qwt, .int (nI (srN rs2)), .int (nI (srT rs2)), .int (nI (srA rs2)), .int (nI (srD rs2)), .int (bI (srB rs2)), .ref qwo], aI G qpg 22 (nF p), aZ G qfo 81 (bF fo2), aI G qon 128 (nF (srO rs2)), aI G qmn 128 (nF (srM rs2)), aI G qpr 128 (srP rs2), aI G qle 128 (nF (srL rs2)), aZ G qst 128 (bF (ntF (srG rs2))), aZ G qwt 128 (bF wt2)]) 0 0 := by
  refine MM.ofI (by decide) rfl (fun Γ X Y hnm ret => ?_)
  show Wc Γ 0 0 0 [(0, .ref o), (1, .int (nI md)), (2, .int (nI 2))] [] [ob o 11 [.int th, .ref qtx, .int (nI ts), .int (nI pl), .ref qrp, .ref qpg, .ref qtr, .ref qbk, .int (nI dn), .ref qkp, .ref qik, .int (nI sn), .ref qsw, .ref qsi, .long sd, .ref qln, .ref qfm, .ref qby, .ref qwy, .int (nI wz), .ref qfo, .ref qon, .ref qmn, .ref qpr, .ref qle, .ref qst, .ref qwt, .int (nI (srN rs)), .int (nI (srT rs)), .int (nI (srA rs)), .int (nI (srD rs)), .int (bI (srB rs)), .ref qwo], aI G qpg 22 (nF p), aZ G qfo 81 (bF fo), aI G qon 128 (nF (srO rs)), aI G qmn 128 (nF (srM rs)), aI G qpr 128 (srP rs), aI G qle 128 (nF (srL rs)), aZ G qst 128 (bF (ntF (srG rs))), aZ G qwt 128 (bF wt)]
  have hn0 := hr.2.1
  have hn01 := hr.1
  have hn1 := hr.2.2.2.1
  have hn11 := hr.2.2.1
  have he0 := pg_e0 hr
  have he1 := hr.2.2.2.2.1 3
  have hg0 := hr.2.2.2.2.2.1
  have hg1 := (fun j => hr.2.2.2.2.1 (12 + j) : ∀ j, go p j < 32)
  have hg0n := (hr.2.2.2.2.2.2.1 0 (by decide) : ∀ j, gz p j < 2 ^ p 0)
  have hg1n := (hr.2.2.2.2.2.2.1 1 (by decide) : ∀ j, go p j < 2 ^ p 1)
  have he0n := hr.2.2.2.2.2.2.2 0 (by decide)
  have he1n := hr.2.2.2.2.2.2.2 1 (by decide)
  have hg0w := (fun j => Nat.lt_trans (hg0 j) (by decide) : ∀ j, gz p j < 32)
  have hC := Cvr_fol (e0 := p 2) (e1 := p 3) hn0 hn1 hg0n hg1n
  refine wc_aload_n X 0 0 dX11_search_0 rfl ?_
  refine wc_iconstN X 1 0 dX11_search_1 ?_
  refine wc_put X Y 2 0 0 kd11 rfl (by decide) q_765 rfl rfl rfl (Nat.le_of_ble_eq_true rfl) (ws' := [ob o 11 [.int (nI 0), .ref qtx, .int (nI ts), .int (nI pl), .ref qrp, .ref qpg, .ref qtr, .ref qbk, .int (nI dn), .ref qkp, .ref qik, .int (nI sn), .ref qsw, .ref qsi, .long sd, .ref qln, .ref qfm, .ref qby, .ref qwy, .int (nI wz), .ref qfo, .ref qon, .ref qmn, .ref qpr, .ref qle, .ref qst, .ref qwt, .int (nI (srN rs)), .int (nI (srT rs)), .int (nI (srA rs)), .int (nI (srD rs)), .int (bI (srB rs)), .ref qwo], aI G qpg 22 (nF p), aZ G qfo 81 (bF fo), aI G qon 128 (nF (srO rs)), aI G qmn 128 (nF (srM rs)), aI G qpr 128 (srP rs), aI G qle 128 (nF (srL rs)), aZ G qst 128 (bF (ntF (srG rs))), aZ G qwt 128 (bF wt)]) rfl dX11_search_2 ?_
  refine wc_iload_n X 5 1 dX11_search_5 rfl ?_
  refine wc_i2l X 6 dX11_search_6 ?_
  refine wc_lconst X 7 0 dX11_search_7 (by decide) ?_
  refine wc_ldc2 X 8 149 (2) q_945 dX11_search_8 ?_
  refine wc_callS X 11 [] (c_X11_in l G ((nI md).toInt64) 0 2 ) ys_X11_in rfl q_870 ⟨rfl, rfl⟩ ⟨rfl, rfl⟩ ⟨rfl, rfl⟩ rfl rfl rfl dX11_search_11 ?_
  refine wc_topi (b2i true) (congrArg b2i (inL_in (a := 0) (b := 2) rfl rfl (by omega) (by omega) (by omega))) ?_
  refine wc_if_eqB X 14 29 dX11_search_14 (by decide) (fun c14_1 => ?_) (fun c14_1 => ?_)
  ·
    exact absurd c14_1 (by decide)
  ·
    refine wc_iload_n X 17 2 dX11_search_17 rfl ?_
    refine wc_i2l X 18 dX11_search_18 ?_
    refine wc_lconst X 19 0 dX11_search_19 (by decide) ?_
    refine wc_ldc2 X 20 273 (4) q_1061 dX11_search_20 ?_
    refine wc_callS X 23 [] (c_X11_in l G ((nI 2).toInt64) 0 4 ) ys_X11_in rfl q_870 ⟨rfl, rfl⟩ ⟨rfl, rfl⟩ ⟨rfl, rfl⟩ rfl rfl rfl dX11_search_23 ?_
    refine wc_topi (b2i true) (by decide) ?_
    refine wc_if_neB X 26 32 dX11_search_26 (by decide) (fun c26_2 => ?_) (fun c26_2 => ?_)
    ·
      refine wc_aload_n X 32 0 dX11_search_32 rfl ?_
      refine wc_iload_n X 33 1 dX11_search_33 rfl ?_
      refine wc_mutV X Y 34 [0, 1, 2, 3, 4, 5, 6, 7, 8] [] 0 (c_X11_goSearch l G o (nI 0) qtx ts pl qrp qpg qtr qbk dn qkp qik sn qsw qsi sd qln qfm qby qwy wz qfo qon qmn qpr qle qst qwt qwo fo (folB (gz p) (p 0) (p 2) (go p) (p 1) (p 3)) md rs wt p (by first | assumption | omega) (by first | assumption | omega) (fun _ _ => rfl) hC) yv_X11_goSearch kd11 rfl rfl (wr := []) rfl ⟨rfl, rfl, rfl⟩ q_1062 ⟨rfl, rfl⟩ ⟨rfl, rfl⟩ ⟨rfl, rfl⟩ rfl rfl rfl dX11_search_34 (fun v w hp_3 => ?_)
      obtain ⟨s9, w9, fo9, rfl, rfl, hs9⟩ := hp_3
      refine wc_perm Y [0, 1, 2, 3, 4, 5, 6, 7, 8] [ob o 11 [.int (nI 0), .ref qtx, .int (nI ts), .int (nI pl), .ref qrp, .ref qpg, .ref qtr, .ref qbk, .int (nI dn), .ref qkp, .ref qik, .int (nI sn), .ref qsw, .ref qsi, .long sd, .ref qln, .ref qfm, .ref qby, .ref qwy, .int (nI wz), .ref qfo, .ref qon, .ref qmn, .ref qpr, .ref qle, .ref qst, .ref qwt, .int (nI (srN s9)), .int (nI (srT s9)), .int (nI (srA s9)), .int (nI (srD s9)), .int (bI (srB s9)), .ref qwo], aI G qpg 22 (nF p), aZ G qfo 81 (bF fo9), aI G qon 128 (nF (srO s9)), aI G qmn 128 (nF (srM s9)), aI G qpr 128 (srP s9), aI G qle 128 (nF (srL s9)), aZ G qst 128 (bF (ntF (srG s9))), aZ G qwt 128 (bF w9)] rfl rfl ?_
      show Wc Γ 0 0 37 [(0, .ref o), (1, .int (nI md)), (2, .int (nI 2))] [] [ob o 11 [.int (nI 0), .ref qtx, .int (nI ts), .int (nI pl), .ref qrp, .ref qpg, .ref qtr, .ref qbk, .int (nI dn), .ref qkp, .ref qik, .int (nI sn), .ref qsw, .ref qsi, .long sd, .ref qln, .ref qfm, .ref qby, .ref qwy, .int (nI wz), .ref qfo, .ref qon, .ref qmn, .ref qpr, .ref qle, .ref qst, .ref qwt, .int (nI (srN s9)), .int (nI (srT s9)), .int (nI (srA s9)), .int (nI (srD s9)), .int (bI (srB s9)), .ref qwo], aI G qpg 22 (nF p), aZ G qfo 81 (bF fo9), aI G qon 128 (nF (srO s9)), aI G qmn 128 (nF (srM s9)), aI G qpr 128 (srP s9), aI G qle 128 (nF (srL s9)), aZ G qst 128 (bF (ntF (srG s9))), aZ G qwt 128 (bF w9)]
      have hI9 : Inv (folB (gz p) (p 0) (p 2) (go p) (p 1) (p 3)) md (p 0) (p 1) s9 := by rw [hs9]; exact run_inv hC hn01 hn1 hn11 hg0n hg1n rfl rfl 128
      have hN9 := Inv_le hn0 hn1 hI9
      have e9 : Eqv s9 (runS (folB (gz p) (p 0) (p 2) (go p) (p 1) (p 3)) md (p 2) (p 3) (gz p) (go p) (p 1) c0S 128) := by rw [hs9]; exact run_c0
      refine wc_iload_n X 37 2 dX11_search_37 rfl ?_
      refine wc_tsI X 38 88 2 (nI 2) (off := 50) dX11_search_38 rfl (by decide) (by decide) (by decide) (by decide) ?_
      refine wc_aload_n X 88 0 dX11_search_88 rfl ?_
      refine wc_callV X 89 [0, 7] 0 (c_X11_staying l G o (nI 0) qtx ts pl qrp qpg qtr qbk dn qkp qik sn qsw qsi sd qln qfm qby qwy wz qfo qon qmn qpr qle qst qwt qwo s9 hN9) yv_X11_staying kd11 rfl rfl q_1094 ⟨rfl, rfl⟩ ⟨rfl, rfl⟩ ⟨rfl, rfl⟩ rfl rfl rfl dX11_search_89 ?_
      exact ret 92 _ (nI (stay s9 (srN s9))) _ dX11_search_92 (⟨_, _, _, by rw [← srV_eqv e9]; rw [sr_stay hs9]; rfl, rfl⟩)
    ·
      exact absurd c26_2 (by decide)

set_option maxHeartbeats 4000000 in
set_option maxRecDepth 100000 in
theorem c_X11_search3 (l : Launch) (G : GG) (o : Nat) (th : Int32) (qtx ts pl qrp qpg qtr qbk dn qkp qik sn qsw qsi : Nat) (sd : Int64) (qln qfm qby qwy wz qfo qon qmn qpr qle qst qwt qwo : Nat) (fo : Nat → Bool) (rs : Sr) (wt : Nat → Bool) (p : Nat → Nat) (md : Nat) (hr : pgOk p) (hmd : md ≤ 2) : MM l G yX11_search (Cond.code yX11_search cX11_search 3 (some .int)) { frames := 8, cells := 0, slots := 0, locals := 195 } [.ref o, .int (nI md), .int (nI 3)] [ob o 11 [.int th, .ref qtx, .int (nI ts), .int (nI pl), .ref qrp, .ref qpg, .ref qtr, .ref qbk, .int (nI dn), .ref qkp, .ref qik, .int (nI sn), .ref qsw, .ref qsi, .long sd, .ref qln, .ref qfm, .ref qby, .ref qwy, .int (nI wz), .ref qfo, .ref qon, .ref qmn, .ref qpr, .ref qle, .ref qst, .ref qwt, .int (nI (srN rs)), .int (nI (srT rs)), .int (nI (srA rs)), .int (nI (srD rs)), .int (bI (srB rs)), .ref qwo], aI G qpg 22 (nF p), aZ G qfo 81 (bF fo), aI G qon 128 (nF (srO rs)), aI G qmn 128 (nF (srM rs)), aI G qpr 128 (srP rs), aI G qle 128 (nF (srL rs)), aZ G qst 128 (bF (ntF (srG rs))), aZ G qwt 128 (bF wt)] (fun (v : Option Value) (w : va_W) => ∃ (rs2 : Sr) (wt2 : Nat → Bool) (fo2 : Nat → Bool), v = some (.int (nI (srV (runS (folB (gz p) (p 0) (p 2) (go p) (p 1) (p 3)) md (p 2) (p 3) (gz p) (go p) (p 1) c0S 128) 3))) ∧ w = [ob o 11 [.int (nI 0), .ref qtx, .int (nI ts), .int (nI pl), .ref qrp, .ref qpg, .ref qtr, .ref qbk, .int (nI dn), .ref qkp, .ref qik, .int (nI sn), .ref qsw, .ref qsi, .long sd, .ref qln, .ref qfm, .ref qby, .ref qwy, .int (nI wz), .ref qfo, .ref qon, .ref qmn, .ref qpr, .ref qle, .ref qst, .ref qwt, .int (nI (srN rs2)), .int (nI (srT rs2)), .int (nI (srA rs2)), .int (nI (srD rs2)), .int (bI (srB rs2)), .ref qwo], aI G qpg 22 (nF p), aZ G qfo 81 (bF fo2), aI G qon 128 (nF (srO rs2)), aI G qmn 128 (nF (srM rs2)), aI G qpr 128 (srP rs2), aI G qle 128 (nF (srL rs2)), aZ G qst 128 (bF (ntF (srG rs2))), aZ G qwt 128 (bF wt2)]) 0 0 := by
  refine MM.ofI (by decide) rfl (fun Γ X Y hnm ret => ?_)
  show Wc Γ 0 0 0 [(0, .ref o), (1, .int (nI md)), (2, .int (nI 3))] [] [ob o 11 [.int th, .ref qtx, .int (nI ts), .int (nI pl), .ref qrp, .ref qpg, .ref qtr, .ref qbk, .int (nI dn), .ref qkp, .ref qik, .int (nI sn), .ref qsw, .ref qsi, .long sd, .ref qln, .ref qfm, .ref qby, .ref qwy, .int (nI wz), .ref qfo, .ref qon, .ref qmn, .ref qpr, .ref qle, .ref qst, .ref qwt, .int (nI (srN rs)), .int (nI (srT rs)), .int (nI (srA rs)), .int (nI (srD rs)), .int (bI (srB rs)), .ref qwo], aI G qpg 22 (nF p), aZ G qfo 81 (bF fo), aI G qon 128 (nF (srO rs)), aI G qmn 128 (nF (srM rs)), aI G qpr 128 (srP rs), aI G qle 128 (nF (srL rs)), aZ G qst 128 (bF (ntF (srG rs))), aZ G qwt 128 (bF wt)]
  have hn0 := hr.2.1
  have hn01 := hr.1
  have hn1 := hr.2.2.2.1
  have hn11 := hr.2.2.1
  have he0 := pg_e0 hr
  have he1 := hr.2.2.2.2.1 3
  have hg0 := hr.2.2.2.2.2.1
  have hg1 := (fun j => hr.2.2.2.2.1 (12 + j) : ∀ j, go p j < 32)
  have hg0n := (hr.2.2.2.2.2.2.1 0 (by decide) : ∀ j, gz p j < 2 ^ p 0)
  have hg1n := (hr.2.2.2.2.2.2.1 1 (by decide) : ∀ j, go p j < 2 ^ p 1)
  have he0n := hr.2.2.2.2.2.2.2 0 (by decide)
  have he1n := hr.2.2.2.2.2.2.2 1 (by decide)
  have hg0w := (fun j => Nat.lt_trans (hg0 j) (by decide) : ∀ j, gz p j < 32)
  have hC := Cvr_fol (e0 := p 2) (e1 := p 3) hn0 hn1 hg0n hg1n
  refine wc_aload_n X 0 0 dX11_search_0 rfl ?_
  refine wc_iconstN X 1 0 dX11_search_1 ?_
  refine wc_put X Y 2 0 0 kd11 rfl (by decide) q_765 rfl rfl rfl (Nat.le_of_ble_eq_true rfl) (ws' := [ob o 11 [.int (nI 0), .ref qtx, .int (nI ts), .int (nI pl), .ref qrp, .ref qpg, .ref qtr, .ref qbk, .int (nI dn), .ref qkp, .ref qik, .int (nI sn), .ref qsw, .ref qsi, .long sd, .ref qln, .ref qfm, .ref qby, .ref qwy, .int (nI wz), .ref qfo, .ref qon, .ref qmn, .ref qpr, .ref qle, .ref qst, .ref qwt, .int (nI (srN rs)), .int (nI (srT rs)), .int (nI (srA rs)), .int (nI (srD rs)), .int (bI (srB rs)), .ref qwo], aI G qpg 22 (nF p), aZ G qfo 81 (bF fo), aI G qon 128 (nF (srO rs)), aI G qmn 128 (nF (srM rs)), aI G qpr 128 (srP rs), aI G qle 128 (nF (srL rs)), aZ G qst 128 (bF (ntF (srG rs))), aZ G qwt 128 (bF wt)]) rfl dX11_search_2 ?_
  refine wc_iload_n X 5 1 dX11_search_5 rfl ?_
  refine wc_i2l X 6 dX11_search_6 ?_
  refine wc_lconst X 7 0 dX11_search_7 (by decide) ?_
  refine wc_ldc2 X 8 149 (2) q_945 dX11_search_8 ?_
  refine wc_callS X 11 [] (c_X11_in l G ((nI md).toInt64) 0 2 ) ys_X11_in rfl q_870 ⟨rfl, rfl⟩ ⟨rfl, rfl⟩ ⟨rfl, rfl⟩ rfl rfl rfl dX11_search_11 ?_
  refine wc_topi (b2i true) (congrArg b2i (inL_in (a := 0) (b := 2) rfl rfl (by omega) (by omega) (by omega))) ?_
  refine wc_if_eqB X 14 29 dX11_search_14 (by decide) (fun c14_1 => ?_) (fun c14_1 => ?_)
  ·
    exact absurd c14_1 (by decide)
  ·
    refine wc_iload_n X 17 2 dX11_search_17 rfl ?_
    refine wc_i2l X 18 dX11_search_18 ?_
    refine wc_lconst X 19 0 dX11_search_19 (by decide) ?_
    refine wc_ldc2 X 20 273 (4) q_1061 dX11_search_20 ?_
    refine wc_callS X 23 [] (c_X11_in l G ((nI 3).toInt64) 0 4 ) ys_X11_in rfl q_870 ⟨rfl, rfl⟩ ⟨rfl, rfl⟩ ⟨rfl, rfl⟩ rfl rfl rfl dX11_search_23 ?_
    refine wc_topi (b2i true) (by decide) ?_
    refine wc_if_neB X 26 32 dX11_search_26 (by decide) (fun c26_2 => ?_) (fun c26_2 => ?_)
    ·
      refine wc_aload_n X 32 0 dX11_search_32 rfl ?_
      refine wc_iload_n X 33 1 dX11_search_33 rfl ?_
      refine wc_mutV X Y 34 [0, 1, 2, 3, 4, 5, 6, 7, 8] [] 0 (c_X11_goSearch l G o (nI 0) qtx ts pl qrp qpg qtr qbk dn qkp qik sn qsw qsi sd qln qfm qby qwy wz qfo qon qmn qpr qle qst qwt qwo fo (folB (gz p) (p 0) (p 2) (go p) (p 1) (p 3)) md rs wt p (by first | assumption | omega) (by first | assumption | omega) (fun _ _ => rfl) hC) yv_X11_goSearch kd11 rfl rfl (wr := []) rfl ⟨rfl, rfl, rfl⟩ q_1062 ⟨rfl, rfl⟩ ⟨rfl, rfl⟩ ⟨rfl, rfl⟩ rfl rfl rfl dX11_search_34 (fun v w hp_3 => ?_)
      obtain ⟨s9, w9, fo9, rfl, rfl, hs9⟩ := hp_3
      refine wc_perm Y [0, 1, 2, 3, 4, 5, 6, 7, 8] [ob o 11 [.int (nI 0), .ref qtx, .int (nI ts), .int (nI pl), .ref qrp, .ref qpg, .ref qtr, .ref qbk, .int (nI dn), .ref qkp, .ref qik, .int (nI sn), .ref qsw, .ref qsi, .long sd, .ref qln, .ref qfm, .ref qby, .ref qwy, .int (nI wz), .ref qfo, .ref qon, .ref qmn, .ref qpr, .ref qle, .ref qst, .ref qwt, .int (nI (srN s9)), .int (nI (srT s9)), .int (nI (srA s9)), .int (nI (srD s9)), .int (bI (srB s9)), .ref qwo], aI G qpg 22 (nF p), aZ G qfo 81 (bF fo9), aI G qon 128 (nF (srO s9)), aI G qmn 128 (nF (srM s9)), aI G qpr 128 (srP s9), aI G qle 128 (nF (srL s9)), aZ G qst 128 (bF (ntF (srG s9))), aZ G qwt 128 (bF w9)] rfl rfl ?_
      show Wc Γ 0 0 37 [(0, .ref o), (1, .int (nI md)), (2, .int (nI 3))] [] [ob o 11 [.int (nI 0), .ref qtx, .int (nI ts), .int (nI pl), .ref qrp, .ref qpg, .ref qtr, .ref qbk, .int (nI dn), .ref qkp, .ref qik, .int (nI sn), .ref qsw, .ref qsi, .long sd, .ref qln, .ref qfm, .ref qby, .ref qwy, .int (nI wz), .ref qfo, .ref qon, .ref qmn, .ref qpr, .ref qle, .ref qst, .ref qwt, .int (nI (srN s9)), .int (nI (srT s9)), .int (nI (srA s9)), .int (nI (srD s9)), .int (bI (srB s9)), .ref qwo], aI G qpg 22 (nF p), aZ G qfo 81 (bF fo9), aI G qon 128 (nF (srO s9)), aI G qmn 128 (nF (srM s9)), aI G qpr 128 (srP s9), aI G qle 128 (nF (srL s9)), aZ G qst 128 (bF (ntF (srG s9))), aZ G qwt 128 (bF w9)]
      have hI9 : Inv (folB (gz p) (p 0) (p 2) (go p) (p 1) (p 3)) md (p 0) (p 1) s9 := by rw [hs9]; exact run_inv hC hn01 hn1 hn11 hg0n hg1n rfl rfl 128
      have hN9 := Inv_le hn0 hn1 hI9
      have e9 : Eqv s9 (runS (folB (gz p) (p 0) (p 2) (go p) (p 1) (p 3)) md (p 2) (p 3) (gz p) (go p) (p 1) c0S 128) := by rw [hs9]; exact run_c0
      refine wc_iload_n X 37 2 dX11_search_37 rfl ?_
      refine wc_tsI X 38 93 3 (nI 3) (off := 55) dX11_search_38 rfl (by decide) (by decide) (by decide) (by decide) ?_
      refine wc_aload_n X 93 0 dX11_search_93 rfl ?_
      refine wc_get X 94 0 29 kd11 rfl (by decide) q_794 rfl dX11_search_94 ?_
      exact ret 97 _ (nI (srA s9)) _ dX11_search_97 (⟨_, _, _, by rw [← srV_eqv e9]; rfl, rfl⟩)
    ·
      exact absurd c26_2 (by decide)

set_option maxHeartbeats 4000000 in
set_option maxRecDepth 100000 in
theorem c_X11_search4 (l : Launch) (G : GG) (o : Nat) (th : Int32) (qtx ts pl qrp qpg qtr qbk dn qkp qik sn qsw qsi : Nat) (sd : Int64) (qln qfm qby qwy wz qfo qon qmn qpr qle qst qwt qwo : Nat) (fo : Nat → Bool) (rs : Sr) (wt : Nat → Bool) (p : Nat → Nat) (md : Nat) (hr : pgOk p) (hmd : md ≤ 2) : MM l G yX11_search (Cond.code yX11_search cX11_search 3 (some .int)) { frames := 8, cells := 0, slots := 0, locals := 195 } [.ref o, .int (nI md), .int (nI 4)] [ob o 11 [.int th, .ref qtx, .int (nI ts), .int (nI pl), .ref qrp, .ref qpg, .ref qtr, .ref qbk, .int (nI dn), .ref qkp, .ref qik, .int (nI sn), .ref qsw, .ref qsi, .long sd, .ref qln, .ref qfm, .ref qby, .ref qwy, .int (nI wz), .ref qfo, .ref qon, .ref qmn, .ref qpr, .ref qle, .ref qst, .ref qwt, .int (nI (srN rs)), .int (nI (srT rs)), .int (nI (srA rs)), .int (nI (srD rs)), .int (bI (srB rs)), .ref qwo], aI G qpg 22 (nF p), aZ G qfo 81 (bF fo), aI G qon 128 (nF (srO rs)), aI G qmn 128 (nF (srM rs)), aI G qpr 128 (srP rs), aI G qle 128 (nF (srL rs)), aZ G qst 128 (bF (ntF (srG rs))), aZ G qwt 128 (bF wt)] (fun (v : Option Value) (w : va_W) => ∃ (rs2 : Sr) (wt2 : Nat → Bool) (fo2 : Nat → Bool), v = some (.int (nI (srV (runS (folB (gz p) (p 0) (p 2) (go p) (p 1) (p 3)) md (p 2) (p 3) (gz p) (go p) (p 1) c0S 128) 4))) ∧ w = [ob o 11 [.int (nI 0), .ref qtx, .int (nI ts), .int (nI pl), .ref qrp, .ref qpg, .ref qtr, .ref qbk, .int (nI dn), .ref qkp, .ref qik, .int (nI sn), .ref qsw, .ref qsi, .long sd, .ref qln, .ref qfm, .ref qby, .ref qwy, .int (nI wz), .ref qfo, .ref qon, .ref qmn, .ref qpr, .ref qle, .ref qst, .ref qwt, .int (nI (srN rs2)), .int (nI (srT rs2)), .int (nI (srA rs2)), .int (nI (srD rs2)), .int (bI (srB rs2)), .ref qwo], aI G qpg 22 (nF p), aZ G qfo 81 (bF fo2), aI G qon 128 (nF (srO rs2)), aI G qmn 128 (nF (srM rs2)), aI G qpr 128 (srP rs2), aI G qle 128 (nF (srL rs2)), aZ G qst 128 (bF (ntF (srG rs2))), aZ G qwt 128 (bF wt2)]) 0 0 := by
  refine MM.ofI (by decide) rfl (fun Γ X Y hnm ret => ?_)
  show Wc Γ 0 0 0 [(0, .ref o), (1, .int (nI md)), (2, .int (nI 4))] [] [ob o 11 [.int th, .ref qtx, .int (nI ts), .int (nI pl), .ref qrp, .ref qpg, .ref qtr, .ref qbk, .int (nI dn), .ref qkp, .ref qik, .int (nI sn), .ref qsw, .ref qsi, .long sd, .ref qln, .ref qfm, .ref qby, .ref qwy, .int (nI wz), .ref qfo, .ref qon, .ref qmn, .ref qpr, .ref qle, .ref qst, .ref qwt, .int (nI (srN rs)), .int (nI (srT rs)), .int (nI (srA rs)), .int (nI (srD rs)), .int (bI (srB rs)), .ref qwo], aI G qpg 22 (nF p), aZ G qfo 81 (bF fo), aI G qon 128 (nF (srO rs)), aI G qmn 128 (nF (srM rs)), aI G qpr 128 (srP rs), aI G qle 128 (nF (srL rs)), aZ G qst 128 (bF (ntF (srG rs))), aZ G qwt 128 (bF wt)]
  have hn0 := hr.2.1
  have hn01 := hr.1
  have hn1 := hr.2.2.2.1
  have hn11 := hr.2.2.1
  have he0 := pg_e0 hr
  have he1 := hr.2.2.2.2.1 3
  have hg0 := hr.2.2.2.2.2.1
  have hg1 := (fun j => hr.2.2.2.2.1 (12 + j) : ∀ j, go p j < 32)
  have hg0n := (hr.2.2.2.2.2.2.1 0 (by decide) : ∀ j, gz p j < 2 ^ p 0)
  have hg1n := (hr.2.2.2.2.2.2.1 1 (by decide) : ∀ j, go p j < 2 ^ p 1)
  have he0n := hr.2.2.2.2.2.2.2 0 (by decide)
  have he1n := hr.2.2.2.2.2.2.2 1 (by decide)
  have hg0w := (fun j => Nat.lt_trans (hg0 j) (by decide) : ∀ j, gz p j < 32)
  have hC := Cvr_fol (e0 := p 2) (e1 := p 3) hn0 hn1 hg0n hg1n
  refine wc_aload_n X 0 0 dX11_search_0 rfl ?_
  refine wc_iconstN X 1 0 dX11_search_1 ?_
  refine wc_put X Y 2 0 0 kd11 rfl (by decide) q_765 rfl rfl rfl (Nat.le_of_ble_eq_true rfl) (ws' := [ob o 11 [.int (nI 0), .ref qtx, .int (nI ts), .int (nI pl), .ref qrp, .ref qpg, .ref qtr, .ref qbk, .int (nI dn), .ref qkp, .ref qik, .int (nI sn), .ref qsw, .ref qsi, .long sd, .ref qln, .ref qfm, .ref qby, .ref qwy, .int (nI wz), .ref qfo, .ref qon, .ref qmn, .ref qpr, .ref qle, .ref qst, .ref qwt, .int (nI (srN rs)), .int (nI (srT rs)), .int (nI (srA rs)), .int (nI (srD rs)), .int (bI (srB rs)), .ref qwo], aI G qpg 22 (nF p), aZ G qfo 81 (bF fo), aI G qon 128 (nF (srO rs)), aI G qmn 128 (nF (srM rs)), aI G qpr 128 (srP rs), aI G qle 128 (nF (srL rs)), aZ G qst 128 (bF (ntF (srG rs))), aZ G qwt 128 (bF wt)]) rfl dX11_search_2 ?_
  refine wc_iload_n X 5 1 dX11_search_5 rfl ?_
  refine wc_i2l X 6 dX11_search_6 ?_
  refine wc_lconst X 7 0 dX11_search_7 (by decide) ?_
  refine wc_ldc2 X 8 149 (2) q_945 dX11_search_8 ?_
  refine wc_callS X 11 [] (c_X11_in l G ((nI md).toInt64) 0 2 ) ys_X11_in rfl q_870 ⟨rfl, rfl⟩ ⟨rfl, rfl⟩ ⟨rfl, rfl⟩ rfl rfl rfl dX11_search_11 ?_
  refine wc_topi (b2i true) (congrArg b2i (inL_in (a := 0) (b := 2) rfl rfl (by omega) (by omega) (by omega))) ?_
  refine wc_if_eqB X 14 29 dX11_search_14 (by decide) (fun c14_1 => ?_) (fun c14_1 => ?_)
  ·
    exact absurd c14_1 (by decide)
  ·
    refine wc_iload_n X 17 2 dX11_search_17 rfl ?_
    refine wc_i2l X 18 dX11_search_18 ?_
    refine wc_lconst X 19 0 dX11_search_19 (by decide) ?_
    refine wc_ldc2 X 20 273 (4) q_1061 dX11_search_20 ?_
    refine wc_callS X 23 [] (c_X11_in l G ((nI 4).toInt64) 0 4 ) ys_X11_in rfl q_870 ⟨rfl, rfl⟩ ⟨rfl, rfl⟩ ⟨rfl, rfl⟩ rfl rfl rfl dX11_search_23 ?_
    refine wc_topi (b2i true) (by decide) ?_
    refine wc_if_neB X 26 32 dX11_search_26 (by decide) (fun c26_2 => ?_) (fun c26_2 => ?_)
    ·
      refine wc_aload_n X 32 0 dX11_search_32 rfl ?_
      refine wc_iload_n X 33 1 dX11_search_33 rfl ?_
      refine wc_mutV X Y 34 [0, 1, 2, 3, 4, 5, 6, 7, 8] [] 0 (c_X11_goSearch l G o (nI 0) qtx ts pl qrp qpg qtr qbk dn qkp qik sn qsw qsi sd qln qfm qby qwy wz qfo qon qmn qpr qle qst qwt qwo fo (folB (gz p) (p 0) (p 2) (go p) (p 1) (p 3)) md rs wt p (by first | assumption | omega) (by first | assumption | omega) (fun _ _ => rfl) hC) yv_X11_goSearch kd11 rfl rfl (wr := []) rfl ⟨rfl, rfl, rfl⟩ q_1062 ⟨rfl, rfl⟩ ⟨rfl, rfl⟩ ⟨rfl, rfl⟩ rfl rfl rfl dX11_search_34 (fun v w hp_3 => ?_)
      obtain ⟨s9, w9, fo9, rfl, rfl, hs9⟩ := hp_3
      refine wc_perm Y [0, 1, 2, 3, 4, 5, 6, 7, 8] [ob o 11 [.int (nI 0), .ref qtx, .int (nI ts), .int (nI pl), .ref qrp, .ref qpg, .ref qtr, .ref qbk, .int (nI dn), .ref qkp, .ref qik, .int (nI sn), .ref qsw, .ref qsi, .long sd, .ref qln, .ref qfm, .ref qby, .ref qwy, .int (nI wz), .ref qfo, .ref qon, .ref qmn, .ref qpr, .ref qle, .ref qst, .ref qwt, .int (nI (srN s9)), .int (nI (srT s9)), .int (nI (srA s9)), .int (nI (srD s9)), .int (bI (srB s9)), .ref qwo], aI G qpg 22 (nF p), aZ G qfo 81 (bF fo9), aI G qon 128 (nF (srO s9)), aI G qmn 128 (nF (srM s9)), aI G qpr 128 (srP s9), aI G qle 128 (nF (srL s9)), aZ G qst 128 (bF (ntF (srG s9))), aZ G qwt 128 (bF w9)] rfl rfl ?_
      show Wc Γ 0 0 37 [(0, .ref o), (1, .int (nI md)), (2, .int (nI 4))] [] [ob o 11 [.int (nI 0), .ref qtx, .int (nI ts), .int (nI pl), .ref qrp, .ref qpg, .ref qtr, .ref qbk, .int (nI dn), .ref qkp, .ref qik, .int (nI sn), .ref qsw, .ref qsi, .long sd, .ref qln, .ref qfm, .ref qby, .ref qwy, .int (nI wz), .ref qfo, .ref qon, .ref qmn, .ref qpr, .ref qle, .ref qst, .ref qwt, .int (nI (srN s9)), .int (nI (srT s9)), .int (nI (srA s9)), .int (nI (srD s9)), .int (bI (srB s9)), .ref qwo], aI G qpg 22 (nF p), aZ G qfo 81 (bF fo9), aI G qon 128 (nF (srO s9)), aI G qmn 128 (nF (srM s9)), aI G qpr 128 (srP s9), aI G qle 128 (nF (srL s9)), aZ G qst 128 (bF (ntF (srG s9))), aZ G qwt 128 (bF w9)]
      have hI9 : Inv (folB (gz p) (p 0) (p 2) (go p) (p 1) (p 3)) md (p 0) (p 1) s9 := by rw [hs9]; exact run_inv hC hn01 hn1 hn11 hg0n hg1n rfl rfl 128
      have hN9 := Inv_le hn0 hn1 hI9
      have e9 : Eqv s9 (runS (folB (gz p) (p 0) (p 2) (go p) (p 1) (p 3)) md (p 2) (p 3) (gz p) (go p) (p 1) c0S 128) := by rw [hs9]; exact run_c0
      refine wc_iload_n X 37 2 dX11_search_37 rfl ?_
      refine wc_tsO X 38 98 dX11_search_38 (by decide) (by decide) ?_
      refine wc_aload_n X 98 0 dX11_search_98 rfl ?_
      refine wc_get X 99 0 30 kd11 rfl (by decide) q_795 rfl dX11_search_99 ?_
      exact ret 102 _ (nI (srD s9)) _ dX11_search_102 (⟨_, _, _, by rw [← srV_eqv e9]; rfl, rfl⟩)
    ·
      exact absurd c26_2 (by decide)

set_option maxHeartbeats 4000000 in
set_option maxRecDepth 100000 in
theorem c_X11_keptF (l : Launch) (G : GG) (o : Nat) (th : Int32) (qtx ts pl qrp qpg qtr qbk dn qkp qik sn qsw qsi : Nat) (sd : Int64) (qln qfm qby qwy wz qfo qon qmn qpr qle qst qwt rc tk ps gn : Nat) (bd : Int32) (qwo : Nat) (md k : Int32) (ho : outR md 0 2) : MM l G yX11_kept (Cond.code yX11_kept cX11_kept 6 (some .int)) { frames := 1, cells := 0, slots := 0, locals := 25 } [.ref o, .int md, .int k] [ob o 11 [.int th, .ref qtx, .int (nI ts), .int (nI pl), .ref qrp, .ref qpg, .ref qtr, .ref qbk, .int (nI dn), .ref qkp, .ref qik, .int (nI sn), .ref qsw, .ref qsi, .long sd, .ref qln, .ref qfm, .ref qby, .ref qwy, .int (nI wz), .ref qfo, .ref qon, .ref qmn, .ref qpr, .ref qle, .ref qst, .ref qwt, .int (nI rc), .int (nI tk), .int (nI ps), .int (nI gn), .int bd, .ref qwo]] (fun (v : Option Value) (w : va_W) => v = some (.int (-2)) ∧ w = [ob o 11 [.int (nI 0), .ref qtx, .int (nI ts), .int (nI pl), .ref qrp, .ref qpg, .ref qtr, .ref qbk, .int (nI dn), .ref qkp, .ref qik, .int (nI sn), .ref qsw, .ref qsi, .long sd, .ref qln, .ref qfm, .ref qby, .ref qwy, .int (nI wz), .ref qfo, .ref qon, .ref qmn, .ref qpr, .ref qle, .ref qst, .ref qwt, .int (nI rc), .int (nI tk), .int (nI ps), .int (nI gn), .int bd, .ref qwo]]) 0 0 := by
  refine MM.ofI (by decide) rfl (fun Γ X Y hnm ret => ?_)
  show Wc Γ 0 0 0 [(0, .ref o), (1, .int md), (2, .int k)] [] [ob o 11 [.int th, .ref qtx, .int (nI ts), .int (nI pl), .ref qrp, .ref qpg, .ref qtr, .ref qbk, .int (nI dn), .ref qkp, .ref qik, .int (nI sn), .ref qsw, .ref qsi, .long sd, .ref qln, .ref qfm, .ref qby, .ref qwy, .int (nI wz), .ref qfo, .ref qon, .ref qmn, .ref qpr, .ref qle, .ref qst, .ref qwt, .int (nI rc), .int (nI tk), .int (nI ps), .int (nI gn), .int bd, .ref qwo]]
  refine wc_aload_n X 0 0 dX11_kept_0 rfl ?_
  refine wc_iconstN X 1 0 dX11_kept_1 ?_
  refine wc_put X Y 2 0 0 kd11 rfl (by decide) q_765 rfl rfl rfl (Nat.le_of_ble_eq_true rfl) (ws' := [ob o 11 [.int (nI 0), .ref qtx, .int (nI ts), .int (nI pl), .ref qrp, .ref qpg, .ref qtr, .ref qbk, .int (nI dn), .ref qkp, .ref qik, .int (nI sn), .ref qsw, .ref qsi, .long sd, .ref qln, .ref qfm, .ref qby, .ref qwy, .int (nI wz), .ref qfo, .ref qon, .ref qmn, .ref qpr, .ref qle, .ref qst, .ref qwt, .int (nI rc), .int (nI tk), .int (nI ps), .int (nI gn), .int bd, .ref qwo]]) rfl dX11_kept_2 ?_
  refine wc_iload_n X 5 1 dX11_kept_5 rfl ?_
  refine wc_i2l X 6 dX11_kept_6 ?_
  refine wc_lconst X 7 0 dX11_kept_7 (by decide) ?_
  refine wc_ldc2 X 8 149 (2) q_945 dX11_kept_8 ?_
  refine wc_callS X 11 [] (c_X11_in l G ((md).toInt64) 0 2 ) ys_X11_in rfl q_870 ⟨rfl, rfl⟩ ⟨rfl, rfl⟩ ⟨rfl, rfl⟩ rfl rfl rfl dX11_kept_11 ?_
  refine wc_topi (b2i false) (congrArg b2i (inL_out rfl rfl ho)) ?_
  refine wc_if_neB X 14 20 dX11_kept_14 (by decide) (fun c14_1 => ?_) (fun c14_1 => ?_)
  ·
    exact absurd c14_1 (by decide)
  ·
    refine wc_bipush X 17 (-2) dX11_kept_17 (by decide) ?_
    exact ret 19 _ (-2) _ dX11_kept_19 (⟨rfl, rfl⟩)

set_option maxHeartbeats 4000000 in
set_option maxRecDepth 100000 in
theorem c_X11_keptS (l : Launch) (G : GG) (o : Nat) (th : Int32) (qtx ts pl qrp qpg qtr qbk dn qkp qik sn qsw qsi : Nat) (sd : Int64) (qln qfm qby qwy wz qfo qon qmn qpr qle qst qwt qwo : Nat) (fo : Nat → Bool) (rs : Sr) (wt : Nat → Bool) (p : Nat → Nat) (md : Nat) (k : Int32) (hr : pgOk p) (hmd : md ≤ 2) : MM l G yX11_kept (Cond.code yX11_kept cX11_kept 6 (some .int)) { frames := 8, cells := 0, slots := 0, locals := 195 } [.ref o, .int (nI md), .int k] [ob o 11 [.int th, .ref qtx, .int (nI ts), .int (nI pl), .ref qrp, .ref qpg, .ref qtr, .ref qbk, .int (nI dn), .ref qkp, .ref qik, .int (nI sn), .ref qsw, .ref qsi, .long sd, .ref qln, .ref qfm, .ref qby, .ref qwy, .int (nI wz), .ref qfo, .ref qon, .ref qmn, .ref qpr, .ref qle, .ref qst, .ref qwt, .int (nI (srN rs)), .int (nI (srT rs)), .int (nI (srA rs)), .int (nI (srD rs)), .int (bI (srB rs)), .ref qwo], aI G qpg 22 (nF p), aZ G qfo 81 (bF fo), aI G qon 128 (nF (srO rs)), aI G qmn 128 (nF (srM rs)), aI G qpr 128 (srP rs), aI G qle 128 (nF (srL rs)), aZ G qst 128 (bF (ntF (srG rs))), aZ G qwt 128 (bF wt)] (fun (v : Option Value) (w : va_W) => ∃ (rs2 : Sr) (wt2 : Nat → Bool) (fo2 : Nat → Bool), v = some (.int (kpR (runS (folB (gz p) (p 0) (p 2) (go p) (p 1) (p 3)) md (p 2) (p 3) (gz p) (go p) (p 1) c0S 128) k)) ∧ w = [ob o 11 [.int (nI 0), .ref qtx, .int (nI ts), .int (nI pl), .ref qrp, .ref qpg, .ref qtr, .ref qbk, .int (nI dn), .ref qkp, .ref qik, .int (nI sn), .ref qsw, .ref qsi, .long sd, .ref qln, .ref qfm, .ref qby, .ref qwy, .int (nI wz), .ref qfo, .ref qon, .ref qmn, .ref qpr, .ref qle, .ref qst, .ref qwt, .int (nI (srN rs2)), .int (nI (srT rs2)), .int (nI (srA rs2)), .int (nI (srD rs2)), .int (bI (srB rs2)), .ref qwo], aI G qpg 22 (nF p), aZ G qfo 81 (bF fo2), aI G qon 128 (nF (srO rs2)), aI G qmn 128 (nF (srM rs2)), aI G qpr 128 (srP rs2), aI G qle 128 (nF (srL rs2)), aZ G qst 128 (bF (ntF (srG rs2))), aZ G qwt 128 (bF wt2)]) 0 0 := by
  refine MM.ofI (by decide) rfl (fun Γ X Y hnm ret => ?_)
  show Wc Γ 0 0 0 [(0, .ref o), (1, .int (nI md)), (2, .int k)] [] [ob o 11 [.int th, .ref qtx, .int (nI ts), .int (nI pl), .ref qrp, .ref qpg, .ref qtr, .ref qbk, .int (nI dn), .ref qkp, .ref qik, .int (nI sn), .ref qsw, .ref qsi, .long sd, .ref qln, .ref qfm, .ref qby, .ref qwy, .int (nI wz), .ref qfo, .ref qon, .ref qmn, .ref qpr, .ref qle, .ref qst, .ref qwt, .int (nI (srN rs)), .int (nI (srT rs)), .int (nI (srA rs)), .int (nI (srD rs)), .int (bI (srB rs)), .ref qwo], aI G qpg 22 (nF p), aZ G qfo 81 (bF fo), aI G qon 128 (nF (srO rs)), aI G qmn 128 (nF (srM rs)), aI G qpr 128 (srP rs), aI G qle 128 (nF (srL rs)), aZ G qst 128 (bF (ntF (srG rs))), aZ G qwt 128 (bF wt)]
  have hn0 := hr.2.1
  have hn01 := hr.1
  have hn1 := hr.2.2.2.1
  have hn11 := hr.2.2.1
  have he0 := pg_e0 hr
  have he1 := hr.2.2.2.2.1 3
  have hg0 := hr.2.2.2.2.2.1
  have hg1 := (fun j => hr.2.2.2.2.1 (12 + j) : ∀ j, go p j < 32)
  have hg0n := (hr.2.2.2.2.2.2.1 0 (by decide) : ∀ j, gz p j < 2 ^ p 0)
  have hg1n := (hr.2.2.2.2.2.2.1 1 (by decide) : ∀ j, go p j < 2 ^ p 1)
  have he0n := hr.2.2.2.2.2.2.2 0 (by decide)
  have he1n := hr.2.2.2.2.2.2.2 1 (by decide)
  have hg0w := (fun j => Nat.lt_trans (hg0 j) (by decide) : ∀ j, gz p j < 32)
  have hC := Cvr_fol (e0 := p 2) (e1 := p 3) hn0 hn1 hg0n hg1n
  refine wc_aload_n X 0 0 dX11_kept_0 rfl ?_
  refine wc_iconstN X 1 0 dX11_kept_1 ?_
  refine wc_put X Y 2 0 0 kd11 rfl (by decide) q_765 rfl rfl rfl (Nat.le_of_ble_eq_true rfl) (ws' := [ob o 11 [.int (nI 0), .ref qtx, .int (nI ts), .int (nI pl), .ref qrp, .ref qpg, .ref qtr, .ref qbk, .int (nI dn), .ref qkp, .ref qik, .int (nI sn), .ref qsw, .ref qsi, .long sd, .ref qln, .ref qfm, .ref qby, .ref qwy, .int (nI wz), .ref qfo, .ref qon, .ref qmn, .ref qpr, .ref qle, .ref qst, .ref qwt, .int (nI (srN rs)), .int (nI (srT rs)), .int (nI (srA rs)), .int (nI (srD rs)), .int (bI (srB rs)), .ref qwo], aI G qpg 22 (nF p), aZ G qfo 81 (bF fo), aI G qon 128 (nF (srO rs)), aI G qmn 128 (nF (srM rs)), aI G qpr 128 (srP rs), aI G qle 128 (nF (srL rs)), aZ G qst 128 (bF (ntF (srG rs))), aZ G qwt 128 (bF wt)]) rfl dX11_kept_2 ?_
  refine wc_iload_n X 5 1 dX11_kept_5 rfl ?_
  refine wc_i2l X 6 dX11_kept_6 ?_
  refine wc_lconst X 7 0 dX11_kept_7 (by decide) ?_
  refine wc_ldc2 X 8 149 (2) q_945 dX11_kept_8 ?_
  refine wc_callS X 11 [] (c_X11_in l G ((nI md).toInt64) 0 2 ) ys_X11_in rfl q_870 ⟨rfl, rfl⟩ ⟨rfl, rfl⟩ ⟨rfl, rfl⟩ rfl rfl rfl dX11_kept_11 ?_
  refine wc_topi (b2i true) (congrArg b2i (inL_in (a := 0) (b := 2) rfl rfl (by omega) (by omega) (by omega))) ?_
  refine wc_if_neB X 14 20 dX11_kept_14 (by decide) (fun c14_1 => ?_) (fun c14_1 => ?_)
  ·
    refine wc_aload_n X 20 0 dX11_kept_20 rfl ?_
    refine wc_iload_n X 21 1 dX11_kept_21 rfl ?_
    refine wc_mutV X Y 22 [0, 1, 2, 3, 4, 5, 6, 7, 8] [] 0 (c_X11_goSearch l G o (nI 0) qtx ts pl qrp qpg qtr qbk dn qkp qik sn qsw qsi sd qln qfm qby qwy wz qfo qon qmn qpr qle qst qwt qwo fo (folB (gz p) (p 0) (p 2) (go p) (p 1) (p 3)) md rs wt p (by first | assumption | omega) (by first | assumption | omega) (fun _ _ => rfl) hC) yv_X11_goSearch kd11 rfl rfl (wr := []) rfl ⟨rfl, rfl, rfl⟩ q_1062 ⟨rfl, rfl⟩ ⟨rfl, rfl⟩ ⟨rfl, rfl⟩ rfl rfl rfl dX11_kept_22 (fun v w hp_2 => ?_)
    obtain ⟨s9, w9, fo9, rfl, rfl, hs9⟩ := hp_2
    refine wc_perm Y [0, 1, 2, 3, 4, 5, 6, 7, 8] [ob o 11 [.int (nI 0), .ref qtx, .int (nI ts), .int (nI pl), .ref qrp, .ref qpg, .ref qtr, .ref qbk, .int (nI dn), .ref qkp, .ref qik, .int (nI sn), .ref qsw, .ref qsi, .long sd, .ref qln, .ref qfm, .ref qby, .ref qwy, .int (nI wz), .ref qfo, .ref qon, .ref qmn, .ref qpr, .ref qle, .ref qst, .ref qwt, .int (nI (srN s9)), .int (nI (srT s9)), .int (nI (srA s9)), .int (nI (srD s9)), .int (bI (srB s9)), .ref qwo], aI G qpg 22 (nF p), aZ G qfo 81 (bF fo9), aI G qon 128 (nF (srO s9)), aI G qmn 128 (nF (srM s9)), aI G qpr 128 (srP s9), aI G qle 128 (nF (srL s9)), aZ G qst 128 (bF (ntF (srG s9))), aZ G qwt 128 (bF w9)] rfl rfl ?_
    show Wc Γ 0 0 25 [(0, .ref o), (1, .int (nI md)), (2, .int k)] [] [ob o 11 [.int (nI 0), .ref qtx, .int (nI ts), .int (nI pl), .ref qrp, .ref qpg, .ref qtr, .ref qbk, .int (nI dn), .ref qkp, .ref qik, .int (nI sn), .ref qsw, .ref qsi, .long sd, .ref qln, .ref qfm, .ref qby, .ref qwy, .int (nI wz), .ref qfo, .ref qon, .ref qmn, .ref qpr, .ref qle, .ref qst, .ref qwt, .int (nI (srN s9)), .int (nI (srT s9)), .int (nI (srA s9)), .int (nI (srD s9)), .int (bI (srB s9)), .ref qwo], aI G qpg 22 (nF p), aZ G qfo 81 (bF fo9), aI G qon 128 (nF (srO s9)), aI G qmn 128 (nF (srM s9)), aI G qpr 128 (srP s9), aI G qle 128 (nF (srL s9)), aZ G qst 128 (bF (ntF (srG s9))), aZ G qwt 128 (bF w9)]
    have hI9 : Inv (folB (gz p) (p 0) (p 2) (go p) (p 1) (p 3)) md (p 0) (p 1) s9 := by rw [hs9]; exact run_inv hC hn01 hn1 hn11 hg0n hg1n rfl rfl 128
    have hN9 := Inv_le hn0 hn1 hI9
    have e9 : Eqv s9 (runS (folB (gz p) (p 0) (p 2) (go p) (p 1) (p 3)) md (p 2) (p 3) (gz p) (go p) (p 1) c0S 128) := by rw [hs9]; exact run_c0
    refine wc_iload_n X 25 2 dX11_kept_25 rfl ?_
    refine wc_i2l X 26 dX11_kept_26 ?_
    refine wc_lconst X 27 0 dX11_kept_27 (by decide) ?_
    refine wc_aload_n X 28 0 dX11_kept_28 rfl ?_
    refine wc_callV X 29 [0, 7] 0 (c_X11_staying l G o (nI 0) qtx ts pl qrp qpg qtr qbk dn qkp qik sn qsw qsi sd qln qfm qby qwy wz qfo qon qmn qpr qle qst qwt qwo s9 hN9) yv_X11_staying kd11 rfl rfl q_1094 ⟨rfl, rfl⟩ ⟨rfl, rfl⟩ ⟨rfl, rfl⟩ rfl rfl rfl dX11_kept_29 ?_
    refine wc_iconst X 32 (1) dX11_kept_32 (by decide) ?_
    refine wc_isub X 33 dX11_kept_33 ?_
    refine wc_i2l X 34 dX11_kept_34 ?_
    refine wc_callS X 35 [] (c_X11_in l G ((k).toInt64) 0 ((((nI (stay s9 (srN s9))) - (1))).toInt64) ) ys_X11_in rfl q_870 ⟨rfl, rfl⟩ ⟨rfl, rfl⟩ ⟨rfl, rfl⟩ rfl rfl rfl dX11_kept_35 ?_
    refine wc_if_neB X 38 43 dX11_kept_38 (by decide) (fun c38_3 => ?_) (fun c38_3 => ?_)
    ·
      have hin := (st_in (pr := k) (N := stay s9 (srN s9)) (Nat.le_trans (stay_le _ _) hN9)).resolve_right (fun z => by have z1 := z.1.symm.trans (show inL k.toInt64 0 (nI (stay s9 (srN s9)) - 1).toInt64 = true from c38_3); cases z1)
      refine wc_iconstN X 43 0 dX11_kept_43 ?_
      refine wc_istore_n X 44 (L' := [(0, .ref o), (1, .int (nI md)), (2, .int k), (3, .int (nI 0))]) dX11_kept_44 (by decide) rfl ?_
      refine wc_bipush X 45 (-9) dX11_kept_45 (by decide) ?_
      refine wc_istore X 47 (L' := [(0, .ref o), (1, .int (nI md)), (2, .int k), (3, .int (nI 0)), (4, .int (-9))]) dX11_kept_47 (by decide) rfl ?_
      refine wc_iconstN X 49 0 dX11_kept_49 ?_
      refine wc_istore X 50 (L' := [(0, .ref o), (1, .int (nI md)), (2, .int k), (3, .int (nI 0)), (4, .int (-9)), (5, .int (nI 0))]) dX11_kept_50 (by decide) rfl ?_
      have LP_5 : ∀ (fuel_4 : Nat) (i : Nat), (i ≤ srN s9) → 128 - i < fuel_4 → Wc Γ 0 0 52 [(0, .ref o), (1, .int (nI md)), (2, .int k), (3, .int (nI (stay s9 i))), (4, .int (kpT s9 k i)), (5, .int (nI i))] [] [ob o 11 [.int (nI 0), .ref qtx, .int (nI ts), .int (nI pl), .ref qrp, .ref qpg, .ref qtr, .ref qbk, .int (nI dn), .ref qkp, .ref qik, .int (nI sn), .ref qsw, .ref qsi, .long sd, .ref qln, .ref qfm, .ref qby, .ref qwy, .int (nI wz), .ref qfo, .ref qon, .ref qmn, .ref qpr, .ref qle, .ref qst, .ref qwt, .int (nI (srN s9)), .int (nI (srT s9)), .int (nI (srA s9)), .int (nI (srD s9)), .int (bI (srB s9)), .ref qwo], aI G qpg 22 (nF p), aZ G qfo 81 (bF fo9), aI G qon 128 (nF (srO s9)), aI G qmn 128 (nF (srM s9)), aI G qpr 128 (srP s9), aI G qle 128 (nF (srL s9)), aZ G qst 128 (bF (ntF (srG s9))), aZ G qwt 128 (bF w9)] := by
        intro fuel_4
        induction fuel_4 with
        | zero => intro i hi hm; exact absurd hm (Nat.not_lt_zero _)
        | succ fuel_4 ih_6 =>
          intro i hi hm_7
          refine wc_iload X 52 5 dX11_kept_52 rfl ?_
          refine wc_aload_n X 54 0 dX11_kept_54 rfl ?_
          refine wc_get X 55 0 27 kd11 rfl (by decide) q_792 rfl dX11_kept_55 ?_
          refine wc_icmp_geN X 58 125 dX11_kept_58 (by decide) (by omega) (by omega) (fun c58_8 => ?_) (fun c58_8 => ?_)
          ·
            refine wc_iload X 125 4 dX11_kept_125 rfl ?_
            exact ret 127 _ (kpT s9 k i) _ dX11_kept_127 (⟨_, _, _, by rw [← kpR_eqv (Nat.le_refl _) e9]; obtain ⟨-, n, hn, rfl⟩ := hin; rw [← kpR_in hN9 hn, show i = srN s9 by omega], rfl⟩)
          ·
            refine wc_aload_n X 61 0 dX11_kept_61 rfl ?_
            refine wc_get X 62 0 25 kd11 rfl (by decide) q_790 rfl dX11_kept_62 ?_
            refine wc_iload X 65 5 dX11_kept_65 rfl ?_
            refine wc_zaldG X 67 7 rfl (by omega) (by decide) dX11_kept_67 ?_
            refine wc_if_eqB X 68 97 dX11_kept_68 (by decide) (fun c68_9 => ?_) (fun c68_9 => ?_)
            ·
              refine wc_iload X 97 4 dX11_kept_97 rfl ?_
              refine wc_istore X 99 (L' := [(0, .ref o), (1, .int (nI md)), (2, .int k), (3, .int (nI (stay s9 i))), (4, .int (kpT s9 k i)), (5, .int (nI i))]) dX11_kept_99 (by decide) rfl ?_
              refine wc_iload_n X 101 3 dX11_kept_101 rfl ?_
              refine wc_aload_n X 102 0 dX11_kept_102 rfl ?_
              refine wc_get X 103 0 25 kd11 rfl (by decide) q_790 rfl dX11_kept_103 ?_
              refine wc_iload X 106 5 dX11_kept_106 rfl ?_
              refine wc_zaldG X 108 7 rfl (by omega) (by decide) dX11_kept_108 ?_
              refine wc_if_eqB X 109 116 dX11_kept_109 (by decide) (fun c109_10 => ?_) (fun c109_10 => ?_)
              ·
                refine wc_iconstN X 116 0 dX11_kept_116 ?_
                refine wc_iaddN X 117 dX11_kept_117 ?_
                refine wc_istore_n X 118 (L' := [(0, .ref o), (1, .int (nI md)), (2, .int k), (3, .int (nI ((stay s9 i) + 0))), (4, .int (kpT s9 k i)), (5, .int (nI i))]) dX11_kept_118 (by decide) rfl ?_
                refine wc_iincN X 119 5 (L' := [(0, .ref o), (1, .int (nI md)), (2, .int k), (3, .int (nI ((stay s9 i) + 0))), (4, .int (kpT s9 k i)), (5, .int (nI (i + 1)))]) dX11_kept_119 rfl (by decide) rfl ?_
                refine wc_goto X 122 52 dX11_kept_122 (by decide) ?_
                have e_11 : (stay s9 i) + 0 = stay s9 (i + 1) := (stay_off (ntF_f c109_10))
                have e_12 : kpT s9 k i = kpT s9 k (i + 1) := by rw [kt_off (Or.inl (ntF_f c68_9))]
                refine wc_L (L' := [(0, .ref o), (1, .int (nI md)), (2, .int k), (3, .int (nI (stay s9 (i + 1)))), (4, .int (kpT s9 k (i + 1))), (5, .int (nI (i + 1)))]) (by first | (rw [e_11, e_12]; done) | (rw [e_11, e_12]; rfl) | rfl) ?_
                exact ih_6 (i + 1) (by omega) (by omega)
              ·
                exact absurd c68_9 (by rw [c109_10]; decide)
            ·
              refine wc_iload_n X 71 3 dX11_kept_71 rfl ?_
              refine wc_iload_n X 72 2 dX11_kept_72 rfl ?_
              refine wc_icmp_ne X 73 97 dX11_kept_73 (by decide) (fun c73_13 => ?_) (fun c73_13 => ?_)
              ·
                refine wc_iload X 97 4 dX11_kept_97 rfl ?_
                refine wc_istore X 99 (L' := [(0, .ref o), (1, .int (nI md)), (2, .int k), (3, .int (nI (stay s9 i))), (4, .int (kpT s9 k i)), (5, .int (nI i))]) dX11_kept_99 (by decide) rfl ?_
                refine wc_iload_n X 101 3 dX11_kept_101 rfl ?_
                refine wc_aload_n X 102 0 dX11_kept_102 rfl ?_
                refine wc_get X 103 0 25 kd11 rfl (by decide) q_790 rfl dX11_kept_103 ?_
                refine wc_iload X 106 5 dX11_kept_106 rfl ?_
                refine wc_zaldG X 108 7 rfl (by omega) (by decide) dX11_kept_108 ?_
                refine wc_if_eqB X 109 116 dX11_kept_109 (by decide) (fun c109_14 => ?_) (fun c109_14 => ?_)
                ·
                  exact absurd c68_9 (by rw [c109_14]; decide)
                ·
                  refine wc_iconstN X 112 1 dX11_kept_112 ?_
                  refine wc_goto X 113 117 dX11_kept_113 (by decide) ?_
                  refine wc_iaddN X 117 dX11_kept_117 ?_
                  refine wc_istore_n X 118 (L' := [(0, .ref o), (1, .int (nI md)), (2, .int k), (3, .int (nI ((stay s9 i) + 1))), (4, .int (kpT s9 k i)), (5, .int (nI i))]) dX11_kept_118 (by decide) rfl ?_
                  refine wc_iincN X 119 5 (L' := [(0, .ref o), (1, .int (nI md)), (2, .int k), (3, .int (nI ((stay s9 i) + 1))), (4, .int (kpT s9 k i)), (5, .int (nI (i + 1)))]) dX11_kept_119 rfl (by decide) rfl ?_
                  refine wc_goto X 122 52 dX11_kept_122 (by decide) ?_
                  have e_15 : (stay s9 i) + 1 = stay s9 (i + 1) := (stay_on (ntF_t c68_9))
                  have e_16 : kpT s9 k i = kpT s9 k (i + 1) := by rw [kt_off (Or.inr c73_13)]
                  refine wc_L (L' := [(0, .ref o), (1, .int (nI md)), (2, .int k), (3, .int (nI (stay s9 (i + 1)))), (4, .int (kpT s9 k (i + 1))), (5, .int (nI (i + 1)))]) (by first | (rw [e_15, e_16]; done) | (rw [e_15, e_16]; rfl) | rfl) ?_
                  exact ih_6 (i + 1) (by omega) (by omega)
              ·
                refine wc_bipush X 76 (nI 100) dX11_kept_76 (by decide) ?_
                refine wc_aload_n X 78 0 dX11_kept_78 rfl ?_
                refine wc_get X 79 0 21 kd11 rfl (by decide) q_786 rfl dX11_kept_79 ?_
                refine wc_iload X 82 5 dX11_kept_82 rfl ?_
                refine wc_ialdG X 84 3 rfl (by omega) (by decide) dX11_kept_84 ?_
                refine wc_imulN X 85 dX11_kept_85 ?_
                refine wc_aload_n X 86 0 dX11_kept_86 rfl ?_
                refine wc_get X 87 0 22 kd11 rfl (by decide) q_787 rfl dX11_kept_87 ?_
                refine wc_iload X 90 5 dX11_kept_90 rfl ?_
                refine wc_ialdG X 92 4 rfl (by omega) (by decide) dX11_kept_92 ?_
                refine wc_iaddN X 93 dX11_kept_93 ?_
                refine wc_goto X 94 99 dX11_kept_94 (by decide) ?_
                refine wc_istore X 99 (L' := [(0, .ref o), (1, .int (nI md)), (2, .int k), (3, .int (nI (stay s9 i))), (4, .int (nI ((100 * ((srO s9) i)) + ((srM s9) i)))), (5, .int (nI i))]) dX11_kept_99 (by decide) rfl ?_
                refine wc_iload_n X 101 3 dX11_kept_101 rfl ?_
                refine wc_aload_n X 102 0 dX11_kept_102 rfl ?_
                refine wc_get X 103 0 25 kd11 rfl (by decide) q_790 rfl dX11_kept_103 ?_
                refine wc_iload X 106 5 dX11_kept_106 rfl ?_
                refine wc_zaldG X 108 7 rfl (by omega) (by decide) dX11_kept_108 ?_
                refine wc_if_eqB X 109 116 dX11_kept_109 (by decide) (fun c109_17 => ?_) (fun c109_17 => ?_)
                ·
                  exact absurd c68_9 (by rw [c109_17]; decide)
                ·
                  refine wc_iconstN X 112 1 dX11_kept_112 ?_
                  refine wc_goto X 113 117 dX11_kept_113 (by decide) ?_
                  refine wc_iaddN X 117 dX11_kept_117 ?_
                  refine wc_istore_n X 118 (L' := [(0, .ref o), (1, .int (nI md)), (2, .int k), (3, .int (nI ((stay s9 i) + 1))), (4, .int (nI ((100 * ((srO s9) i)) + ((srM s9) i)))), (5, .int (nI i))]) dX11_kept_118 (by decide) rfl ?_
                  refine wc_iincN X 119 5 (L' := [(0, .ref o), (1, .int (nI md)), (2, .int k), (3, .int (nI ((stay s9 i) + 1))), (4, .int (nI ((100 * ((srO s9) i)) + ((srM s9) i)))), (5, .int (nI (i + 1)))]) dX11_kept_119 rfl (by decide) rfl ?_
                  refine wc_goto X 122 52 dX11_kept_122 (by decide) ?_
                  have e_18 : (stay s9 i) + 1 = stay s9 (i + 1) := (stay_on (ntF_t c68_9))
                  have e_19 : (.int (nI ((100 * ((srO s9) i)) + ((srM s9) i))) : Value) = .int (kpT s9 k (i + 1)) := by rw [← kt_on (by omega) (ntF_t c68_9) c73_13]
                  refine wc_L (L' := [(0, .ref o), (1, .int (nI md)), (2, .int k), (3, .int (nI (stay s9 (i + 1)))), (4, .int (kpT s9 k (i + 1))), (5, .int (nI (i + 1)))]) (by first | (rw [e_18, e_19]; done) | (rw [e_18, e_19]; rfl) | rfl) ?_
                  exact ih_6 (i + 1) (by omega) (by omega)
      have e_20 : 0 = stay s9 0 := rfl
      have e_21 : (-9) = kpT s9 k 0 := rfl
      refine wc_L (L' := [(0, .ref o), (1, .int (nI md)), (2, .int k), (3, .int (nI (stay s9 0))), (4, .int (kpT s9 k 0)), (5, .int (nI 0))]) (by first | (rw [e_20, e_21]; done) | (rw [e_20, e_21]; rfl) | rfl) ?_
      exact LP_5 (128 - 0 + 1) 0 (by omega) (Nat.lt_succ_self _)
    ·
      have hout := (st_in (pr := k) (N := stay s9 (srN s9)) (Nat.le_trans (stay_le _ _) hN9)).resolve_left (fun z => by have z1 := z.1.symm.trans (show inL k.toInt64 0 (nI (stay s9 (srN s9)) - 1).toInt64 = false from c38_3); cases z1)
      refine wc_iconst X 41 (-1) dX11_kept_41 (by decide) ?_
      exact ret 42 _ (-1) _ dX11_kept_42 (⟨_, _, _, by rw [← kpR_eqv (Nat.le_refl _) e9, ← kpR_out hN9 hout.2], rfl⟩)
  ·
    exact absurd c14_1 (by decide)

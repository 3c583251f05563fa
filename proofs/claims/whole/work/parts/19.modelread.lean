set_option maxHeartbeats 4000000 in
set_option maxRecDepth 100000 in
theorem c_X11_figureN (l : Launch) (G : GG) (o : Nat) (th : Int32) (qtx ts pl qrp qpg qtr qbk dn qkp qik sn qsw qsi : Nat) (sd : Int64) (qln qfm qby qwy wz qfo qon qmn qpr qle qst qwt rc tk ps gn : Nat) (bd : Int32) (qwo : Nat) (t : Nat → Nat) (lo hi : Nat) (hts : ts ≤ 80) (ht : ∀ j, t j < 256) (hpl : pl ≤ ts) (hlo : lo < 10) (hhi : hi < 10) (hf : figP t ts pl lo hi = none) : RM l G yX11_figure (Cond.code yX11_figure cX11_figure 3 (some .int)) { frames := 1, cells := 0, slots := 0, locals := 25 } [.ref o, .int (nI lo), .int (nI hi)] [ob o 11 [.int th, .ref qtx, .int (nI ts), .int (nI pl), .ref qrp, .ref qpg, .ref qtr, .ref qbk, .int (nI dn), .ref qkp, .ref qik, .int (nI sn), .ref qsw, .ref qsi, .long sd, .ref qln, .ref qfm, .ref qby, .ref qwy, .int (nI wz), .ref qfo, .ref qon, .ref qmn, .ref qpr, .ref qle, .ref qst, .ref qwt, .int (nI rc), .int (nI tk), .int (nI ps), .int (nI gn), .int bd, .ref qwo], aI G qtx 80 (nF t)] (.int (-9)) := by
  refine RM.ofI (by decide) rfl (fun Γ X ret => ?_)
  show Wc Γ 0 0 0 [(0, .ref o), (1, .int (nI lo)), (2, .int (nI hi))] [] [ob o 11 [.int th, .ref qtx, .int (nI ts), .int (nI pl), .ref qrp, .ref qpg, .ref qtr, .ref qbk, .int (nI dn), .ref qkp, .ref qik, .int (nI sn), .ref qsw, .ref qsi, .long sd, .ref qln, .ref qfm, .ref qby, .ref qwy, .int (nI wz), .ref qfo, .ref qon, .ref qmn, .ref qpr, .ref qle, .ref qst, .ref qwt, .int (nI rc), .int (nI tk), .int (nI ps), .int (nI gn), .int bd, .ref qwo], aI G qtx 80 (nF t)]
  refine wc_aload_n X 0 0 dX11_figure_0 rfl ?_
  refine wc_get X 1 0 3 kd11 rfl (by decide) q_768 rfl dX11_figure_1 ?_
  refine wc_aload_n X 4 0 dX11_figure_4 rfl ?_
  refine wc_get X 5 0 2 kd11 rfl (by decide) q_767 rfl dX11_figure_5 ?_
  refine wc_icmp_eqN X 8 34 dX11_figure_8 (by decide) (by omega) (by omega) (fun c8_1 => ?_) (fun c8_1 => ?_)
  ·
    refine wc_bipush X 34 (-9) dX11_figure_34 (by decide) ?_
    exact ret 36 _ (-9) dX11_figure_36 (rfl)
  ·
    refine wc_aload_n X 11 0 dX11_figure_11 rfl ?_
    refine wc_get X 12 0 1 kd11 rfl (by decide) q_766 rfl dX11_figure_12 ?_
    refine wc_aload_n X 15 0 dX11_figure_15 rfl ?_
    refine wc_get X 16 0 3 kd11 rfl (by decide) q_768 rfl dX11_figure_16 ?_
    refine wc_ialdG X 19 1 rfl (by omega) (by decide) dX11_figure_19 ?_
    refine wc_bipush X 20 (nI 48) dX11_figure_20 (by decide) ?_
    refine wc_isub X 22 dX11_figure_22 ?_
    refine wc_i2l X 23 dX11_figure_23 ?_
    refine wc_iload_n X 24 1 dX11_figure_24 rfl ?_
    refine wc_i2l X 25 dX11_figure_25 ?_
    refine wc_iload_n X 26 2 dX11_figure_26 rfl ?_
    refine wc_i2l X 27 dX11_figure_27 ?_
    refine wc_callS X 28 [] (c_X11_in l G ((((nI (t pl)) - (nI 48))).toInt64) ((nI lo).toInt64) ((nI hi).toInt64) ) ys_X11_in rfl q_870 ⟨rfl, rfl⟩ ⟨rfl, rfl⟩ ⟨rfl, rfl⟩ rfl rfl rfl dX11_figure_28 ?_
    refine wc_if_neB X 31 37 dX11_figure_31 (by decide) (fun c31_2 => ?_) (fun c31_2 => ?_)
    ·
      exact absurd ((inL_fig (ht _) (by omega) (by omega)).mp c31_2) (figP_none hf (by omega))
    ·
      refine wc_bipush X 34 (-9) dX11_figure_34 (by decide) ?_
      exact ret 36 _ (-9) dX11_figure_36 (rfl)

set_option maxHeartbeats 4000000 in
set_option maxRecDepth 100000 in
theorem c_X11_figureS (l : Launch) (G : GG) (o : Nat) (th : Int32) (qtx ts pl qrp qpg qtr qbk dn qkp qik sn qsw qsi : Nat) (sd : Int64) (qln qfm qby qwy wz qfo qon qmn qpr qle qst qwt rc tk ps gn : Nat) (bd : Int32) (qwo : Nat) (t : Nat → Nat) (lo hi d : Nat) (hts : ts ≤ 80) (ht : ∀ j, t j < 256) (hpl : pl ≤ ts) (hlo : lo < 10) (hhi : hi < 10) (hf : figP t ts pl lo hi = some d) : MM l G yX11_figure (Cond.code yX11_figure cX11_figure 3 (some .int)) { frames := 1, cells := 0, slots := 0, locals := 25 } [.ref o, .int (nI lo), .int (nI hi)] [ob o 11 [.int th, .ref qtx, .int (nI ts), .int (nI pl), .ref qrp, .ref qpg, .ref qtr, .ref qbk, .int (nI dn), .ref qkp, .ref qik, .int (nI sn), .ref qsw, .ref qsi, .long sd, .ref qln, .ref qfm, .ref qby, .ref qwy, .int (nI wz), .ref qfo, .ref qon, .ref qmn, .ref qpr, .ref qle, .ref qst, .ref qwt, .int (nI rc), .int (nI tk), .int (nI ps), .int (nI gn), .int bd, .ref qwo], aI G qtx 80 (nF t)] (fun (v : Option Value) (w : va_W) => v = some (.int (nI d)) ∧ w = [ob o 11 [.int th, .ref qtx, .int (nI ts), .int (nI (pl + 1)), .ref qrp, .ref qpg, .ref qtr, .ref qbk, .int (nI dn), .ref qkp, .ref qik, .int (nI sn), .ref qsw, .ref qsi, .long sd, .ref qln, .ref qfm, .ref qby, .ref qwy, .int (nI wz), .ref qfo, .ref qon, .ref qmn, .ref qpr, .ref qle, .ref qst, .ref qwt, .int (nI rc), .int (nI tk), .int (nI ps), .int (nI gn), .int bd, .ref qwo], aI G qtx 80 (nF t)]) 0 0 := by
  refine MM.ofI (by decide) rfl (fun Γ X Y hnm ret => ?_)
  show Wc Γ 0 0 0 [(0, .ref o), (1, .int (nI lo)), (2, .int (nI hi))] [] [ob o 11 [.int th, .ref qtx, .int (nI ts), .int (nI pl), .ref qrp, .ref qpg, .ref qtr, .ref qbk, .int (nI dn), .ref qkp, .ref qik, .int (nI sn), .ref qsw, .ref qsi, .long sd, .ref qln, .ref qfm, .ref qby, .ref qwy, .int (nI wz), .ref qfo, .ref qon, .ref qmn, .ref qpr, .ref qle, .ref qst, .ref qwt, .int (nI rc), .int (nI tk), .int (nI ps), .int (nI gn), .int bd, .ref qwo], aI G qtx 80 (nF t)]
  have hd := figP_some hf
  refine wc_aload_n X 0 0 dX11_figure_0 rfl ?_
  refine wc_get X 1 0 3 kd11 rfl (by decide) q_768 rfl dX11_figure_1 ?_
  refine wc_aload_n X 4 0 dX11_figure_4 rfl ?_
  refine wc_get X 5 0 2 kd11 rfl (by decide) q_767 rfl dX11_figure_5 ?_
  refine wc_icmp_eqN X 8 34 dX11_figure_8 (by decide) (by omega) (by omega) (fun c8_1 => ?_) (fun c8_1 => ?_)
  ·
    exact absurd c8_1 (by omega)
  ·
    refine wc_aload_n X 11 0 dX11_figure_11 rfl ?_
    refine wc_get X 12 0 1 kd11 rfl (by decide) q_766 rfl dX11_figure_12 ?_
    refine wc_aload_n X 15 0 dX11_figure_15 rfl ?_
    refine wc_get X 16 0 3 kd11 rfl (by decide) q_768 rfl dX11_figure_16 ?_
    refine wc_ialdG X 19 1 rfl (by omega) (by decide) dX11_figure_19 ?_
    refine wc_bipush X 20 (nI 48) dX11_figure_20 (by decide) ?_
    refine wc_isub X 22 dX11_figure_22 ?_
    refine wc_i2l X 23 dX11_figure_23 ?_
    refine wc_iload_n X 24 1 dX11_figure_24 rfl ?_
    refine wc_i2l X 25 dX11_figure_25 ?_
    refine wc_iload_n X 26 2 dX11_figure_26 rfl ?_
    refine wc_i2l X 27 dX11_figure_27 ?_
    refine wc_callS X 28 [] (c_X11_in l G ((((nI (t pl)) - (nI 48))).toInt64) ((nI lo).toInt64) ((nI hi).toInt64) ) ys_X11_in rfl q_870 ⟨rfl, rfl⟩ ⟨rfl, rfl⟩ ⟨rfl, rfl⟩ rfl rfl rfl dX11_figure_28 ?_
    refine wc_if_neB X 31 37 dX11_figure_31 (by decide) (fun c31_2 => ?_) (fun c31_2 => ?_)
    ·
      refine wc_aload_n X 37 0 dX11_figure_37 rfl ?_
      refine wc_dup X 38 dX11_figure_38 rfl ?_
      refine wc_get X 39 0 3 kd11 rfl (by decide) q_768 rfl dX11_figure_39 ?_
      refine wc_iconstN X 42 1 dX11_figure_42 ?_
      refine wc_iaddN X 43 dX11_figure_43 ?_
      refine wc_put X Y 44 0 3 kd11 rfl (by decide) q_768 rfl rfl rfl (Nat.le_of_ble_eq_true rfl) (ws' := [ob o 11 [.int th, .ref qtx, .int (nI ts), .int (nI (pl + 1)), .ref qrp, .ref qpg, .ref qtr, .ref qbk, .int (nI dn), .ref qkp, .ref qik, .int (nI sn), .ref qsw, .ref qsi, .long sd, .ref qln, .ref qfm, .ref qby, .ref qwy, .int (nI wz), .ref qfo, .ref qon, .ref qmn, .ref qpr, .ref qle, .ref qst, .ref qwt, .int (nI rc), .int (nI tk), .int (nI ps), .int (nI gn), .int bd, .ref qwo], aI G qtx 80 (nF t)]) rfl dX11_figure_44 ?_
      refine wc_aload_n X 47 0 dX11_figure_47 rfl ?_
      refine wc_get X 48 0 1 kd11 rfl (by decide) q_766 rfl dX11_figure_48 ?_
      refine wc_aload_n X 51 0 dX11_figure_51 rfl ?_
      refine wc_get X 52 0 3 kd11 rfl (by decide) q_768 rfl dX11_figure_52 ?_
      refine wc_iconstN X 55 1 dX11_figure_55 ?_
      refine wc_isubN X 56 dX11_figure_56 (by omega) ?_
      refine wc_ialdG X 57 1 rfl (by omega) (by decide) dX11_figure_57 ?_
      refine wc_bipush X 58 (nI 48) dX11_figure_58 (by decide) ?_
      refine wc_isub X 60 dX11_figure_60 ?_
      refine wc_top (v' := .int (nI d)) (by rw [Nat.add_sub_cancel, hd.2.1, pk_sub (by omega), Nat.add_sub_cancel_left]) ?_
      exact ret 61 _ (nI d) _ dX11_figure_61 (⟨rfl, rfl⟩)
    ·
      exact absurd ((inL_fig (ht pl) (show lo < 256 by omega) (show hi < 256 by omega)).mpr (by omega)) (by rw [c31_2]; decide)

set_option maxHeartbeats 4000000 in
set_option maxRecDepth 100000 in
theorem c_X11_all (l : Launch) (G : GG) (o : Nat) (th : Int32) (qtx ts pl qrp qpg qtr qbk dn qkp qik sn qsw qsi : Nat) (sd : Int64) (qln qfm qby qwy wz qfo qon qmn qpr qle qst qwt rc tk ps gn : Nat) (bd : Int32) (qwo : Nat) (r : Nat → Nat) (m : Nat) (hr : pgOk r) (hm : m < 2) : RM l G yX11_all (Cond.code yX11_all cX11_all 2 (some .int)) { frames := 0, cells := 0, slots := 0, locals := 0 } [.ref o, .int (nI m)] [ob o 11 [.int th, .ref qtx, .int (nI ts), .int (nI pl), .ref qrp, .ref qpg, .ref qtr, .ref qbk, .int (nI dn), .ref qkp, .ref qik, .int (nI sn), .ref qsw, .ref qsi, .long sd, .ref qln, .ref qfm, .ref qby, .ref qwy, .int (nI wz), .ref qfo, .ref qon, .ref qmn, .ref qpr, .ref qle, .ref qst, .ref qwt, .int (nI rc), .int (nI tk), .int (nI ps), .int (nI gn), .int bd, .ref qwo], aI G qrp 22 (nF r)] (.int (nI (2 ^ r m - 1))) := by
  refine RM.ofI (by decide) rfl (fun Γ X ret => ?_)
  show Wc Γ 0 0 0 [(0, .ref o), (1, .int (nI m))] [] [ob o 11 [.int th, .ref qtx, .int (nI ts), .int (nI pl), .ref qrp, .ref qpg, .ref qtr, .ref qbk, .int (nI dn), .ref qkp, .ref qik, .int (nI sn), .ref qsw, .ref qsi, .long sd, .ref qln, .ref qfm, .ref qby, .ref qwy, .int (nI wz), .ref qfo, .ref qon, .ref qmn, .ref qpr, .ref qle, .ref qst, .ref qwt, .int (nI rc), .int (nI tk), .int (nI ps), .int (nI gn), .int bd, .ref qwo], aI G qrp 22 (nF r)]
  refine wc_iconstN X 0 1 dX11_all_0 ?_
  refine wc_aload_n X 1 0 dX11_all_1 rfl ?_
  refine wc_get X 2 0 4 kd11 rfl (by decide) q_769 rfl dX11_all_2 ?_
  refine wc_iload_n X 5 1 dX11_all_5 rfl ?_
  refine wc_ialdG X 6 1 rfl (by omega) (by decide) dX11_all_6 ?_
  refine wc_shl1 X 7 dX11_all_7 (by have := pgOk_m hr hm; omega) ?_
  refine wc_iconstN X 8 1 dX11_all_8 ?_
  refine wc_isubN X 9 dX11_all_9 (Nat.two_pow_pos _) ?_
  exact ret 10 _ (nI ((2 ^ (r m)) - 1)) dX11_all_10 (rfl)

set_option maxHeartbeats 4000000 in
set_option maxRecDepth 100000 in
theorem c_X11_isFullFrom (l : Launch) (G : GG) (o : Nat) (th : Int32) (qtx ts pl qrp qpg qtr qbk dn qkp qik sn qsw qsi : Nat) (sd : Int64) (qln qfm qby qwy wz qfo qon qmn qpr qle qst qwt rc tk ps gn : Nat) (bd : Int32) (qwo : Nat) (r : Nat → Nat) (m i : Nat) (hr : pgOk r) (hm : m < 2) (hi : i < 5) : RM l G yX11_isFullFrom (Cond.code yX11_isFullFrom cX11_isFullFrom 3 (some .boolean)) { frames := 1, cells := 0, slots := 0, locals := 22 } [.ref o, .int (nI m), .int (nI i)] [ob o 11 [.int th, .ref qtx, .int (nI ts), .int (nI pl), .ref qrp, .ref qpg, .ref qtr, .ref qbk, .int (nI dn), .ref qkp, .ref qik, .int (nI sn), .ref qsw, .ref qsi, .long sd, .ref qln, .ref qfm, .ref qby, .ref qwy, .int (nI wz), .ref qfo, .ref qon, .ref qmn, .ref qpr, .ref qle, .ref qst, .ref qwt, .int (nI rc), .int (nI tk), .int (nI ps), .int (nI gn), .int bd, .ref qwo], aI G qrp 22 (nF r)] (.int (b2i (decide (r (atN m i 1) = 2 ^ r m - 1) && decide (r (atN m i 2) = 2 ^ r m - 1)))) := by
  refine RM.ofZ (by decide) rfl (fun Γ X ret => ?_)
  show Wc Γ 0 0 0 [(0, .ref o), (1, .int (nI m)), (2, .int (nI i))] [] [ob o 11 [.int th, .ref qtx, .int (nI ts), .int (nI pl), .ref qrp, .ref qpg, .ref qtr, .ref qbk, .int (nI dn), .ref qkp, .ref qik, .int (nI sn), .ref qsw, .ref qsi, .long sd, .ref qln, .ref qfm, .ref qby, .ref qwy, .int (nI wz), .ref qfo, .ref qon, .ref qmn, .ref qpr, .ref qle, .ref qst, .ref qwt, .int (nI rc), .int (nI tk), .int (nI ps), .int (nI gn), .int bd, .ref qwo], aI G qrp 22 (nF r)]
  refine wc_aload_n X 0 0 dX11_isFullFrom_0 rfl ?_
  refine wc_get X 1 0 4 kd11 rfl (by decide) q_769 rfl dX11_isFullFrom_1 ?_
  refine wc_iload_n X 4 1 dX11_isFullFrom_4 rfl ?_
  refine wc_iload_n X 5 2 dX11_isFullFrom_5 rfl ?_
  refine wc_iconstN X 6 1 dX11_isFullFrom_6 ?_
  refine wc_callS X 7 [] (c_X11_at l G m i 1 (by first | assumption | omega) (by first | assumption | omega) (by first | assumption | omega) (by first | assumption | omega)) ys_X11_at rfl q_896 ⟨rfl, rfl⟩ ⟨rfl, rfl⟩ ⟨rfl, rfl⟩ rfl rfl rfl dX11_isFullFrom_7 ?_
  refine wc_ialdG X 10 1 rfl (atN_lt hi (by decide)) (by decide) dX11_isFullFrom_10 ?_
  refine wc_aload_n X 11 0 dX11_isFullFrom_11 rfl ?_
  refine wc_iload_n X 12 1 dX11_isFullFrom_12 rfl ?_
  refine wc_callV X 13 [0, 1] 0 (c_X11_all l G o th qtx ts pl qrp qpg qtr qbk dn qkp qik sn qsw qsi sd qln qfm qby qwy wz qfo qon qmn qpr qle qst qwt rc tk ps gn bd qwo r m (by first | assumption | omega) (by first | assumption | omega)) yv_X11_all kd11 rfl rfl q_902 ⟨rfl, rfl⟩ ⟨rfl, rfl⟩ ⟨rfl, rfl⟩ rfl rfl rfl dX11_isFullFrom_13 ?_
  refine wc_icmp_neN X 16 42 dX11_isFullFrom_16 (by decide) (Nat.lt_trans (hr.2.2.2.2.1 _) (by decide)) (Nat.lt_of_le_of_lt (Nat.sub_le _ _) (Nat.lt_of_le_of_lt (Nat.pow_le_pow_right (by decide) (pgOk_m hr hm).2) (by decide))) (fun c16_1 => ?_) (fun c16_1 => ?_)
  ·
    refine wc_iconstN X 42 0 dX11_isFullFrom_42 ?_
    refine wc_st (st' := [.int (b2i false)]) rfl ?_
    exact ret 43 _ false dX11_isFullFrom_43 (by first | rfl | (simp [c16_1]; done) | (simp [c16_1] <;> omega))
  ·
    refine wc_aload_n X 19 0 dX11_isFullFrom_19 rfl ?_
    refine wc_get X 20 0 4 kd11 rfl (by decide) q_769 rfl dX11_isFullFrom_20 ?_
    refine wc_iload_n X 23 1 dX11_isFullFrom_23 rfl ?_
    refine wc_iload_n X 24 2 dX11_isFullFrom_24 rfl ?_
    refine wc_iconstN X 25 2 dX11_isFullFrom_25 ?_
    refine wc_callS X 26 [] (c_X11_at l G m i 2 (by first | assumption | omega) (by first | assumption | omega) (by first | assumption | omega) (by first | assumption | omega)) ys_X11_at rfl q_896 ⟨rfl, rfl⟩ ⟨rfl, rfl⟩ ⟨rfl, rfl⟩ rfl rfl rfl dX11_isFullFrom_26 ?_
    refine wc_ialdG X 29 1 rfl (atN_lt hi (by decide)) (by decide) dX11_isFullFrom_29 ?_
    refine wc_aload_n X 30 0 dX11_isFullFrom_30 rfl ?_
    refine wc_iload_n X 31 1 dX11_isFullFrom_31 rfl ?_
    refine wc_callV X 32 [0, 1] 0 (c_X11_all l G o th qtx ts pl qrp qpg qtr qbk dn qkp qik sn qsw qsi sd qln qfm qby qwy wz qfo qon qmn qpr qle qst qwt rc tk ps gn bd qwo r m (by first | assumption | omega) (by first | assumption | omega)) yv_X11_all kd11 rfl rfl q_902 ⟨rfl, rfl⟩ ⟨rfl, rfl⟩ ⟨rfl, rfl⟩ rfl rfl rfl dX11_isFullFrom_32 ?_
    refine wc_icmp_neN X 35 42 dX11_isFullFrom_35 (by decide) (Nat.lt_trans (hr.2.2.2.2.1 _) (by decide)) (Nat.lt_of_le_of_lt (Nat.sub_le _ _) (Nat.lt_of_le_of_lt (Nat.pow_le_pow_right (by decide) (pgOk_m hr hm).2) (by decide))) (fun c35_2 => ?_) (fun c35_2 => ?_)
    ·
      refine wc_iconstN X 42 0 dX11_isFullFrom_42 ?_
      refine wc_st (st' := [.int (b2i false)]) rfl ?_
      exact ret 43 _ false dX11_isFullFrom_43 (by first | rfl | (simp [c16_1, c35_2]; done) | (simp [c16_1, c35_2] <;> omega))
    ·
      refine wc_iconstN X 38 1 dX11_isFullFrom_38 ?_
      refine wc_goto X 39 43 dX11_isFullFrom_39 (by decide) ?_
      refine wc_st (st' := [.int (b2i true)]) rfl ?_
      exact ret 43 _ true dX11_isFullFrom_43 (by first | rfl | (simp [c16_1, c35_2]; done) | (simp [c16_1, c35_2] <;> omega))

set_option maxHeartbeats 4000000 in
set_option maxRecDepth 100000 in
theorem c_X11_readEdge (l : Launch) (G : GG) (o : Nat) (th : Int32) (qtx ts pl qrp qpg qtr qbk dn qkp qik sn qsw qsi : Nat) (sd : Int64) (qln qfm qby qwy wz qfo qon qmn qpr qle qst qwt rc tk ps gn : Nat) (bd : Int32) (qwo : Nat) (t : Nat → Nat) (r : Nat → Nat) (m a : Nat) (hts : ts ≤ 80) (ht : ∀ j, t j < 256) (hr : pgOk r) (hm : m < 2) (ha : a < ts) : MM l G yX11_readEdge (Cond.code yX11_readEdge cX11_readEdge 5 (some .boolean)) { frames := 2, cells := 0, slots := 0, locals := 47 } [.ref o, .int (nI m)] [ob o 11 [.int th, .ref qtx, .int (nI ts), .int (nI (a + 1)), .ref qrp, .ref qpg, .ref qtr, .ref qbk, .int (nI dn), .ref qkp, .ref qik, .int (nI sn), .ref qsw, .ref qsi, .long sd, .ref qln, .ref qfm, .ref qby, .ref qwy, .int (nI wz), .ref qfo, .ref qon, .ref qmn, .ref qpr, .ref qle, .ref qst, .ref qwt, .int (nI rc), .int (nI tk), .int (nI ps), .int (nI gn), .int bd, .ref qwo], aI G qtx 80 (nF t), aI G qrp 22 (nF r)] (fun (v : Option Value) (w : va_W) => v = some (.int (b2i ((edgeP t ts r m a).1.isNone))) ∧ w = [ob o 11 [.int th, .ref qtx, .int (nI ts), .int (nI ((edgeP t ts r m a).1.getD (a + 4))), .ref qrp, .ref qpg, .ref qtr, .ref qbk, .int (nI dn), .ref qkp, .ref qik, .int (nI sn), .ref qsw, .ref qsi, .long sd, .ref qln, .ref qfm, .ref qby, .ref qwy, .int (nI wz), .ref qfo, .ref qon, .ref qmn, .ref qpr, .ref qle, .ref qst, .ref qwt, .int (nI rc), .int (nI tk), .int (nI ps), .int (nI gn), .int bd, .ref qwo], aI G qtx 80 (nF t), aI G qrp 22 (nF ((edgeP t ts r m a).2))]) 0 0 := by
  refine MM.ofZ (by decide) rfl (fun Γ X Y hnm ret => ?_)
  show Wc Γ 0 0 0 [(0, .ref o), (1, .int (nI m))] [] [ob o 11 [.int th, .ref qtx, .int (nI ts), .int (nI (a + 1)), .ref qrp, .ref qpg, .ref qtr, .ref qbk, .int (nI dn), .ref qkp, .ref qik, .int (nI sn), .ref qsw, .ref qsi, .long sd, .ref qln, .ref qfm, .ref qby, .ref qwy, .int (nI wz), .ref qfo, .ref qon, .ref qmn, .ref qpr, .ref qle, .ref qst, .ref qwt, .int (nI rc), .int (nI tk), .int (nI ps), .int (nI gn), .int bd, .ref qwo], aI G qtx 80 (nF t), aI G qrp 22 (nF r)]
  have hb := pgOk_m hr hm
  refine wc_aload_n X 0 0 dX11_readEdge_0 rfl ?_
  refine wc_iconstN X 1 0 dX11_readEdge_1 ?_
  refine wc_aload_n X 2 0 dX11_readEdge_2 rfl ?_
  refine wc_get X 3 0 4 kd11 rfl (by decide) q_769 rfl dX11_readEdge_3 ?_
  refine wc_iload_n X 6 1 dX11_readEdge_6 rfl ?_
  refine wc_ialdG X 7 2 rfl (by omega) (by decide) dX11_readEdge_7 ?_
  refine wc_iconstN X 8 1 dX11_readEdge_8 ?_
  refine wc_isubN X 9 dX11_readEdge_9 (by omega) ?_
  rcases hf1 : figP t ts (a + 1) 0 (r m - 1) with _ | i
  ·
    refine wc_callV X 10 [0, 1] 0 (c_X11_figureN l G o th qtx ts (a + 1) qrp qpg qtr qbk dn qkp qik sn qsw qsi sd qln qfm qby qwy wz qfo qon qmn qpr qle qst qwt rc tk ps gn bd qwo t 0 ((r m) - 1) (by first | assumption | omega) (by first | assumption | omega) (by first | assumption | omega) (by first | assumption | omega) (by first | assumption | omega) hf1) yv_X11_figure kd11 rfl rfl q_885 ⟨rfl, rfl⟩ ⟨rfl, rfl⟩ ⟨rfl, rfl⟩ rfl rfl rfl dX11_readEdge_10 ?_
    refine wc_istore_n X 13 (L' := [(0, .ref o), (1, .int (nI m)), (2, .int (-9))]) dX11_readEdge_13 (by decide) rfl ?_
    refine wc_iload_n X 14 2 dX11_readEdge_14 rfl ?_
    refine wc_bipush X 15 (-9) dX11_readEdge_15 (by decide) ?_
    refine wc_icmp_ne X 17 22 dX11_readEdge_17 (by decide) (fun c17_1 => ?_) (fun c17_1 => ?_)
    ·
      exact absurd rfl c17_1
    ·
      refine wc_iconstN X 20 0 dX11_readEdge_20 ?_
      refine wc_st (st' := [.int (b2i false)]) rfl ?_
      exact ret 21 _ false _ dX11_readEdge_21 (⟨by rw [show edgeP t ts r m a = (some (a + 1), r) by unfold edgeP; rw [hf1]]; rfl, by rw [show edgeP t ts r m a = (some (a + 1), r) by unfold edgeP; rw [hf1]]; rfl⟩)
  ·
    have hd1 := figP_some hf1
    refine wc_mutV X Y 10 [0, 1] [2] 0 (c_X11_figureS l G o th qtx ts (a + 1) qrp qpg qtr qbk dn qkp qik sn qsw qsi sd qln qfm qby qwy wz qfo qon qmn qpr qle qst qwt rc tk ps gn bd qwo t 0 ((r m) - 1) i (by first | assumption | omega) (by first | assumption | omega) (by first | assumption | omega) (by first | assumption | omega) (by first | assumption | omega) hf1) yv_X11_figure kd11 rfl rfl (wr := [aI G qrp 22 (nF r)]) rfl ⟨rfl, rfl, rfl⟩ q_885 ⟨rfl, rfl⟩ ⟨rfl, rfl⟩ ⟨rfl, rfl⟩ rfl rfl rfl dX11_readEdge_10 (fun v w hp_2 => ?_)
    obtain ⟨rfl, rfl⟩ := hp_2
    refine wc_perm Y [1, 2, 0] [ob o 11 [.int th, .ref qtx, .int (nI ts), .int (nI ((a + 1) + 1)), .ref qrp, .ref qpg, .ref qtr, .ref qbk, .int (nI dn), .ref qkp, .ref qik, .int (nI sn), .ref qsw, .ref qsi, .long sd, .ref qln, .ref qfm, .ref qby, .ref qwy, .int (nI wz), .ref qfo, .ref qon, .ref qmn, .ref qpr, .ref qle, .ref qst, .ref qwt, .int (nI rc), .int (nI tk), .int (nI ps), .int (nI gn), .int bd, .ref qwo], aI G qtx 80 (nF t), aI G qrp 22 (nF r)] rfl rfl ?_
    show Wc Γ 0 0 13 [(0, .ref o), (1, .int (nI m))] [.int (nI i)] [ob o 11 [.int th, .ref qtx, .int (nI ts), .int (nI ((a + 1) + 1)), .ref qrp, .ref qpg, .ref qtr, .ref qbk, .int (nI dn), .ref qkp, .ref qik, .int (nI sn), .ref qsw, .ref qsi, .long sd, .ref qln, .ref qfm, .ref qby, .ref qwy, .int (nI wz), .ref qfo, .ref qon, .ref qmn, .ref qpr, .ref qle, .ref qst, .ref qwt, .int (nI rc), .int (nI tk), .int (nI ps), .int (nI gn), .int bd, .ref qwo], aI G qtx 80 (nF t), aI G qrp 22 (nF r)]
    refine wc_ws (ws' := [ob o 11 [.int th, .ref qtx, .int (nI ts), .int (nI (a + 2)), .ref qrp, .ref qpg, .ref qtr, .ref qbk, .int (nI dn), .ref qkp, .ref qik, .int (nI sn), .ref qsw, .ref qsi, .long sd, .ref qln, .ref qfm, .ref qby, .ref qwy, .int (nI wz), .ref qfo, .ref qon, .ref qmn, .ref qpr, .ref qle, .ref qst, .ref qwt, .int (nI rc), .int (nI tk), .int (nI ps), .int (nI gn), .int bd, .ref qwo], aI G qtx 80 (nF t), aI G qrp 22 (nF r)]) (by rfl) ?_
    refine wc_istore_n X 13 (L' := [(0, .ref o), (1, .int (nI m)), (2, .int (nI i))]) dX11_readEdge_13 (by decide) rfl ?_
    refine wc_iload_n X 14 2 dX11_readEdge_14 rfl ?_
    refine wc_bipush X 15 (-9) dX11_readEdge_15 (by decide) ?_
    refine wc_icmp_ne X 17 22 dX11_readEdge_17 (by decide) (fun c17_3 => ?_) (fun c17_3 => ?_)
    ·
      refine wc_aload_n X 22 0 dX11_readEdge_22 rfl ?_
      refine wc_iload_n X 23 1 dX11_readEdge_23 rfl ?_
      refine wc_iload_n X 24 2 dX11_readEdge_24 rfl ?_
      refine wc_callV X 25 [0, 2] 0 (c_X11_isFullFrom l G o th qtx ts (a + 2) qrp qpg qtr qbk dn qkp qik sn qsw qsi sd qln qfm qby qwy wz qfo qon qmn qpr qle qst qwt rc tk ps gn bd qwo r m i (by first | assumption | omega) (by first | assumption | omega) (by first | assumption | omega)) yv_X11_isFullFrom kd11 rfl rfl q_910 ⟨rfl, rfl⟩ ⟨rfl, rfl⟩ ⟨rfl, rfl⟩ rfl rfl rfl dX11_readEdge_25 ?_
      refine wc_if_eqB X 28 43 dX11_readEdge_28 (by decide) (fun c28_4 => ?_) (fun c28_4 => ?_)
      ·
        refine wc_aload_n X 43 0 dX11_readEdge_43 rfl ?_
        refine wc_get X 44 0 3 kd11 rfl (by decide) q_768 rfl dX11_readEdge_44 ?_
        refine wc_aload_n X 47 0 dX11_readEdge_47 rfl ?_
        refine wc_get X 48 0 2 kd11 rfl (by decide) q_767 rfl dX11_readEdge_48 ?_
        refine wc_icmp_geN X 51 91 dX11_readEdge_51 (by decide) (by omega) (by omega) (fun c51_5 => ?_) (fun c51_5 => ?_)
        ·
          have hnl : ¬ (a + 2 < ts ∧ 97 ≤ t (a + 2) ∧ t (a + 2) ≤ 98) := by omega
          refine wc_bipush X 91 (-9) dX11_readEdge_91 (by decide) ?_
          refine wc_istore_n X 93 (L' := [(0, .ref o), (1, .int (nI m)), (2, .int (nI i)), (3, .int (-9))]) dX11_readEdge_93 (by decide) rfl ?_
          refine wc_iload_n X 94 3 dX11_readEdge_94 rfl ?_
          refine wc_bipush X 95 (-9) dX11_readEdge_95 (by decide) ?_
          refine wc_icmp_eq X 97 119 dX11_readEdge_97 (by decide) (fun c97_6 => ?_) (fun c97_6 => ?_)
          ·
            refine wc_iconstN X 119 0 dX11_readEdge_119 ?_
            refine wc_st (st' := [.int (b2i false)]) rfl ?_
            exact ret 120 _ false _ dX11_readEdge_120 (⟨by rw [show edgeP t ts r m a = (some (a + 2), r) by unfold edgeP; rw [hf1]; simp only [if_neg (full1 c28_4), if_pos (show ¬ (a + 2 < ts ∧ 97 ≤ t (a + 2) ∧ t (a + 2) ≤ 98) from hnl)]]; rfl, by rw [show edgeP t ts r m a = (some (a + 2), r) by unfold edgeP; rw [hf1]; simp only [if_neg (full1 c28_4), if_pos (show ¬ (a + 2 < ts ∧ 97 ≤ t (a + 2) ∧ t (a + 2) ≤ 98) from hnl)]]; rfl⟩)
          ·
            exact absurd rfl c97_6
        ·
          refine wc_aload_n X 54 0 dX11_readEdge_54 rfl ?_
          refine wc_get X 55 0 1 kd11 rfl (by decide) q_766 rfl dX11_readEdge_55 ?_
          refine wc_aload_n X 58 0 dX11_readEdge_58 rfl ?_
          refine wc_get X 59 0 3 kd11 rfl (by decide) q_768 rfl dX11_readEdge_59 ?_
          refine wc_ialdG X 62 1 rfl (by omega) (by decide) dX11_readEdge_62 ?_
          refine wc_i2l X 63 dX11_readEdge_63 ?_
          refine wc_ldc2 X 64 112 (97) q_914 dX11_readEdge_64 ?_
          refine wc_ldc2 X 67 114 (98) q_915 dX11_readEdge_67 ?_
          refine wc_callS X 70 [] (c_X11_in l G ((nI (t (a + 2))).toInt64) 97 98 ) ys_X11_in rfl q_870 ⟨rfl, rfl⟩ ⟨rfl, rfl⟩ ⟨rfl, rfl⟩ rfl rfl rfl dX11_readEdge_70 ?_
          refine wc_if_eqB X 73 91 dX11_readEdge_73 (by decide) (fun c73_7 => ?_) (fun c73_7 => ?_)
          ·
            have hnl : ¬ (a + 2 < ts ∧ 97 ≤ t (a + 2) ∧ t (a + 2) ≤ 98) := fun z => inL_abF (ht _) c73_7 z.2
            refine wc_bipush X 91 (-9) dX11_readEdge_91 (by decide) ?_
            refine wc_istore_n X 93 (L' := [(0, .ref o), (1, .int (nI m)), (2, .int (nI i)), (3, .int (-9))]) dX11_readEdge_93 (by decide) rfl ?_
            refine wc_iload_n X 94 3 dX11_readEdge_94 rfl ?_
            refine wc_bipush X 95 (-9) dX11_readEdge_95 (by decide) ?_
            refine wc_icmp_eq X 97 119 dX11_readEdge_97 (by decide) (fun c97_8 => ?_) (fun c97_8 => ?_)
            ·
              refine wc_iconstN X 119 0 dX11_readEdge_119 ?_
              refine wc_st (st' := [.int (b2i false)]) rfl ?_
              exact ret 120 _ false _ dX11_readEdge_120 (⟨by rw [show edgeP t ts r m a = (some (a + 2), r) by unfold edgeP; rw [hf1]; simp only [if_neg (full1 c28_4), if_pos (show ¬ (a + 2 < ts ∧ 97 ≤ t (a + 2) ∧ t (a + 2) ≤ 98) from hnl)]]; rfl, by rw [show edgeP t ts r m a = (some (a + 2), r) by unfold edgeP; rw [hf1]; simp only [if_neg (full1 c28_4), if_pos (show ¬ (a + 2 < ts ∧ 97 ≤ t (a + 2) ∧ t (a + 2) ≤ 98) from hnl)]]; rfl⟩)
            ·
              exact absurd rfl c97_8
          ·
            have hab := (inL_ab (ht _)).mp c73_7
            refine wc_aload_n X 76 0 dX11_readEdge_76 rfl ?_
            refine wc_get X 77 0 1 kd11 rfl (by decide) q_766 rfl dX11_readEdge_77 ?_
            refine wc_aload_n X 80 0 dX11_readEdge_80 rfl ?_
            refine wc_get X 81 0 3 kd11 rfl (by decide) q_768 rfl dX11_readEdge_81 ?_
            refine wc_ialdG X 84 1 rfl (by omega) (by decide) dX11_readEdge_84 ?_
            refine wc_bipush X 85 (nI 96) dX11_readEdge_85 (by decide) ?_
            refine wc_isubN X 87 dX11_readEdge_87 (by omega) ?_
            refine wc_goto X 88 93 dX11_readEdge_88 (by decide) ?_
            refine wc_istore_n X 93 (L' := [(0, .ref o), (1, .int (nI m)), (2, .int (nI i)), (3, .int (nI ((t (a + 2)) - 96)))]) dX11_readEdge_93 (by decide) rfl ?_
            refine wc_iload_n X 94 3 dX11_readEdge_94 rfl ?_
            refine wc_bipush X 95 (-9) dX11_readEdge_95 (by decide) ?_
            refine wc_icmp_eq X 97 119 dX11_readEdge_97 (by decide) (fun c97_9 => ?_) (fun c97_9 => ?_)
            ·
              exact absurd c97_9 (nI_ne_neg (by omega) (by decide))
            ·
              refine wc_aload_n X 100 0 dX11_readEdge_100 rfl ?_
              refine wc_get X 101 0 4 kd11 rfl (by decide) q_769 rfl dX11_readEdge_101 ?_
              refine wc_iload_n X 104 1 dX11_readEdge_104 rfl ?_
              refine wc_iload_n X 105 2 dX11_readEdge_105 rfl ?_
              refine wc_iload_n X 106 3 dX11_readEdge_106 rfl ?_
              refine wc_callS X 107 [] (c_X11_at l G m i ((t (a + 2)) - 96) (by first | assumption | omega) (by first | assumption | omega) (by first | assumption | omega) (by first | assumption | omega)) ys_X11_at rfl q_896 ⟨rfl, rfl⟩ ⟨rfl, rfl⟩ ⟨rfl, rfl⟩ rfl rfl rfl dX11_readEdge_107 ?_
              refine wc_ialdG X 110 2 rfl (atN_lt (by omega) (by omega)) (by decide) dX11_readEdge_110 ?_
              refine wc_aload_n X 111 0 dX11_readEdge_111 rfl ?_
              refine wc_iload_n X 112 1 dX11_readEdge_112 rfl ?_
              refine wc_callV X 113 [0, 2] 0 (c_X11_all l G o th qtx ts (a + 2) qrp qpg qtr qbk dn qkp qik sn qsw qsi sd qln qfm qby qwy wz qfo qon qmn qpr qle qst qwt rc tk ps gn bd qwo r m (by first | assumption | omega) (by first | assumption | omega)) yv_X11_all kd11 rfl rfl q_902 ⟨rfl, rfl⟩ ⟨rfl, rfl⟩ ⟨rfl, rfl⟩ rfl rfl rfl dX11_readEdge_113 ?_
              refine wc_icmp_neN X 116 121 dX11_readEdge_116 (by decide) (Nat.lt_trans (hr.2.2.2.2.1 _) (by decide)) (Nat.lt_of_le_of_lt (Nat.sub_le _ _) (Nat.lt_of_le_of_lt (Nat.pow_le_pow_right (by decide) (pgOk_m hr hm).2) (by decide))) (fun c116_10 => ?_) (fun c116_10 => ?_)
              ·
                refine wc_aload_n X 121 0 dX11_readEdge_121 rfl ?_
                refine wc_dup X 122 dX11_readEdge_122 rfl ?_
                refine wc_get X 123 0 3 kd11 rfl (by decide) q_768 rfl dX11_readEdge_123 ?_
                refine wc_iconstN X 126 1 dX11_readEdge_126 ?_
                refine wc_iaddN X 127 dX11_readEdge_127 ?_
                refine wc_put X Y 128 0 3 kd11 rfl (by decide) q_768 rfl rfl rfl (Nat.le_of_ble_eq_true rfl) (ws' := [ob o 11 [.int th, .ref qtx, .int (nI ts), .int (nI ((a + 2) + 1)), .ref qrp, .ref qpg, .ref qtr, .ref qbk, .int (nI dn), .ref qkp, .ref qik, .int (nI sn), .ref qsw, .ref qsi, .long sd, .ref qln, .ref qfm, .ref qby, .ref qwy, .int (nI wz), .ref qfo, .ref qon, .ref qmn, .ref qpr, .ref qle, .ref qst, .ref qwt, .int (nI rc), .int (nI tk), .int (nI ps), .int (nI gn), .int bd, .ref qwo], aI G qtx 80 (nF t), aI G qrp 22 (nF r)]) rfl dX11_readEdge_128 ?_
                refine wc_ws (ws' := [ob o 11 [.int th, .ref qtx, .int (nI ts), .int (nI (a + 3)), .ref qrp, .ref qpg, .ref qtr, .ref qbk, .int (nI dn), .ref qkp, .ref qik, .int (nI sn), .ref qsw, .ref qsi, .long sd, .ref qln, .ref qfm, .ref qby, .ref qwy, .int (nI wz), .ref qfo, .ref qon, .ref qmn, .ref qpr, .ref qle, .ref qst, .ref qwt, .int (nI rc), .int (nI tk), .int (nI ps), .int (nI gn), .int bd, .ref qwo], aI G qtx 80 (nF t), aI G qrp 22 (nF r)]) (by rfl) ?_
                refine wc_aload_n X 131 0 dX11_readEdge_131 rfl ?_
                refine wc_iconstN X 132 0 dX11_readEdge_132 ?_
                refine wc_aload_n X 133 0 dX11_readEdge_133 rfl ?_
                refine wc_get X 134 0 4 kd11 rfl (by decide) q_769 rfl dX11_readEdge_134 ?_
                refine wc_iload_n X 137 1 dX11_readEdge_137 rfl ?_
                refine wc_ialdG X 138 2 rfl (by omega) (by decide) dX11_readEdge_138 ?_
                refine wc_iconstN X 139 1 dX11_readEdge_139 ?_
                refine wc_isubN X 140 dX11_readEdge_140 (by omega) ?_
                rcases hf3 : figP t ts (a + 3) 0 (r m - 1) with _ | j
                ·
                  refine wc_callV X 141 [0, 1] 0 (c_X11_figureN l G o th qtx ts (a + 3) qrp qpg qtr qbk dn qkp qik sn qsw qsi sd qln qfm qby qwy wz qfo qon qmn qpr qle qst qwt rc tk ps gn bd qwo t 0 ((r m) - 1) (by first | assumption | omega) (by first | assumption | omega) (by first | assumption | omega) (by first | assumption | omega) (by first | assumption | omega) hf3) yv_X11_figure kd11 rfl rfl q_885 ⟨rfl, rfl⟩ ⟨rfl, rfl⟩ ⟨rfl, rfl⟩ rfl rfl rfl dX11_readEdge_141 ?_
                  refine wc_istore X 144 (L' := [(0, .ref o), (1, .int (nI m)), (2, .int (nI i)), (3, .int (nI ((t (a + 2)) - 96))), (4, .int (-9))]) dX11_readEdge_144 (by decide) rfl ?_
                  refine wc_iload X 146 4 dX11_readEdge_146 rfl ?_
                  refine wc_bipush X 148 (-9) dX11_readEdge_148 (by decide) ?_
                  refine wc_icmp_ne X 150 155 dX11_readEdge_150 (by decide) (fun c150_11 => ?_) (fun c150_11 => ?_)
                  ·
                    exact absurd rfl c150_11
                  ·
                    refine wc_iconstN X 153 0 dX11_readEdge_153 ?_
                    refine wc_st (st' := [.int (b2i false)]) rfl ?_
                    exact ret 154 _ false _ dX11_readEdge_154 (⟨by rw [show edgeP t ts r m a = (some (a + 3), r) by unfold edgeP; rw [hf1]; simp only [if_neg (full1 c28_4), if_neg (show ¬ ¬ (a + 2 < ts ∧ 97 ≤ t (a + 2) ∧ t (a + 2) ≤ 98) by omega), if_neg c116_10]; rw [hf3]]; rfl, by rw [show edgeP t ts r m a = (some (a + 3), r) by unfold edgeP; rw [hf1]; simp only [if_neg (full1 c28_4), if_neg (show ¬ ¬ (a + 2 < ts ∧ 97 ≤ t (a + 2) ∧ t (a + 2) ≤ 98) by omega), if_neg c116_10]; rw [hf3]]; rfl⟩)
                ·
                  have hd3 := figP_some hf3
                  refine wc_mutV X Y 141 [0, 1] [2] 0 (c_X11_figureS l G o th qtx ts (a + 3) qrp qpg qtr qbk dn qkp qik sn qsw qsi sd qln qfm qby qwy wz qfo qon qmn qpr qle qst qwt rc tk ps gn bd qwo t 0 ((r m) - 1) j (by first | assumption | omega) (by first | assumption | omega) (by first | assumption | omega) (by first | assumption | omega) (by first | assumption | omega) hf3) yv_X11_figure kd11 rfl rfl (wr := [aI G qrp 22 (nF r)]) rfl ⟨rfl, rfl, rfl⟩ q_885 ⟨rfl, rfl⟩ ⟨rfl, rfl⟩ ⟨rfl, rfl⟩ rfl rfl rfl dX11_readEdge_141 (fun v w hp_12 => ?_)
                  obtain ⟨rfl, rfl⟩ := hp_12
                  refine wc_perm Y [1, 2, 0] [ob o 11 [.int th, .ref qtx, .int (nI ts), .int (nI ((a + 3) + 1)), .ref qrp, .ref qpg, .ref qtr, .ref qbk, .int (nI dn), .ref qkp, .ref qik, .int (nI sn), .ref qsw, .ref qsi, .long sd, .ref qln, .ref qfm, .ref qby, .ref qwy, .int (nI wz), .ref qfo, .ref qon, .ref qmn, .ref qpr, .ref qle, .ref qst, .ref qwt, .int (nI rc), .int (nI tk), .int (nI ps), .int (nI gn), .int bd, .ref qwo], aI G qtx 80 (nF t), aI G qrp 22 (nF r)] rfl rfl ?_
                  show Wc Γ 0 0 144 [(0, .ref o), (1, .int (nI m)), (2, .int (nI i)), (3, .int (nI ((t (a + 2)) - 96)))] [.int (nI j)] [ob o 11 [.int th, .ref qtx, .int (nI ts), .int (nI ((a + 3) + 1)), .ref qrp, .ref qpg, .ref qtr, .ref qbk, .int (nI dn), .ref qkp, .ref qik, .int (nI sn), .ref qsw, .ref qsi, .long sd, .ref qln, .ref qfm, .ref qby, .ref qwy, .int (nI wz), .ref qfo, .ref qon, .ref qmn, .ref qpr, .ref qle, .ref qst, .ref qwt, .int (nI rc), .int (nI tk), .int (nI ps), .int (nI gn), .int bd, .ref qwo], aI G qtx 80 (nF t), aI G qrp 22 (nF r)]
                  refine wc_ws (ws' := [ob o 11 [.int th, .ref qtx, .int (nI ts), .int (nI (a + 4)), .ref qrp, .ref qpg, .ref qtr, .ref qbk, .int (nI dn), .ref qkp, .ref qik, .int (nI sn), .ref qsw, .ref qsi, .long sd, .ref qln, .ref qfm, .ref qby, .ref qwy, .int (nI wz), .ref qfo, .ref qon, .ref qmn, .ref qpr, .ref qle, .ref qst, .ref qwt, .int (nI rc), .int (nI tk), .int (nI ps), .int (nI gn), .int bd, .ref qwo], aI G qtx 80 (nF t), aI G qrp 22 (nF r)]) (by rfl) ?_
                  refine wc_istore X 144 (L' := [(0, .ref o), (1, .int (nI m)), (2, .int (nI i)), (3, .int (nI ((t (a + 2)) - 96))), (4, .int (nI j))]) dX11_readEdge_144 (by decide) rfl ?_
                  refine wc_iload X 146 4 dX11_readEdge_146 rfl ?_
                  refine wc_bipush X 148 (-9) dX11_readEdge_148 (by decide) ?_
                  refine wc_icmp_ne X 150 155 dX11_readEdge_150 (by decide) (fun c150_13 => ?_) (fun c150_13 => ?_)
                  ·
                    refine wc_aload_n X 155 0 dX11_readEdge_155 rfl ?_
                    refine wc_get X 156 0 4 kd11 rfl (by decide) q_769 rfl dX11_readEdge_156 ?_
                    refine wc_iload_n X 159 1 dX11_readEdge_159 rfl ?_
                    refine wc_iload_n X 160 2 dX11_readEdge_160 rfl ?_
                    refine wc_iload_n X 161 3 dX11_readEdge_161 rfl ?_
                    refine wc_callS X 162 [] (c_X11_at l G m i ((t (a + 2)) - 96) (by first | assumption | omega) (by first | assumption | omega) (by first | assumption | omega) (by first | assumption | omega)) ys_X11_at rfl q_896 ⟨rfl, rfl⟩ ⟨rfl, rfl⟩ ⟨rfl, rfl⟩ rfl rfl rfl dX11_readEdge_162 ?_
                    refine wc_ialdG X 165 2 rfl (atN_lt (by omega) (by omega)) (by decide) dX11_readEdge_165 ?_
                    refine wc_iload X 166 4 dX11_readEdge_166 rfl ?_
                    refine wc_callS X 168 [] (c_X11_has l G (r (atN m i ((t (a + 2)) - 96))) j (Nat.lt_trans (hr.2.2.2.2.1 _) (by decide)) (by first | assumption | omega)) ys_X11_has rfl q_916 ⟨rfl, rfl⟩ ⟨rfl, rfl⟩ ⟨rfl, rfl⟩ rfl rfl rfl dX11_readEdge_168 ?_
                    refine wc_if_eqB X 171 186 dX11_readEdge_171 (by decide) (fun c171_14 => ?_) (fun c171_14 => ?_)
                    ·
                      refine wc_aload_n X 186 0 dX11_readEdge_186 rfl ?_
                      refine wc_get X 187 0 4 kd11 rfl (by decide) q_769 rfl dX11_readEdge_187 ?_
                      refine wc_iload_n X 190 1 dX11_readEdge_190 rfl ?_
                      refine wc_iload_n X 191 2 dX11_readEdge_191 rfl ?_
                      refine wc_iload_n X 192 3 dX11_readEdge_192 rfl ?_
                      refine wc_callS X 193 [] (c_X11_at l G m i ((t (a + 2)) - 96) (by first | assumption | omega) (by first | assumption | omega) (by first | assumption | omega) (by first | assumption | omega)) ys_X11_at rfl q_896 ⟨rfl, rfl⟩ ⟨rfl, rfl⟩ ⟨rfl, rfl⟩ rfl rfl rfl dX11_readEdge_193 ?_
                      refine wc_dup2 X 196 dX11_readEdge_196 rfl rfl ?_
                      refine wc_ialdG X 197 2 rfl (atN_lt (by omega) (by omega)) (by decide) dX11_readEdge_197 ?_
                      refine wc_iconstN X 198 1 dX11_readEdge_198 ?_
                      refine wc_iload X 199 4 dX11_readEdge_199 rfl ?_
                      refine wc_shl1 X 201 dX11_readEdge_201 (by omega) ?_
                      refine wc_iorN X 202 dX11_readEdge_202 ?_
                      refine wc_iastG X Y 203 2 rfl (atN_lt (by omega) (by omega)) (by decide) (ws' := [ob o 11 [.int th, .ref qtx, .int (nI ts), .int (nI (a + 4)), .ref qrp, .ref qpg, .ref qtr, .ref qbk, .int (nI dn), .ref qkp, .ref qik, .int (nI sn), .ref qsw, .ref qsi, .long sd, .ref qln, .ref qfm, .ref qby, .ref qwy, .int (nI wz), .ref qfo, .ref qon, .ref qmn, .ref qpr, .ref qle, .ref qst, .ref qwt, .int (nI rc), .int (nI tk), .int (nI ps), .int (nI gn), .int bd, .ref qwo], aI G qtx 80 (nF t), aI G qrp 22 (nF (up r (atN m i ((t (a + 2)) - 96)) ((r (atN m i ((t (a + 2)) - 96))) ||| (2 ^ j))))]) rfl dX11_readEdge_203 ?_
                      refine wc_iconstN X 204 1 dX11_readEdge_204 ?_
                      refine wc_st (st' := [.int (b2i true)]) rfl ?_
                      exact ret 205 _ true _ dX11_readEdge_205 (⟨by rw [show edgeP t ts r m a = (none, up r (atN m i (t (a + 2) - 96)) (r (atN m i (t (a + 2) - 96)) ||| 2 ^ j)) by unfold edgeP; rw [hf1]; simp only [if_neg (full1 c28_4), if_neg (show ¬ ¬ (a + 2 < ts ∧ 97 ≤ t (a + 2) ∧ t (a + 2) ≤ 98) by omega), if_neg c116_10]; rw [hf3]; simp only [c171_14]; rfl]; rfl, by rw [show edgeP t ts r m a = (none, up r (atN m i (t (a + 2) - 96)) (r (atN m i (t (a + 2) - 96)) ||| 2 ^ j)) by unfold edgeP; rw [hf1]; simp only [if_neg (full1 c28_4), if_neg (show ¬ ¬ (a + 2 < ts ∧ 97 ≤ t (a + 2) ∧ t (a + 2) ≤ 98) by omega), if_neg c116_10]; rw [hf3]; simp only [c171_14]; rfl]; rfl⟩)
                    ·
                      refine wc_aload_n X 174 0 dX11_readEdge_174 rfl ?_
                      refine wc_dup X 175 dX11_readEdge_175 rfl ?_
                      refine wc_get X 176 0 3 kd11 rfl (by decide) q_768 rfl dX11_readEdge_176 ?_
                      refine wc_iconstN X 179 1 dX11_readEdge_179 ?_
                      refine wc_isubN X 180 dX11_readEdge_180 (by omega) ?_
                      refine wc_put X Y 181 0 3 kd11 rfl (by decide) q_768 rfl rfl rfl (Nat.le_of_ble_eq_true rfl) (ws' := [ob o 11 [.int th, .ref qtx, .int (nI ts), .int (nI ((a + 4) - 1)), .ref qrp, .ref qpg, .ref qtr, .ref qbk, .int (nI dn), .ref qkp, .ref qik, .int (nI sn), .ref qsw, .ref qsi, .long sd, .ref qln, .ref qfm, .ref qby, .ref qwy, .int (nI wz), .ref qfo, .ref qon, .ref qmn, .ref qpr, .ref qle, .ref qst, .ref qwt, .int (nI rc), .int (nI tk), .int (nI ps), .int (nI gn), .int bd, .ref qwo], aI G qtx 80 (nF t), aI G qrp 22 (nF r)]) rfl dX11_readEdge_181 ?_
                      refine wc_iconstN X 184 0 dX11_readEdge_184 ?_
                      refine wc_st (st' := [.int (b2i false)]) rfl ?_
                      exact ret 185 _ false _ dX11_readEdge_185 (⟨by rw [show edgeP t ts r m a = (some (a + 3), r) by unfold edgeP; rw [hf1]; simp only [if_neg (full1 c28_4), if_neg (show ¬ ¬ (a + 2 < ts ∧ 97 ≤ t (a + 2) ∧ t (a + 2) ≤ 98) by omega), if_neg c116_10]; rw [hf3]; simp only [c171_14]; rfl]; rfl, by rw [show edgeP t ts r m a = (some (a + 3), r) by unfold edgeP; rw [hf1]; simp only [if_neg (full1 c28_4), if_neg (show ¬ ¬ (a + 2 < ts ∧ 97 ≤ t (a + 2) ∧ t (a + 2) ≤ 98) by omega), if_neg c116_10]; rw [hf3]; simp only [c171_14]; rfl]; rfl⟩)
                  ·
                    exact absurd c150_13 (nI_ne_neg (by omega) (by decide))
              ·
                refine wc_iconstN X 119 0 dX11_readEdge_119 ?_
                refine wc_st (st' := [.int (b2i false)]) rfl ?_
                exact ret 120 _ false _ dX11_readEdge_120 (⟨by rw [show edgeP t ts r m a = (some (a + 2), r) by unfold edgeP; rw [hf1]; simp only [if_neg (full1 c28_4), if_neg (show ¬ ¬ (a + 2 < ts ∧ 97 ≤ t (a + 2) ∧ t (a + 2) ≤ 98) by omega), if_pos c116_10]]; rfl, by rw [show edgeP t ts r m a = (some (a + 2), r) by unfold edgeP; rw [hf1]; simp only [if_neg (full1 c28_4), if_neg (show ¬ ¬ (a + 2 < ts ∧ 97 ≤ t (a + 2) ∧ t (a + 2) ≤ 98) by omega), if_pos c116_10]]; rfl⟩)
      ·
        refine wc_aload_n X 31 0 dX11_readEdge_31 rfl ?_
        refine wc_dup X 32 dX11_readEdge_32 rfl ?_
        refine wc_get X 33 0 3 kd11 rfl (by decide) q_768 rfl dX11_readEdge_33 ?_
        refine wc_iconstN X 36 1 dX11_readEdge_36 ?_
        refine wc_isubN X 37 dX11_readEdge_37 (by omega) ?_
        refine wc_put X Y 38 0 3 kd11 rfl (by decide) q_768 rfl rfl rfl (Nat.le_of_ble_eq_true rfl) (ws' := [ob o 11 [.int th, .ref qtx, .int (nI ts), .int (nI ((a + 2) - 1)), .ref qrp, .ref qpg, .ref qtr, .ref qbk, .int (nI dn), .ref qkp, .ref qik, .int (nI sn), .ref qsw, .ref qsi, .long sd, .ref qln, .ref qfm, .ref qby, .ref qwy, .int (nI wz), .ref qfo, .ref qon, .ref qmn, .ref qpr, .ref qle, .ref qst, .ref qwt, .int (nI rc), .int (nI tk), .int (nI ps), .int (nI gn), .int bd, .ref qwo], aI G qtx 80 (nF t), aI G qrp 22 (nF r)]) rfl dX11_readEdge_38 ?_
        refine wc_iconstN X 41 0 dX11_readEdge_41 ?_
        refine wc_st (st' := [.int (b2i false)]) rfl ?_
        exact ret 42 _ false _ dX11_readEdge_42 (⟨by rw [show edgeP t ts r m a = (some (a + 1), r) by unfold edgeP; rw [hf1]; simp [full2 c28_4]]; rfl, by rw [show edgeP t ts r m a = (some (a + 1), r) by unfold edgeP; rw [hf1]; simp [full2 c28_4]]; rfl⟩)
    ·
      exact absurd c17_3 (nI_ne_neg (by omega) (by decide))

set_option maxHeartbeats 4000000 in
set_option maxRecDepth 100000 in
theorem c_X11_readEnd (l : Launch) (G : GG) (o : Nat) (th : Int32) (qtx ts pl qrp qpg qtr qbk dn qkp qik sn qsw qsi : Nat) (sd : Int64) (qln qfm qby qwy wz qfo qon qmn qpr qle qst qwt rc tk ps gn : Nat) (bd : Int32) (qwo : Nat) (t : Nat → Nat) (r : Nat → Nat) (m a : Nat) (hts : ts ≤ 80) (ht : ∀ j, t j < 256) (hr : pgOk r) (hm : m < 2) (ha : a < ts) : MM l G yX11_readEnd (Cond.code yX11_readEnd cX11_readEnd 3 (some .boolean)) { frames := 2, cells := 0, slots := 0, locals := 47 } [.ref o, .int (nI m)] [ob o 11 [.int th, .ref qtx, .int (nI ts), .int (nI (a + 1)), .ref qrp, .ref qpg, .ref qtr, .ref qbk, .int (nI dn), .ref qkp, .ref qik, .int (nI sn), .ref qsw, .ref qsi, .long sd, .ref qln, .ref qfm, .ref qby, .ref qwy, .int (nI wz), .ref qfo, .ref qon, .ref qmn, .ref qpr, .ref qle, .ref qst, .ref qwt, .int (nI rc), .int (nI tk), .int (nI ps), .int (nI gn), .int bd, .ref qwo], aI G qtx 80 (nF t), aI G qrp 22 (nF r)] (fun (v : Option Value) (w : va_W) => v = some (.int (b2i ((endP t ts r m a).1.isNone))) ∧ w = [ob o 11 [.int th, .ref qtx, .int (nI ts), .int (nI ((endP t ts r m a).1.getD (a + 2))), .ref qrp, .ref qpg, .ref qtr, .ref qbk, .int (nI dn), .ref qkp, .ref qik, .int (nI sn), .ref qsw, .ref qsi, .long sd, .ref qln, .ref qfm, .ref qby, .ref qwy, .int (nI wz), .ref qfo, .ref qon, .ref qmn, .ref qpr, .ref qle, .ref qst, .ref qwt, .int (nI rc), .int (nI tk), .int (nI ps), .int (nI gn), .int bd, .ref qwo], aI G qtx 80 (nF t), aI G qrp 22 (nF ((endP t ts r m a).2))]) 0 0 := by
  refine MM.ofZ (by decide) rfl (fun Γ X Y hnm ret => ?_)
  show Wc Γ 0 0 0 [(0, .ref o), (1, .int (nI m))] [] [ob o 11 [.int th, .ref qtx, .int (nI ts), .int (nI (a + 1)), .ref qrp, .ref qpg, .ref qtr, .ref qbk, .int (nI dn), .ref qkp, .ref qik, .int (nI sn), .ref qsw, .ref qsi, .long sd, .ref qln, .ref qfm, .ref qby, .ref qwy, .int (nI wz), .ref qfo, .ref qon, .ref qmn, .ref qpr, .ref qle, .ref qst, .ref qwt, .int (nI rc), .int (nI tk), .int (nI ps), .int (nI gn), .int bd, .ref qwo], aI G qtx 80 (nF t), aI G qrp 22 (nF r)]
  have hb := pgOk_m hr hm
  refine wc_aload_n X 0 0 dX11_readEnd_0 rfl ?_
  refine wc_iconstN X 1 0 dX11_readEnd_1 ?_
  refine wc_aload_n X 2 0 dX11_readEnd_2 rfl ?_
  refine wc_get X 3 0 4 kd11 rfl (by decide) q_769 rfl dX11_readEnd_3 ?_
  refine wc_iload_n X 6 1 dX11_readEnd_6 rfl ?_
  refine wc_ialdG X 7 2 rfl (by omega) (by decide) dX11_readEnd_7 ?_
  refine wc_iconstN X 8 1 dX11_readEnd_8 ?_
  refine wc_isubN X 9 dX11_readEnd_9 (by omega) ?_
  rcases hf1 : figP t ts (a + 1) 0 (r m - 1) with _ | i
  ·
    refine wc_callV X 10 [0, 1] 0 (c_X11_figureN l G o th qtx ts (a + 1) qrp qpg qtr qbk dn qkp qik sn qsw qsi sd qln qfm qby qwy wz qfo qon qmn qpr qle qst qwt rc tk ps gn bd qwo t 0 ((r m) - 1) (by first | assumption | omega) (by first | assumption | omega) (by first | assumption | omega) (by first | assumption | omega) (by first | assumption | omega) hf1) yv_X11_figure kd11 rfl rfl q_885 ⟨rfl, rfl⟩ ⟨rfl, rfl⟩ ⟨rfl, rfl⟩ rfl rfl rfl dX11_readEnd_10 ?_
    refine wc_istore_n X 13 (L' := [(0, .ref o), (1, .int (nI m)), (2, .int (-9))]) dX11_readEnd_13 (by decide) rfl ?_
    refine wc_iload_n X 14 2 dX11_readEnd_14 rfl ?_
    refine wc_bipush X 15 (-9) dX11_readEnd_15 (by decide) ?_
    refine wc_icmp_ne X 17 22 dX11_readEnd_17 (by decide) (fun c17_1 => ?_) (fun c17_1 => ?_)
    ·
      exact absurd rfl c17_1
    ·
      refine wc_iconstN X 20 0 dX11_readEnd_20 ?_
      refine wc_st (st' := [.int (b2i false)]) rfl ?_
      exact ret 21 _ false _ dX11_readEnd_21 (⟨by rw [show endP t ts r m a = (some (a + 1), r) by unfold endP; rw [hf1]]; rfl, by rw [show endP t ts r m a = (some (a + 1), r) by unfold endP; rw [hf1]]; rfl⟩)
  ·
    have hd1 := figP_some hf1
    refine wc_mutV X Y 10 [0, 1] [2] 0 (c_X11_figureS l G o th qtx ts (a + 1) qrp qpg qtr qbk dn qkp qik sn qsw qsi sd qln qfm qby qwy wz qfo qon qmn qpr qle qst qwt rc tk ps gn bd qwo t 0 ((r m) - 1) i (by first | assumption | omega) (by first | assumption | omega) (by first | assumption | omega) (by first | assumption | omega) (by first | assumption | omega) hf1) yv_X11_figure kd11 rfl rfl (wr := [aI G qrp 22 (nF r)]) rfl ⟨rfl, rfl, rfl⟩ q_885 ⟨rfl, rfl⟩ ⟨rfl, rfl⟩ ⟨rfl, rfl⟩ rfl rfl rfl dX11_readEnd_10 (fun v w hp_2 => ?_)
    obtain ⟨rfl, rfl⟩ := hp_2
    refine wc_perm Y [1, 2, 0] [ob o 11 [.int th, .ref qtx, .int (nI ts), .int (nI ((a + 1) + 1)), .ref qrp, .ref qpg, .ref qtr, .ref qbk, .int (nI dn), .ref qkp, .ref qik, .int (nI sn), .ref qsw, .ref qsi, .long sd, .ref qln, .ref qfm, .ref qby, .ref qwy, .int (nI wz), .ref qfo, .ref qon, .ref qmn, .ref qpr, .ref qle, .ref qst, .ref qwt, .int (nI rc), .int (nI tk), .int (nI ps), .int (nI gn), .int bd, .ref qwo], aI G qtx 80 (nF t), aI G qrp 22 (nF r)] rfl rfl ?_
    show Wc Γ 0 0 13 [(0, .ref o), (1, .int (nI m))] [.int (nI i)] [ob o 11 [.int th, .ref qtx, .int (nI ts), .int (nI ((a + 1) + 1)), .ref qrp, .ref qpg, .ref qtr, .ref qbk, .int (nI dn), .ref qkp, .ref qik, .int (nI sn), .ref qsw, .ref qsi, .long sd, .ref qln, .ref qfm, .ref qby, .ref qwy, .int (nI wz), .ref qfo, .ref qon, .ref qmn, .ref qpr, .ref qle, .ref qst, .ref qwt, .int (nI rc), .int (nI tk), .int (nI ps), .int (nI gn), .int bd, .ref qwo], aI G qtx 80 (nF t), aI G qrp 22 (nF r)]
    refine wc_ws (ws' := [ob o 11 [.int th, .ref qtx, .int (nI ts), .int (nI (a + 2)), .ref qrp, .ref qpg, .ref qtr, .ref qbk, .int (nI dn), .ref qkp, .ref qik, .int (nI sn), .ref qsw, .ref qsi, .long sd, .ref qln, .ref qfm, .ref qby, .ref qwy, .int (nI wz), .ref qfo, .ref qon, .ref qmn, .ref qpr, .ref qle, .ref qst, .ref qwt, .int (nI rc), .int (nI tk), .int (nI ps), .int (nI gn), .int bd, .ref qwo], aI G qtx 80 (nF t), aI G qrp 22 (nF r)]) (by rfl) ?_
    refine wc_istore_n X 13 (L' := [(0, .ref o), (1, .int (nI m)), (2, .int (nI i))]) dX11_readEnd_13 (by decide) rfl ?_
    refine wc_iload_n X 14 2 dX11_readEnd_14 rfl ?_
    refine wc_bipush X 15 (-9) dX11_readEnd_15 (by decide) ?_
    refine wc_icmp_ne X 17 22 dX11_readEnd_17 (by decide) (fun c17_3 => ?_) (fun c17_3 => ?_)
    ·
      refine wc_aload_n X 22 0 dX11_readEnd_22 rfl ?_
      refine wc_get X 23 0 4 kd11 rfl (by decide) q_769 rfl dX11_readEnd_23 ?_
      refine wc_iconstN X 26 2 dX11_readEnd_26 ?_
      refine wc_iload_n X 27 1 dX11_readEnd_27 rfl ?_
      refine wc_iaddN X 28 dX11_readEnd_28 ?_
      refine wc_ialdG X 29 2 rfl (by omega) (by decide) dX11_readEnd_29 ?_
      refine wc_iload_n X 30 2 dX11_readEnd_30 rfl ?_
      refine wc_callS X 31 [] (c_X11_has l G (r (2 + m)) i (Nat.lt_trans (hr.2.2.2.2.1 _) (by decide)) (by first | assumption | omega)) ys_X11_has rfl q_916 ⟨rfl, rfl⟩ ⟨rfl, rfl⟩ ⟨rfl, rfl⟩ rfl rfl rfl dX11_readEnd_31 ?_
      refine wc_if_eqB X 34 49 dX11_readEnd_34 (by decide) (fun c34_4 => ?_) (fun c34_4 => ?_)
      ·
        refine wc_aload_n X 49 0 dX11_readEnd_49 rfl ?_
        refine wc_get X 50 0 4 kd11 rfl (by decide) q_769 rfl dX11_readEnd_50 ?_
        refine wc_iconstN X 53 2 dX11_readEnd_53 ?_
        refine wc_iload_n X 54 1 dX11_readEnd_54 rfl ?_
        refine wc_iaddN X 55 dX11_readEnd_55 ?_
        refine wc_dup2 X 56 dX11_readEnd_56 rfl rfl ?_
        refine wc_ialdG X 57 2 rfl (by omega) (by decide) dX11_readEnd_57 ?_
        refine wc_iconstN X 58 1 dX11_readEnd_58 ?_
        refine wc_iload_n X 59 2 dX11_readEnd_59 rfl ?_
        refine wc_shl1 X 60 dX11_readEnd_60 (by omega) ?_
        refine wc_iorN X 61 dX11_readEnd_61 ?_
        refine wc_iastG X Y 62 2 rfl (by omega) (by decide) (ws' := [ob o 11 [.int th, .ref qtx, .int (nI ts), .int (nI (a + 2)), .ref qrp, .ref qpg, .ref qtr, .ref qbk, .int (nI dn), .ref qkp, .ref qik, .int (nI sn), .ref qsw, .ref qsi, .long sd, .ref qln, .ref qfm, .ref qby, .ref qwy, .int (nI wz), .ref qfo, .ref qon, .ref qmn, .ref qpr, .ref qle, .ref qst, .ref qwt, .int (nI rc), .int (nI tk), .int (nI ps), .int (nI gn), .int bd, .ref qwo], aI G qtx 80 (nF t), aI G qrp 22 (nF (up r (2 + m) ((r (2 + m)) ||| (2 ^ i))))]) rfl dX11_readEnd_62 ?_
        refine wc_iconstN X 63 1 dX11_readEnd_63 ?_
        refine wc_st (st' := [.int (b2i true)]) rfl ?_
        exact ret 64 _ true _ dX11_readEnd_64 (⟨by rw [show endP t ts r m a = (none, up r (2 + m) (r (2 + m) ||| 2 ^ i)) by unfold endP; rw [hf1]; simp only [c34_4]; rfl]; rfl, by rw [show endP t ts r m a = (none, up r (2 + m) (r (2 + m) ||| 2 ^ i)) by unfold endP; rw [hf1]; simp only [c34_4]; rfl]; rfl⟩)
      ·
        refine wc_aload_n X 37 0 dX11_readEnd_37 rfl ?_
        refine wc_dup X 38 dX11_readEnd_38 rfl ?_
        refine wc_get X 39 0 3 kd11 rfl (by decide) q_768 rfl dX11_readEnd_39 ?_
        refine wc_iconstN X 42 1 dX11_readEnd_42 ?_
        refine wc_isubN X 43 dX11_readEnd_43 (by omega) ?_
        refine wc_put X Y 44 0 3 kd11 rfl (by decide) q_768 rfl rfl rfl (Nat.le_of_ble_eq_true rfl) (ws' := [ob o 11 [.int th, .ref qtx, .int (nI ts), .int (nI ((a + 2) - 1)), .ref qrp, .ref qpg, .ref qtr, .ref qbk, .int (nI dn), .ref qkp, .ref qik, .int (nI sn), .ref qsw, .ref qsi, .long sd, .ref qln, .ref qfm, .ref qby, .ref qwy, .int (nI wz), .ref qfo, .ref qon, .ref qmn, .ref qpr, .ref qle, .ref qst, .ref qwt, .int (nI rc), .int (nI tk), .int (nI ps), .int (nI gn), .int bd, .ref qwo], aI G qtx 80 (nF t), aI G qrp 22 (nF r)]) rfl dX11_readEnd_44 ?_
        refine wc_iconstN X 47 0 dX11_readEnd_47 ?_
        refine wc_st (st' := [.int (b2i false)]) rfl ?_
        exact ret 48 _ false _ dX11_readEnd_48 (⟨by rw [show endP t ts r m a = (some (a + 1), r) by unfold endP; rw [hf1]; simp only [c34_4]; rfl]; rfl, by rw [show endP t ts r m a = (some (a + 1), r) by unfold endP; rw [hf1]; simp only [c34_4]; rfl]; rfl⟩)
    ·
      exact absurd c17_3 (nI_ne_neg (by omega) (by decide))

set_option maxHeartbeats 4000000 in
set_option maxRecDepth 100000 in
theorem c_X11_readPart (l : Launch) (G : GG) (o : Nat) (th : Int32) (qtx ts pl qrp qpg qtr qbk dn qkp qik sn qsw qsi : Nat) (sd : Int64) (qln qfm qby qwy wz qfo qon qmn qpr qle qst qwt rc tk ps gn : Nat) (bd : Int32) (qwo : Nat) (t : Nat → Nat) (r : Nat → Nat) (a : Nat) (hts : ts ≤ 80) (ht : ∀ j, t j < 256) (hr : pgOk r) (ha : a < ts) : MM l G yX11_readPart (Cond.code yX11_readPart cX11_readPart 6 (some .boolean)) { frames := 3, cells := 0, slots := 0, locals := 71 } [.ref o] [ob o 11 [.int th, .ref qtx, .int (nI ts), .int (nI a), .ref qrp, .ref qpg, .ref qtr, .ref qbk, .int (nI dn), .ref qkp, .ref qik, .int (nI sn), .ref qsw, .ref qsi, .long sd, .ref qln, .ref qfm, .ref qby, .ref qwy, .int (nI wz), .ref qfo, .ref qon, .ref qmn, .ref qpr, .ref qle, .ref qst, .ref qwt, .int (nI rc), .int (nI tk), .int (nI ps), .int (nI gn), .int bd, .ref qwo], aI G qtx 80 (nF t), aI G qrp 22 (nF r)] (fun (v : Option Value) (w : va_W) => v = some (.int (b2i ((partP t ts r a).1.isNone))) ∧ w = [ob o 11 [.int th, .ref qtx, .int (nI ts), .int (nI ((partP t ts r a).1.getD (partP t ts r a).2.1)), .ref qrp, .ref qpg, .ref qtr, .ref qbk, .int (nI dn), .ref qkp, .ref qik, .int (nI sn), .ref qsw, .ref qsi, .long sd, .ref qln, .ref qfm, .ref qby, .ref qwy, .int (nI wz), .ref qfo, .ref qon, .ref qmn, .ref qpr, .ref qle, .ref qst, .ref qwt, .int (nI rc), .int (nI tk), .int (nI ps), .int (nI gn), .int bd, .ref qwo], aI G qtx 80 (nF t), aI G qrp 22 (nF ((partP t ts r a).2.2))]) 0 0 := by
  refine MM.ofZ (by decide) rfl (fun Γ X Y hnm ret => ?_)
  show Wc Γ 0 0 0 [(0, .ref o)] [] [ob o 11 [.int th, .ref qtx, .int (nI ts), .int (nI a), .ref qrp, .ref qpg, .ref qtr, .ref qbk, .int (nI dn), .ref qkp, .ref qik, .int (nI sn), .ref qsw, .ref qsi, .long sd, .ref qln, .ref qfm, .ref qby, .ref qwy, .int (nI wz), .ref qfo, .ref qon, .ref qmn, .ref qpr, .ref qle, .ref qst, .ref qwt, .int (nI rc), .int (nI tk), .int (nI ps), .int (nI gn), .int bd, .ref qwo], aI G qtx 80 (nF t), aI G qrp 22 (nF r)]
  refine wc_aload_n X 0 0 dX11_readPart_0 rfl ?_
  refine wc_get X 1 0 1 kd11 rfl (by decide) q_766 rfl dX11_readPart_1 ?_
  refine wc_aload_n X 4 0 dX11_readPart_4 rfl ?_
  refine wc_get X 5 0 3 kd11 rfl (by decide) q_768 rfl dX11_readPart_5 ?_
  refine wc_ialdG X 8 1 rfl (by omega) (by decide) dX11_readPart_8 ?_
  refine wc_istore_n X 9 (L' := [(0, .ref o), (1, .int (nI (t a)))]) dX11_readPart_9 (by decide) rfl ?_
  rcases sg_cases (t a) with hl | hl | hl | hl | hl
  ·
    refine wc_L (L' := [(0, .ref o), (1, .int (nI 112))]) (by rw [hl]) ?_
    refine wc_iload_n X 10 1 dX11_readPart_10 rfl ?_
    refine wc_bipush X 11 (nI 112) dX11_readPart_11 (by decide) ?_
    refine wc_icmp_eqN X 13 22 dX11_readPart_13 (by decide) (by decide) (by decide) (fun c13_1 => ?_) (fun c13_1 => ?_)
    ·
      refine wc_iconstN X 22 1 dX11_readPart_22 ?_
      refine wc_goto X 23 27 dX11_readPart_23 (by decide) ?_
      refine wc_istore_n X 27 (L' := [(0, .ref o), (1, .int (nI 112)), (2, .int (nI 1))]) dX11_readPart_27 (by decide) rfl ?_
      refine wc_iload_n X 28 1 dX11_readPart_28 rfl ?_
      refine wc_bipush X 29 (nI 80) dX11_readPart_29 (by decide) ?_
      refine wc_icmp_eqN X 31 40 dX11_readPart_31 (by decide) (by decide) (by decide) (fun c31_2 => ?_) (fun c31_2 => ?_)
      ·
        exact absurd c31_2 (by decide)
      ·
        refine wc_iload_n X 34 1 dX11_readPart_34 rfl ?_
        refine wc_bipush X 35 (nI 81) dX11_readPart_35 (by decide) ?_
        refine wc_icmp_neN X 37 44 dX11_readPart_37 (by decide) (by decide) (by decide) (fun c37_3 => ?_) (fun c37_3 => ?_)
        ·
          refine wc_iconstN X 44 0 dX11_readPart_44 ?_
          refine wc_istore_n X 45 (L' := [(0, .ref o), (1, .int (nI 112)), (2, .int (nI 1)), (3, .int (nI 0))]) dX11_readPart_45 (by decide) rfl ?_
          refine wc_iload_n X 46 1 dX11_readPart_46 rfl ?_
          refine wc_bipush X 47 (nI 112) dX11_readPart_47 (by decide) ?_
          refine wc_icmp_eqN X 49 58 dX11_readPart_49 (by decide) (by decide) (by decide) (fun c49_4 => ?_) (fun c49_4 => ?_)
          ·
            refine wc_iconstN X 58 0 dX11_readPart_58 ?_
            refine wc_goto X 59 63 dX11_readPart_59 (by decide) ?_
            refine wc_istore X 63 (L' := [(0, .ref o), (1, .int (nI 112)), (2, .int (nI 1)), (3, .int (nI 0)), (4, .int (nI 0))]) dX11_readPart_63 (by decide) rfl ?_
            refine wc_iconstN X 65 2 dX11_readPart_65 ?_
            refine wc_aload_n X 66 0 dX11_readPart_66 rfl ?_
            refine wc_get X 67 0 4 kd11 rfl (by decide) q_769 rfl dX11_readPart_67 ?_
            refine wc_iload X 70 4 dX11_readPart_70 rfl ?_
            refine wc_ialdG X 72 2 rfl (by decide) (by decide) dX11_readPart_72 ?_
            refine wc_imulN X 73 dX11_readPart_73 ?_
            refine wc_aload_n X 74 0 dX11_readPart_74 rfl ?_
            refine wc_get X 75 0 4 kd11 rfl (by decide) q_769 rfl dX11_readPart_75 ?_
            refine wc_iload X 78 4 dX11_readPart_78 rfl ?_
            refine wc_ialdG X 80 2 rfl (by decide) (by decide) dX11_readPart_80 ?_
            refine wc_imulN X 81 dX11_readPart_81 ?_
            refine wc_istore X 82 (L' := [(0, .ref o), (1, .int (nI 112)), (2, .int (nI 1)), (3, .int (nI 0)), (4, .int (nI 0)), (5, .int (nI ((2 * (r 0)) * (r 0))))]) dX11_readPart_82 (by decide) rfl ?_
            refine wc_iload_n X 84 2 dX11_readPart_84 rfl ?_
            refine wc_if_neN X 85 92 dX11_readPart_85 (by decide) (by decide) (fun c85_5 => ?_) (fun c85_5 => ?_)
            ·
              refine wc_iload_n X 92 2 dX11_readPart_92 rfl ?_
              refine wc_if_eqN X 93 110 dX11_readPart_93 (by decide) (by decide) (fun c93_6 => ?_) (fun c93_6 => ?_)
              ·
                exact absurd c93_6 (by decide)
              ·
                refine wc_aload_n X 96 0 dX11_readPart_96 rfl ?_
                refine wc_get X 97 0 4 kd11 rfl (by decide) q_769 rfl dX11_readPart_97 ?_
                refine wc_iload X 100 4 dX11_readPart_100 rfl ?_
                refine wc_callS X 102 [2] (c_X11_edges l G qrp r 0 hr.2.1 hr.2.2.2.1 hr.2.2.2.2.1 (by decide)) ys_X11_edges rfl q_893 ⟨rfl, rfl⟩ ⟨rfl, rfl⟩ ⟨rfl, rfl⟩ rfl rfl rfl dX11_readPart_102 ?_
                refine wc_iload X 105 5 dX11_readPart_105 rfl ?_
                refine wc_icmp_eqN X 107 132 dX11_readPart_107 (by decide) (Nat.lt_of_le_of_lt (edgN_le _ _) (by have := pgOk_m hr (show 0 < 2 by decide); have := pgOk_m hr (show 1 < 2 by decide); omega)) (sq_lt (by first | exact (pgOk_m hr (show 0 < 2 by decide)).2 | exact (pgOk_m hr (show 1 < 2 by decide)).2)) (fun c107_7 => ?_) (fun c107_7 => ?_)
                ·
                  refine wc_iconstN X 132 0 dX11_readPart_132 ?_
                  refine wc_st (st' := [.int (b2i false)]) rfl ?_
                  exact ret 133 _ false _ dX11_readPart_133 (⟨by rw [show partP t ts r a = (some a, a, r) by unfold partP; rw [hl, show sgBad r 112 = true by unfold sgBad; rw [sgM_112]; simp [sgE, sgN, c107_7]]; rfl] <;> rfl, by rw [show partP t ts r a = (some a, a, r) by unfold partP; rw [hl, show sgBad r 112 = true by unfold sgBad; rw [sgM_112]; simp [sgE, sgN, c107_7]]; rfl] <;> rfl⟩)
                ·
                  refine wc_iload_n X 110 3 dX11_readPart_110 rfl ?_
                  refine wc_if_eqN X 111 134 dX11_readPart_111 (by decide) (by decide) (fun c111_8 => ?_) (fun c111_8 => ?_)
                  ·
                    refine wc_aload_n X 134 0 dX11_readPart_134 rfl ?_
                    refine wc_dup X 135 dX11_readPart_135 rfl ?_
                    refine wc_get X 136 0 3 kd11 rfl (by decide) q_768 rfl dX11_readPart_136 ?_
                    refine wc_iconstN X 139 1 dX11_readPart_139 ?_
                    refine wc_iaddN X 140 dX11_readPart_140 ?_
                    refine wc_put X Y 141 0 3 kd11 rfl (by decide) q_768 rfl rfl rfl (Nat.le_of_ble_eq_true rfl) (ws' := [ob o 11 [.int th, .ref qtx, .int (nI ts), .int (nI (a + 1)), .ref qrp, .ref qpg, .ref qtr, .ref qbk, .int (nI dn), .ref qkp, .ref qik, .int (nI sn), .ref qsw, .ref qsi, .long sd, .ref qln, .ref qfm, .ref qby, .ref qwy, .int (nI wz), .ref qfo, .ref qon, .ref qmn, .ref qpr, .ref qle, .ref qst, .ref qwt, .int (nI rc), .int (nI tk), .int (nI ps), .int (nI gn), .int bd, .ref qwo], aI G qtx 80 (nF t), aI G qrp 22 (nF r)]) rfl dX11_readPart_141 ?_
                    refine wc_iload_n X 144 2 dX11_readPart_144 rfl ?_
                    refine wc_if_eqN X 145 157 dX11_readPart_145 (by decide) (by decide) (fun c145_9 => ?_) (fun c145_9 => ?_)
                    ·
                      exact absurd c145_9 (by decide)
                    ·
                      refine wc_aload_n X 148 0 dX11_readPart_148 rfl ?_
                      refine wc_iload X 149 4 dX11_readPart_149 rfl ?_
                      refine wc_mutV X Y 151 [0, 1, 2] [] 0 (c_X11_readEdge l G o th qtx ts a qrp qpg qtr qbk dn qkp qik sn qsw qsi sd qln qfm qby qwy wz qfo qon qmn qpr qle qst qwt rc tk ps gn bd qwo t r 0 a (by first | assumption | omega) (by first | assumption | omega) (by first | assumption | omega) (by decide) (by first | assumption | omega)) yv_X11_readEdge kd11 rfl rfl (wr := []) rfl ⟨rfl, rfl, rfl⟩ q_906 ⟨rfl, rfl⟩ ⟨rfl, rfl⟩ ⟨rfl, rfl⟩ rfl rfl rfl dX11_readPart_151 (fun v w hp_10 => ?_)
                      obtain ⟨rfl, rfl⟩ := hp_10
                      refine wc_perm Y [0, 1, 2] [ob o 11 [.int th, .ref qtx, .int (nI ts), .int (nI ((edgeP t ts r 0 a).1.getD (a + 4))), .ref qrp, .ref qpg, .ref qtr, .ref qbk, .int (nI dn), .ref qkp, .ref qik, .int (nI sn), .ref qsw, .ref qsi, .long sd, .ref qln, .ref qfm, .ref qby, .ref qwy, .int (nI wz), .ref qfo, .ref qon, .ref qmn, .ref qpr, .ref qle, .ref qst, .ref qwt, .int (nI rc), .int (nI tk), .int (nI ps), .int (nI gn), .int bd, .ref qwo], aI G qtx 80 (nF t), aI G qrp 22 (nF ((edgeP t ts r 0 a).2))] rfl rfl ?_
                      show Wc Γ 0 0 154 [(0, .ref o), (1, .int (nI 112)), (2, .int (nI 1)), (3, .int (nI 0)), (4, .int (nI 0)), (5, .int (nI ((2 * (r 0)) * (r 0))))] [.int (b2i ((edgeP t ts r 0 a).1.isNone))] [ob o 11 [.int th, .ref qtx, .int (nI ts), .int (nI ((edgeP t ts r 0 a).1.getD (a + 4))), .ref qrp, .ref qpg, .ref qtr, .ref qbk, .int (nI dn), .ref qkp, .ref qik, .int (nI sn), .ref qsw, .ref qsi, .long sd, .ref qln, .ref qfm, .ref qby, .ref qwy, .int (nI wz), .ref qfo, .ref qon, .ref qmn, .ref qpr, .ref qle, .ref qst, .ref qwt, .int (nI rc), .int (nI tk), .int (nI ps), .int (nI gn), .int bd, .ref qwo], aI G qtx 80 (nF t), aI G qrp 22 (nF ((edgeP t ts r 0 a).2))]
                      refine wc_goto X 154 163 dX11_readPart_154 (by decide) ?_
                      exact ret 163 _ ((edgeP t ts r 0 a).1.isNone) _ dX11_readPart_163 (⟨by rw [show partP t ts r a = ((edgeP t ts r 0 a).1, a + 4, (edgeP t ts r 0 a).2) by unfold partP; rw [hl, show sgBad r 112 = false by unfold sgBad; rw [sgM_112]; simp [sgE, sgN, c107_7], show sgE 112 = true from rfl, sgM_112]; rfl] <;> rfl, by rw [show partP t ts r a = ((edgeP t ts r 0 a).1, a + 4, (edgeP t ts r 0 a).2) by unfold partP; rw [hl, show sgBad r 112 = false by unfold sgBad; rw [sgM_112]; simp [sgE, sgN, c107_7], show sgE 112 = true from rfl, sgM_112]; rfl] <;> rfl⟩)
                  ·
                    exact absurd c111_8 (by decide)
            ·
              exact absurd c85_5 (by decide)
          ·
            exact absurd c49_4 (by decide)
        ·
          exact absurd c37_3 (by decide)
    ·
      exact absurd c13_1 (by decide)
  ·
    refine wc_L (L' := [(0, .ref o), (1, .int (nI 113))]) (by rw [hl]) ?_
    refine wc_iload_n X 10 1 dX11_readPart_10 rfl ?_
    refine wc_bipush X 11 (nI 112) dX11_readPart_11 (by decide) ?_
    refine wc_icmp_eqN X 13 22 dX11_readPart_13 (by decide) (by decide) (by decide) (fun c13_11 => ?_) (fun c13_11 => ?_)
    ·
      exact absurd c13_11 (by decide)
    ·
      refine wc_iload_n X 16 1 dX11_readPart_16 rfl ?_
      refine wc_bipush X 17 (nI 113) dX11_readPart_17 (by decide) ?_
      refine wc_icmp_neN X 19 26 dX11_readPart_19 (by decide) (by decide) (by decide) (fun c19_12 => ?_) (fun c19_12 => ?_)
      ·
        exact absurd c19_12 (by decide)
      ·
        refine wc_iconstN X 22 1 dX11_readPart_22 ?_
        refine wc_goto X 23 27 dX11_readPart_23 (by decide) ?_
        refine wc_istore_n X 27 (L' := [(0, .ref o), (1, .int (nI 113)), (2, .int (nI 1))]) dX11_readPart_27 (by decide) rfl ?_
        refine wc_iload_n X 28 1 dX11_readPart_28 rfl ?_
        refine wc_bipush X 29 (nI 80) dX11_readPart_29 (by decide) ?_
        refine wc_icmp_eqN X 31 40 dX11_readPart_31 (by decide) (by decide) (by decide) (fun c31_13 => ?_) (fun c31_13 => ?_)
        ·
          exact absurd c31_13 (by decide)
        ·
          refine wc_iload_n X 34 1 dX11_readPart_34 rfl ?_
          refine wc_bipush X 35 (nI 81) dX11_readPart_35 (by decide) ?_
          refine wc_icmp_neN X 37 44 dX11_readPart_37 (by decide) (by decide) (by decide) (fun c37_14 => ?_) (fun c37_14 => ?_)
          ·
            refine wc_iconstN X 44 0 dX11_readPart_44 ?_
            refine wc_istore_n X 45 (L' := [(0, .ref o), (1, .int (nI 113)), (2, .int (nI 1)), (3, .int (nI 0))]) dX11_readPart_45 (by decide) rfl ?_
            refine wc_iload_n X 46 1 dX11_readPart_46 rfl ?_
            refine wc_bipush X 47 (nI 112) dX11_readPart_47 (by decide) ?_
            refine wc_icmp_eqN X 49 58 dX11_readPart_49 (by decide) (by decide) (by decide) (fun c49_15 => ?_) (fun c49_15 => ?_)
            ·
              exact absurd c49_15 (by decide)
            ·
              refine wc_iload_n X 52 1 dX11_readPart_52 rfl ?_
              refine wc_bipush X 53 (nI 80) dX11_readPart_53 (by decide) ?_
              refine wc_icmp_neN X 55 62 dX11_readPart_55 (by decide) (by decide) (by decide) (fun c55_16 => ?_) (fun c55_16 => ?_)
              ·
                refine wc_iconstN X 62 1 dX11_readPart_62 ?_
                refine wc_istore X 63 (L' := [(0, .ref o), (1, .int (nI 113)), (2, .int (nI 1)), (3, .int (nI 0)), (4, .int (nI 1))]) dX11_readPart_63 (by decide) rfl ?_
                refine wc_iconstN X 65 2 dX11_readPart_65 ?_
                refine wc_aload_n X 66 0 dX11_readPart_66 rfl ?_
                refine wc_get X 67 0 4 kd11 rfl (by decide) q_769 rfl dX11_readPart_67 ?_
                refine wc_iload X 70 4 dX11_readPart_70 rfl ?_
                refine wc_ialdG X 72 2 rfl (by decide) (by decide) dX11_readPart_72 ?_
                refine wc_imulN X 73 dX11_readPart_73 ?_
                refine wc_aload_n X 74 0 dX11_readPart_74 rfl ?_
                refine wc_get X 75 0 4 kd11 rfl (by decide) q_769 rfl dX11_readPart_75 ?_
                refine wc_iload X 78 4 dX11_readPart_78 rfl ?_
                refine wc_ialdG X 80 2 rfl (by decide) (by decide) dX11_readPart_80 ?_
                refine wc_imulN X 81 dX11_readPart_81 ?_
                refine wc_istore X 82 (L' := [(0, .ref o), (1, .int (nI 113)), (2, .int (nI 1)), (3, .int (nI 0)), (4, .int (nI 1)), (5, .int (nI ((2 * (r 1)) * (r 1))))]) dX11_readPart_82 (by decide) rfl ?_
                refine wc_iload_n X 84 2 dX11_readPart_84 rfl ?_
                refine wc_if_neN X 85 92 dX11_readPart_85 (by decide) (by decide) (fun c85_17 => ?_) (fun c85_17 => ?_)
                ·
                  refine wc_iload_n X 92 2 dX11_readPart_92 rfl ?_
                  refine wc_if_eqN X 93 110 dX11_readPart_93 (by decide) (by decide) (fun c93_18 => ?_) (fun c93_18 => ?_)
                  ·
                    exact absurd c93_18 (by decide)
                  ·
                    refine wc_aload_n X 96 0 dX11_readPart_96 rfl ?_
                    refine wc_get X 97 0 4 kd11 rfl (by decide) q_769 rfl dX11_readPart_97 ?_
                    refine wc_iload X 100 4 dX11_readPart_100 rfl ?_
                    refine wc_callS X 102 [2] (c_X11_edges l G qrp r 1 hr.2.1 hr.2.2.2.1 hr.2.2.2.2.1 (by decide)) ys_X11_edges rfl q_893 ⟨rfl, rfl⟩ ⟨rfl, rfl⟩ ⟨rfl, rfl⟩ rfl rfl rfl dX11_readPart_102 ?_
                    refine wc_iload X 105 5 dX11_readPart_105 rfl ?_
                    refine wc_icmp_eqN X 107 132 dX11_readPart_107 (by decide) (Nat.lt_of_le_of_lt (edgN_le _ _) (by have := pgOk_m hr (show 0 < 2 by decide); have := pgOk_m hr (show 1 < 2 by decide); omega)) (sq_lt (by first | exact (pgOk_m hr (show 0 < 2 by decide)).2 | exact (pgOk_m hr (show 1 < 2 by decide)).2)) (fun c107_19 => ?_) (fun c107_19 => ?_)
                    ·
                      refine wc_iconstN X 132 0 dX11_readPart_132 ?_
                      refine wc_st (st' := [.int (b2i false)]) rfl ?_
                      exact ret 133 _ false _ dX11_readPart_133 (⟨by rw [show partP t ts r a = (some a, a, r) by unfold partP; rw [hl, show sgBad r 113 = true by unfold sgBad; rw [sgM_113]; simp [sgE, sgN, c107_19]]; rfl] <;> rfl, by rw [show partP t ts r a = (some a, a, r) by unfold partP; rw [hl, show sgBad r 113 = true by unfold sgBad; rw [sgM_113]; simp [sgE, sgN, c107_19]]; rfl] <;> rfl⟩)
                    ·
                      refine wc_iload_n X 110 3 dX11_readPart_110 rfl ?_
                      refine wc_if_eqN X 111 134 dX11_readPart_111 (by decide) (by decide) (fun c111_20 => ?_) (fun c111_20 => ?_)
                      ·
                        refine wc_aload_n X 134 0 dX11_readPart_134 rfl ?_
                        refine wc_dup X 135 dX11_readPart_135 rfl ?_
                        refine wc_get X 136 0 3 kd11 rfl (by decide) q_768 rfl dX11_readPart_136 ?_
                        refine wc_iconstN X 139 1 dX11_readPart_139 ?_
                        refine wc_iaddN X 140 dX11_readPart_140 ?_
                        refine wc_put X Y 141 0 3 kd11 rfl (by decide) q_768 rfl rfl rfl (Nat.le_of_ble_eq_true rfl) (ws' := [ob o 11 [.int th, .ref qtx, .int (nI ts), .int (nI (a + 1)), .ref qrp, .ref qpg, .ref qtr, .ref qbk, .int (nI dn), .ref qkp, .ref qik, .int (nI sn), .ref qsw, .ref qsi, .long sd, .ref qln, .ref qfm, .ref qby, .ref qwy, .int (nI wz), .ref qfo, .ref qon, .ref qmn, .ref qpr, .ref qle, .ref qst, .ref qwt, .int (nI rc), .int (nI tk), .int (nI ps), .int (nI gn), .int bd, .ref qwo], aI G qtx 80 (nF t), aI G qrp 22 (nF r)]) rfl dX11_readPart_141 ?_
                        refine wc_iload_n X 144 2 dX11_readPart_144 rfl ?_
                        refine wc_if_eqN X 145 157 dX11_readPart_145 (by decide) (by decide) (fun c145_21 => ?_) (fun c145_21 => ?_)
                        ·
                          exact absurd c145_21 (by decide)
                        ·
                          refine wc_aload_n X 148 0 dX11_readPart_148 rfl ?_
                          refine wc_iload X 149 4 dX11_readPart_149 rfl ?_
                          refine wc_mutV X Y 151 [0, 1, 2] [] 0 (c_X11_readEdge l G o th qtx ts a qrp qpg qtr qbk dn qkp qik sn qsw qsi sd qln qfm qby qwy wz qfo qon qmn qpr qle qst qwt rc tk ps gn bd qwo t r 1 a (by first | assumption | omega) (by first | assumption | omega) (by first | assumption | omega) (by decide) (by first | assumption | omega)) yv_X11_readEdge kd11 rfl rfl (wr := []) rfl ⟨rfl, rfl, rfl⟩ q_906 ⟨rfl, rfl⟩ ⟨rfl, rfl⟩ ⟨rfl, rfl⟩ rfl rfl rfl dX11_readPart_151 (fun v w hp_22 => ?_)
                          obtain ⟨rfl, rfl⟩ := hp_22
                          refine wc_perm Y [0, 1, 2] [ob o 11 [.int th, .ref qtx, .int (nI ts), .int (nI ((edgeP t ts r 1 a).1.getD (a + 4))), .ref qrp, .ref qpg, .ref qtr, .ref qbk, .int (nI dn), .ref qkp, .ref qik, .int (nI sn), .ref qsw, .ref qsi, .long sd, .ref qln, .ref qfm, .ref qby, .ref qwy, .int (nI wz), .ref qfo, .ref qon, .ref qmn, .ref qpr, .ref qle, .ref qst, .ref qwt, .int (nI rc), .int (nI tk), .int (nI ps), .int (nI gn), .int bd, .ref qwo], aI G qtx 80 (nF t), aI G qrp 22 (nF ((edgeP t ts r 1 a).2))] rfl rfl ?_
                          show Wc Γ 0 0 154 [(0, .ref o), (1, .int (nI 113)), (2, .int (nI 1)), (3, .int (nI 0)), (4, .int (nI 1)), (5, .int (nI ((2 * (r 1)) * (r 1))))] [.int (b2i ((edgeP t ts r 1 a).1.isNone))] [ob o 11 [.int th, .ref qtx, .int (nI ts), .int (nI ((edgeP t ts r 1 a).1.getD (a + 4))), .ref qrp, .ref qpg, .ref qtr, .ref qbk, .int (nI dn), .ref qkp, .ref qik, .int (nI sn), .ref qsw, .ref qsi, .long sd, .ref qln, .ref qfm, .ref qby, .ref qwy, .int (nI wz), .ref qfo, .ref qon, .ref qmn, .ref qpr, .ref qle, .ref qst, .ref qwt, .int (nI rc), .int (nI tk), .int (nI ps), .int (nI gn), .int bd, .ref qwo], aI G qtx 80 (nF t), aI G qrp 22 (nF ((edgeP t ts r 1 a).2))]
                          refine wc_goto X 154 163 dX11_readPart_154 (by decide) ?_
                          exact ret 163 _ ((edgeP t ts r 1 a).1.isNone) _ dX11_readPart_163 (⟨by rw [show partP t ts r a = ((edgeP t ts r 1 a).1, a + 4, (edgeP t ts r 1 a).2) by unfold partP; rw [hl, show sgBad r 113 = false by unfold sgBad; rw [sgM_113]; simp [sgE, sgN, c107_19], show sgE 113 = true from rfl, sgM_113]; rfl] <;> rfl, by rw [show partP t ts r a = ((edgeP t ts r 1 a).1, a + 4, (edgeP t ts r 1 a).2) by unfold partP; rw [hl, show sgBad r 113 = false by unfold sgBad; rw [sgM_113]; simp [sgE, sgN, c107_19], show sgE 113 = true from rfl, sgM_113]; rfl] <;> rfl⟩)
                      ·
                        exact absurd c111_20 (by decide)
                ·
                  exact absurd c85_17 (by decide)
              ·
                exact absurd c55_16 (by decide)
          ·
            exact absurd c37_14 (by decide)
  ·
    refine wc_L (L' := [(0, .ref o), (1, .int (nI 80))]) (by rw [hl]) ?_
    refine wc_iload_n X 10 1 dX11_readPart_10 rfl ?_
    refine wc_bipush X 11 (nI 112) dX11_readPart_11 (by decide) ?_
    refine wc_icmp_eqN X 13 22 dX11_readPart_13 (by decide) (by decide) (by decide) (fun c13_23 => ?_) (fun c13_23 => ?_)
    ·
      exact absurd c13_23 (by decide)
    ·
      refine wc_iload_n X 16 1 dX11_readPart_16 rfl ?_
      refine wc_bipush X 17 (nI 113) dX11_readPart_17 (by decide) ?_
      refine wc_icmp_neN X 19 26 dX11_readPart_19 (by decide) (by decide) (by decide) (fun c19_24 => ?_) (fun c19_24 => ?_)
      ·
        refine wc_iconstN X 26 0 dX11_readPart_26 ?_
        refine wc_istore_n X 27 (L' := [(0, .ref o), (1, .int (nI 80)), (2, .int (nI 0))]) dX11_readPart_27 (by decide) rfl ?_
        refine wc_iload_n X 28 1 dX11_readPart_28 rfl ?_
        refine wc_bipush X 29 (nI 80) dX11_readPart_29 (by decide) ?_
        refine wc_icmp_eqN X 31 40 dX11_readPart_31 (by decide) (by decide) (by decide) (fun c31_25 => ?_) (fun c31_25 => ?_)
        ·
          refine wc_iconstN X 40 1 dX11_readPart_40 ?_
          refine wc_goto X 41 45 dX11_readPart_41 (by decide) ?_
          refine wc_istore_n X 45 (L' := [(0, .ref o), (1, .int (nI 80)), (2, .int (nI 0)), (3, .int (nI 1))]) dX11_readPart_45 (by decide) rfl ?_
          refine wc_iload_n X 46 1 dX11_readPart_46 rfl ?_
          refine wc_bipush X 47 (nI 112) dX11_readPart_47 (by decide) ?_
          refine wc_icmp_eqN X 49 58 dX11_readPart_49 (by decide) (by decide) (by decide) (fun c49_26 => ?_) (fun c49_26 => ?_)
          ·
            exact absurd c49_26 (by decide)
          ·
            refine wc_iload_n X 52 1 dX11_readPart_52 rfl ?_
            refine wc_bipush X 53 (nI 80) dX11_readPart_53 (by decide) ?_
            refine wc_icmp_neN X 55 62 dX11_readPart_55 (by decide) (by decide) (by decide) (fun c55_27 => ?_) (fun c55_27 => ?_)
            ·
              exact absurd c55_27 (by decide)
            ·
              refine wc_iconstN X 58 0 dX11_readPart_58 ?_
              refine wc_goto X 59 63 dX11_readPart_59 (by decide) ?_
              refine wc_istore X 63 (L' := [(0, .ref o), (1, .int (nI 80)), (2, .int (nI 0)), (3, .int (nI 1)), (4, .int (nI 0))]) dX11_readPart_63 (by decide) rfl ?_
              refine wc_iconstN X 65 2 dX11_readPart_65 ?_
              refine wc_aload_n X 66 0 dX11_readPart_66 rfl ?_
              refine wc_get X 67 0 4 kd11 rfl (by decide) q_769 rfl dX11_readPart_67 ?_
              refine wc_iload X 70 4 dX11_readPart_70 rfl ?_
              refine wc_ialdG X 72 2 rfl (by decide) (by decide) dX11_readPart_72 ?_
              refine wc_imulN X 73 dX11_readPart_73 ?_
              refine wc_aload_n X 74 0 dX11_readPart_74 rfl ?_
              refine wc_get X 75 0 4 kd11 rfl (by decide) q_769 rfl dX11_readPart_75 ?_
              refine wc_iload X 78 4 dX11_readPart_78 rfl ?_
              refine wc_ialdG X 80 2 rfl (by decide) (by decide) dX11_readPart_80 ?_
              refine wc_imulN X 81 dX11_readPart_81 ?_
              refine wc_istore X 82 (L' := [(0, .ref o), (1, .int (nI 80)), (2, .int (nI 0)), (3, .int (nI 1)), (4, .int (nI 0)), (5, .int (nI ((2 * (r 0)) * (r 0))))]) dX11_readPart_82 (by decide) rfl ?_
              refine wc_iload_n X 84 2 dX11_readPart_84 rfl ?_
              refine wc_if_neN X 85 92 dX11_readPart_85 (by decide) (by decide) (fun c85_28 => ?_) (fun c85_28 => ?_)
              ·
                exact absurd c85_28 (by decide)
              ·
                refine wc_iload_n X 88 3 dX11_readPart_88 rfl ?_
                refine wc_if_eqN X 89 132 dX11_readPart_89 (by decide) (by decide) (fun c89_29 => ?_) (fun c89_29 => ?_)
                ·
                  exact absurd c89_29 (by decide)
                ·
                  refine wc_iload_n X 92 2 dX11_readPart_92 rfl ?_
                  refine wc_if_eqN X 93 110 dX11_readPart_93 (by decide) (by decide) (fun c93_30 => ?_) (fun c93_30 => ?_)
                  ·
                    refine wc_iload_n X 110 3 dX11_readPart_110 rfl ?_
                    refine wc_if_eqN X 111 134 dX11_readPart_111 (by decide) (by decide) (fun c111_31 => ?_) (fun c111_31 => ?_)
                    ·
                      exact absurd c111_31 (by decide)
                    ·
                      refine wc_aload_n X 114 0 dX11_readPart_114 rfl ?_
                      refine wc_get X 115 0 4 kd11 rfl (by decide) q_769 rfl dX11_readPart_115 ?_
                      refine wc_iconstN X 118 2 dX11_readPart_118 ?_
                      refine wc_iload X 119 4 dX11_readPart_119 rfl ?_
                      refine wc_iaddN X 121 dX11_readPart_121 ?_
                      refine wc_ialdG X 122 2 rfl (by omega) (by decide) dX11_readPart_122 ?_
                      refine wc_aload_n X 123 0 dX11_readPart_123 rfl ?_
                      refine wc_iload X 124 4 dX11_readPart_124 rfl ?_
                      refine wc_callV X 126 [0, 2] 0 (c_X11_all l G o th qtx ts a qrp qpg qtr qbk dn qkp qik sn qsw qsi sd qln qfm qby qwy wz qfo qon qmn qpr qle qst qwt rc tk ps gn bd qwo r 0 (by first | assumption | omega) (by decide)) yv_X11_all kd11 rfl rfl q_902 ⟨rfl, rfl⟩ ⟨rfl, rfl⟩ ⟨rfl, rfl⟩ rfl rfl rfl dX11_readPart_126 ?_
                      refine wc_icmp_neN X 129 134 dX11_readPart_129 (by decide) (Nat.lt_trans (hr.2.2.2.2.1 _) (by decide)) (Nat.lt_of_le_of_lt (Nat.sub_le _ _) (Nat.lt_of_le_of_lt (Nat.pow_le_pow_right (by decide) (by first | exact (pgOk_m hr (show 0 < 2 by decide)).2 | exact (pgOk_m hr (show 1 < 2 by decide)).2)) (by decide))) (fun c129_32 => ?_) (fun c129_32 => ?_)
                      ·
                        refine wc_aload_n X 134 0 dX11_readPart_134 rfl ?_
                        refine wc_dup X 135 dX11_readPart_135 rfl ?_
                        refine wc_get X 136 0 3 kd11 rfl (by decide) q_768 rfl dX11_readPart_136 ?_
                        refine wc_iconstN X 139 1 dX11_readPart_139 ?_
                        refine wc_iaddN X 140 dX11_readPart_140 ?_
                        refine wc_put X Y 141 0 3 kd11 rfl (by decide) q_768 rfl rfl rfl (Nat.le_of_ble_eq_true rfl) (ws' := [ob o 11 [.int th, .ref qtx, .int (nI ts), .int (nI (a + 1)), .ref qrp, .ref qpg, .ref qtr, .ref qbk, .int (nI dn), .ref qkp, .ref qik, .int (nI sn), .ref qsw, .ref qsi, .long sd, .ref qln, .ref qfm, .ref qby, .ref qwy, .int (nI wz), .ref qfo, .ref qon, .ref qmn, .ref qpr, .ref qle, .ref qst, .ref qwt, .int (nI rc), .int (nI tk), .int (nI ps), .int (nI gn), .int bd, .ref qwo], aI G qtx 80 (nF t), aI G qrp 22 (nF r)]) rfl dX11_readPart_141 ?_
                        refine wc_iload_n X 144 2 dX11_readPart_144 rfl ?_
                        refine wc_if_eqN X 145 157 dX11_readPart_145 (by decide) (by decide) (fun c145_33 => ?_) (fun c145_33 => ?_)
                        ·
                          refine wc_aload_n X 157 0 dX11_readPart_157 rfl ?_
                          refine wc_iload X 158 4 dX11_readPart_158 rfl ?_
                          refine wc_mutV X Y 160 [0, 1, 2] [] 0 (c_X11_readEnd l G o th qtx ts a qrp qpg qtr qbk dn qkp qik sn qsw qsi sd qln qfm qby qwy wz qfo qon qmn qpr qle qst qwt rc tk ps gn bd qwo t r 0 a (by first | assumption | omega) (by first | assumption | omega) (by first | assumption | omega) (by decide) (by first | assumption | omega)) yv_X11_readEnd kd11 rfl rfl (wr := []) rfl ⟨rfl, rfl, rfl⟩ q_919 ⟨rfl, rfl⟩ ⟨rfl, rfl⟩ ⟨rfl, rfl⟩ rfl rfl rfl dX11_readPart_160 (fun v w hp_34 => ?_)
                          obtain ⟨rfl, rfl⟩ := hp_34
                          refine wc_perm Y [0, 1, 2] [ob o 11 [.int th, .ref qtx, .int (nI ts), .int (nI ((endP t ts r 0 a).1.getD (a + 2))), .ref qrp, .ref qpg, .ref qtr, .ref qbk, .int (nI dn), .ref qkp, .ref qik, .int (nI sn), .ref qsw, .ref qsi, .long sd, .ref qln, .ref qfm, .ref qby, .ref qwy, .int (nI wz), .ref qfo, .ref qon, .ref qmn, .ref qpr, .ref qle, .ref qst, .ref qwt, .int (nI rc), .int (nI tk), .int (nI ps), .int (nI gn), .int bd, .ref qwo], aI G qtx 80 (nF t), aI G qrp 22 (nF ((endP t ts r 0 a).2))] rfl rfl ?_
                          show Wc Γ 0 0 163 [(0, .ref o), (1, .int (nI 80)), (2, .int (nI 0)), (3, .int (nI 1)), (4, .int (nI 0)), (5, .int (nI ((2 * (r 0)) * (r 0))))] [.int (b2i ((endP t ts r 0 a).1.isNone))] [ob o 11 [.int th, .ref qtx, .int (nI ts), .int (nI ((endP t ts r 0 a).1.getD (a + 2))), .ref qrp, .ref qpg, .ref qtr, .ref qbk, .int (nI dn), .ref qkp, .ref qik, .int (nI sn), .ref qsw, .ref qsi, .long sd, .ref qln, .ref qfm, .ref qby, .ref qwy, .int (nI wz), .ref qfo, .ref qon, .ref qmn, .ref qpr, .ref qle, .ref qst, .ref qwt, .int (nI rc), .int (nI tk), .int (nI ps), .int (nI gn), .int bd, .ref qwo], aI G qtx 80 (nF t), aI G qrp 22 (nF ((endP t ts r 0 a).2))]
                          exact ret 163 _ ((endP t ts r 0 a).1.isNone) _ dX11_readPart_163 (⟨by rw [show partP t ts r a = ((endP t ts r 0 a).1, a + 2, (endP t ts r 0 a).2) by unfold partP; rw [hl, show sgBad r 80 = false by unfold sgBad; rw [sgM_80]; simp [sgE, sgN, c129_32], show sgE 80 = false from rfl, sgM_80]; rfl] <;> rfl, by rw [show partP t ts r a = ((endP t ts r 0 a).1, a + 2, (endP t ts r 0 a).2) by unfold partP; rw [hl, show sgBad r 80 = false by unfold sgBad; rw [sgM_80]; simp [sgE, sgN, c129_32], show sgE 80 = false from rfl, sgM_80]; rfl] <;> rfl⟩)
                        ·
                          exact absurd c145_33 (by decide)
                      ·
                        refine wc_iconstN X 132 0 dX11_readPart_132 ?_
                        refine wc_st (st' := [.int (b2i false)]) rfl ?_
                        exact ret 133 _ false _ dX11_readPart_133 (⟨by rw [show partP t ts r a = (some a, a, r) by unfold partP; rw [hl, show sgBad r 80 = true by unfold sgBad; rw [sgM_80]; simp [sgE, sgN, c129_32]]; rfl] <;> rfl, by rw [show partP t ts r a = (some a, a, r) by unfold partP; rw [hl, show sgBad r 80 = true by unfold sgBad; rw [sgM_80]; simp [sgE, sgN, c129_32]]; rfl] <;> rfl⟩)
                  ·
                    exact absurd c93_30 (by decide)
        ·
          exact absurd c31_25 (by decide)
      ·
        exact absurd c19_24 (by decide)
  ·
    refine wc_L (L' := [(0, .ref o), (1, .int (nI 81))]) (by rw [hl]) ?_
    refine wc_iload_n X 10 1 dX11_readPart_10 rfl ?_
    refine wc_bipush X 11 (nI 112) dX11_readPart_11 (by decide) ?_
    refine wc_icmp_eqN X 13 22 dX11_readPart_13 (by decide) (by decide) (by decide) (fun c13_35 => ?_) (fun c13_35 => ?_)
    ·
      exact absurd c13_35 (by decide)
    ·
      refine wc_iload_n X 16 1 dX11_readPart_16 rfl ?_
      refine wc_bipush X 17 (nI 113) dX11_readPart_17 (by decide) ?_
      refine wc_icmp_neN X 19 26 dX11_readPart_19 (by decide) (by decide) (by decide) (fun c19_36 => ?_) (fun c19_36 => ?_)
      ·
        refine wc_iconstN X 26 0 dX11_readPart_26 ?_
        refine wc_istore_n X 27 (L' := [(0, .ref o), (1, .int (nI 81)), (2, .int (nI 0))]) dX11_readPart_27 (by decide) rfl ?_
        refine wc_iload_n X 28 1 dX11_readPart_28 rfl ?_
        refine wc_bipush X 29 (nI 80) dX11_readPart_29 (by decide) ?_
        refine wc_icmp_eqN X 31 40 dX11_readPart_31 (by decide) (by decide) (by decide) (fun c31_37 => ?_) (fun c31_37 => ?_)
        ·
          exact absurd c31_37 (by decide)
        ·
          refine wc_iload_n X 34 1 dX11_readPart_34 rfl ?_
          refine wc_bipush X 35 (nI 81) dX11_readPart_35 (by decide) ?_
          refine wc_icmp_neN X 37 44 dX11_readPart_37 (by decide) (by decide) (by decide) (fun c37_38 => ?_) (fun c37_38 => ?_)
          ·
            exact absurd c37_38 (by decide)
          ·
            refine wc_iconstN X 40 1 dX11_readPart_40 ?_
            refine wc_goto X 41 45 dX11_readPart_41 (by decide) ?_
            refine wc_istore_n X 45 (L' := [(0, .ref o), (1, .int (nI 81)), (2, .int (nI 0)), (3, .int (nI 1))]) dX11_readPart_45 (by decide) rfl ?_
            refine wc_iload_n X 46 1 dX11_readPart_46 rfl ?_
            refine wc_bipush X 47 (nI 112) dX11_readPart_47 (by decide) ?_
            refine wc_icmp_eqN X 49 58 dX11_readPart_49 (by decide) (by decide) (by decide) (fun c49_39 => ?_) (fun c49_39 => ?_)
            ·
              exact absurd c49_39 (by decide)
            ·
              refine wc_iload_n X 52 1 dX11_readPart_52 rfl ?_
              refine wc_bipush X 53 (nI 80) dX11_readPart_53 (by decide) ?_
              refine wc_icmp_neN X 55 62 dX11_readPart_55 (by decide) (by decide) (by decide) (fun c55_40 => ?_) (fun c55_40 => ?_)
              ·
                refine wc_iconstN X 62 1 dX11_readPart_62 ?_
                refine wc_istore X 63 (L' := [(0, .ref o), (1, .int (nI 81)), (2, .int (nI 0)), (3, .int (nI 1)), (4, .int (nI 1))]) dX11_readPart_63 (by decide) rfl ?_
                refine wc_iconstN X 65 2 dX11_readPart_65 ?_
                refine wc_aload_n X 66 0 dX11_readPart_66 rfl ?_
                refine wc_get X 67 0 4 kd11 rfl (by decide) q_769 rfl dX11_readPart_67 ?_
                refine wc_iload X 70 4 dX11_readPart_70 rfl ?_
                refine wc_ialdG X 72 2 rfl (by decide) (by decide) dX11_readPart_72 ?_
                refine wc_imulN X 73 dX11_readPart_73 ?_
                refine wc_aload_n X 74 0 dX11_readPart_74 rfl ?_
                refine wc_get X 75 0 4 kd11 rfl (by decide) q_769 rfl dX11_readPart_75 ?_
                refine wc_iload X 78 4 dX11_readPart_78 rfl ?_
                refine wc_ialdG X 80 2 rfl (by decide) (by decide) dX11_readPart_80 ?_
                refine wc_imulN X 81 dX11_readPart_81 ?_
                refine wc_istore X 82 (L' := [(0, .ref o), (1, .int (nI 81)), (2, .int (nI 0)), (3, .int (nI 1)), (4, .int (nI 1)), (5, .int (nI ((2 * (r 1)) * (r 1))))]) dX11_readPart_82 (by decide) rfl ?_
                refine wc_iload_n X 84 2 dX11_readPart_84 rfl ?_
                refine wc_if_neN X 85 92 dX11_readPart_85 (by decide) (by decide) (fun c85_41 => ?_) (fun c85_41 => ?_)
                ·
                  exact absurd c85_41 (by decide)
                ·
                  refine wc_iload_n X 88 3 dX11_readPart_88 rfl ?_
                  refine wc_if_eqN X 89 132 dX11_readPart_89 (by decide) (by decide) (fun c89_42 => ?_) (fun c89_42 => ?_)
                  ·
                    exact absurd c89_42 (by decide)
                  ·
                    refine wc_iload_n X 92 2 dX11_readPart_92 rfl ?_
                    refine wc_if_eqN X 93 110 dX11_readPart_93 (by decide) (by decide) (fun c93_43 => ?_) (fun c93_43 => ?_)
                    ·
                      refine wc_iload_n X 110 3 dX11_readPart_110 rfl ?_
                      refine wc_if_eqN X 111 134 dX11_readPart_111 (by decide) (by decide) (fun c111_44 => ?_) (fun c111_44 => ?_)
                      ·
                        exact absurd c111_44 (by decide)
                      ·
                        refine wc_aload_n X 114 0 dX11_readPart_114 rfl ?_
                        refine wc_get X 115 0 4 kd11 rfl (by decide) q_769 rfl dX11_readPart_115 ?_
                        refine wc_iconstN X 118 2 dX11_readPart_118 ?_
                        refine wc_iload X 119 4 dX11_readPart_119 rfl ?_
                        refine wc_iaddN X 121 dX11_readPart_121 ?_
                        refine wc_ialdG X 122 2 rfl (by omega) (by decide) dX11_readPart_122 ?_
                        refine wc_aload_n X 123 0 dX11_readPart_123 rfl ?_
                        refine wc_iload X 124 4 dX11_readPart_124 rfl ?_
                        refine wc_callV X 126 [0, 2] 0 (c_X11_all l G o th qtx ts a qrp qpg qtr qbk dn qkp qik sn qsw qsi sd qln qfm qby qwy wz qfo qon qmn qpr qle qst qwt rc tk ps gn bd qwo r 1 (by first | assumption | omega) (by decide)) yv_X11_all kd11 rfl rfl q_902 ⟨rfl, rfl⟩ ⟨rfl, rfl⟩ ⟨rfl, rfl⟩ rfl rfl rfl dX11_readPart_126 ?_
                        refine wc_icmp_neN X 129 134 dX11_readPart_129 (by decide) (Nat.lt_trans (hr.2.2.2.2.1 _) (by decide)) (Nat.lt_of_le_of_lt (Nat.sub_le _ _) (Nat.lt_of_le_of_lt (Nat.pow_le_pow_right (by decide) (by first | exact (pgOk_m hr (show 0 < 2 by decide)).2 | exact (pgOk_m hr (show 1 < 2 by decide)).2)) (by decide))) (fun c129_45 => ?_) (fun c129_45 => ?_)
                        ·
                          refine wc_aload_n X 134 0 dX11_readPart_134 rfl ?_
                          refine wc_dup X 135 dX11_readPart_135 rfl ?_
                          refine wc_get X 136 0 3 kd11 rfl (by decide) q_768 rfl dX11_readPart_136 ?_
                          refine wc_iconstN X 139 1 dX11_readPart_139 ?_
                          refine wc_iaddN X 140 dX11_readPart_140 ?_
                          refine wc_put X Y 141 0 3 kd11 rfl (by decide) q_768 rfl rfl rfl (Nat.le_of_ble_eq_true rfl) (ws' := [ob o 11 [.int th, .ref qtx, .int (nI ts), .int (nI (a + 1)), .ref qrp, .ref qpg, .ref qtr, .ref qbk, .int (nI dn), .ref qkp, .ref qik, .int (nI sn), .ref qsw, .ref qsi, .long sd, .ref qln, .ref qfm, .ref qby, .ref qwy, .int (nI wz), .ref qfo, .ref qon, .ref qmn, .ref qpr, .ref qle, .ref qst, .ref qwt, .int (nI rc), .int (nI tk), .int (nI ps), .int (nI gn), .int bd, .ref qwo], aI G qtx 80 (nF t), aI G qrp 22 (nF r)]) rfl dX11_readPart_141 ?_
                          refine wc_iload_n X 144 2 dX11_readPart_144 rfl ?_
                          refine wc_if_eqN X 145 157 dX11_readPart_145 (by decide) (by decide) (fun c145_46 => ?_) (fun c145_46 => ?_)
                          ·
                            refine wc_aload_n X 157 0 dX11_readPart_157 rfl ?_
                            refine wc_iload X 158 4 dX11_readPart_158 rfl ?_
                            refine wc_mutV X Y 160 [0, 1, 2] [] 0 (c_X11_readEnd l G o th qtx ts a qrp qpg qtr qbk dn qkp qik sn qsw qsi sd qln qfm qby qwy wz qfo qon qmn qpr qle qst qwt rc tk ps gn bd qwo t r 1 a (by first | assumption | omega) (by first | assumption | omega) (by first | assumption | omega) (by decide) (by first | assumption | omega)) yv_X11_readEnd kd11 rfl rfl (wr := []) rfl ⟨rfl, rfl, rfl⟩ q_919 ⟨rfl, rfl⟩ ⟨rfl, rfl⟩ ⟨rfl, rfl⟩ rfl rfl rfl dX11_readPart_160 (fun v w hp_47 => ?_)
                            obtain ⟨rfl, rfl⟩ := hp_47
                            refine wc_perm Y [0, 1, 2] [ob o 11 [.int th, .ref qtx, .int (nI ts), .int (nI ((endP t ts r 1 a).1.getD (a + 2))), .ref qrp, .ref qpg, .ref qtr, .ref qbk, .int (nI dn), .ref qkp, .ref qik, .int (nI sn), .ref qsw, .ref qsi, .long sd, .ref qln, .ref qfm, .ref qby, .ref qwy, .int (nI wz), .ref qfo, .ref qon, .ref qmn, .ref qpr, .ref qle, .ref qst, .ref qwt, .int (nI rc), .int (nI tk), .int (nI ps), .int (nI gn), .int bd, .ref qwo], aI G qtx 80 (nF t), aI G qrp 22 (nF ((endP t ts r 1 a).2))] rfl rfl ?_
                            show Wc Γ 0 0 163 [(0, .ref o), (1, .int (nI 81)), (2, .int (nI 0)), (3, .int (nI 1)), (4, .int (nI 1)), (5, .int (nI ((2 * (r 1)) * (r 1))))] [.int (b2i ((endP t ts r 1 a).1.isNone))] [ob o 11 [.int th, .ref qtx, .int (nI ts), .int (nI ((endP t ts r 1 a).1.getD (a + 2))), .ref qrp, .ref qpg, .ref qtr, .ref qbk, .int (nI dn), .ref qkp, .ref qik, .int (nI sn), .ref qsw, .ref qsi, .long sd, .ref qln, .ref qfm, .ref qby, .ref qwy, .int (nI wz), .ref qfo, .ref qon, .ref qmn, .ref qpr, .ref qle, .ref qst, .ref qwt, .int (nI rc), .int (nI tk), .int (nI ps), .int (nI gn), .int bd, .ref qwo], aI G qtx 80 (nF t), aI G qrp 22 (nF ((endP t ts r 1 a).2))]
                            exact ret 163 _ ((endP t ts r 1 a).1.isNone) _ dX11_readPart_163 (⟨by rw [show partP t ts r a = ((endP t ts r 1 a).1, a + 2, (endP t ts r 1 a).2) by unfold partP; rw [hl, show sgBad r 81 = false by unfold sgBad; rw [sgM_81]; simp [sgE, sgN, c129_45], show sgE 81 = false from rfl, sgM_81]; rfl] <;> rfl, by rw [show partP t ts r a = ((endP t ts r 1 a).1, a + 2, (endP t ts r 1 a).2) by unfold partP; rw [hl, show sgBad r 81 = false by unfold sgBad; rw [sgM_81]; simp [sgE, sgN, c129_45], show sgE 81 = false from rfl, sgM_81]; rfl] <;> rfl⟩)
                          ·
                            exact absurd c145_46 (by decide)
                        ·
                          refine wc_iconstN X 132 0 dX11_readPart_132 ?_
                          refine wc_st (st' := [.int (b2i false)]) rfl ?_
                          exact ret 133 _ false _ dX11_readPart_133 (⟨by rw [show partP t ts r a = (some a, a, r) by unfold partP; rw [hl, show sgBad r 81 = true by unfold sgBad; rw [sgM_81]; simp [sgE, sgN, c129_45]]; rfl] <;> rfl, by rw [show partP t ts r a = (some a, a, r) by unfold partP; rw [hl, show sgBad r 81 = true by unfold sgBad; rw [sgM_81]; simp [sgE, sgN, c129_45]]; rfl] <;> rfl⟩)
                    ·
                      exact absurd c93_43 (by decide)
              ·
                exact absurd c55_40 (by decide)
      ·
        exact absurd c19_36 (by decide)
  ·
    refine wc_iload_n X 10 1 dX11_readPart_10 rfl ?_
    refine wc_bipush X 11 (nI 112) dX11_readPart_11 (by decide) ?_
    refine wc_icmp_eqN X 13 22 dX11_readPart_13 (by decide) (Nat.lt_trans (ht _) (by decide)) (by decide) (fun c13_48 => ?_) (fun c13_48 => ?_)
    ·
      exact absurd c13_48 (by omega)
    ·
      refine wc_iload_n X 16 1 dX11_readPart_16 rfl ?_
      refine wc_bipush X 17 (nI 113) dX11_readPart_17 (by decide) ?_
      refine wc_icmp_neN X 19 26 dX11_readPart_19 (by decide) (Nat.lt_trans (ht _) (by decide)) (by decide) (fun c19_49 => ?_) (fun c19_49 => ?_)
      ·
        refine wc_iconstN X 26 0 dX11_readPart_26 ?_
        refine wc_istore_n X 27 (L' := [(0, .ref o), (1, .int (nI (t a))), (2, .int (nI 0))]) dX11_readPart_27 (by decide) rfl ?_
        refine wc_iload_n X 28 1 dX11_readPart_28 rfl ?_
        refine wc_bipush X 29 (nI 80) dX11_readPart_29 (by decide) ?_
        refine wc_icmp_eqN X 31 40 dX11_readPart_31 (by decide) (Nat.lt_trans (ht _) (by decide)) (by decide) (fun c31_50 => ?_) (fun c31_50 => ?_)
        ·
          exact absurd c31_50 (by omega)
        ·
          refine wc_iload_n X 34 1 dX11_readPart_34 rfl ?_
          refine wc_bipush X 35 (nI 81) dX11_readPart_35 (by decide) ?_
          refine wc_icmp_neN X 37 44 dX11_readPart_37 (by decide) (Nat.lt_trans (ht _) (by decide)) (by decide) (fun c37_51 => ?_) (fun c37_51 => ?_)
          ·
            refine wc_iconstN X 44 0 dX11_readPart_44 ?_
            refine wc_istore_n X 45 (L' := [(0, .ref o), (1, .int (nI (t a))), (2, .int (nI 0)), (3, .int (nI 0))]) dX11_readPart_45 (by decide) rfl ?_
            refine wc_iload_n X 46 1 dX11_readPart_46 rfl ?_
            refine wc_bipush X 47 (nI 112) dX11_readPart_47 (by decide) ?_
            refine wc_icmp_eqN X 49 58 dX11_readPart_49 (by decide) (Nat.lt_trans (ht _) (by decide)) (by decide) (fun c49_52 => ?_) (fun c49_52 => ?_)
            ·
              exact absurd c49_52 (by omega)
            ·
              refine wc_iload_n X 52 1 dX11_readPart_52 rfl ?_
              refine wc_bipush X 53 (nI 80) dX11_readPart_53 (by decide) ?_
              refine wc_icmp_neN X 55 62 dX11_readPart_55 (by decide) (Nat.lt_trans (ht _) (by decide)) (by decide) (fun c55_53 => ?_) (fun c55_53 => ?_)
              ·
                refine wc_iconstN X 62 1 dX11_readPart_62 ?_
                refine wc_istore X 63 (L' := [(0, .ref o), (1, .int (nI (t a))), (2, .int (nI 0)), (3, .int (nI 0)), (4, .int (nI 1))]) dX11_readPart_63 (by decide) rfl ?_
                refine wc_iconstN X 65 2 dX11_readPart_65 ?_
                refine wc_aload_n X 66 0 dX11_readPart_66 rfl ?_
                refine wc_get X 67 0 4 kd11 rfl (by decide) q_769 rfl dX11_readPart_67 ?_
                refine wc_iload X 70 4 dX11_readPart_70 rfl ?_
                refine wc_ialdG X 72 2 rfl (by decide) (by decide) dX11_readPart_72 ?_
                refine wc_imulN X 73 dX11_readPart_73 ?_
                refine wc_aload_n X 74 0 dX11_readPart_74 rfl ?_
                refine wc_get X 75 0 4 kd11 rfl (by decide) q_769 rfl dX11_readPart_75 ?_
                refine wc_iload X 78 4 dX11_readPart_78 rfl ?_
                refine wc_ialdG X 80 2 rfl (by decide) (by decide) dX11_readPart_80 ?_
                refine wc_imulN X 81 dX11_readPart_81 ?_
                refine wc_istore X 82 (L' := [(0, .ref o), (1, .int (nI (t a))), (2, .int (nI 0)), (3, .int (nI 0)), (4, .int (nI 1)), (5, .int (nI ((2 * (r 1)) * (r 1))))]) dX11_readPart_82 (by decide) rfl ?_
                refine wc_iload_n X 84 2 dX11_readPart_84 rfl ?_
                refine wc_if_neN X 85 92 dX11_readPart_85 (by decide) (by decide) (fun c85_54 => ?_) (fun c85_54 => ?_)
                ·
                  exact absurd c85_54 (by decide)
                ·
                  refine wc_iload_n X 88 3 dX11_readPart_88 rfl ?_
                  refine wc_if_eqN X 89 132 dX11_readPart_89 (by decide) (by decide) (fun c89_55 => ?_) (fun c89_55 => ?_)
                  ·
                    refine wc_iconstN X 132 0 dX11_readPart_132 ?_
                    refine wc_st (st' := [.int (b2i false)]) rfl ?_
                    exact ret 133 _ false _ dX11_readPart_133 (⟨by rw [show partP t ts r a = (some a, a, r) by unfold partP; rw [show sgBad r (t a) = true from sgBad_x hl]; rfl] <;> rfl, by rw [show partP t ts r a = (some a, a, r) by unfold partP; rw [show sgBad r (t a) = true from sgBad_x hl]; rfl] <;> rfl⟩)
                  ·
                    exact absurd c89_55 (by decide)
              ·
                exact absurd c55_53 (by omega)
          ·
            exact absurd c37_51 (by omega)
      ·
        exact absurd c19_49 (by omega)

set_option maxHeartbeats 4000000 in
set_option maxRecDepth 100000 in
theorem c_X11_readMachines (l : Launch) (G : GG) (o : Nat) (th : Int32) (qtx ts pl qrp qpg qtr qbk dn qkp qik sn qsw qsi : Nat) (sd : Int64) (qln qfm qby qwy wz qfo qon qmn qpr qle qst qwt rc tk ps gn : Nat) (bd : Int32) (qwo : Nat) (t : Nat → Nat) (r0 : Nat → Nat) (hts : ts ≤ 80) (ht : ∀ j, t j < 256) : MM l G yX11_readMachines (Cond.code yX11_readMachines cX11_readMachines 3 (some .int)) { frames := 4, cells := 0, slots := 0, locals := 96 } [.ref o] [ob o 11 [.int th, .ref qtx, .int (nI ts), .int (nI pl), .ref qrp, .ref qpg, .ref qtr, .ref qbk, .int (nI dn), .ref qkp, .ref qik, .int (nI sn), .ref qsw, .ref qsi, .long sd, .ref qln, .ref qfm, .ref qby, .ref qwy, .int (nI wz), .ref qfo, .ref qon, .ref qmn, .ref qpr, .ref qle, .ref qst, .ref qwt, .int (nI rc), .int (nI tk), .int (nI ps), .int (nI gn), .int bd, .ref qwo], aI G qtx 80 (nF t), aI G qrp 22 (nF r0)] (fun (v : Option Value) (w : va_W) => ∃ (pl2 : Nat) (r2 : Nat → Nat), v = some (.int (optI (parseP t ts).1)) ∧ w = [ob o 11 [.int th, .ref qtx, .int (nI ts), .int (nI pl2), .ref qrp, .ref qpg, .ref qtr, .ref qbk, .int (nI dn), .ref qkp, .ref qik, .int (nI sn), .ref qsw, .ref qsi, .long sd, .ref qln, .ref qfm, .ref qby, .ref qwy, .int (nI wz), .ref qfo, .ref qon, .ref qmn, .ref qpr, .ref qle, .ref qst, .ref qwt, .int (nI rc), .int (nI tk), .int (nI ps), .int (nI gn), .int bd, .ref qwo], aI G qtx 80 (nF t), aI G qrp 22 (nF r2)] ∧ ((parseP t ts).1 = none → r2 = (parseP t ts).2)) 0 0 := by
  refine MM.ofI (by decide) rfl (fun Γ X Y hnm ret => ?_)
  show Wc Γ 0 0 0 [(0, .ref o)] [] [ob o 11 [.int th, .ref qtx, .int (nI ts), .int (nI pl), .ref qrp, .ref qpg, .ref qtr, .ref qbk, .int (nI dn), .ref qkp, .ref qik, .int (nI sn), .ref qsw, .ref qsi, .long sd, .ref qln, .ref qfm, .ref qby, .ref qwy, .int (nI wz), .ref qfo, .ref qon, .ref qmn, .ref qpr, .ref qle, .ref qst, .ref qwt, .int (nI rc), .int (nI tk), .int (nI ps), .int (nI gn), .int bd, .ref qwo], aI G qtx 80 (nF t), aI G qrp 22 (nF r0)]
  refine wc_iconstN X 0 0 dX11_readMachines_0 ?_
  refine wc_istore_n X 1 (L' := [(0, .ref o), (1, .int (nI 0))]) dX11_readMachines_1 (by decide) rfl ?_
  have LP_2 : ∀ (fuel_1 : Nat) (i : Nat) (h : Nat → Nat), (i ≤ 22) → (∀ j, j < i → h j = 0) → 22 - i < fuel_1 → Wc Γ 0 0 2 [(0, .ref o), (1, .int (nI i))] [] [ob o 11 [.int th, .ref qtx, .int (nI ts), .int (nI pl), .ref qrp, .ref qpg, .ref qtr, .ref qbk, .int (nI dn), .ref qkp, .ref qik, .int (nI sn), .ref qsw, .ref qsi, .long sd, .ref qln, .ref qfm, .ref qby, .ref qwy, .int (nI wz), .ref qfo, .ref qon, .ref qmn, .ref qpr, .ref qle, .ref qst, .ref qwt, .int (nI rc), .int (nI tk), .int (nI ps), .int (nI gn), .int bd, .ref qwo], aI G qtx 80 (nF t), aI G qrp 22 (nF h)] := by
    intro fuel_1
    induction fuel_1 with
    | zero => intro i h hi hh hm; exact absurd hm (Nat.not_lt_zero _)
    | succ fuel_1 ih_3 =>
      intro i h hi hh hm_4
      refine wc_iload_n X 2 1 dX11_readMachines_2 rfl ?_
      refine wc_bipush X 3 (nI 22) dX11_readMachines_3 (by decide) ?_
      refine wc_icmp_geN X 5 21 dX11_readMachines_5 (by decide) (by omega) (by decide) (fun c5_5 => ?_) (fun c5_5 => ?_)
      ·
        refine wc_ext X Y 2 (f' := nF (fun _ => 0)) rfl (fun j hj => congrArg nI (hh j (by omega))) (ws' := [ob o 11 [.int th, .ref qtx, .int (nI ts), .int (nI pl), .ref qrp, .ref qpg, .ref qtr, .ref qbk, .int (nI dn), .ref qkp, .ref qik, .int (nI sn), .ref qsw, .ref qsi, .long sd, .ref qln, .ref qfm, .ref qby, .ref qwy, .int (nI wz), .ref qfo, .ref qon, .ref qmn, .ref qpr, .ref qle, .ref qst, .ref qwt, .int (nI rc), .int (nI tk), .int (nI ps), .int (nI gn), .int bd, .ref qwo], aI G qtx 80 (nF t), aI G qrp 22 (nF (fun _ => 0))]) rfl ?_
        refine wc_aload_n X 21 0 dX11_readMachines_21 rfl ?_
        refine wc_iconstN X 22 0 dX11_readMachines_22 ?_
        refine wc_put X Y 23 0 3 kd11 rfl (by decide) q_768 rfl rfl rfl (Nat.le_of_ble_eq_true rfl) (ws' := [ob o 11 [.int th, .ref qtx, .int (nI ts), .int (nI 0), .ref qrp, .ref qpg, .ref qtr, .ref qbk, .int (nI dn), .ref qkp, .ref qik, .int (nI sn), .ref qsw, .ref qsi, .long sd, .ref qln, .ref qfm, .ref qby, .ref qwy, .int (nI wz), .ref qfo, .ref qon, .ref qmn, .ref qpr, .ref qle, .ref qst, .ref qwt, .int (nI rc), .int (nI tk), .int (nI ps), .int (nI gn), .int bd, .ref qwo], aI G qtx 80 (nF t), aI G qrp 22 (nF (fun _ => 0))]) rfl dX11_readMachines_23 ?_
        refine wc_aload_n X 26 0 dX11_readMachines_26 rfl ?_
        refine wc_get X 27 0 2 kd11 rfl (by decide) q_767 rfl dX11_readMachines_27 ?_
        refine wc_if_eqN X 30 44 dX11_readMachines_30 (by decide) (by omega) (fun c30_6 => ?_) (fun c30_6 => ?_)
        ·
          refine wc_iconstN X 44 0 dX11_readMachines_44 ?_
          exact ret 45 _ (nI 0) _ dX11_readMachines_45 (⟨_, _, by rw [show parseP t ts = (some 0, fun _ => 0) by unfold parseP; rw [if_pos (by omega)]]; rfl, rfl, fun z => by rw [show parseP t ts = (some 0, fun _ => 0) by unfold parseP; rw [if_pos (by omega)]] at z; cases z⟩)
        ·
          refine wc_aload_n X 33 0 dX11_readMachines_33 rfl ?_
          refine wc_get X 34 0 1 kd11 rfl (by decide) q_766 rfl dX11_readMachines_34 ?_
          refine wc_iconstN X 37 0 dX11_readMachines_37 ?_
          refine wc_ialdG X 38 1 rfl (by decide) (by decide) dX11_readMachines_38 ?_
          refine wc_bipush X 39 (nI 87) dX11_readMachines_39 (by decide) ?_
          refine wc_icmp_eqN X 41 46 dX11_readMachines_41 (by decide) (Nat.lt_trans (ht _) (by decide)) (by decide) (fun c41_7 => ?_) (fun c41_7 => ?_)
          ·
            refine wc_aload_n X 46 0 dX11_readMachines_46 rfl ?_
            refine wc_iconstN X 47 1 dX11_readMachines_47 ?_
            refine wc_put X Y 48 0 3 kd11 rfl (by decide) q_768 rfl rfl rfl (Nat.le_of_ble_eq_true rfl) (ws' := [ob o 11 [.int th, .ref qtx, .int (nI ts), .int (nI 1), .ref qrp, .ref qpg, .ref qtr, .ref qbk, .int (nI dn), .ref qkp, .ref qik, .int (nI sn), .ref qsw, .ref qsi, .long sd, .ref qln, .ref qfm, .ref qby, .ref qwy, .int (nI wz), .ref qfo, .ref qon, .ref qmn, .ref qpr, .ref qle, .ref qst, .ref qwt, .int (nI rc), .int (nI tk), .int (nI ps), .int (nI gn), .int bd, .ref qwo], aI G qtx 80 (nF t), aI G qrp 22 (nF (fun _ => 0))]) rfl dX11_readMachines_48 ?_
            refine wc_aload_n X 51 0 dX11_readMachines_51 rfl ?_
            refine wc_iconstN X 52 1 dX11_readMachines_52 ?_
            refine wc_iconstN X 53 4 dX11_readMachines_53 ?_
            rcases hf1 : figP t ts 1 1 4 with _ | n0
            ·
              refine wc_callV X 54 [0, 1] 0 (c_X11_figureN l G o th qtx ts 1 qrp qpg qtr qbk dn qkp qik sn qsw qsi sd qln qfm qby qwy wz qfo qon qmn qpr qle qst qwt rc tk ps gn bd qwo t 1 4 (by first | assumption | omega) (by first | assumption | omega) (by first | assumption | omega) (by first | assumption | omega) (by first | assumption | omega) hf1) yv_X11_figure kd11 rfl rfl q_885 ⟨rfl, rfl⟩ ⟨rfl, rfl⟩ ⟨rfl, rfl⟩ rfl rfl rfl dX11_readMachines_54 ?_
              refine wc_istore_n X 57 (L' := [(0, .ref o), (1, .int (-9))]) dX11_readMachines_57 (by decide) rfl ?_
              refine wc_iload_n X 58 1 dX11_readMachines_58 rfl ?_
              refine wc_bipush X 59 (-9) dX11_readMachines_59 (by decide) ?_
              refine wc_icmp_ne X 61 69 dX11_readMachines_61 (by decide) (fun c61_8 => ?_) (fun c61_8 => ?_)
              ·
                exact absurd rfl c61_8
              ·
                refine wc_bipush X 64 (-9) dX11_readMachines_64 (by decide) ?_
                refine wc_goto X 66 75 dX11_readMachines_66 (by decide) ?_
                refine wc_istore_n X 75 (L' := [(0, .ref o), (1, .int (-9)), (2, .int (-9))]) dX11_readMachines_75 (by decide) rfl ?_
                refine wc_iload_n X 76 2 dX11_readMachines_76 rfl ?_
                refine wc_bipush X 77 (-9) dX11_readMachines_77 (by decide) ?_
                refine wc_icmp_ne X 79 87 dX11_readMachines_79 (by decide) (fun c79_9 => ?_) (fun c79_9 => ?_)
                ·
                  exact absurd rfl c79_9
                ·
                  refine wc_aload_n X 82 0 dX11_readMachines_82 rfl ?_
                  refine wc_get X 83 0 3 kd11 rfl (by decide) q_768 rfl dX11_readMachines_83 ?_
                  exact ret 86 _ (nI 1) _ dX11_readMachines_86 (⟨_, _, by rw [show parseP t ts = (some 1, fun _ => 0) by unfold parseP; rw [if_neg (by omega), hf1]]; rfl, rfl, fun z => by rw [show parseP t ts = (some 1, fun _ => 0) by unfold parseP; rw [if_neg (by omega), hf1]] at z; cases z⟩)
            ·
              have hd1 := figP_some hf1
              refine wc_mutV X Y 54 [0, 1] [2] 0 (c_X11_figureS l G o th qtx ts 1 qrp qpg qtr qbk dn qkp qik sn qsw qsi sd qln qfm qby qwy wz qfo qon qmn qpr qle qst qwt rc tk ps gn bd qwo t 1 4 n0 (by first | assumption | omega) (by first | assumption | omega) (by first | assumption | omega) (by first | assumption | omega) (by first | assumption | omega) hf1) yv_X11_figure kd11 rfl rfl (wr := [aI G qrp 22 (nF (fun _ => 0))]) rfl ⟨rfl, rfl, rfl⟩ q_885 ⟨rfl, rfl⟩ ⟨rfl, rfl⟩ ⟨rfl, rfl⟩ rfl rfl rfl dX11_readMachines_54 (fun v w hp_10 => ?_)
              obtain ⟨rfl, rfl⟩ := hp_10
              refine wc_perm Y [1, 2, 0] [ob o 11 [.int th, .ref qtx, .int (nI ts), .int (nI (1 + 1)), .ref qrp, .ref qpg, .ref qtr, .ref qbk, .int (nI dn), .ref qkp, .ref qik, .int (nI sn), .ref qsw, .ref qsi, .long sd, .ref qln, .ref qfm, .ref qby, .ref qwy, .int (nI wz), .ref qfo, .ref qon, .ref qmn, .ref qpr, .ref qle, .ref qst, .ref qwt, .int (nI rc), .int (nI tk), .int (nI ps), .int (nI gn), .int bd, .ref qwo], aI G qtx 80 (nF t), aI G qrp 22 (nF (fun _ => 0))] rfl rfl ?_
              show Wc Γ 0 0 57 [(0, .ref o), (1, .int (nI i))] [.int (nI n0)] [ob o 11 [.int th, .ref qtx, .int (nI ts), .int (nI (1 + 1)), .ref qrp, .ref qpg, .ref qtr, .ref qbk, .int (nI dn), .ref qkp, .ref qik, .int (nI sn), .ref qsw, .ref qsi, .long sd, .ref qln, .ref qfm, .ref qby, .ref qwy, .int (nI wz), .ref qfo, .ref qon, .ref qmn, .ref qpr, .ref qle, .ref qst, .ref qwt, .int (nI rc), .int (nI tk), .int (nI ps), .int (nI gn), .int bd, .ref qwo], aI G qtx 80 (nF t), aI G qrp 22 (nF (fun _ => 0))]
              refine wc_ws (ws' := [ob o 11 [.int th, .ref qtx, .int (nI ts), .int (nI 2), .ref qrp, .ref qpg, .ref qtr, .ref qbk, .int (nI dn), .ref qkp, .ref qik, .int (nI sn), .ref qsw, .ref qsi, .long sd, .ref qln, .ref qfm, .ref qby, .ref qwy, .int (nI wz), .ref qfo, .ref qon, .ref qmn, .ref qpr, .ref qle, .ref qst, .ref qwt, .int (nI rc), .int (nI tk), .int (nI ps), .int (nI gn), .int bd, .ref qwo], aI G qtx 80 (nF t), aI G qrp 22 (nF (fun _ => 0))]) (by rfl) ?_
              refine wc_istore_n X 57 (L' := [(0, .ref o), (1, .int (nI n0))]) dX11_readMachines_57 (by decide) rfl ?_
              refine wc_iload_n X 58 1 dX11_readMachines_58 rfl ?_
              refine wc_bipush X 59 (-9) dX11_readMachines_59 (by decide) ?_
              refine wc_icmp_ne X 61 69 dX11_readMachines_61 (by decide) (fun c61_11 => ?_) (fun c61_11 => ?_)
              ·
                refine wc_aload_n X 69 0 dX11_readMachines_69 rfl ?_
                refine wc_iconstN X 70 1 dX11_readMachines_70 ?_
                refine wc_iconstN X 71 5 dX11_readMachines_71 ?_
                rcases hf2 : figP t ts 2 1 5 with _ | n1
                ·
                  refine wc_callV X 72 [0, 1] 0 (c_X11_figureN l G o th qtx ts 2 qrp qpg qtr qbk dn qkp qik sn qsw qsi sd qln qfm qby qwy wz qfo qon qmn qpr qle qst qwt rc tk ps gn bd qwo t 1 5 (by first | assumption | omega) (by first | assumption | omega) (by first | assumption | omega) (by first | assumption | omega) (by first | assumption | omega) hf2) yv_X11_figure kd11 rfl rfl q_885 ⟨rfl, rfl⟩ ⟨rfl, rfl⟩ ⟨rfl, rfl⟩ rfl rfl rfl dX11_readMachines_72 ?_
                  refine wc_istore_n X 75 (L' := [(0, .ref o), (1, .int (nI n0)), (2, .int (-9))]) dX11_readMachines_75 (by decide) rfl ?_
                  refine wc_iload_n X 76 2 dX11_readMachines_76 rfl ?_
                  refine wc_bipush X 77 (-9) dX11_readMachines_77 (by decide) ?_
                  refine wc_icmp_ne X 79 87 dX11_readMachines_79 (by decide) (fun c79_12 => ?_) (fun c79_12 => ?_)
                  ·
                    exact absurd rfl c79_12
                  ·
                    refine wc_aload_n X 82 0 dX11_readMachines_82 rfl ?_
                    refine wc_get X 83 0 3 kd11 rfl (by decide) q_768 rfl dX11_readMachines_83 ?_
                    exact ret 86 _ (nI 2) _ dX11_readMachines_86 (⟨_, _, by rw [show parseP t ts = (some 2, fun _ => 0) by unfold parseP; rw [if_neg (by omega), hf1]; simp only; rw [hf2]]; rfl, rfl, fun z => by rw [show parseP t ts = (some 2, fun _ => 0) by unfold parseP; rw [if_neg (by omega), hf1]; simp only; rw [hf2]] at z; cases z⟩)
                ·
                  have hd2 := figP_some hf2
                  refine wc_mutV X Y 72 [0, 1] [2] 0 (c_X11_figureS l G o th qtx ts 2 qrp qpg qtr qbk dn qkp qik sn qsw qsi sd qln qfm qby qwy wz qfo qon qmn qpr qle qst qwt rc tk ps gn bd qwo t 1 5 n1 (by first | assumption | omega) (by first | assumption | omega) (by first | assumption | omega) (by first | assumption | omega) (by first | assumption | omega) hf2) yv_X11_figure kd11 rfl rfl (wr := [aI G qrp 22 (nF (fun _ => 0))]) rfl ⟨rfl, rfl, rfl⟩ q_885 ⟨rfl, rfl⟩ ⟨rfl, rfl⟩ ⟨rfl, rfl⟩ rfl rfl rfl dX11_readMachines_72 (fun v w hp_13 => ?_)
                  obtain ⟨rfl, rfl⟩ := hp_13
                  refine wc_perm Y [1, 2, 0] [ob o 11 [.int th, .ref qtx, .int (nI ts), .int (nI (2 + 1)), .ref qrp, .ref qpg, .ref qtr, .ref qbk, .int (nI dn), .ref qkp, .ref qik, .int (nI sn), .ref qsw, .ref qsi, .long sd, .ref qln, .ref qfm, .ref qby, .ref qwy, .int (nI wz), .ref qfo, .ref qon, .ref qmn, .ref qpr, .ref qle, .ref qst, .ref qwt, .int (nI rc), .int (nI tk), .int (nI ps), .int (nI gn), .int bd, .ref qwo], aI G qtx 80 (nF t), aI G qrp 22 (nF (fun _ => 0))] rfl rfl ?_
                  show Wc Γ 0 0 75 [(0, .ref o), (1, .int (nI n0))] [.int (nI n1)] [ob o 11 [.int th, .ref qtx, .int (nI ts), .int (nI (2 + 1)), .ref qrp, .ref qpg, .ref qtr, .ref qbk, .int (nI dn), .ref qkp, .ref qik, .int (nI sn), .ref qsw, .ref qsi, .long sd, .ref qln, .ref qfm, .ref qby, .ref qwy, .int (nI wz), .ref qfo, .ref qon, .ref qmn, .ref qpr, .ref qle, .ref qst, .ref qwt, .int (nI rc), .int (nI tk), .int (nI ps), .int (nI gn), .int bd, .ref qwo], aI G qtx 80 (nF t), aI G qrp 22 (nF (fun _ => 0))]
                  refine wc_ws (ws' := [ob o 11 [.int th, .ref qtx, .int (nI ts), .int (nI 3), .ref qrp, .ref qpg, .ref qtr, .ref qbk, .int (nI dn), .ref qkp, .ref qik, .int (nI sn), .ref qsw, .ref qsi, .long sd, .ref qln, .ref qfm, .ref qby, .ref qwy, .int (nI wz), .ref qfo, .ref qon, .ref qmn, .ref qpr, .ref qle, .ref qst, .ref qwt, .int (nI rc), .int (nI tk), .int (nI ps), .int (nI gn), .int bd, .ref qwo], aI G qtx 80 (nF t), aI G qrp 22 (nF (fun _ => 0))]) (by rfl) ?_
                  refine wc_istore_n X 75 (L' := [(0, .ref o), (1, .int (nI n0)), (2, .int (nI n1))]) dX11_readMachines_75 (by decide) rfl ?_
                  refine wc_iload_n X 76 2 dX11_readMachines_76 rfl ?_
                  refine wc_bipush X 77 (-9) dX11_readMachines_77 (by decide) ?_
                  refine wc_icmp_ne X 79 87 dX11_readMachines_79 (by decide) (fun c79_14 => ?_) (fun c79_14 => ?_)
                  ·
                    refine wc_aload_n X 87 0 dX11_readMachines_87 rfl ?_
                    refine wc_get X 88 0 4 kd11 rfl (by decide) q_769 rfl dX11_readMachines_88 ?_
                    refine wc_iconstN X 91 0 dX11_readMachines_91 ?_
                    refine wc_iload_n X 92 1 dX11_readMachines_92 rfl ?_
                    refine wc_iastG X Y 93 2 rfl (by decide) (by decide) (ws' := [ob o 11 [.int th, .ref qtx, .int (nI ts), .int (nI 3), .ref qrp, .ref qpg, .ref qtr, .ref qbk, .int (nI dn), .ref qkp, .ref qik, .int (nI sn), .ref qsw, .ref qsi, .long sd, .ref qln, .ref qfm, .ref qby, .ref qwy, .int (nI wz), .ref qfo, .ref qon, .ref qmn, .ref qpr, .ref qle, .ref qst, .ref qwt, .int (nI rc), .int (nI tk), .int (nI ps), .int (nI gn), .int bd, .ref qwo], aI G qtx 80 (nF t), aI G qrp 22 (nF (up (fun _ => 0) 0 n0))]) rfl dX11_readMachines_93 ?_
                    refine wc_aload_n X 94 0 dX11_readMachines_94 rfl ?_
                    refine wc_get X 95 0 4 kd11 rfl (by decide) q_769 rfl dX11_readMachines_95 ?_
                    refine wc_iconstN X 98 1 dX11_readMachines_98 ?_
                    refine wc_iload_n X 99 2 dX11_readMachines_99 rfl ?_
                    refine wc_iastG X Y 100 2 rfl (by decide) (by decide) (ws' := [ob o 11 [.int th, .ref qtx, .int (nI ts), .int (nI 3), .ref qrp, .ref qpg, .ref qtr, .ref qbk, .int (nI dn), .ref qkp, .ref qik, .int (nI sn), .ref qsw, .ref qsi, .long sd, .ref qln, .ref qfm, .ref qby, .ref qwy, .int (nI wz), .ref qfo, .ref qon, .ref qmn, .ref qpr, .ref qle, .ref qst, .ref qwt, .int (nI rc), .int (nI tk), .int (nI ps), .int (nI gn), .int bd, .ref qwo], aI G qtx 80 (nF t), aI G qrp 22 (nF (up (up (fun _ => 0) 0 n0) 1 n1))]) rfl dX11_readMachines_100 ?_
                    have LP_16 : ∀ (fuel_15 : Nat) (a : Nat) (r : Nat → Nat) (f : Nat), (pgOk r) → (partsP t ts f a r = parseP t ts) → (ts ≤ a + f) → (a ≤ ts) → ts - a < fuel_15 → Wc Γ 0 0 101 [(0, .ref o), (1, .int (nI n0)), (2, .int (nI n1))] [] [ob o 11 [.int th, .ref qtx, .int (nI ts), .int (nI a), .ref qrp, .ref qpg, .ref qtr, .ref qbk, .int (nI dn), .ref qkp, .ref qik, .int (nI sn), .ref qsw, .ref qsi, .long sd, .ref qln, .ref qfm, .ref qby, .ref qwy, .int (nI wz), .ref qfo, .ref qon, .ref qmn, .ref qpr, .ref qle, .ref qst, .ref qwt, .int (nI rc), .int (nI tk), .int (nI ps), .int (nI gn), .int bd, .ref qwo], aI G qtx 80 (nF t), aI G qrp 22 (nF r)] := by
                      intro fuel_15
                      induction fuel_15 with
                      | zero => intro a r f hr he hf ha hm; exact absurd hm (Nat.not_lt_zero _)
                      | succ fuel_15 ih_17 =>
                        intro a r f hr he hf ha hm_18
                        refine wc_aload_n X 101 0 dX11_readMachines_101 rfl ?_
                        refine wc_get X 102 0 3 kd11 rfl (by decide) q_768 rfl dX11_readMachines_102 ?_
                        refine wc_aload_n X 105 0 dX11_readMachines_105 rfl ?_
                        refine wc_get X 106 0 2 kd11 rfl (by decide) q_767 rfl dX11_readMachines_106 ?_
                        refine wc_icmp_geN X 109 124 dX11_readMachines_109 (by decide) (by omega) (by omega) (fun c109_19 => ?_) (fun c109_19 => ?_)
                        ·
                          refine wc_bipush X 124 (-9) dX11_readMachines_124 (by decide) ?_
                          exact ret 126 _ (-9) _ dX11_readMachines_126 (⟨_, _, by rw [← he, partsP_e (by omega)]; rfl, rfl, fun _ => by rw [← he, partsP_e (by omega)]⟩)
                        ·
                          refine wc_aload_n X 112 0 dX11_readMachines_112 rfl ?_
                          refine wc_mutV X Y 113 [0, 1, 2] [] 0 (c_X11_readPart l G o th qtx ts a qrp qpg qtr qbk dn qkp qik sn qsw qsi sd qln qfm qby qwy wz qfo qon qmn qpr qle qst qwt rc tk ps gn bd qwo t r a (by first | assumption | omega) (by first | assumption | omega) (by first | assumption | omega) (by first | assumption | omega)) yv_X11_readPart kd11 rfl rfl (wr := []) rfl ⟨rfl, rfl, rfl⟩ q_889 ⟨rfl, rfl⟩ ⟨rfl, rfl⟩ ⟨rfl, rfl⟩ rfl rfl rfl dX11_readMachines_113 (fun v w hp_20 => ?_)
                          obtain ⟨rfl, rfl⟩ := hp_20
                          refine wc_perm Y [0, 1, 2] [ob o 11 [.int th, .ref qtx, .int (nI ts), .int (nI ((partP t ts r a).1.getD (partP t ts r a).2.1)), .ref qrp, .ref qpg, .ref qtr, .ref qbk, .int (nI dn), .ref qkp, .ref qik, .int (nI sn), .ref qsw, .ref qsi, .long sd, .ref qln, .ref qfm, .ref qby, .ref qwy, .int (nI wz), .ref qfo, .ref qon, .ref qmn, .ref qpr, .ref qle, .ref qst, .ref qwt, .int (nI rc), .int (nI tk), .int (nI ps), .int (nI gn), .int bd, .ref qwo], aI G qtx 80 (nF t), aI G qrp 22 (nF ((partP t ts r a).2.2))] rfl rfl ?_
                          show Wc Γ 0 0 116 [(0, .ref o), (1, .int (nI n0)), (2, .int (nI n1))] [.int (b2i ((partP t ts r a).1.isNone))] [ob o 11 [.int th, .ref qtx, .int (nI ts), .int (nI ((partP t ts r a).1.getD (partP t ts r a).2.1)), .ref qrp, .ref qpg, .ref qtr, .ref qbk, .int (nI dn), .ref qkp, .ref qik, .int (nI sn), .ref qsw, .ref qsi, .long sd, .ref qln, .ref qfm, .ref qby, .ref qwy, .int (nI wz), .ref qfo, .ref qon, .ref qmn, .ref qpr, .ref qle, .ref qst, .ref qwt, .int (nI rc), .int (nI tk), .int (nI ps), .int (nI gn), .int bd, .ref qwo], aI G qtx 80 (nF t), aI G qrp 22 (nF ((partP t ts r a).2.2))]
                          refine wc_if_neB X 116 101 dX11_readMachines_116 (by decide) (fun c116_21 => ?_) (fun c116_21 => ?_)
                          ·
                            refine wc_ws (ws' := [ob o 11 [.int th, .ref qtx, .int (nI ts), .int (nI ((partP t ts r a).2.1)), .ref qrp, .ref qpg, .ref qtr, .ref qbk, .int (nI dn), .ref qkp, .ref qik, .int (nI sn), .ref qsw, .ref qsi, .long sd, .ref qln, .ref qfm, .ref qby, .ref qwy, .int (nI wz), .ref qfo, .ref qon, .ref qmn, .ref qpr, .ref qle, .ref qst, .ref qwt, .int (nI rc), .int (nI tk), .int (nI ps), .int (nI gn), .int bd, .ref qwo], aI G qtx 80 (nF t), aI G qrp 22 (nF ((partP t ts r a).2.2))]) (by rw [show (partP t ts r a).1 = none from Option.isNone_iff_eq_none.mp c116_21]; rfl) ?_
                            exact ih_17 ((partP t ts r a).2.1) ((partP t ts r a).2.2) (f - 1) (partP_ok hr c109_19 c116_21).1 (by rw [← he]; exact (partsP_s c109_19 c116_21 (by omega)).symm) (by have := partP_ok hr c109_19 c116_21; omega) (partP_ok hr c109_19 c116_21).2.2 (by have := partP_ok hr c109_19 c116_21; omega)
                          ·
                            refine wc_aload_n X 119 0 dX11_readMachines_119 rfl ?_
                            refine wc_get X 120 0 3 kd11 rfl (by decide) q_768 rfl dX11_readMachines_120 ?_
                            exact ret 123 _ (nI ((partP t ts r a).1.getD (partP t ts r a).2.1)) _ dX11_readMachines_123 (⟨_, _, by rw [← he, partsP_f c109_19 c116_21 (by omega), optI_getD c116_21], rfl, fun z => by rw [← he, partsP_f c109_19 c116_21 (by omega)] at z; rw [z] at c116_21; cases c116_21⟩)
                    refine wc_ws (ws' := [ob o 11 [.int th, .ref qtx, .int (nI ts), .int (nI 3), .ref qrp, .ref qpg, .ref qtr, .ref qbk, .int (nI dn), .ref qkp, .ref qik, .int (nI sn), .ref qsw, .ref qsi, .long sd, .ref qln, .ref qfm, .ref qby, .ref qwy, .int (nI wz), .ref qfo, .ref qon, .ref qmn, .ref qpr, .ref qle, .ref qst, .ref qwt, .int (nI rc), .int (nI tk), .int (nI ps), .int (nI gn), .int bd, .ref qwo], aI G qtx 80 (nF t), aI G qrp 22 (nF (page0 n0 n1))]) (by rfl) ?_
                    exact LP_16 (ts - 3 + 1) 3 (page0 n0 n1) 80 (page0_ok (by omega) (by omega) (by omega) (by omega)) (by unfold parseP; rw [if_neg (by omega), hf1]; simp only; rw [hf2]) (by omega) (by omega) (Nat.lt_succ_self _)
                  ·
                    exact absurd c79_14 (nI_ne_neg (by omega) (by decide))
              ·
                exact absurd c61_11 (nI_ne_neg (by omega) (by decide))
          ·
            refine wc_iconstN X 44 0 dX11_readMachines_44 ?_
            exact ret 45 _ (nI 0) _ dX11_readMachines_45 (⟨_, _, by rw [show parseP t ts = (some 0, fun _ => 0) by unfold parseP; rw [if_pos (by omega)]]; rfl, rfl, fun z => by rw [show parseP t ts = (some 0, fun _ => 0) by unfold parseP; rw [if_pos (by omega)]] at z; cases z⟩)
      ·
        refine wc_aload_n X 8 0 dX11_readMachines_8 rfl ?_
        refine wc_get X 9 0 4 kd11 rfl (by decide) q_769 rfl dX11_readMachines_9 ?_
        refine wc_iload_n X 12 1 dX11_readMachines_12 rfl ?_
        refine wc_iconstN X 13 0 dX11_readMachines_13 ?_
        refine wc_iastG X Y 14 2 rfl (by omega) (by decide) (ws' := [ob o 11 [.int th, .ref qtx, .int (nI ts), .int (nI pl), .ref qrp, .ref qpg, .ref qtr, .ref qbk, .int (nI dn), .ref qkp, .ref qik, .int (nI sn), .ref qsw, .ref qsi, .long sd, .ref qln, .ref qfm, .ref qby, .ref qwy, .int (nI wz), .ref qfo, .ref qon, .ref qmn, .ref qpr, .ref qle, .ref qst, .ref qwt, .int (nI rc), .int (nI tk), .int (nI ps), .int (nI gn), .int bd, .ref qwo], aI G qtx 80 (nF t), aI G qrp 22 (nF (up h i 0))]) rfl dX11_readMachines_14 ?_
        refine wc_iincN X 15 1 (L' := [(0, .ref o), (1, .int (nI (i + 1)))]) dX11_readMachines_15 rfl (by decide) rfl ?_
        refine wc_goto X 18 2 dX11_readMachines_18 (by decide) ?_
        refine wc_L (L' := [(0, .ref o), (1, .int (nI (i + 1)))]) (by rfl) ?_
        exact ih_3 (i + 1) (up h i 0) (by omega) (up_lt (f := fun _ => 0) hh) (by omega)
  exact LP_2 (22 - 0 + 1) 0 r0 (by omega) (fun j hj => absurd hj (Nat.not_lt_zero _)) (Nat.lt_succ_self _)

set_option maxHeartbeats 4000000 in
set_option maxRecDepth 100000 in
theorem c_X11_foundS (l : Launch) (G : GG) (o : Nat) (th : Int32) (qtx ts pl qrp qpg qtr qbk dn qkp qik sn qsw qsi : Nat) (sd : Int64) (qln qfm qby qwy wz qfo qon qmn qpr qle qst qwt qwo : Nat) (fo : Nat → Bool) (rs : Sr) (wt : Nat → Bool) (p : Nat → Nat) (md k : Nat) (hr : pgOk p) (hmd : md ≤ 2) (hk : k ≤ 200) : MM l G yX11_found (Cond.code yX11_found cX11_found 6 (some .int)) { frames := 8, cells := 0, slots := 0, locals := 195 } [.ref o, .int (nI md), .int (nI k)] [ob o 11 [.int th, .ref qtx, .int (nI ts), .int (nI pl), .ref qrp, .ref qpg, .ref qtr, .ref qbk, .int (nI dn), .ref qkp, .ref qik, .int (nI sn), .ref qsw, .ref qsi, .long sd, .ref qln, .ref qfm, .ref qby, .ref qwy, .int (nI wz), .ref qfo, .ref qon, .ref qmn, .ref qpr, .ref qle, .ref qst, .ref qwt, .int (nI (srN rs)), .int (nI (srT rs)), .int (nI (srA rs)), .int (nI (srD rs)), .int (bI (srB rs)), .ref qwo], aI G qpg 22 (nF p), aZ G qfo 81 (bF fo), aI G qon 128 (nF (srO rs)), aI G qmn 128 (nF (srM rs)), aI G qpr 128 (srP rs), aI G qle 128 (nF (srL rs)), aZ G qst 128 (bF (ntF (srG rs))), aZ G qwt 128 (bF wt)] (fun (v : Option Value) (w : va_W) => ∃ (rs2 : Sr) (wt2 : Nat → Bool) (fo2 : Nat → Bool), v = some (.int (tellS (runS (folB (gz p) (p 0) (p 2) (go p) (p 1) (p 3)) md (p 2) (p 3) (gz p) (go p) (p 1) c0S 128) k)) ∧ w = [ob o 11 [.int (nI 0), .ref qtx, .int (nI ts), .int (nI pl), .ref qrp, .ref qpg, .ref qtr, .ref qbk, .int (nI dn), .ref qkp, .ref qik, .int (nI sn), .ref qsw, .ref qsi, .long sd, .ref qln, .ref qfm, .ref qby, .ref qwy, .int (nI wz), .ref qfo, .ref qon, .ref qmn, .ref qpr, .ref qle, .ref qst, .ref qwt, .int (nI (srN rs2)), .int (nI (srT rs2)), .int (nI (srA rs2)), .int (nI (srD rs2)), .int (bI (srB rs2)), .ref qwo], aI G qpg 22 (nF p), aZ G qfo 81 (bF fo2), aI G qon 128 (nF (srO rs2)), aI G qmn 128 (nF (srM rs2)), aI G qpr 128 (srP rs2), aI G qle 128 (nF (srL rs2)), aZ G qst 128 (bF (ntF (srG rs2))), aZ G qwt 128 (bF wt2)]) 0 0 := by
  refine MM.ofI (by decide) rfl (fun Γ X Y hnm ret => ?_)
  show Wc Γ 0 0 0 [(0, .ref o), (1, .int (nI md)), (2, .int (nI k))] [] [ob o 11 [.int th, .ref qtx, .int (nI ts), .int (nI pl), .ref qrp, .ref qpg, .ref qtr, .ref qbk, .int (nI dn), .ref qkp, .ref qik, .int (nI sn), .ref qsw, .ref qsi, .long sd, .ref qln, .ref qfm, .ref qby, .ref qwy, .int (nI wz), .ref qfo, .ref qon, .ref qmn, .ref qpr, .ref qle, .ref qst, .ref qwt, .int (nI (srN rs)), .int (nI (srT rs)), .int (nI (srA rs)), .int (nI (srD rs)), .int (bI (srB rs)), .ref qwo], aI G qpg 22 (nF p), aZ G qfo 81 (bF fo), aI G qon 128 (nF (srO rs)), aI G qmn 128 (nF (srM rs)), aI G qpr 128 (srP rs), aI G qle 128 (nF (srL rs)), aZ G qst 128 (bF (ntF (srG rs))), aZ G qwt 128 (bF wt)]
  have hn0 := hr.2.1
  have hn01 := hr.1
  have hn1 := hr.2.2.2.1
  have hn11 := hr.2.2.1
  have he0 := pg_e0 hr
  have he1 := hr.2.2.2.2.1 3
  have hg0 := hr.2.2.2.2.2.1
  have hg1 := (fun j => hr.2.2.2.2.1 (12 + j) : ∀ j, go p j < 32)
  have hg0n := (hr.2.2.2.2.2.2.1 0 (by decide) : ∀ j, gz p j < 2 ^ p 0)
  have hg1n := (hr.2.2.2.2.2.2.1 1 (by decide) : ∀ j, go p j < 2 ^ p 1)
  have he0n := hr.2.2.2.2.2.2.2 0 (by decide)
  have he1n := hr.2.2.2.2.2.2.2 1 (by decide)
  have hg0w := (fun j => Nat.lt_trans (hg0 j) (by decide) : ∀ j, gz p j < 32)
  have hC := Cvr_fol (e0 := p 2) (e1 := p 3) hn0 hn1 hg0n hg1n
  refine wc_aload_n X 0 0 dX11_found_0 rfl ?_
  refine wc_iconstN X 1 0 dX11_found_1 ?_
  refine wc_put X Y 2 0 0 kd11 rfl (by decide) q_765 rfl rfl rfl (Nat.le_of_ble_eq_true rfl) (ws' := [ob o 11 [.int (nI 0), .ref qtx, .int (nI ts), .int (nI pl), .ref qrp, .ref qpg, .ref qtr, .ref qbk, .int (nI dn), .ref qkp, .ref qik, .int (nI sn), .ref qsw, .ref qsi, .long sd, .ref qln, .ref qfm, .ref qby, .ref qwy, .int (nI wz), .ref qfo, .ref qon, .ref qmn, .ref qpr, .ref qle, .ref qst, .ref qwt, .int (nI (srN rs)), .int (nI (srT rs)), .int (nI (srA rs)), .int (nI (srD rs)), .int (bI (srB rs)), .ref qwo], aI G qpg 22 (nF p), aZ G qfo 81 (bF fo), aI G qon 128 (nF (srO rs)), aI G qmn 128 (nF (srM rs)), aI G qpr 128 (srP rs), aI G qle 128 (nF (srL rs)), aZ G qst 128 (bF (ntF (srG rs))), aZ G qwt 128 (bF wt)]) rfl dX11_found_2 ?_
  refine wc_iload_n X 5 1 dX11_found_5 rfl ?_
  refine wc_i2l X 6 dX11_found_6 ?_
  refine wc_lconst X 7 0 dX11_found_7 (by decide) ?_
  refine wc_ldc2 X 8 149 (2) q_945 dX11_found_8 ?_
  refine wc_callS X 11 [] (c_X11_in l G ((nI md).toInt64) 0 2 ) ys_X11_in rfl q_870 ⟨rfl, rfl⟩ ⟨rfl, rfl⟩ ⟨rfl, rfl⟩ rfl rfl rfl dX11_found_11 ?_
  refine wc_topi (b2i true) (congrArg b2i (inL_in (a := 0) (b := 2) rfl rfl (by omega) (by omega) (by omega))) ?_
  refine wc_if_eqB X 14 29 dX11_found_14 (by decide) (fun c14_1 => ?_) (fun c14_1 => ?_)
  ·
    exact absurd c14_1 (by decide)
  ·
    refine wc_iload_n X 17 2 dX11_found_17 rfl ?_
    refine wc_i2l X 18 dX11_found_18 ?_
    refine wc_lconst X 19 0 dX11_found_19 (by decide) ?_
    refine wc_ldc2 X 20 213 (200) q_1027 dX11_found_20 ?_
    refine wc_callS X 23 [] (c_X11_in l G ((nI k).toInt64) 0 200 ) ys_X11_in rfl q_870 ⟨rfl, rfl⟩ ⟨rfl, rfl⟩ ⟨rfl, rfl⟩ rfl rfl rfl dX11_found_23 ?_
    refine wc_topi (b2i true) (congrArg b2i (inL_in (a := 0) (b := 200) rfl rfl (by omega) (by omega) (by omega))) ?_
    refine wc_if_neB X 26 32 dX11_found_26 (by decide) (fun c26_2 => ?_) (fun c26_2 => ?_)
    ·
      refine wc_aload_n X 32 0 dX11_found_32 rfl ?_
      refine wc_iload_n X 33 1 dX11_found_33 rfl ?_
      refine wc_mutV X Y 34 [0, 1, 2, 3, 4, 5, 6, 7, 8] [] 0 (c_X11_goSearch l G o (nI 0) qtx ts pl qrp qpg qtr qbk dn qkp qik sn qsw qsi sd qln qfm qby qwy wz qfo qon qmn qpr qle qst qwt qwo fo (folB (gz p) (p 0) (p 2) (go p) (p 1) (p 3)) md rs wt p (by first | assumption | omega) (by first | assumption | omega) (fun _ _ => rfl) hC) yv_X11_goSearch kd11 rfl rfl (wr := []) rfl ⟨rfl, rfl, rfl⟩ q_1062 ⟨rfl, rfl⟩ ⟨rfl, rfl⟩ ⟨rfl, rfl⟩ rfl rfl rfl dX11_found_34 (fun v w hp_3 => ?_)
      obtain ⟨s9, w9, fo9, rfl, rfl, hs9⟩ := hp_3
      refine wc_perm Y [0, 1, 2, 3, 4, 5, 6, 7, 8] [ob o 11 [.int (nI 0), .ref qtx, .int (nI ts), .int (nI pl), .ref qrp, .ref qpg, .ref qtr, .ref qbk, .int (nI dn), .ref qkp, .ref qik, .int (nI sn), .ref qsw, .ref qsi, .long sd, .ref qln, .ref qfm, .ref qby, .ref qwy, .int (nI wz), .ref qfo, .ref qon, .ref qmn, .ref qpr, .ref qle, .ref qst, .ref qwt, .int (nI (srN s9)), .int (nI (srT s9)), .int (nI (srA s9)), .int (nI (srD s9)), .int (bI (srB s9)), .ref qwo], aI G qpg 22 (nF p), aZ G qfo 81 (bF fo9), aI G qon 128 (nF (srO s9)), aI G qmn 128 (nF (srM s9)), aI G qpr 128 (srP s9), aI G qle 128 (nF (srL s9)), aZ G qst 128 (bF (ntF (srG s9))), aZ G qwt 128 (bF w9)] rfl rfl ?_
      show Wc Γ 0 0 37 [(0, .ref o), (1, .int (nI md)), (2, .int (nI k))] [] [ob o 11 [.int (nI 0), .ref qtx, .int (nI ts), .int (nI pl), .ref qrp, .ref qpg, .ref qtr, .ref qbk, .int (nI dn), .ref qkp, .ref qik, .int (nI sn), .ref qsw, .ref qsi, .long sd, .ref qln, .ref qfm, .ref qby, .ref qwy, .int (nI wz), .ref qfo, .ref qon, .ref qmn, .ref qpr, .ref qle, .ref qst, .ref qwt, .int (nI (srN s9)), .int (nI (srT s9)), .int (nI (srA s9)), .int (nI (srD s9)), .int (bI (srB s9)), .ref qwo], aI G qpg 22 (nF p), aZ G qfo 81 (bF fo9), aI G qon 128 (nF (srO s9)), aI G qmn 128 (nF (srM s9)), aI G qpr 128 (srP s9), aI G qle 128 (nF (srL s9)), aZ G qst 128 (bF (ntF (srG s9))), aZ G qwt 128 (bF w9)]
      have hI9 : Inv (folB (gz p) (p 0) (p 2) (go p) (p 1) (p 3)) md (p 0) (p 1) s9 := by rw [hs9]; exact run_inv hC hn01 hn1 hn11 hg0n hg1n rfl rfl 128
      have hN9 := Inv_le hn0 hn1 hI9
      have e9 : Eqv s9 (runS (folB (gz p) (p 0) (p 2) (go p) (p 1) (p 3)) md (p 2) (p 3) (gz p) (go p) (p 1) c0S 128) := by rw [hs9]; exact run_c0
      refine wc_iconstN X 37 0 dX11_found_37 ?_
      refine wc_istore_n X 38 (L' := [(0, .ref o), (1, .int (nI md)), (2, .int (nI k)), (3, .int (nI 0))]) dX11_found_38 (by decide) rfl ?_
      rcases opt_cases (srB s9) with hb9 | ⟨kb, hb9⟩
      ·
        refine wc_aload_n X 39 0 dX11_found_39 rfl ?_
        refine wc_get X 40 0 31 kd11 rfl (by decide) q_796 rfl dX11_found_40 ?_
        refine wc_top (v' := .int (-9)) (by rw [hb9]; rfl) ?_
        refine wc_istore X 43 (L' := [(0, .ref o), (1, .int (nI md)), (2, .int (nI k)), (3, .int (nI 0)), (4, .int (-9))]) dX11_found_43 (by decide) rfl ?_
        refine wc_iload X 45 4 dX11_found_45 rfl ?_
        refine wc_bipush X 47 (-9) dX11_found_47 (by decide) ?_
        refine wc_icmp_eq X 49 79 dX11_found_49 (by decide) (fun c49_4 => ?_) (fun c49_4 => ?_)
        ·
          refine wc_aload_n X 79 0 dX11_found_79 rfl ?_
          refine wc_get X 80 0 31 kd11 rfl (by decide) q_796 rfl dX11_found_80 ?_
          refine wc_bipush X 83 (-9) dX11_found_83 (by decide) ?_
          refine wc_icmp_eq X 85 93 dX11_found_85 (by decide) (fun c85_5 => ?_) (fun c85_5 => ?_)
          ·
            refine wc_bipush X 93 (-9) dX11_found_93 (by decide) ?_
            exact ret 95 _ (-9) _ dX11_found_95 (⟨_, _, _, by rw [← tellS_eqv hn0 hn1 hI9 e9]; exact congrArg (fun z => some (Value.int z)) (tellS_0 hb9), rfl⟩)
          ·
            exact absurd (show bI (srB s9) = -9 by rw [hb9]; rfl) c85_5
        ·
          exact absurd rfl c49_4
      ·
        have hkb := hI9.2.2.2 kb hb9
        have hdp := dp_le hn0 hn1 hI9 128 kb hkb
        refine wc_aload_n X 39 0 dX11_found_39 rfl ?_
        refine wc_get X 40 0 31 kd11 rfl (by decide) q_796 rfl dX11_found_40 ?_
        refine wc_topi (nI kb) (by rw [hb9]; rfl) ?_
        refine wc_istore X 43 (L' := [(0, .ref o), (1, .int (nI md)), (2, .int (nI k)), (3, .int (nI 0)), (4, .int (nI kb))]) dX11_found_43 (by decide) rfl ?_
        have LP_7 : ∀ (fuel_6 : Nat) (m : Nat), (anK s9 kb m < srN s9) → (m + dpK s9 128 (anK s9 kb m) = dpK s9 128 kb) → dpK s9 128 kb - m < fuel_6 → Wc Γ 0 0 45 [(0, .ref o), (1, .int (nI md)), (2, .int (nI k)), (3, .int (nI m)), (4, .int (nI (anK s9 kb m)))] [] [ob o 11 [.int (nI 0), .ref qtx, .int (nI ts), .int (nI pl), .ref qrp, .ref qpg, .ref qtr, .ref qbk, .int (nI dn), .ref qkp, .ref qik, .int (nI sn), .ref qsw, .ref qsi, .long sd, .ref qln, .ref qfm, .ref qby, .ref qwy, .int (nI wz), .ref qfo, .ref qon, .ref qmn, .ref qpr, .ref qle, .ref qst, .ref qwt, .int (nI (srN s9)), .int (nI (srT s9)), .int (nI (srA s9)), .int (nI (srD s9)), .int (bI (srB s9)), .ref qwo], aI G qpg 22 (nF p), aZ G qfo 81 (bF fo9), aI G qon 128 (nF (srO s9)), aI G qmn 128 (nF (srM s9)), aI G qpr 128 (srP s9), aI G qle 128 (nF (srL s9)), aZ G qst 128 (bF (ntF (srG s9))), aZ G qwt 128 (bF w9)] := by
          intro fuel_6
          induction fuel_6 with
          | zero => intro m hm1 hm2 hm; exact absurd hm (Nat.not_lt_zero _)
          | succ fuel_6 ih_8 =>
            intro m hm1 hm2 hm_9
            refine wc_iload X 45 4 dX11_found_45 rfl ?_
            refine wc_bipush X 47 (-9) dX11_found_47 (by decide) ?_
            refine wc_icmp_eq X 49 79 dX11_found_49 (by decide) (fun c49_10 => ?_) (fun c49_10 => ?_)
            ·
              exact absurd c49_10 (nI_ne9 (by omega))
            ·
              refine wc_aload_n X 52 0 dX11_found_52 rfl ?_
              refine wc_get X 53 0 23 kd11 rfl (by decide) q_788 rfl dX11_found_53 ?_
              refine wc_iload X 56 4 dX11_found_56 rfl ?_
              refine wc_ialdN X 58 5 rfl (by omega) (by decide) dX11_found_58 ?_
              refine wc_bipush X 59 (-9) dX11_found_59 (by decide) ?_
              rcases Inv_par hn0 hn1 hI9 hm1 with hz | ⟨hz, hz2, hz3, hz4⟩
              ·
                refine wc_icmp_eq X 61 79 dX11_found_61 (by decide) (fun c61_11 => ?_) (fun c61_11 => ?_)
                ·
                  have hmd : m = dpK s9 128 kb := by rw [← hm2, dp_end hz]; rfl
                  have e_12 : m = dpK s9 128 kb := hmd
                  refine wc_L (L' := [(0, .ref o), (1, .int (nI md)), (2, .int (nI k)), (3, .int (nI (dpK s9 128 kb))), (4, .int (nI (anK s9 kb m)))]) (by first | (rw [e_12]; done) | (rw [e_12]; rfl) | (rw [← e_12]; done) | rfl) ?_
                  refine wc_aload_n X 79 0 dX11_found_79 rfl ?_
                  refine wc_get X 80 0 31 kd11 rfl (by decide) q_796 rfl dX11_found_80 ?_
                  refine wc_bipush X 83 (-9) dX11_found_83 (by decide) ?_
                  refine wc_icmp_eq X 85 93 dX11_found_85 (by decide) (fun c85_13 => ?_) (fun c85_13 => ?_)
                  ·
                    exact absurd c85_13 (show ¬ bI (srB s9) = -9 by rw [hb9]; exact nI_ne9 (by omega))
                  ·
                    refine wc_iload_n X 88 2 dX11_found_88 rfl ?_
                    refine wc_iload_n X 89 3 dX11_found_89 rfl ?_
                    refine wc_icmp_leN X 90 96 dX11_found_90 (by decide) (by omega) (by omega) (fun c90_14 => ?_) (fun c90_14 => ?_)
                    ·
                      refine wc_aload_n X 96 0 dX11_found_96 rfl ?_
                      refine wc_get X 97 0 31 kd11 rfl (by decide) q_796 rfl dX11_found_97 ?_
                      refine wc_topi (nI kb) (by rw [hb9]; rfl) ?_
                      refine wc_istore X 100 (L' := [(0, .ref o), (1, .int (nI md)), (2, .int (nI k)), (3, .int (nI (dpK s9 128 kb))), (4, .int (nI kb))]) dX11_found_100 (by decide) rfl ?_
                      refine wc_iload_n X 102 3 dX11_found_102 rfl ?_
                      refine wc_istore X 103 (L' := [(0, .ref o), (1, .int (nI md)), (2, .int (nI k)), (3, .int (nI (dpK s9 128 kb))), (4, .int (nI kb)), (5, .int (nI (dpK s9 128 kb)))]) dX11_found_103 (by decide) rfl ?_
                      have LP_16 : ∀ (fuel_15 : Nat) (i : Nat), (k ≤ i) → (i ≤ dpK s9 128 kb) → i < fuel_15 → Wc Γ 0 0 105 [(0, .ref o), (1, .int (nI md)), (2, .int (nI k)), (3, .int (nI (dpK s9 128 kb))), (4, .int (nI (anK s9 kb (dpK s9 128 kb - i)))), (5, .int (nI i))] [] [ob o 11 [.int (nI 0), .ref qtx, .int (nI ts), .int (nI pl), .ref qrp, .ref qpg, .ref qtr, .ref qbk, .int (nI dn), .ref qkp, .ref qik, .int (nI sn), .ref qsw, .ref qsi, .long sd, .ref qln, .ref qfm, .ref qby, .ref qwy, .int (nI wz), .ref qfo, .ref qon, .ref qmn, .ref qpr, .ref qle, .ref qst, .ref qwt, .int (nI (srN s9)), .int (nI (srT s9)), .int (nI (srA s9)), .int (nI (srD s9)), .int (bI (srB s9)), .ref qwo], aI G qpg 22 (nF p), aZ G qfo 81 (bF fo9), aI G qon 128 (nF (srO s9)), aI G qmn 128 (nF (srM s9)), aI G qpr 128 (srP s9), aI G qle 128 (nF (srL s9)), aZ G qst 128 (bF (ntF (srG s9))), aZ G qwt 128 (bF w9)] := by
                        intro fuel_15
                        induction fuel_15 with
                        | zero => intro i hi1 hi2 hm; exact absurd hm (Nat.not_lt_zero _)
                        | succ fuel_15 ih_17 =>
                          intro i hi1 hi2 hm_18
                          refine wc_iload X 105 5 dX11_found_105 rfl ?_
                          refine wc_iload_n X 107 2 dX11_found_107 rfl ?_
                          refine wc_icmp_leN X 108 130 dX11_found_108 (by decide) (by omega) (by omega) (fun c108_19 => ?_) (fun c108_19 => ?_)
                          ·
                            refine wc_iload_n X 130 2 dX11_found_130 rfl ?_
                            refine wc_if_neN X 131 138 dX11_found_131 (by decide) (by omega) (fun c131_20 => ?_) (fun c131_20 => ?_)
                            ·
                              refine wc_aload_n X 138 0 dX11_found_138 rfl ?_
                              refine wc_get X 139 0 24 kd11 rfl (by decide) q_789 rfl dX11_found_139 ?_
                              refine wc_iload X 142 4 dX11_found_142 rfl ?_
                              refine wc_ialdG X 144 6 rfl (by have := (anK_lt hn0 hn1 hI9 hkb (dpK s9 128 kb - i) (by omega)).1; omega) (by decide) dX11_found_144 ?_
                              exact ret 145 _ (nI ((srL s9) (anK s9 kb (dpK s9 128 kb - i)))) _ dX11_found_145 (⟨_, _, _, by rw [← tellS_eqv hn0 hn1 hI9 e9]; exact congrArg (fun z => some (Value.int z)) ((by have hq := tellS_k hb9 c131_20 (show k ≤ dpK s9 128 kb by omega); rw [← hq, show i = k by omega])), rfl⟩)
                            ·
                              refine wc_iload_n X 134 3 dX11_found_134 rfl ?_
                              refine wc_goto X 135 145 dX11_found_135 (by decide) ?_
                              exact ret 145 _ (nI (dpK s9 128 kb)) _ dX11_found_145 (⟨_, _, _, by rw [← tellS_eqv hn0 hn1 hI9 e9]; exact congrArg (fun z => some (Value.int z)) (tellS_k0 hb9 c131_20), rfl⟩)
                          ·
                            refine wc_iload_n X 111 2 dX11_found_111 rfl ?_
                            refine wc_if_leN X 112 130 dX11_found_112 (by decide) (by omega) (fun c112_21 => ?_) (fun c112_21 => ?_)
                            ·
                              refine wc_iload_n X 130 2 dX11_found_130 rfl ?_
                              refine wc_if_neN X 131 138 dX11_found_131 (by decide) (by omega) (fun c131_22 => ?_) (fun c131_22 => ?_)
                              ·
                                refine wc_aload_n X 138 0 dX11_found_138 rfl ?_
                                refine wc_get X 139 0 24 kd11 rfl (by decide) q_789 rfl dX11_found_139 ?_
                                refine wc_iload X 142 4 dX11_found_142 rfl ?_
                                refine wc_ialdG X 144 6 rfl (by have := (anK_lt hn0 hn1 hI9 hkb (dpK s9 128 kb - i) (by omega)).1; omega) (by decide) dX11_found_144 ?_
                                exact ret 145 _ (nI ((srL s9) (anK s9 kb (dpK s9 128 kb - i)))) _ dX11_found_145 (⟨_, _, _, by rw [← tellS_eqv hn0 hn1 hI9 e9]; exact congrArg (fun z => some (Value.int z)) ((by have hq := tellS_k hb9 c131_22 (show k ≤ dpK s9 128 kb by omega); rw [← hq, show i = k by omega])), rfl⟩)
                              ·
                                refine wc_iload_n X 134 3 dX11_found_134 rfl ?_
                                refine wc_goto X 135 145 dX11_found_135 (by decide) ?_
                                exact ret 145 _ (nI (dpK s9 128 kb)) _ dX11_found_145 (⟨_, _, _, by rw [← tellS_eqv hn0 hn1 hI9 e9]; exact congrArg (fun z => some (Value.int z)) (tellS_k0 hb9 c131_22), rfl⟩)
                            ·
                              refine wc_aload_n X 115 0 dX11_found_115 rfl ?_
                              refine wc_get X 116 0 23 kd11 rfl (by decide) q_788 rfl dX11_found_116 ?_
                              refine wc_iload X 119 4 dX11_found_119 rfl ?_
                              refine wc_ialdN X 121 5 rfl (by have := (anK_lt hn0 hn1 hI9 hkb (dpK s9 128 kb - i) (by omega)).1; omega) (by decide) dX11_found_121 ?_
                              refine wc_topi (nI (anK s9 kb (dpK s9 128 kb - i + 1))) ((Inv_par hn0 hn1 hI9 (anK_lt hn0 hn1 hI9 hkb _ (by omega)).1).elim (fun z => absurd (anK_lt hn0 hn1 hI9 hkb (dpK s9 128 kb - i) (by omega)).2 (by rw [dp_end z]; omega)) (fun z => z.1)) ?_
                              refine wc_istore X 122 (L' := [(0, .ref o), (1, .int (nI md)), (2, .int (nI k)), (3, .int (nI (dpK s9 128 kb))), (4, .int (nI (anK s9 kb (dpK s9 128 kb - i + 1)))), (5, .int (nI i))]) dX11_found_122 (by decide) rfl ?_
                              refine wc_iinc X 124 5 (L' := [(0, .ref o), (1, .int (nI md)), (2, .int (nI k)), (3, .int (nI (dpK s9 128 kb))), (4, .int (nI (anK s9 kb (dpK s9 128 kb - i + 1)))), (5, .int (nI (i - 1)))]) dX11_found_124 rfl (sb_m1 (by omega)) (by decide) rfl ?_
                              refine wc_goto X 127 105 dX11_found_127 (by decide) ?_
                              have e_23 : anK s9 kb (dpK s9 128 kb - i + 1) = anK s9 kb (dpK s9 128 kb - (i - 1)) := by rw [show dpK s9 128 kb - (i - 1) = dpK s9 128 kb - i + 1 by omega]
                              refine wc_L (L' := [(0, .ref o), (1, .int (nI md)), (2, .int (nI k)), (3, .int (nI (dpK s9 128 kb))), (4, .int (nI (anK s9 kb (dpK s9 128 kb - (i - 1))))), (5, .int (nI (i - 1)))]) (by first | (rw [e_23]; done) | (rw [e_23]; rfl) | (rw [← e_23]; done) | rfl) ?_
                              exact ih_17 (i - 1) (by omega) (by omega) (by omega)
                      have e_24 : kb = anK s9 kb (dpK s9 128 kb - (dpK s9 128 kb)) := by rw [Nat.sub_self]; rfl
                      refine wc_L (L' := [(0, .ref o), (1, .int (nI md)), (2, .int (nI k)), (3, .int (nI (dpK s9 128 kb))), (4, .int (nI (anK s9 kb (dpK s9 128 kb - (dpK s9 128 kb))))), (5, .int (nI (dpK s9 128 kb)))]) (by first | (rw [e_24]; done) | (rw [e_24]; rfl) | (rw [← e_24]; done) | rfl) ?_
                      exact LP_16 ((dpK s9 128 kb) + 1) (dpK s9 128 kb) (by omega) (by omega) (Nat.lt_succ_self _)
                    ·
                      refine wc_bipush X 93 (-9) dX11_found_93 (by decide) ?_
                      exact ret 95 _ (-9) _ dX11_found_95 (⟨_, _, _, by rw [← tellS_eqv hn0 hn1 hI9 e9]; exact congrArg (fun z => some (Value.int z)) (tellS_gt hb9 (by omega)), rfl⟩)
                ·
                  exact absurd hz c61_11
              ·
                refine wc_icmp_eq X 61 79 dX11_found_61 (by decide) (fun c61_25 => ?_) (fun c61_25 => ?_)
                ·
                  exact absurd c61_25 hz3
                ·
                  refine wc_iincN X 64 3 (L' := [(0, .ref o), (1, .int (nI md)), (2, .int (nI k)), (3, .int (nI (m + 1))), (4, .int (nI (anK s9 kb m)))]) dX11_found_64 rfl (by decide) rfl ?_
                  refine wc_aload_n X 67 0 dX11_found_67 rfl ?_
                  refine wc_get X 68 0 23 kd11 rfl (by decide) q_788 rfl dX11_found_68 ?_
                  refine wc_iload X 71 4 dX11_found_71 rfl ?_
                  refine wc_ialdN X 73 5 rfl (by omega) (by decide) dX11_found_73 ?_
                  refine wc_topi (nI (pN s9 (anK s9 kb m))) (hz) ?_
                  refine wc_istore X 74 (L' := [(0, .ref o), (1, .int (nI md)), (2, .int (nI k)), (3, .int (nI (m + 1))), (4, .int (nI (pN s9 (anK s9 kb m))))]) dX11_found_74 (by decide) rfl ?_
                  refine wc_goto X 76 45 dX11_found_76 (by decide) ?_
                  have e_26 : pN s9 (anK s9 kb m) = anK s9 kb (m + 1) := rfl
                  refine wc_L (L' := [(0, .ref o), (1, .int (nI md)), (2, .int (nI k)), (3, .int (nI (m + 1))), (4, .int (nI (anK s9 kb (m + 1))))]) (by first | (rw [e_26]; done) | (rw [e_26]; rfl) | (rw [← e_26]; done) | rfl) ?_
                  exact ih_8 (m + 1) (Nat.lt_trans hz2 hm1) (by rw [← hm2]; have hq := dp_st hn0 hn1 hI9 hm1 hz3; show m + 1 + dpK s9 128 (pN s9 (anK s9 kb m)) = _; omega) (by have hq := dp_st hn0 hn1 hI9 hm1 hz3; omega)
        have e_27 : kb = anK s9 kb 0 := rfl
        refine wc_L (L' := [(0, .ref o), (1, .int (nI md)), (2, .int (nI k)), (3, .int (nI 0)), (4, .int (nI (anK s9 kb 0)))]) (by first | (rw [e_27]; done) | (rw [e_27]; rfl) | (rw [← e_27]; done) | rfl) ?_
        exact LP_7 (dpK s9 128 kb - 0 + 1) 0 hkb (Nat.zero_add _) (Nat.lt_succ_self _)
    ·
      exact absurd c26_2 (by decide)

set_option maxHeartbeats 4000000 in
set_option maxRecDepth 100000 in
theorem c_X11_seeF (l : Launch) (G : GG) (o : Nat) (th : Int32) (qtx ts pl qrp qpg qtr qbk dn qkp qik sn qsw qsi : Nat) (sd : Int64) (qln qfm qby qwy wz qfo qon qmn qpr qle qst qwt rc tk ps gn : Nat) (bd : Int32) (qwo : Nat) (y : Nat) (k : Int32) (hy : y < 2147483648) (ho : wordOk y = false ∨ outR k 0 1) : MM l G yX11_see (Cond.code yX11_see cX11_see 3 (some .int)) { frames := 2, cells := 0, slots := 0, locals := 47 } [.ref o, .int (nI y), .int k] [ob o 11 [.int th, .ref qtx, .int (nI ts), .int (nI pl), .ref qrp, .ref qpg, .ref qtr, .ref qbk, .int (nI dn), .ref qkp, .ref qik, .int (nI sn), .ref qsw, .ref qsi, .long sd, .ref qln, .ref qfm, .ref qby, .ref qwy, .int (nI wz), .ref qfo, .ref qon, .ref qmn, .ref qpr, .ref qle, .ref qst, .ref qwt, .int (nI rc), .int (nI tk), .int (nI ps), .int (nI gn), .int bd, .ref qwo]] (fun (v : Option Value) (w : va_W) => v = some (.int (-2)) ∧ w = [ob o 11 [.int (nI 0), .ref qtx, .int (nI ts), .int (nI pl), .ref qrp, .ref qpg, .ref qtr, .ref qbk, .int (nI dn), .ref qkp, .ref qik, .int (nI sn), .ref qsw, .ref qsi, .long sd, .ref qln, .ref qfm, .ref qby, .ref qwy, .int (nI wz), .ref qfo, .ref qon, .ref qmn, .ref qpr, .ref qle, .ref qst, .ref qwt, .int (nI rc), .int (nI tk), .int (nI ps), .int (nI gn), .int bd, .ref qwo]]) 0 0 := by
  refine MM.ofI (by decide) rfl (fun Γ X Y hnm ret => ?_)
  show Wc Γ 0 0 0 [(0, .ref o), (1, .int (nI y)), (2, .int k)] [] [ob o 11 [.int th, .ref qtx, .int (nI ts), .int (nI pl), .ref qrp, .ref qpg, .ref qtr, .ref qbk, .int (nI dn), .ref qkp, .ref qik, .int (nI sn), .ref qsw, .ref qsi, .long sd, .ref qln, .ref qfm, .ref qby, .ref qwy, .int (nI wz), .ref qfo, .ref qon, .ref qmn, .ref qpr, .ref qle, .ref qst, .ref qwt, .int (nI rc), .int (nI tk), .int (nI ps), .int (nI gn), .int bd, .ref qwo]]
  refine wc_aload_n X 0 0 dX11_see_0 rfl ?_
  refine wc_iconstN X 1 0 dX11_see_1 ?_
  refine wc_put X Y 2 0 0 kd11 rfl (by decide) q_765 rfl rfl rfl (Nat.le_of_ble_eq_true rfl) (ws' := [ob o 11 [.int (nI 0), .ref qtx, .int (nI ts), .int (nI pl), .ref qrp, .ref qpg, .ref qtr, .ref qbk, .int (nI dn), .ref qkp, .ref qik, .int (nI sn), .ref qsw, .ref qsi, .long sd, .ref qln, .ref qfm, .ref qby, .ref qwy, .int (nI wz), .ref qfo, .ref qon, .ref qmn, .ref qpr, .ref qle, .ref qst, .ref qwt, .int (nI rc), .int (nI tk), .int (nI ps), .int (nI gn), .int bd, .ref qwo]]) rfl dX11_see_2 ?_
  refine wc_iload_n X 5 1 dX11_see_5 rfl ?_
  refine wc_callS X 6 [] (c_X11_isWordN l G y (by first | assumption | omega)) ys_X11_isWord rfl q_966 ⟨rfl, rfl⟩ ⟨rfl, rfl⟩ ⟨rfl, rfl⟩ rfl rfl rfl dX11_see_6 ?_
  refine wc_if_eqB X 9 22 dX11_see_9 (by decide) (fun c9_1 => ?_) (fun c9_1 => ?_)
  ·
    refine wc_bipush X 22 (-2) dX11_see_22 (by decide) ?_
    exact ret 24 _ (-2) _ dX11_see_24 (⟨rfl, rfl⟩)
  ·
    refine wc_iload_n X 12 2 dX11_see_12 rfl ?_
    refine wc_i2l X 13 dX11_see_13 ?_
    refine wc_lconst X 14 0 dX11_see_14 (by decide) ?_
    refine wc_lconst X 15 1 dX11_see_15 (by decide) ?_
    refine wc_callS X 16 [] (c_X11_in l G ((k).toInt64) 0 1 ) ys_X11_in rfl q_870 ⟨rfl, rfl⟩ ⟨rfl, rfl⟩ ⟨rfl, rfl⟩ rfl rfl rfl dX11_see_16 ?_
    refine wc_if_neB X 19 25 dX11_see_19 (by decide) (fun c19_2 => ?_) (fun c19_2 => ?_)
    ·
      rcases ho with ho | ho
      · exact absurd c9_1 (by rw [ho]; decide)
      · exact absurd c19_2 (by rw [inL_out rfl rfl ho]; decide)
    ·
      refine wc_bipush X 22 (-2) dX11_see_22 (by decide) ?_
      exact ret 24 _ (-2) _ dX11_see_24 (⟨rfl, rfl⟩)

set_option maxHeartbeats 4000000 in
set_option maxRecDepth 100000 in
theorem c_X11_seeG (l : Launch) (G : GG) (o : Nat) (th : Int32) (qtx ts pl qrp qpg qtr qbk dn qkp qik sn qsw qsi : Nat) (sd : Int64) (qln qfm qby qwy wz qfo qon qmn qpr qle qst qwt rc tk ps gn : Nat) (bd : Int32) (qwo : Nat) (y k : Int32) (hy : y < 0) : MM l G yX11_see (Cond.code yX11_see cX11_see 3 (some .int)) { frames := 2, cells := 0, slots := 0, locals := 47 } [.ref o, .int y, .int k] [ob o 11 [.int th, .ref qtx, .int (nI ts), .int (nI pl), .ref qrp, .ref qpg, .ref qtr, .ref qbk, .int (nI dn), .ref qkp, .ref qik, .int (nI sn), .ref qsw, .ref qsi, .long sd, .ref qln, .ref qfm, .ref qby, .ref qwy, .int (nI wz), .ref qfo, .ref qon, .ref qmn, .ref qpr, .ref qle, .ref qst, .ref qwt, .int (nI rc), .int (nI tk), .int (nI ps), .int (nI gn), .int bd, .ref qwo]] (fun (v : Option Value) (w : va_W) => v = some (.int (-2)) ∧ w = [ob o 11 [.int (nI 0), .ref qtx, .int (nI ts), .int (nI pl), .ref qrp, .ref qpg, .ref qtr, .ref qbk, .int (nI dn), .ref qkp, .ref qik, .int (nI sn), .ref qsw, .ref qsi, .long sd, .ref qln, .ref qfm, .ref qby, .ref qwy, .int (nI wz), .ref qfo, .ref qon, .ref qmn, .ref qpr, .ref qle, .ref qst, .ref qwt, .int (nI rc), .int (nI tk), .int (nI ps), .int (nI gn), .int bd, .ref qwo]]) 0 0 := by
  refine MM.ofI (by decide) rfl (fun Γ X Y hnm ret => ?_)
  show Wc Γ 0 0 0 [(0, .ref o), (1, .int y), (2, .int k)] [] [ob o 11 [.int th, .ref qtx, .int (nI ts), .int (nI pl), .ref qrp, .ref qpg, .ref qtr, .ref qbk, .int (nI dn), .ref qkp, .ref qik, .int (nI sn), .ref qsw, .ref qsi, .long sd, .ref qln, .ref qfm, .ref qby, .ref qwy, .int (nI wz), .ref qfo, .ref qon, .ref qmn, .ref qpr, .ref qle, .ref qst, .ref qwt, .int (nI rc), .int (nI tk), .int (nI ps), .int (nI gn), .int bd, .ref qwo]]
  refine wc_aload_n X 0 0 dX11_see_0 rfl ?_
  refine wc_iconstN X 1 0 dX11_see_1 ?_
  refine wc_put X Y 2 0 0 kd11 rfl (by decide) q_765 rfl rfl rfl (Nat.le_of_ble_eq_true rfl) (ws' := [ob o 11 [.int (nI 0), .ref qtx, .int (nI ts), .int (nI pl), .ref qrp, .ref qpg, .ref qtr, .ref qbk, .int (nI dn), .ref qkp, .ref qik, .int (nI sn), .ref qsw, .ref qsi, .long sd, .ref qln, .ref qfm, .ref qby, .ref qwy, .int (nI wz), .ref qfo, .ref qon, .ref qmn, .ref qpr, .ref qle, .ref qst, .ref qwt, .int (nI rc), .int (nI tk), .int (nI ps), .int (nI gn), .int bd, .ref qwo]]) rfl dX11_see_2 ?_
  refine wc_iload_n X 5 1 dX11_see_5 rfl ?_
  refine wc_callS X 6 [] (c_X11_isWordF l G y hy) ys_X11_isWord rfl q_966 ⟨rfl, rfl⟩ ⟨rfl, rfl⟩ ⟨rfl, rfl⟩ rfl rfl rfl dX11_see_6 ?_
  refine wc_if_eqB X 9 22 dX11_see_9 (by decide) (fun c9_1 => ?_) (fun c9_1 => ?_)
  ·
    refine wc_bipush X 22 (-2) dX11_see_22 (by decide) ?_
    exact ret 24 _ (-2) _ dX11_see_24 (⟨rfl, rfl⟩)
  ·
    exact absurd c9_1 (by decide)

set_option maxHeartbeats 4000000 in
set_option maxRecDepth 100000 in
theorem c_X11_seeU (l : Launch) (G : GG) (o : Nat) (th : Int32) (qtx ts pl qrp qpg qtr qbk dn qkp qik sn qsw qsi : Nat) (sd : Int64) (qln qfm qby qwy wz qfo qon qmn qpr qle qst qwt rc tk ps gn : Nat) (bd : Int32) (qwo : Nat) (y k : Nat) (hy : y < 2147483648) (hw : wordOk y = true) (hk : k ≤ 1) (hs : sn = 6) : MM l G yX11_see (Cond.code yX11_see cX11_see 3 (some .int)) { frames := 2, cells := 0, slots := 0, locals := 47 } [.ref o, .int (nI y), .int (nI k)] [ob o 11 [.int th, .ref qtx, .int (nI ts), .int (nI pl), .ref qrp, .ref qpg, .ref qtr, .ref qbk, .int (nI dn), .ref qkp, .ref qik, .int (nI sn), .ref qsw, .ref qsi, .long sd, .ref qln, .ref qfm, .ref qby, .ref qwy, .int (nI wz), .ref qfo, .ref qon, .ref qmn, .ref qpr, .ref qle, .ref qst, .ref qwt, .int (nI rc), .int (nI tk), .int (nI ps), .int (nI gn), .int bd, .ref qwo]] (fun (v : Option Value) (w : va_W) => v = some (.int (-4)) ∧ w = [ob o 11 [.int (nI 0), .ref qtx, .int (nI ts), .int (nI pl), .ref qrp, .ref qpg, .ref qtr, .ref qbk, .int (nI dn), .ref qkp, .ref qik, .int (nI sn), .ref qsw, .ref qsi, .long sd, .ref qln, .ref qfm, .ref qby, .ref qwy, .int (nI wz), .ref qfo, .ref qon, .ref qmn, .ref qpr, .ref qle, .ref qst, .ref qwt, .int (nI rc), .int (nI tk), .int (nI ps), .int (nI gn), .int bd, .ref qwo]]) 0 0 := by
  refine MM.ofI (by decide) rfl (fun Γ X Y hnm ret => ?_)
  show Wc Γ 0 0 0 [(0, .ref o), (1, .int (nI y)), (2, .int (nI k))] [] [ob o 11 [.int th, .ref qtx, .int (nI ts), .int (nI pl), .ref qrp, .ref qpg, .ref qtr, .ref qbk, .int (nI dn), .ref qkp, .ref qik, .int (nI sn), .ref qsw, .ref qsi, .long sd, .ref qln, .ref qfm, .ref qby, .ref qwy, .int (nI wz), .ref qfo, .ref qon, .ref qmn, .ref qpr, .ref qle, .ref qst, .ref qwt, .int (nI rc), .int (nI tk), .int (nI ps), .int (nI gn), .int bd, .ref qwo]]
  refine wc_aload_n X 0 0 dX11_see_0 rfl ?_
  refine wc_iconstN X 1 0 dX11_see_1 ?_
  refine wc_put X Y 2 0 0 kd11 rfl (by decide) q_765 rfl rfl rfl (Nat.le_of_ble_eq_true rfl) (ws' := [ob o 11 [.int (nI 0), .ref qtx, .int (nI ts), .int (nI pl), .ref qrp, .ref qpg, .ref qtr, .ref qbk, .int (nI dn), .ref qkp, .ref qik, .int (nI sn), .ref qsw, .ref qsi, .long sd, .ref qln, .ref qfm, .ref qby, .ref qwy, .int (nI wz), .ref qfo, .ref qon, .ref qmn, .ref qpr, .ref qle, .ref qst, .ref qwt, .int (nI rc), .int (nI tk), .int (nI ps), .int (nI gn), .int bd, .ref qwo]]) rfl dX11_see_2 ?_
  refine wc_iload_n X 5 1 dX11_see_5 rfl ?_
  refine wc_callS X 6 [] (c_X11_isWordN l G y (by first | assumption | omega)) ys_X11_isWord rfl q_966 ⟨rfl, rfl⟩ ⟨rfl, rfl⟩ ⟨rfl, rfl⟩ rfl rfl rfl dX11_see_6 ?_
  refine wc_topi (b2i true) (congrArg b2i hw) ?_
  refine wc_if_eqB X 9 22 dX11_see_9 (by decide) (fun c9_1 => ?_) (fun c9_1 => ?_)
  ·
    exact absurd c9_1 (by decide)
  ·
    refine wc_iload_n X 12 2 dX11_see_12 rfl ?_
    refine wc_i2l X 13 dX11_see_13 ?_
    refine wc_lconst X 14 0 dX11_see_14 (by decide) ?_
    refine wc_lconst X 15 1 dX11_see_15 (by decide) ?_
    refine wc_callS X 16 [] (c_X11_in l G ((nI k).toInt64) 0 1 ) ys_X11_in rfl q_870 ⟨rfl, rfl⟩ ⟨rfl, rfl⟩ ⟨rfl, rfl⟩ rfl rfl rfl dX11_see_16 ?_
    refine wc_topi (b2i true) (congrArg b2i (inL_in (a := 0) (b := 1) rfl rfl (by omega) (by omega) (by omega))) ?_
    refine wc_if_neB X 19 25 dX11_see_19 (by decide) (fun c19_2 => ?_) (fun c19_2 => ?_)
    ·
      refine wc_aload_n X 25 0 dX11_see_25 rfl ?_
      refine wc_get X 26 0 11 kd11 rfl (by decide) q_776 rfl dX11_see_26 ?_
      refine wc_bipush X 29 (nI 6) dX11_see_29 (by decide) ?_
      refine wc_icmp_neN X 31 37 dX11_see_31 (by decide) (by omega) (by decide) (fun c31_3 => ?_) (fun c31_3 => ?_)
      ·
        exact absurd c31_3 (by omega)
      ·
        refine wc_bipush X 34 (-4) dX11_see_34 (by decide) ?_
        exact ret 36 _ (-4) _ dX11_see_36 (⟨rfl, rfl⟩)
    ·
      exact absurd c19_2 (by decide)

set_option maxHeartbeats 4000000 in
set_option maxRecDepth 100000 in
theorem c_X11_seeS (l : Launch) (G : GG) (o : Nat) (th : Int32) (qtx ts pl qrp qpg qtr qbk dn qkp qik sn qsw qsi : Nat) (sd : Int64) (qln qfm qby qwy wz qfo qon qmn qpr qle qst qwt rc tk ps gn : Nat) (bd : Int32) (qwo : Nat) (sw si : Nat → Nat) (y k : Nat) (hy : y < 2147483648) (hw : wordOk y = true) (hk : k ≤ 1) (hs : sn < 6) : MM l G yX11_see (Cond.code yX11_see cX11_see 3 (some .int)) { frames := 2, cells := 0, slots := 0, locals := 47 } [.ref o, .int (nI y), .int (nI k)] [ob o 11 [.int th, .ref qtx, .int (nI ts), .int (nI pl), .ref qrp, .ref qpg, .ref qtr, .ref qbk, .int (nI dn), .ref qkp, .ref qik, .int (nI sn), .ref qsw, .ref qsi, .long sd, .ref qln, .ref qfm, .ref qby, .ref qwy, .int (nI wz), .ref qfo, .ref qon, .ref qmn, .ref qpr, .ref qle, .ref qst, .ref qwt, .int (nI rc), .int (nI tk), .int (nI ps), .int (nI gn), .int bd, .ref qwo], aI G qsw 6 (nF sw), aI G qsi 6 (nF si)] (fun (v : Option Value) (w : va_W) => v = some (.int (nI (sn + 1))) ∧ w = [ob o 11 [.int (nI 0), .ref qtx, .int (nI ts), .int (nI pl), .ref qrp, .ref qpg, .ref qtr, .ref qbk, .int (nI dn), .ref qkp, .ref qik, .int (nI (sn + 1)), .ref qsw, .ref qsi, .long sd, .ref qln, .ref qfm, .ref qby, .ref qwy, .int (nI wz), .ref qfo, .ref qon, .ref qmn, .ref qpr, .ref qle, .ref qst, .ref qwt, .int (nI rc), .int (nI tk), .int (nI ps), .int (nI gn), .int bd, .ref qwo], aI G qsw 6 (nF (up sw sn y)), aI G qsi 6 (nF (up si sn k))]) 0 0 := by
  refine MM.ofI (by decide) rfl (fun Γ X Y hnm ret => ?_)
  show Wc Γ 0 0 0 [(0, .ref o), (1, .int (nI y)), (2, .int (nI k))] [] [ob o 11 [.int th, .ref qtx, .int (nI ts), .int (nI pl), .ref qrp, .ref qpg, .ref qtr, .ref qbk, .int (nI dn), .ref qkp, .ref qik, .int (nI sn), .ref qsw, .ref qsi, .long sd, .ref qln, .ref qfm, .ref qby, .ref qwy, .int (nI wz), .ref qfo, .ref qon, .ref qmn, .ref qpr, .ref qle, .ref qst, .ref qwt, .int (nI rc), .int (nI tk), .int (nI ps), .int (nI gn), .int bd, .ref qwo], aI G qsw 6 (nF sw), aI G qsi 6 (nF si)]
  refine wc_aload_n X 0 0 dX11_see_0 rfl ?_
  refine wc_iconstN X 1 0 dX11_see_1 ?_
  refine wc_put X Y 2 0 0 kd11 rfl (by decide) q_765 rfl rfl rfl (Nat.le_of_ble_eq_true rfl) (ws' := [ob o 11 [.int (nI 0), .ref qtx, .int (nI ts), .int (nI pl), .ref qrp, .ref qpg, .ref qtr, .ref qbk, .int (nI dn), .ref qkp, .ref qik, .int (nI sn), .ref qsw, .ref qsi, .long sd, .ref qln, .ref qfm, .ref qby, .ref qwy, .int (nI wz), .ref qfo, .ref qon, .ref qmn, .ref qpr, .ref qle, .ref qst, .ref qwt, .int (nI rc), .int (nI tk), .int (nI ps), .int (nI gn), .int bd, .ref qwo], aI G qsw 6 (nF sw), aI G qsi 6 (nF si)]) rfl dX11_see_2 ?_
  refine wc_iload_n X 5 1 dX11_see_5 rfl ?_
  refine wc_callS X 6 [] (c_X11_isWordN l G y (by first | assumption | omega)) ys_X11_isWord rfl q_966 ⟨rfl, rfl⟩ ⟨rfl, rfl⟩ ⟨rfl, rfl⟩ rfl rfl rfl dX11_see_6 ?_
  refine wc_topi (b2i true) (congrArg b2i hw) ?_
  refine wc_if_eqB X 9 22 dX11_see_9 (by decide) (fun c9_1 => ?_) (fun c9_1 => ?_)
  ·
    exact absurd c9_1 (by decide)
  ·
    refine wc_iload_n X 12 2 dX11_see_12 rfl ?_
    refine wc_i2l X 13 dX11_see_13 ?_
    refine wc_lconst X 14 0 dX11_see_14 (by decide) ?_
    refine wc_lconst X 15 1 dX11_see_15 (by decide) ?_
    refine wc_callS X 16 [] (c_X11_in l G ((nI k).toInt64) 0 1 ) ys_X11_in rfl q_870 ⟨rfl, rfl⟩ ⟨rfl, rfl⟩ ⟨rfl, rfl⟩ rfl rfl rfl dX11_see_16 ?_
    refine wc_topi (b2i true) (congrArg b2i (inL_in (a := 0) (b := 1) rfl rfl (by omega) (by omega) (by omega))) ?_
    refine wc_if_neB X 19 25 dX11_see_19 (by decide) (fun c19_2 => ?_) (fun c19_2 => ?_)
    ·
      refine wc_aload_n X 25 0 dX11_see_25 rfl ?_
      refine wc_get X 26 0 11 kd11 rfl (by decide) q_776 rfl dX11_see_26 ?_
      refine wc_bipush X 29 (nI 6) dX11_see_29 (by decide) ?_
      refine wc_icmp_neN X 31 37 dX11_see_31 (by decide) (by omega) (by decide) (fun c31_3 => ?_) (fun c31_3 => ?_)
      ·
        refine wc_aload_n X 37 0 dX11_see_37 rfl ?_
        refine wc_get X 38 0 12 kd11 rfl (by decide) q_777 rfl dX11_see_38 ?_
        refine wc_aload_n X 41 0 dX11_see_41 rfl ?_
        refine wc_get X 42 0 11 kd11 rfl (by decide) q_776 rfl dX11_see_42 ?_
        refine wc_iload_n X 45 1 dX11_see_45 rfl ?_
        refine wc_iastG X Y 46 1 rfl (by omega) (by decide) (ws' := [ob o 11 [.int (nI 0), .ref qtx, .int (nI ts), .int (nI pl), .ref qrp, .ref qpg, .ref qtr, .ref qbk, .int (nI dn), .ref qkp, .ref qik, .int (nI sn), .ref qsw, .ref qsi, .long sd, .ref qln, .ref qfm, .ref qby, .ref qwy, .int (nI wz), .ref qfo, .ref qon, .ref qmn, .ref qpr, .ref qle, .ref qst, .ref qwt, .int (nI rc), .int (nI tk), .int (nI ps), .int (nI gn), .int bd, .ref qwo], aI G qsw 6 (nF (up sw sn y)), aI G qsi 6 (nF si)]) rfl dX11_see_46 ?_
        refine wc_aload_n X 47 0 dX11_see_47 rfl ?_
        refine wc_get X 48 0 13 kd11 rfl (by decide) q_778 rfl dX11_see_48 ?_
        refine wc_aload_n X 51 0 dX11_see_51 rfl ?_
        refine wc_get X 52 0 11 kd11 rfl (by decide) q_776 rfl dX11_see_52 ?_
        refine wc_iload_n X 55 2 dX11_see_55 rfl ?_
        refine wc_iastG X Y 56 2 rfl (by omega) (by decide) (ws' := [ob o 11 [.int (nI 0), .ref qtx, .int (nI ts), .int (nI pl), .ref qrp, .ref qpg, .ref qtr, .ref qbk, .int (nI dn), .ref qkp, .ref qik, .int (nI sn), .ref qsw, .ref qsi, .long sd, .ref qln, .ref qfm, .ref qby, .ref qwy, .int (nI wz), .ref qfo, .ref qon, .ref qmn, .ref qpr, .ref qle, .ref qst, .ref qwt, .int (nI rc), .int (nI tk), .int (nI ps), .int (nI gn), .int bd, .ref qwo], aI G qsw 6 (nF (up sw sn y)), aI G qsi 6 (nF (up si sn k))]) rfl dX11_see_56 ?_
        refine wc_aload_n X 57 0 dX11_see_57 rfl ?_
        refine wc_dup X 58 dX11_see_58 rfl ?_
        refine wc_get X 59 0 11 kd11 rfl (by decide) q_776 rfl dX11_see_59 ?_
        refine wc_iconstN X 62 1 dX11_see_62 ?_
        refine wc_iaddN X 63 dX11_see_63 ?_
        refine wc_put X Y 64 0 11 kd11 rfl (by decide) q_776 rfl rfl rfl (Nat.le_of_ble_eq_true rfl) (ws' := [ob o 11 [.int (nI 0), .ref qtx, .int (nI ts), .int (nI pl), .ref qrp, .ref qpg, .ref qtr, .ref qbk, .int (nI dn), .ref qkp, .ref qik, .int (nI (sn + 1)), .ref qsw, .ref qsi, .long sd, .ref qln, .ref qfm, .ref qby, .ref qwy, .int (nI wz), .ref qfo, .ref qon, .ref qmn, .ref qpr, .ref qle, .ref qst, .ref qwt, .int (nI rc), .int (nI tk), .int (nI ps), .int (nI gn), .int bd, .ref qwo], aI G qsw 6 (nF (up sw sn y)), aI G qsi 6 (nF (up si sn k))]) rfl dX11_see_64 ?_
        refine wc_aload_n X 67 0 dX11_see_67 rfl ?_
        refine wc_get X 68 0 11 kd11 rfl (by decide) q_776 rfl dX11_see_68 ?_
        exact ret 71 _ (nI (sn + 1)) _ dX11_see_71 (⟨rfl, rfl⟩)
      ·
        exact absurd c31_3 (by omega)
    ·
      exact absurd c19_2 (by decide)

set_option maxHeartbeats 4000000 in
set_option maxRecDepth 100000 in
theorem c_X11_unsee (l : Launch) (G : GG) (o : Nat) (th : Int32) (qtx ts pl qrp qpg qtr qbk dn qkp qik sn qsw qsi : Nat) (sd : Int64) (qln qfm qby qwy wz qfo qon qmn qpr qle qst qwt rc tk ps gn : Nat) (bd : Int32) (qwo : Nat)  : MM l G yX11_unsee (Cond.code yX11_unsee cX11_unsee 2 (some .int)) { frames := 0, cells := 0, slots := 0, locals := 0 } [.ref o] [ob o 11 [.int th, .ref qtx, .int (nI ts), .int (nI pl), .ref qrp, .ref qpg, .ref qtr, .ref qbk, .int (nI dn), .ref qkp, .ref qik, .int (nI sn), .ref qsw, .ref qsi, .long sd, .ref qln, .ref qfm, .ref qby, .ref qwy, .int (nI wz), .ref qfo, .ref qon, .ref qmn, .ref qpr, .ref qle, .ref qst, .ref qwt, .int (nI rc), .int (nI tk), .int (nI ps), .int (nI gn), .int bd, .ref qwo]] (fun (v : Option Value) (w : va_W) => v = some (.int (nI sn)) ∧ w = [ob o 11 [.int (nI 0), .ref qtx, .int (nI ts), .int (nI pl), .ref qrp, .ref qpg, .ref qtr, .ref qbk, .int (nI dn), .ref qkp, .ref qik, .int (nI 0), .ref qsw, .ref qsi, .long sd, .ref qln, .ref qfm, .ref qby, .ref qwy, .int (nI wz), .ref qfo, .ref qon, .ref qmn, .ref qpr, .ref qle, .ref qst, .ref qwt, .int (nI rc), .int (nI tk), .int (nI ps), .int (nI gn), .int bd, .ref qwo]]) 0 0 := by
  refine MM.ofI (by decide) rfl (fun Γ X Y hnm ret => ?_)
  show Wc Γ 0 0 0 [(0, .ref o)] [] [ob o 11 [.int th, .ref qtx, .int (nI ts), .int (nI pl), .ref qrp, .ref qpg, .ref qtr, .ref qbk, .int (nI dn), .ref qkp, .ref qik, .int (nI sn), .ref qsw, .ref qsi, .long sd, .ref qln, .ref qfm, .ref qby, .ref qwy, .int (nI wz), .ref qfo, .ref qon, .ref qmn, .ref qpr, .ref qle, .ref qst, .ref qwt, .int (nI rc), .int (nI tk), .int (nI ps), .int (nI gn), .int bd, .ref qwo]]
  refine wc_aload_n X 0 0 dX11_unsee_0 rfl ?_
  refine wc_iconstN X 1 0 dX11_unsee_1 ?_
  refine wc_put X Y 2 0 0 kd11 rfl (by decide) q_765 rfl rfl rfl (Nat.le_of_ble_eq_true rfl) (ws' := [ob o 11 [.int (nI 0), .ref qtx, .int (nI ts), .int (nI pl), .ref qrp, .ref qpg, .ref qtr, .ref qbk, .int (nI dn), .ref qkp, .ref qik, .int (nI sn), .ref qsw, .ref qsi, .long sd, .ref qln, .ref qfm, .ref qby, .ref qwy, .int (nI wz), .ref qfo, .ref qon, .ref qmn, .ref qpr, .ref qle, .ref qst, .ref qwt, .int (nI rc), .int (nI tk), .int (nI ps), .int (nI gn), .int bd, .ref qwo]]) rfl dX11_unsee_2 ?_
  refine wc_aload_n X 5 0 dX11_unsee_5 rfl ?_
  refine wc_get X 6 0 11 kd11 rfl (by decide) q_776 rfl dX11_unsee_6 ?_
  refine wc_istore_n X 9 (L' := [(0, .ref o), (1, .int (nI sn))]) dX11_unsee_9 (by decide) rfl ?_
  refine wc_aload_n X 10 0 dX11_unsee_10 rfl ?_
  refine wc_iconstN X 11 0 dX11_unsee_11 ?_
  refine wc_put X Y 12 0 11 kd11 rfl (by decide) q_776 rfl rfl rfl (Nat.le_of_ble_eq_true rfl) (ws' := [ob o 11 [.int (nI 0), .ref qtx, .int (nI ts), .int (nI pl), .ref qrp, .ref qpg, .ref qtr, .ref qbk, .int (nI dn), .ref qkp, .ref qik, .int (nI 0), .ref qsw, .ref qsi, .long sd, .ref qln, .ref qfm, .ref qby, .ref qwy, .int (nI wz), .ref qfo, .ref qon, .ref qmn, .ref qpr, .ref qle, .ref qst, .ref qwt, .int (nI rc), .int (nI tk), .int (nI ps), .int (nI gn), .int bd, .ref qwo]]) rfl dX11_unsee_12 ?_
  refine wc_iload_n X 15 1 dX11_unsee_15 rfl ?_
  exact ret 16 _ (nI sn) _ dX11_unsee_16 (⟨rfl, rfl⟩)

set_option maxHeartbeats 4000000 in
set_option maxRecDepth 100000 in
theorem c_X11_seed (l : Launch) (G : GG) (o : Nat) (th : Int32) (qtx ts pl qrp qpg qtr qbk dn qkp qik sn qsw qsi : Nat) (sd : Int64) (qln qfm qby qwy wz qfo qon qmn qpr qle qst qwt rc tk ps gn : Nat) (bd : Int32) (qwo : Nat) (u : Int64)  : MM l G yX11_seed (Cond.code yX11_seed cX11_seed 5 (some .long)) { frames := 0, cells := 0, slots := 0, locals := 0 } [.ref o, .long u] [ob o 11 [.int th, .ref qtx, .int (nI ts), .int (nI pl), .ref qrp, .ref qpg, .ref qtr, .ref qbk, .int (nI dn), .ref qkp, .ref qik, .int (nI sn), .ref qsw, .ref qsi, .long sd, .ref qln, .ref qfm, .ref qby, .ref qwy, .int (nI wz), .ref qfo, .ref qon, .ref qmn, .ref qpr, .ref qle, .ref qst, .ref qwt, .int (nI rc), .int (nI tk), .int (nI ps), .int (nI gn), .int bd, .ref qwo]] (fun (v : Option Value) (w : va_W) => v = some (.long sd) ∧ w = [ob o 11 [.int (nI 0), .ref qtx, .int (nI ts), .int (nI pl), .ref qrp, .ref qpg, .ref qtr, .ref qbk, .int (nI dn), .ref qkp, .ref qik, .int (nI sn), .ref qsw, .ref qsi, .long u, .ref qln, .ref qfm, .ref qby, .ref qwy, .int (nI wz), .ref qfo, .ref qon, .ref qmn, .ref qpr, .ref qle, .ref qst, .ref qwt, .int (nI rc), .int (nI tk), .int (nI ps), .int (nI gn), .int bd, .ref qwo]]) 0 0 := by
  refine MM.ofL (by decide) rfl (fun Γ X Y hnm ret => ?_)
  show Wc Γ 0 0 0 [(0, .ref o), (1, .long u)] [] [ob o 11 [.int th, .ref qtx, .int (nI ts), .int (nI pl), .ref qrp, .ref qpg, .ref qtr, .ref qbk, .int (nI dn), .ref qkp, .ref qik, .int (nI sn), .ref qsw, .ref qsi, .long sd, .ref qln, .ref qfm, .ref qby, .ref qwy, .int (nI wz), .ref qfo, .ref qon, .ref qmn, .ref qpr, .ref qle, .ref qst, .ref qwt, .int (nI rc), .int (nI tk), .int (nI ps), .int (nI gn), .int bd, .ref qwo]]
  refine wc_aload_n X 0 0 dX11_seed_0 rfl ?_
  refine wc_iconstN X 1 0 dX11_seed_1 ?_
  refine wc_put X Y 2 0 0 kd11 rfl (by decide) q_765 rfl rfl rfl (Nat.le_of_ble_eq_true rfl) (ws' := [ob o 11 [.int (nI 0), .ref qtx, .int (nI ts), .int (nI pl), .ref qrp, .ref qpg, .ref qtr, .ref qbk, .int (nI dn), .ref qkp, .ref qik, .int (nI sn), .ref qsw, .ref qsi, .long sd, .ref qln, .ref qfm, .ref qby, .ref qwy, .int (nI wz), .ref qfo, .ref qon, .ref qmn, .ref qpr, .ref qle, .ref qst, .ref qwt, .int (nI rc), .int (nI tk), .int (nI ps), .int (nI gn), .int bd, .ref qwo]]) rfl dX11_seed_2 ?_
  refine wc_aload_n X 5 0 dX11_seed_5 rfl ?_
  refine wc_get X 6 0 14 kd11 rfl (by decide) q_779 rfl dX11_seed_6 ?_
  refine wc_lstore_n X 9 (L' := [(0, .ref o), (1, .long u), (3, .long sd)]) dX11_seed_9 (by decide) rfl ?_
  refine wc_aload_n X 10 0 dX11_seed_10 rfl ?_
  refine wc_lload_n X 11 1 dX11_seed_11 rfl ?_
  refine wc_put X Y 12 0 14 kd11 rfl (by decide) q_779 rfl rfl rfl (Nat.le_of_ble_eq_true rfl) (ws' := [ob o 11 [.int (nI 0), .ref qtx, .int (nI ts), .int (nI pl), .ref qrp, .ref qpg, .ref qtr, .ref qbk, .int (nI dn), .ref qkp, .ref qik, .int (nI sn), .ref qsw, .ref qsi, .long u, .ref qln, .ref qfm, .ref qby, .ref qwy, .int (nI wz), .ref qfo, .ref qon, .ref qmn, .ref qpr, .ref qle, .ref qst, .ref qwt, .int (nI rc), .int (nI tk), .int (nI ps), .int (nI gn), .int bd, .ref qwo]]) rfl dX11_seed_12 ?_
  refine wc_lload_n X 15 2 dX11_seed_15 rfl ?_
  exact ret 16 _ sd _ dX11_seed_16 (⟨rfl, rfl⟩)

set_option maxHeartbeats 4000000 in
set_option maxRecDepth 100000 in
theorem c_X11_countF (l : Launch) (G : GG) (o : Nat) (th : Int32) (qtx ts pl qrp qpg qtr qbk dn qkp qik sn qsw qsi : Nat) (sd : Int64) (qln qfm qby qwy wz qfo qon qmn qpr qle qst qwt rc tk ps gn : Nat) (bd : Int32) (qwo : Nat) (k : Int32) (ho : outR k 0 8) : MM l G yX11_count (Cond.code yX11_count cX11_count 2 (some .int)) { frames := 0, cells := 0, slots := 0, locals := 0 } [.ref o, .int k] [ob o 11 [.int th, .ref qtx, .int (nI ts), .int (nI pl), .ref qrp, .ref qpg, .ref qtr, .ref qbk, .int (nI dn), .ref qkp, .ref qik, .int (nI sn), .ref qsw, .ref qsi, .long sd, .ref qln, .ref qfm, .ref qby, .ref qwy, .int (nI wz), .ref qfo, .ref qon, .ref qmn, .ref qpr, .ref qle, .ref qst, .ref qwt, .int (nI rc), .int (nI tk), .int (nI ps), .int (nI gn), .int bd, .ref qwo]] (fun (v : Option Value) (w : va_W) => v = some (.int (-2)) ∧ w = [ob o 11 [.int (nI 0), .ref qtx, .int (nI ts), .int (nI pl), .ref qrp, .ref qpg, .ref qtr, .ref qbk, .int (nI dn), .ref qkp, .ref qik, .int (nI sn), .ref qsw, .ref qsi, .long sd, .ref qln, .ref qfm, .ref qby, .ref qwy, .int (nI wz), .ref qfo, .ref qon, .ref qmn, .ref qpr, .ref qle, .ref qst, .ref qwt, .int (nI rc), .int (nI tk), .int (nI ps), .int (nI gn), .int bd, .ref qwo]]) 0 0 := by
  refine MM.ofI (by decide) rfl (fun Γ X Y hnm ret => ?_)
  show Wc Γ 0 0 0 [(0, .ref o), (1, .int k)] [] [ob o 11 [.int th, .ref qtx, .int (nI ts), .int (nI pl), .ref qrp, .ref qpg, .ref qtr, .ref qbk, .int (nI dn), .ref qkp, .ref qik, .int (nI sn), .ref qsw, .ref qsi, .long sd, .ref qln, .ref qfm, .ref qby, .ref qwy, .int (nI wz), .ref qfo, .ref qon, .ref qmn, .ref qpr, .ref qle, .ref qst, .ref qwt, .int (nI rc), .int (nI tk), .int (nI ps), .int (nI gn), .int bd, .ref qwo]]
  refine wc_aload_n X 0 0 dX11_count_0 rfl ?_
  refine wc_iconstN X 1 0 dX11_count_1 ?_
  refine wc_put X Y 2 0 0 kd11 rfl (by decide) q_765 rfl rfl rfl (Nat.le_of_ble_eq_true rfl) (ws' := [ob o 11 [.int (nI 0), .ref qtx, .int (nI ts), .int (nI pl), .ref qrp, .ref qpg, .ref qtr, .ref qbk, .int (nI dn), .ref qkp, .ref qik, .int (nI sn), .ref qsw, .ref qsi, .long sd, .ref qln, .ref qfm, .ref qby, .ref qwy, .int (nI wz), .ref qfo, .ref qon, .ref qmn, .ref qpr, .ref qle, .ref qst, .ref qwt, .int (nI rc), .int (nI tk), .int (nI ps), .int (nI gn), .int bd, .ref qwo]]) rfl dX11_count_2 ?_
  refine wc_iload_n X 5 1 dX11_count_5 rfl ?_
  refine wc_tsO X 6 102 dX11_count_6 (out_sw ho) (by decide) ?_
  refine wc_bipush X 102 (-2) dX11_count_102 (by decide) ?_
  exact ret 104 _ (-2) _ dX11_count_104 (⟨rfl, rfl⟩)

set_option maxHeartbeats 4000000 in
set_option maxRecDepth 100000 in
theorem c_X11_count0 (l : Launch) (G : GG) (o : Nat) (th : Int32) (qtx ts pl qrp qpg qtr qbk dn qkp qik sn qsw qsi : Nat) (sd : Int64) (qln qfm qby qwy wz qfo qon qmn qpr qle qst qwt rc tk ps gn : Nat) (bd : Int32) (qwo : Nat) (p : Nat → Nat) (hr : pgOk p) : MM l G yX11_count (Cond.code yX11_count cX11_count 2 (some .int)) { frames := 0, cells := 0, slots := 0, locals := 0 } [.ref o, .int (nI 0)] [ob o 11 [.int th, .ref qtx, .int (nI ts), .int (nI pl), .ref qrp, .ref qpg, .ref qtr, .ref qbk, .int (nI dn), .ref qkp, .ref qik, .int (nI sn), .ref qsw, .ref qsi, .long sd, .ref qln, .ref qfm, .ref qby, .ref qwy, .int (nI wz), .ref qfo, .ref qon, .ref qmn, .ref qpr, .ref qle, .ref qst, .ref qwt, .int (nI rc), .int (nI tk), .int (nI ps), .int (nI gn), .int bd, .ref qwo], aI G qpg 22 (nF p)] (fun (v : Option Value) (w : va_W) => v = some (.int (nI ts)) ∧ w = [ob o 11 [.int (nI 0), .ref qtx, .int (nI ts), .int (nI pl), .ref qrp, .ref qpg, .ref qtr, .ref qbk, .int (nI dn), .ref qkp, .ref qik, .int (nI sn), .ref qsw, .ref qsi, .long sd, .ref qln, .ref qfm, .ref qby, .ref qwy, .int (nI wz), .ref qfo, .ref qon, .ref qmn, .ref qpr, .ref qle, .ref qst, .ref qwt, .int (nI rc), .int (nI tk), .int (nI ps), .int (nI gn), .int bd, .ref qwo], aI G qpg 22 (nF p)]) 0 0 := by
  refine MM.ofI (by decide) rfl (fun Γ X Y hnm ret => ?_)
  show Wc Γ 0 0 0 [(0, .ref o), (1, .int (nI 0))] [] [ob o 11 [.int th, .ref qtx, .int (nI ts), .int (nI pl), .ref qrp, .ref qpg, .ref qtr, .ref qbk, .int (nI dn), .ref qkp, .ref qik, .int (nI sn), .ref qsw, .ref qsi, .long sd, .ref qln, .ref qfm, .ref qby, .ref qwy, .int (nI wz), .ref qfo, .ref qon, .ref qmn, .ref qpr, .ref qle, .ref qst, .ref qwt, .int (nI rc), .int (nI tk), .int (nI ps), .int (nI gn), .int bd, .ref qwo], aI G qpg 22 (nF p)]
  refine wc_aload_n X 0 0 dX11_count_0 rfl ?_
  refine wc_iconstN X 1 0 dX11_count_1 ?_
  refine wc_put X Y 2 0 0 kd11 rfl (by decide) q_765 rfl rfl rfl (Nat.le_of_ble_eq_true rfl) (ws' := [ob o 11 [.int (nI 0), .ref qtx, .int (nI ts), .int (nI pl), .ref qrp, .ref qpg, .ref qtr, .ref qbk, .int (nI dn), .ref qkp, .ref qik, .int (nI sn), .ref qsw, .ref qsi, .long sd, .ref qln, .ref qfm, .ref qby, .ref qwy, .int (nI wz), .ref qfo, .ref qon, .ref qmn, .ref qpr, .ref qle, .ref qst, .ref qwt, .int (nI rc), .int (nI tk), .int (nI ps), .int (nI gn), .int bd, .ref qwo], aI G qpg 22 (nF p)]) rfl dX11_count_2 ?_
  refine wc_iload_n X 5 1 dX11_count_5 rfl ?_
  refine wc_tsI X 6 56 0 (nI 0) (off := 50) dX11_count_6 rfl (by decide) (by decide) (by decide) (by decide) ?_
  refine wc_aload_n X 56 0 dX11_count_56 rfl ?_
  refine wc_get X 57 0 2 kd11 rfl (by decide) q_767 rfl dX11_count_57 ?_
  exact ret 60 _ (nI ts) _ dX11_count_60 (⟨rfl, rfl⟩)

set_option maxHeartbeats 4000000 in
set_option maxRecDepth 100000 in
theorem c_X11_count1 (l : Launch) (G : GG) (o : Nat) (th : Int32) (qtx ts pl qrp qpg qtr qbk dn qkp qik sn qsw qsi : Nat) (sd : Int64) (qln qfm qby qwy wz qfo qon qmn qpr qle qst qwt rc tk ps gn : Nat) (bd : Int32) (qwo : Nat) (p : Nat → Nat) (hr : pgOk p) : MM l G yX11_count (Cond.code yX11_count cX11_count 2 (some .int)) { frames := 0, cells := 0, slots := 0, locals := 0 } [.ref o, .int (nI 1)] [ob o 11 [.int th, .ref qtx, .int (nI ts), .int (nI pl), .ref qrp, .ref qpg, .ref qtr, .ref qbk, .int (nI dn), .ref qkp, .ref qik, .int (nI sn), .ref qsw, .ref qsi, .long sd, .ref qln, .ref qfm, .ref qby, .ref qwy, .int (nI wz), .ref qfo, .ref qon, .ref qmn, .ref qpr, .ref qle, .ref qst, .ref qwt, .int (nI rc), .int (nI tk), .int (nI ps), .int (nI gn), .int bd, .ref qwo], aI G qpg 22 (nF p)] (fun (v : Option Value) (w : va_W) => v = some (.int (nI (p 0))) ∧ w = [ob o 11 [.int (nI 0), .ref qtx, .int (nI ts), .int (nI pl), .ref qrp, .ref qpg, .ref qtr, .ref qbk, .int (nI dn), .ref qkp, .ref qik, .int (nI sn), .ref qsw, .ref qsi, .long sd, .ref qln, .ref qfm, .ref qby, .ref qwy, .int (nI wz), .ref qfo, .ref qon, .ref qmn, .ref qpr, .ref qle, .ref qst, .ref qwt, .int (nI rc), .int (nI tk), .int (nI ps), .int (nI gn), .int bd, .ref qwo], aI G qpg 22 (nF p)]) 0 0 := by
  refine MM.ofI (by decide) rfl (fun Γ X Y hnm ret => ?_)
  show Wc Γ 0 0 0 [(0, .ref o), (1, .int (nI 1))] [] [ob o 11 [.int th, .ref qtx, .int (nI ts), .int (nI pl), .ref qrp, .ref qpg, .ref qtr, .ref qbk, .int (nI dn), .ref qkp, .ref qik, .int (nI sn), .ref qsw, .ref qsi, .long sd, .ref qln, .ref qfm, .ref qby, .ref qwy, .int (nI wz), .ref qfo, .ref qon, .ref qmn, .ref qpr, .ref qle, .ref qst, .ref qwt, .int (nI rc), .int (nI tk), .int (nI ps), .int (nI gn), .int bd, .ref qwo], aI G qpg 22 (nF p)]
  refine wc_aload_n X 0 0 dX11_count_0 rfl ?_
  refine wc_iconstN X 1 0 dX11_count_1 ?_
  refine wc_put X Y 2 0 0 kd11 rfl (by decide) q_765 rfl rfl rfl (Nat.le_of_ble_eq_true rfl) (ws' := [ob o 11 [.int (nI 0), .ref qtx, .int (nI ts), .int (nI pl), .ref qrp, .ref qpg, .ref qtr, .ref qbk, .int (nI dn), .ref qkp, .ref qik, .int (nI sn), .ref qsw, .ref qsi, .long sd, .ref qln, .ref qfm, .ref qby, .ref qwy, .int (nI wz), .ref qfo, .ref qon, .ref qmn, .ref qpr, .ref qle, .ref qst, .ref qwt, .int (nI rc), .int (nI tk), .int (nI ps), .int (nI gn), .int bd, .ref qwo], aI G qpg 22 (nF p)]) rfl dX11_count_2 ?_
  refine wc_iload_n X 5 1 dX11_count_5 rfl ?_
  refine wc_tsI X 6 61 1 (nI 1) (off := 55) dX11_count_6 rfl (by decide) (by decide) (by decide) (by decide) ?_
  refine wc_aload_n X 61 0 dX11_count_61 rfl ?_
  refine wc_get X 62 0 5 kd11 rfl (by decide) q_770 rfl dX11_count_62 ?_
  refine wc_iload_n X 65 1 dX11_count_65 rfl ?_
  refine wc_iconstN X 66 1 dX11_count_66 ?_
  refine wc_isubN X 67 dX11_count_67 (by decide) ?_
  refine wc_topi (nI 0) (congrArg nI (rfl)) ?_
  refine wc_ialdG X 68 1 rfl (by decide) (by decide) dX11_count_68 ?_
  exact ret 69 _ (nI (p 0)) _ dX11_count_69 (⟨rfl, rfl⟩)

set_option maxHeartbeats 4000000 in
set_option maxRecDepth 100000 in
theorem c_X11_count2 (l : Launch) (G : GG) (o : Nat) (th : Int32) (qtx ts pl qrp qpg qtr qbk dn qkp qik sn qsw qsi : Nat) (sd : Int64) (qln qfm qby qwy wz qfo qon qmn qpr qle qst qwt rc tk ps gn : Nat) (bd : Int32) (qwo : Nat) (p : Nat → Nat) (hr : pgOk p) : MM l G yX11_count (Cond.code yX11_count cX11_count 2 (some .int)) { frames := 0, cells := 0, slots := 0, locals := 0 } [.ref o, .int (nI 2)] [ob o 11 [.int th, .ref qtx, .int (nI ts), .int (nI pl), .ref qrp, .ref qpg, .ref qtr, .ref qbk, .int (nI dn), .ref qkp, .ref qik, .int (nI sn), .ref qsw, .ref qsi, .long sd, .ref qln, .ref qfm, .ref qby, .ref qwy, .int (nI wz), .ref qfo, .ref qon, .ref qmn, .ref qpr, .ref qle, .ref qst, .ref qwt, .int (nI rc), .int (nI tk), .int (nI ps), .int (nI gn), .int bd, .ref qwo], aI G qpg 22 (nF p)] (fun (v : Option Value) (w : va_W) => v = some (.int (nI (p 1))) ∧ w = [ob o 11 [.int (nI 0), .ref qtx, .int (nI ts), .int (nI pl), .ref qrp, .ref qpg, .ref qtr, .ref qbk, .int (nI dn), .ref qkp, .ref qik, .int (nI sn), .ref qsw, .ref qsi, .long sd, .ref qln, .ref qfm, .ref qby, .ref qwy, .int (nI wz), .ref qfo, .ref qon, .ref qmn, .ref qpr, .ref qle, .ref qst, .ref qwt, .int (nI rc), .int (nI tk), .int (nI ps), .int (nI gn), .int bd, .ref qwo], aI G qpg 22 (nF p)]) 0 0 := by
  refine MM.ofI (by decide) rfl (fun Γ X Y hnm ret => ?_)
  show Wc Γ 0 0 0 [(0, .ref o), (1, .int (nI 2))] [] [ob o 11 [.int th, .ref qtx, .int (nI ts), .int (nI pl), .ref qrp, .ref qpg, .ref qtr, .ref qbk, .int (nI dn), .ref qkp, .ref qik, .int (nI sn), .ref qsw, .ref qsi, .long sd, .ref qln, .ref qfm, .ref qby, .ref qwy, .int (nI wz), .ref qfo, .ref qon, .ref qmn, .ref qpr, .ref qle, .ref qst, .ref qwt, .int (nI rc), .int (nI tk), .int (nI ps), .int (nI gn), .int bd, .ref qwo], aI G qpg 22 (nF p)]
  refine wc_aload_n X 0 0 dX11_count_0 rfl ?_
  refine wc_iconstN X 1 0 dX11_count_1 ?_
  refine wc_put X Y 2 0 0 kd11 rfl (by decide) q_765 rfl rfl rfl (Nat.le_of_ble_eq_true rfl) (ws' := [ob o 11 [.int (nI 0), .ref qtx, .int (nI ts), .int (nI pl), .ref qrp, .ref qpg, .ref qtr, .ref qbk, .int (nI dn), .ref qkp, .ref qik, .int (nI sn), .ref qsw, .ref qsi, .long sd, .ref qln, .ref qfm, .ref qby, .ref qwy, .int (nI wz), .ref qfo, .ref qon, .ref qmn, .ref qpr, .ref qle, .ref qst, .ref qwt, .int (nI rc), .int (nI tk), .int (nI ps), .int (nI gn), .int bd, .ref qwo], aI G qpg 22 (nF p)]) rfl dX11_count_2 ?_
  refine wc_iload_n X 5 1 dX11_count_5 rfl ?_
  refine wc_tsI X 6 61 2 (nI 2) (off := 55) dX11_count_6 rfl (by decide) (by decide) (by decide) (by decide) ?_
  refine wc_aload_n X 61 0 dX11_count_61 rfl ?_
  refine wc_get X 62 0 5 kd11 rfl (by decide) q_770 rfl dX11_count_62 ?_
  refine wc_iload_n X 65 1 dX11_count_65 rfl ?_
  refine wc_iconstN X 66 1 dX11_count_66 ?_
  refine wc_isubN X 67 dX11_count_67 (by decide) ?_
  refine wc_topi (nI 1) (congrArg nI (rfl)) ?_
  refine wc_ialdG X 68 1 rfl (by decide) (by decide) dX11_count_68 ?_
  exact ret 69 _ (nI (p 1)) _ dX11_count_69 (⟨rfl, rfl⟩)

set_option maxHeartbeats 4000000 in
set_option maxRecDepth 100000 in
theorem c_X11_count3 (l : Launch) (G : GG) (o : Nat) (th : Int32) (qtx ts pl qrp qpg qtr qbk dn qkp qik sn qsw qsi : Nat) (sd : Int64) (qln qfm qby qwy wz qfo qon qmn qpr qle qst qwt rc tk ps gn : Nat) (bd : Int32) (qwo : Nat) (p : Nat → Nat) (hr : pgOk p) : MM l G yX11_count (Cond.code yX11_count cX11_count 2 (some .int)) { frames := 2, cells := 0, slots := 0, locals := 45 } [.ref o, .int (nI 3)] [ob o 11 [.int th, .ref qtx, .int (nI ts), .int (nI pl), .ref qrp, .ref qpg, .ref qtr, .ref qbk, .int (nI dn), .ref qkp, .ref qik, .int (nI sn), .ref qsw, .ref qsi, .long sd, .ref qln, .ref qfm, .ref qby, .ref qwy, .int (nI wz), .ref qfo, .ref qon, .ref qmn, .ref qpr, .ref qle, .ref qst, .ref qwt, .int (nI rc), .int (nI tk), .int (nI ps), .int (nI gn), .int bd, .ref qwo], aI G qpg 22 (nF p)] (fun (v : Option Value) (w : va_W) => v = some (.int (nI (edgN (gz p) (p 0)))) ∧ w = [ob o 11 [.int (nI 0), .ref qtx, .int (nI ts), .int (nI pl), .ref qrp, .ref qpg, .ref qtr, .ref qbk, .int (nI dn), .ref qkp, .ref qik, .int (nI sn), .ref qsw, .ref qsi, .long sd, .ref qln, .ref qfm, .ref qby, .ref qwy, .int (nI wz), .ref qfo, .ref qon, .ref qmn, .ref qpr, .ref qle, .ref qst, .ref qwt, .int (nI rc), .int (nI tk), .int (nI ps), .int (nI gn), .int bd, .ref qwo], aI G qpg 22 (nF p)]) 0 0 := by
  refine MM.ofI (by decide) rfl (fun Γ X Y hnm ret => ?_)
  show Wc Γ 0 0 0 [(0, .ref o), (1, .int (nI 3))] [] [ob o 11 [.int th, .ref qtx, .int (nI ts), .int (nI pl), .ref qrp, .ref qpg, .ref qtr, .ref qbk, .int (nI dn), .ref qkp, .ref qik, .int (nI sn), .ref qsw, .ref qsi, .long sd, .ref qln, .ref qfm, .ref qby, .ref qwy, .int (nI wz), .ref qfo, .ref qon, .ref qmn, .ref qpr, .ref qle, .ref qst, .ref qwt, .int (nI rc), .int (nI tk), .int (nI ps), .int (nI gn), .int bd, .ref qwo], aI G qpg 22 (nF p)]
  refine wc_aload_n X 0 0 dX11_count_0 rfl ?_
  refine wc_iconstN X 1 0 dX11_count_1 ?_
  refine wc_put X Y 2 0 0 kd11 rfl (by decide) q_765 rfl rfl rfl (Nat.le_of_ble_eq_true rfl) (ws' := [ob o 11 [.int (nI 0), .ref qtx, .int (nI ts), .int (nI pl), .ref qrp, .ref qpg, .ref qtr, .ref qbk, .int (nI dn), .ref qkp, .ref qik, .int (nI sn), .ref qsw, .ref qsi, .long sd, .ref qln, .ref qfm, .ref qby, .ref qwy, .int (nI wz), .ref qfo, .ref qon, .ref qmn, .ref qpr, .ref qle, .ref qst, .ref qwt, .int (nI rc), .int (nI tk), .int (nI ps), .int (nI gn), .int bd, .ref qwo], aI G qpg 22 (nF p)]) rfl dX11_count_2 ?_
  refine wc_iload_n X 5 1 dX11_count_5 rfl ?_
  refine wc_tsI X 6 70 3 (nI 3) (off := 64) dX11_count_6 rfl (by decide) (by decide) (by decide) (by decide) ?_
  refine wc_aload_n X 70 0 dX11_count_70 rfl ?_
  refine wc_get X 71 0 5 kd11 rfl (by decide) q_770 rfl dX11_count_71 ?_
  refine wc_iload_n X 74 1 dX11_count_74 rfl ?_
  refine wc_iconstN X 75 3 dX11_count_75 ?_
  refine wc_isubN X 76 dX11_count_76 (by decide) ?_
  refine wc_topi (nI 0) (congrArg nI (rfl)) ?_
  refine wc_callS X 77 [1] (c_X11_edges l G qpg p 0 hr.2.1 hr.2.2.2.1 hr.2.2.2.2.1 (by decide)) ys_X11_edges rfl q_893 ⟨rfl, rfl⟩ ⟨rfl, rfl⟩ ⟨rfl, rfl⟩ rfl rfl rfl dX11_count_77 ?_
  exact ret 80 _ (nI (edgN (mG p 0) (p 0))) _ dX11_count_80 (⟨rfl, rfl⟩)

set_option maxHeartbeats 4000000 in
set_option maxRecDepth 100000 in
theorem c_X11_count4 (l : Launch) (G : GG) (o : Nat) (th : Int32) (qtx ts pl qrp qpg qtr qbk dn qkp qik sn qsw qsi : Nat) (sd : Int64) (qln qfm qby qwy wz qfo qon qmn qpr qle qst qwt rc tk ps gn : Nat) (bd : Int32) (qwo : Nat) (p : Nat → Nat) (hr : pgOk p) : MM l G yX11_count (Cond.code yX11_count cX11_count 2 (some .int)) { frames := 2, cells := 0, slots := 0, locals := 45 } [.ref o, .int (nI 4)] [ob o 11 [.int th, .ref qtx, .int (nI ts), .int (nI pl), .ref qrp, .ref qpg, .ref qtr, .ref qbk, .int (nI dn), .ref qkp, .ref qik, .int (nI sn), .ref qsw, .ref qsi, .long sd, .ref qln, .ref qfm, .ref qby, .ref qwy, .int (nI wz), .ref qfo, .ref qon, .ref qmn, .ref qpr, .ref qle, .ref qst, .ref qwt, .int (nI rc), .int (nI tk), .int (nI ps), .int (nI gn), .int bd, .ref qwo], aI G qpg 22 (nF p)] (fun (v : Option Value) (w : va_W) => v = some (.int (nI (edgN (go p) (p 1)))) ∧ w = [ob o 11 [.int (nI 0), .ref qtx, .int (nI ts), .int (nI pl), .ref qrp, .ref qpg, .ref qtr, .ref qbk, .int (nI dn), .ref qkp, .ref qik, .int (nI sn), .ref qsw, .ref qsi, .long sd, .ref qln, .ref qfm, .ref qby, .ref qwy, .int (nI wz), .ref qfo, .ref qon, .ref qmn, .ref qpr, .ref qle, .ref qst, .ref qwt, .int (nI rc), .int (nI tk), .int (nI ps), .int (nI gn), .int bd, .ref qwo], aI G qpg 22 (nF p)]) 0 0 := by
  refine MM.ofI (by decide) rfl (fun Γ X Y hnm ret => ?_)
  show Wc Γ 0 0 0 [(0, .ref o), (1, .int (nI 4))] [] [ob o 11 [.int th, .ref qtx, .int (nI ts), .int (nI pl), .ref qrp, .ref qpg, .ref qtr, .ref qbk, .int (nI dn), .ref qkp, .ref qik, .int (nI sn), .ref qsw, .ref qsi, .long sd, .ref qln, .ref qfm, .ref qby, .ref qwy, .int (nI wz), .ref qfo, .ref qon, .ref qmn, .ref qpr, .ref qle, .ref qst, .ref qwt, .int (nI rc), .int (nI tk), .int (nI ps), .int (nI gn), .int bd, .ref qwo], aI G qpg 22 (nF p)]
  refine wc_aload_n X 0 0 dX11_count_0 rfl ?_
  refine wc_iconstN X 1 0 dX11_count_1 ?_
  refine wc_put X Y 2 0 0 kd11 rfl (by decide) q_765 rfl rfl rfl (Nat.le_of_ble_eq_true rfl) (ws' := [ob o 11 [.int (nI 0), .ref qtx, .int (nI ts), .int (nI pl), .ref qrp, .ref qpg, .ref qtr, .ref qbk, .int (nI dn), .ref qkp, .ref qik, .int (nI sn), .ref qsw, .ref qsi, .long sd, .ref qln, .ref qfm, .ref qby, .ref qwy, .int (nI wz), .ref qfo, .ref qon, .ref qmn, .ref qpr, .ref qle, .ref qst, .ref qwt, .int (nI rc), .int (nI tk), .int (nI ps), .int (nI gn), .int bd, .ref qwo], aI G qpg 22 (nF p)]) rfl dX11_count_2 ?_
  refine wc_iload_n X 5 1 dX11_count_5 rfl ?_
  refine wc_tsI X 6 70 4 (nI 4) (off := 64) dX11_count_6 rfl (by decide) (by decide) (by decide) (by decide) ?_
  refine wc_aload_n X 70 0 dX11_count_70 rfl ?_
  refine wc_get X 71 0 5 kd11 rfl (by decide) q_770 rfl dX11_count_71 ?_
  refine wc_iload_n X 74 1 dX11_count_74 rfl ?_
  refine wc_iconstN X 75 3 dX11_count_75 ?_
  refine wc_isubN X 76 dX11_count_76 (by decide) ?_
  refine wc_topi (nI 1) (congrArg nI (rfl)) ?_
  refine wc_callS X 77 [1] (c_X11_edges l G qpg p 1 hr.2.1 hr.2.2.2.1 hr.2.2.2.2.1 (by decide)) ys_X11_edges rfl q_893 ⟨rfl, rfl⟩ ⟨rfl, rfl⟩ ⟨rfl, rfl⟩ rfl rfl rfl dX11_count_77 ?_
  exact ret 80 _ (nI (edgN (mG p 1) (p 1))) _ dX11_count_80 (⟨rfl, rfl⟩)

set_option maxHeartbeats 4000000 in
set_option maxRecDepth 100000 in
theorem c_X11_count5 (l : Launch) (G : GG) (o : Nat) (th : Int32) (qtx ts pl qrp qpg qtr qbk dn qkp qik sn qsw qsi : Nat) (sd : Int64) (qln qfm qby qwy wz qfo qon qmn qpr qle qst qwt rc tk ps gn : Nat) (bd : Int32) (qwo : Nat) (p : Nat → Nat) (hr : pgOk p) : MM l G yX11_count (Cond.code yX11_count cX11_count 2 (some .int)) { frames := 0, cells := 0, slots := 0, locals := 0 } [.ref o, .int (nI 5)] [ob o 11 [.int th, .ref qtx, .int (nI ts), .int (nI pl), .ref qrp, .ref qpg, .ref qtr, .ref qbk, .int (nI dn), .ref qkp, .ref qik, .int (nI sn), .ref qsw, .ref qsi, .long sd, .ref qln, .ref qfm, .ref qby, .ref qwy, .int (nI wz), .ref qfo, .ref qon, .ref qmn, .ref qpr, .ref qle, .ref qst, .ref qwt, .int (nI rc), .int (nI tk), .int (nI ps), .int (nI gn), .int bd, .ref qwo], aI G qpg 22 (nF p)] (fun (v : Option Value) (w : va_W) => v = some (.int (nI (p 2))) ∧ w = [ob o 11 [.int (nI 0), .ref qtx, .int (nI ts), .int (nI pl), .ref qrp, .ref qpg, .ref qtr, .ref qbk, .int (nI dn), .ref qkp, .ref qik, .int (nI sn), .ref qsw, .ref qsi, .long sd, .ref qln, .ref qfm, .ref qby, .ref qwy, .int (nI wz), .ref qfo, .ref qon, .ref qmn, .ref qpr, .ref qle, .ref qst, .ref qwt, .int (nI rc), .int (nI tk), .int (nI ps), .int (nI gn), .int bd, .ref qwo], aI G qpg 22 (nF p)]) 0 0 := by
  refine MM.ofI (by decide) rfl (fun Γ X Y hnm ret => ?_)
  show Wc Γ 0 0 0 [(0, .ref o), (1, .int (nI 5))] [] [ob o 11 [.int th, .ref qtx, .int (nI ts), .int (nI pl), .ref qrp, .ref qpg, .ref qtr, .ref qbk, .int (nI dn), .ref qkp, .ref qik, .int (nI sn), .ref qsw, .ref qsi, .long sd, .ref qln, .ref qfm, .ref qby, .ref qwy, .int (nI wz), .ref qfo, .ref qon, .ref qmn, .ref qpr, .ref qle, .ref qst, .ref qwt, .int (nI rc), .int (nI tk), .int (nI ps), .int (nI gn), .int bd, .ref qwo], aI G qpg 22 (nF p)]
  refine wc_aload_n X 0 0 dX11_count_0 rfl ?_
  refine wc_iconstN X 1 0 dX11_count_1 ?_
  refine wc_put X Y 2 0 0 kd11 rfl (by decide) q_765 rfl rfl rfl (Nat.le_of_ble_eq_true rfl) (ws' := [ob o 11 [.int (nI 0), .ref qtx, .int (nI ts), .int (nI pl), .ref qrp, .ref qpg, .ref qtr, .ref qbk, .int (nI dn), .ref qkp, .ref qik, .int (nI sn), .ref qsw, .ref qsi, .long sd, .ref qln, .ref qfm, .ref qby, .ref qwy, .int (nI wz), .ref qfo, .ref qon, .ref qmn, .ref qpr, .ref qle, .ref qst, .ref qwt, .int (nI rc), .int (nI tk), .int (nI ps), .int (nI gn), .int bd, .ref qwo], aI G qpg 22 (nF p)]) rfl dX11_count_2 ?_
  refine wc_iload_n X 5 1 dX11_count_5 rfl ?_
  refine wc_tsI X 6 81 5 (nI 5) (off := 75) dX11_count_6 rfl (by decide) (by decide) (by decide) (by decide) ?_
  refine wc_aload_n X 81 0 dX11_count_81 rfl ?_
  refine wc_get X 82 0 5 kd11 rfl (by decide) q_770 rfl dX11_count_82 ?_
  refine wc_iconstN X 85 2 dX11_count_85 ?_
  refine wc_iload_n X 86 1 dX11_count_86 rfl ?_
  refine wc_iaddN X 87 dX11_count_87 ?_
  refine wc_iconstN X 88 5 dX11_count_88 ?_
  refine wc_isubN X 89 dX11_count_89 (by decide) ?_
  refine wc_topi (nI 2) (congrArg nI (rfl)) ?_
  refine wc_ialdG X 90 1 rfl (by decide) (by decide) dX11_count_90 ?_
  exact ret 91 _ (nI (p 2)) _ dX11_count_91 (⟨rfl, rfl⟩)

set_option maxHeartbeats 4000000 in
set_option maxRecDepth 100000 in
theorem c_X11_count6 (l : Launch) (G : GG) (o : Nat) (th : Int32) (qtx ts pl qrp qpg qtr qbk dn qkp qik sn qsw qsi : Nat) (sd : Int64) (qln qfm qby qwy wz qfo qon qmn qpr qle qst qwt rc tk ps gn : Nat) (bd : Int32) (qwo : Nat) (p : Nat → Nat) (hr : pgOk p) : MM l G yX11_count (Cond.code yX11_count cX11_count 2 (some .int)) { frames := 0, cells := 0, slots := 0, locals := 0 } [.ref o, .int (nI 6)] [ob o 11 [.int th, .ref qtx, .int (nI ts), .int (nI pl), .ref qrp, .ref qpg, .ref qtr, .ref qbk, .int (nI dn), .ref qkp, .ref qik, .int (nI sn), .ref qsw, .ref qsi, .long sd, .ref qln, .ref qfm, .ref qby, .ref qwy, .int (nI wz), .ref qfo, .ref qon, .ref qmn, .ref qpr, .ref qle, .ref qst, .ref qwt, .int (nI rc), .int (nI tk), .int (nI ps), .int (nI gn), .int bd, .ref qwo], aI G qpg 22 (nF p)] (fun (v : Option Value) (w : va_W) => v = some (.int (nI (p 3))) ∧ w = [ob o 11 [.int (nI 0), .ref qtx, .int (nI ts), .int (nI pl), .ref qrp, .ref qpg, .ref qtr, .ref qbk, .int (nI dn), .ref qkp, .ref qik, .int (nI sn), .ref qsw, .ref qsi, .long sd, .ref qln, .ref qfm, .ref qby, .ref qwy, .int (nI wz), .ref qfo, .ref qon, .ref qmn, .ref qpr, .ref qle, .ref qst, .ref qwt, .int (nI rc), .int (nI tk), .int (nI ps), .int (nI gn), .int bd, .ref qwo], aI G qpg 22 (nF p)]) 0 0 := by
  refine MM.ofI (by decide) rfl (fun Γ X Y hnm ret => ?_)
  show Wc Γ 0 0 0 [(0, .ref o), (1, .int (nI 6))] [] [ob o 11 [.int th, .ref qtx, .int (nI ts), .int (nI pl), .ref qrp, .ref qpg, .ref qtr, .ref qbk, .int (nI dn), .ref qkp, .ref qik, .int (nI sn), .ref qsw, .ref qsi, .long sd, .ref qln, .ref qfm, .ref qby, .ref qwy, .int (nI wz), .ref qfo, .ref qon, .ref qmn, .ref qpr, .ref qle, .ref qst, .ref qwt, .int (nI rc), .int (nI tk), .int (nI ps), .int (nI gn), .int bd, .ref qwo], aI G qpg 22 (nF p)]
  refine wc_aload_n X 0 0 dX11_count_0 rfl ?_
  refine wc_iconstN X 1 0 dX11_count_1 ?_
  refine wc_put X Y 2 0 0 kd11 rfl (by decide) q_765 rfl rfl rfl (Nat.le_of_ble_eq_true rfl) (ws' := [ob o 11 [.int (nI 0), .ref qtx, .int (nI ts), .int (nI pl), .ref qrp, .ref qpg, .ref qtr, .ref qbk, .int (nI dn), .ref qkp, .ref qik, .int (nI sn), .ref qsw, .ref qsi, .long sd, .ref qln, .ref qfm, .ref qby, .ref qwy, .int (nI wz), .ref qfo, .ref qon, .ref qmn, .ref qpr, .ref qle, .ref qst, .ref qwt, .int (nI rc), .int (nI tk), .int (nI ps), .int (nI gn), .int bd, .ref qwo], aI G qpg 22 (nF p)]) rfl dX11_count_2 ?_
  refine wc_iload_n X 5 1 dX11_count_5 rfl ?_
  refine wc_tsI X 6 81 6 (nI 6) (off := 75) dX11_count_6 rfl (by decide) (by decide) (by decide) (by decide) ?_
  refine wc_aload_n X 81 0 dX11_count_81 rfl ?_
  refine wc_get X 82 0 5 kd11 rfl (by decide) q_770 rfl dX11_count_82 ?_
  refine wc_iconstN X 85 2 dX11_count_85 ?_
  refine wc_iload_n X 86 1 dX11_count_86 rfl ?_
  refine wc_iaddN X 87 dX11_count_87 ?_
  refine wc_iconstN X 88 5 dX11_count_88 ?_
  refine wc_isubN X 89 dX11_count_89 (by decide) ?_
  refine wc_topi (nI 3) (congrArg nI (rfl)) ?_
  refine wc_ialdG X 90 1 rfl (by decide) (by decide) dX11_count_90 ?_
  exact ret 91 _ (nI (p 3)) _ dX11_count_91 (⟨rfl, rfl⟩)

set_option maxHeartbeats 4000000 in
set_option maxRecDepth 100000 in
theorem c_X11_count7 (l : Launch) (G : GG) (o : Nat) (th : Int32) (qtx ts pl qrp qpg qtr qbk dn qkp qik sn qsw qsi : Nat) (sd : Int64) (qln qfm qby qwy wz qfo qon qmn qpr qle qst qwt rc tk ps gn : Nat) (bd : Int32) (qwo : Nat) (p : Nat → Nat) (hr : pgOk p) : MM l G yX11_count (Cond.code yX11_count cX11_count 2 (some .int)) { frames := 0, cells := 0, slots := 0, locals := 0 } [.ref o, .int (nI 7)] [ob o 11 [.int th, .ref qtx, .int (nI ts), .int (nI pl), .ref qrp, .ref qpg, .ref qtr, .ref qbk, .int (nI dn), .ref qkp, .ref qik, .int (nI sn), .ref qsw, .ref qsi, .long sd, .ref qln, .ref qfm, .ref qby, .ref qwy, .int (nI wz), .ref qfo, .ref qon, .ref qmn, .ref qpr, .ref qle, .ref qst, .ref qwt, .int (nI rc), .int (nI tk), .int (nI ps), .int (nI gn), .int bd, .ref qwo], aI G qpg 22 (nF p)] (fun (v : Option Value) (w : va_W) => v = some (.int (nI dn)) ∧ w = [ob o 11 [.int (nI 0), .ref qtx, .int (nI ts), .int (nI pl), .ref qrp, .ref qpg, .ref qtr, .ref qbk, .int (nI dn), .ref qkp, .ref qik, .int (nI sn), .ref qsw, .ref qsi, .long sd, .ref qln, .ref qfm, .ref qby, .ref qwy, .int (nI wz), .ref qfo, .ref qon, .ref qmn, .ref qpr, .ref qle, .ref qst, .ref qwt, .int (nI rc), .int (nI tk), .int (nI ps), .int (nI gn), .int bd, .ref qwo], aI G qpg 22 (nF p)]) 0 0 := by
  refine MM.ofI (by decide) rfl (fun Γ X Y hnm ret => ?_)
  show Wc Γ 0 0 0 [(0, .ref o), (1, .int (nI 7))] [] [ob o 11 [.int th, .ref qtx, .int (nI ts), .int (nI pl), .ref qrp, .ref qpg, .ref qtr, .ref qbk, .int (nI dn), .ref qkp, .ref qik, .int (nI sn), .ref qsw, .ref qsi, .long sd, .ref qln, .ref qfm, .ref qby, .ref qwy, .int (nI wz), .ref qfo, .ref qon, .ref qmn, .ref qpr, .ref qle, .ref qst, .ref qwt, .int (nI rc), .int (nI tk), .int (nI ps), .int (nI gn), .int bd, .ref qwo], aI G qpg 22 (nF p)]
  refine wc_aload_n X 0 0 dX11_count_0 rfl ?_
  refine wc_iconstN X 1 0 dX11_count_1 ?_
  refine wc_put X Y 2 0 0 kd11 rfl (by decide) q_765 rfl rfl rfl (Nat.le_of_ble_eq_true rfl) (ws' := [ob o 11 [.int (nI 0), .ref qtx, .int (nI ts), .int (nI pl), .ref qrp, .ref qpg, .ref qtr, .ref qbk, .int (nI dn), .ref qkp, .ref qik, .int (nI sn), .ref qsw, .ref qsi, .long sd, .ref qln, .ref qfm, .ref qby, .ref qwy, .int (nI wz), .ref qfo, .ref qon, .ref qmn, .ref qpr, .ref qle, .ref qst, .ref qwt, .int (nI rc), .int (nI tk), .int (nI ps), .int (nI gn), .int bd, .ref qwo], aI G qpg 22 (nF p)]) rfl dX11_count_2 ?_
  refine wc_iload_n X 5 1 dX11_count_5 rfl ?_
  refine wc_tsI X 6 92 7 (nI 7) (off := 86) dX11_count_6 rfl (by decide) (by decide) (by decide) (by decide) ?_
  refine wc_aload_n X 92 0 dX11_count_92 rfl ?_
  refine wc_get X 93 0 8 kd11 rfl (by decide) q_773 rfl dX11_count_93 ?_
  exact ret 96 _ (nI dn) _ dX11_count_96 (⟨rfl, rfl⟩)

set_option maxHeartbeats 4000000 in
set_option maxRecDepth 100000 in
theorem c_X11_count8 (l : Launch) (G : GG) (o : Nat) (th : Int32) (qtx ts pl qrp qpg qtr qbk dn qkp qik sn qsw qsi : Nat) (sd : Int64) (qln qfm qby qwy wz qfo qon qmn qpr qle qst qwt rc tk ps gn : Nat) (bd : Int32) (qwo : Nat) (p : Nat → Nat) (hr : pgOk p) : MM l G yX11_count (Cond.code yX11_count cX11_count 2 (some .int)) { frames := 0, cells := 0, slots := 0, locals := 0 } [.ref o, .int (nI 8)] [ob o 11 [.int th, .ref qtx, .int (nI ts), .int (nI pl), .ref qrp, .ref qpg, .ref qtr, .ref qbk, .int (nI dn), .ref qkp, .ref qik, .int (nI sn), .ref qsw, .ref qsi, .long sd, .ref qln, .ref qfm, .ref qby, .ref qwy, .int (nI wz), .ref qfo, .ref qon, .ref qmn, .ref qpr, .ref qle, .ref qst, .ref qwt, .int (nI rc), .int (nI tk), .int (nI ps), .int (nI gn), .int bd, .ref qwo], aI G qpg 22 (nF p)] (fun (v : Option Value) (w : va_W) => v = some (.int (nI sn)) ∧ w = [ob o 11 [.int (nI 0), .ref qtx, .int (nI ts), .int (nI pl), .ref qrp, .ref qpg, .ref qtr, .ref qbk, .int (nI dn), .ref qkp, .ref qik, .int (nI sn), .ref qsw, .ref qsi, .long sd, .ref qln, .ref qfm, .ref qby, .ref qwy, .int (nI wz), .ref qfo, .ref qon, .ref qmn, .ref qpr, .ref qle, .ref qst, .ref qwt, .int (nI rc), .int (nI tk), .int (nI ps), .int (nI gn), .int bd, .ref qwo], aI G qpg 22 (nF p)]) 0 0 := by
  refine MM.ofI (by decide) rfl (fun Γ X Y hnm ret => ?_)
  show Wc Γ 0 0 0 [(0, .ref o), (1, .int (nI 8))] [] [ob o 11 [.int th, .ref qtx, .int (nI ts), .int (nI pl), .ref qrp, .ref qpg, .ref qtr, .ref qbk, .int (nI dn), .ref qkp, .ref qik, .int (nI sn), .ref qsw, .ref qsi, .long sd, .ref qln, .ref qfm, .ref qby, .ref qwy, .int (nI wz), .ref qfo, .ref qon, .ref qmn, .ref qpr, .ref qle, .ref qst, .ref qwt, .int (nI rc), .int (nI tk), .int (nI ps), .int (nI gn), .int bd, .ref qwo], aI G qpg 22 (nF p)]
  refine wc_aload_n X 0 0 dX11_count_0 rfl ?_
  refine wc_iconstN X 1 0 dX11_count_1 ?_
  refine wc_put X Y 2 0 0 kd11 rfl (by decide) q_765 rfl rfl rfl (Nat.le_of_ble_eq_true rfl) (ws' := [ob o 11 [.int (nI 0), .ref qtx, .int (nI ts), .int (nI pl), .ref qrp, .ref qpg, .ref qtr, .ref qbk, .int (nI dn), .ref qkp, .ref qik, .int (nI sn), .ref qsw, .ref qsi, .long sd, .ref qln, .ref qfm, .ref qby, .ref qwy, .int (nI wz), .ref qfo, .ref qon, .ref qmn, .ref qpr, .ref qle, .ref qst, .ref qwt, .int (nI rc), .int (nI tk), .int (nI ps), .int (nI gn), .int bd, .ref qwo], aI G qpg 22 (nF p)]) rfl dX11_count_2 ?_
  refine wc_iload_n X 5 1 dX11_count_5 rfl ?_
  refine wc_tsI X 6 97 8 (nI 8) (off := 91) dX11_count_6 rfl (by decide) (by decide) (by decide) (by decide) ?_
  refine wc_aload_n X 97 0 dX11_count_97 rfl ?_
  refine wc_get X 98 0 11 kd11 rfl (by decide) q_776 rfl dX11_count_98 ?_
  exact ret 101 _ (nI sn) _ dX11_count_101 (⟨rfl, rfl⟩)

set_option maxHeartbeats 4000000 in
set_option maxRecDepth 100000 in
theorem c_X11_keepF (l : Launch) (G : GG) (o : Nat) (th : Int32) (qtx ts pl qrp qpg qtr qbk dn qkp qik sn qsw qsi : Nat) (sd : Int64) (qln qfm qby qwy wz qfo qon qmn qpr qle qst qwt rc tk ps gn : Nat) (bd : Int32) (qwo : Nat) (k : Int32) (ho : outR k 0 1) : MM l G yX11_keep (Cond.code yX11_keep cX11_keep 3 (some .int)) { frames := 1, cells := 0, slots := 0, locals := 25 } [.ref o, .int k] [ob o 11 [.int th, .ref qtx, .int (nI ts), .int (nI pl), .ref qrp, .ref qpg, .ref qtr, .ref qbk, .int (nI dn), .ref qkp, .ref qik, .int (nI sn), .ref qsw, .ref qsi, .long sd, .ref qln, .ref qfm, .ref qby, .ref qwy, .int (nI wz), .ref qfo, .ref qon, .ref qmn, .ref qpr, .ref qle, .ref qst, .ref qwt, .int (nI rc), .int (nI tk), .int (nI ps), .int (nI gn), .int bd, .ref qwo]] (fun (v : Option Value) (w : va_W) => v = some (.int (-1)) ∧ w = [ob o 11 [.int (nI 0), .ref qtx, .int (nI ts), .int (nI pl), .ref qrp, .ref qpg, .ref qtr, .ref qbk, .int (nI dn), .ref qkp, .ref qik, .int (nI sn), .ref qsw, .ref qsi, .long sd, .ref qln, .ref qfm, .ref qby, .ref qwy, .int (nI wz), .ref qfo, .ref qon, .ref qmn, .ref qpr, .ref qle, .ref qst, .ref qwt, .int (nI rc), .int (nI tk), .int (nI ps), .int (nI gn), .int bd, .ref qwo]]) 0 0 := by
  refine MM.ofI (by decide) rfl (fun Γ X Y hnm ret => ?_)
  show Wc Γ 0 0 0 [(0, .ref o), (1, .int k)] [] [ob o 11 [.int th, .ref qtx, .int (nI ts), .int (nI pl), .ref qrp, .ref qpg, .ref qtr, .ref qbk, .int (nI dn), .ref qkp, .ref qik, .int (nI sn), .ref qsw, .ref qsi, .long sd, .ref qln, .ref qfm, .ref qby, .ref qwy, .int (nI wz), .ref qfo, .ref qon, .ref qmn, .ref qpr, .ref qle, .ref qst, .ref qwt, .int (nI rc), .int (nI tk), .int (nI ps), .int (nI gn), .int bd, .ref qwo]]
  refine wc_aload_n X 0 0 dX11_keep_0 rfl ?_
  refine wc_iconstN X 1 0 dX11_keep_1 ?_
  refine wc_put X Y 2 0 0 kd11 rfl (by decide) q_765 rfl rfl rfl (Nat.le_of_ble_eq_true rfl) (ws' := [ob o 11 [.int (nI 0), .ref qtx, .int (nI ts), .int (nI pl), .ref qrp, .ref qpg, .ref qtr, .ref qbk, .int (nI dn), .ref qkp, .ref qik, .int (nI sn), .ref qsw, .ref qsi, .long sd, .ref qln, .ref qfm, .ref qby, .ref qwy, .int (nI wz), .ref qfo, .ref qon, .ref qmn, .ref qpr, .ref qle, .ref qst, .ref qwt, .int (nI rc), .int (nI tk), .int (nI ps), .int (nI gn), .int bd, .ref qwo]]) rfl dX11_keep_2 ?_
  refine wc_iload_n X 5 1 dX11_keep_5 rfl ?_
  refine wc_i2l X 6 dX11_keep_6 ?_
  refine wc_lconst X 7 0 dX11_keep_7 (by decide) ?_
  refine wc_lconst X 8 1 dX11_keep_8 (by decide) ?_
  refine wc_callS X 9 [] (c_X11_in l G ((k).toInt64) 0 1 ) ys_X11_in rfl q_870 ⟨rfl, rfl⟩ ⟨rfl, rfl⟩ ⟨rfl, rfl⟩ rfl rfl rfl dX11_keep_9 ?_
  refine wc_topi (b2i false) (congrArg b2i (inL_out rfl rfl ho)) ?_
  refine wc_if_neB X 12 17 dX11_keep_12 (by decide) (fun c12_1 => ?_) (fun c12_1 => ?_)
  ·
    exact absurd c12_1 (by decide)
  ·
    refine wc_iconst X 15 (-1) dX11_keep_15 (by decide) ?_
    exact ret 16 _ (-1) _ dX11_keep_16 (⟨rfl, rfl⟩)

set_option maxHeartbeats 4000000 in
set_option maxRecDepth 100000 in
theorem c_X11_againF (l : Launch) (G : GG) (o : Nat) (th : Int32) (qtx ts pl qrp qpg qtr qbk dn qkp qik sn qsw qsi : Nat) (sd : Int64) (qln qfm qby qwy wz qfo qon qmn qpr qle qst qwt rc tk ps gn : Nat) (bd : Int32) (qwo : Nat) (k : Int32) (ho : outR k 0 1) : MM l G yX11_again (Cond.code yX11_again cX11_again 3 (some .int)) { frames := 1, cells := 0, slots := 0, locals := 25 } [.ref o, .int k] [ob o 11 [.int th, .ref qtx, .int (nI ts), .int (nI pl), .ref qrp, .ref qpg, .ref qtr, .ref qbk, .int (nI dn), .ref qkp, .ref qik, .int (nI sn), .ref qsw, .ref qsi, .long sd, .ref qln, .ref qfm, .ref qby, .ref qwy, .int (nI wz), .ref qfo, .ref qon, .ref qmn, .ref qpr, .ref qle, .ref qst, .ref qwt, .int (nI rc), .int (nI tk), .int (nI ps), .int (nI gn), .int bd, .ref qwo]] (fun (v : Option Value) (w : va_W) => v = some (.int (-1)) ∧ w = [ob o 11 [.int (nI 0), .ref qtx, .int (nI ts), .int (nI pl), .ref qrp, .ref qpg, .ref qtr, .ref qbk, .int (nI dn), .ref qkp, .ref qik, .int (nI sn), .ref qsw, .ref qsi, .long sd, .ref qln, .ref qfm, .ref qby, .ref qwy, .int (nI wz), .ref qfo, .ref qon, .ref qmn, .ref qpr, .ref qle, .ref qst, .ref qwt, .int (nI rc), .int (nI tk), .int (nI ps), .int (nI gn), .int bd, .ref qwo]]) 0 0 := by
  refine MM.ofI (by decide) rfl (fun Γ X Y hnm ret => ?_)
  show Wc Γ 0 0 0 [(0, .ref o), (1, .int k)] [] [ob o 11 [.int th, .ref qtx, .int (nI ts), .int (nI pl), .ref qrp, .ref qpg, .ref qtr, .ref qbk, .int (nI dn), .ref qkp, .ref qik, .int (nI sn), .ref qsw, .ref qsi, .long sd, .ref qln, .ref qfm, .ref qby, .ref qwy, .int (nI wz), .ref qfo, .ref qon, .ref qmn, .ref qpr, .ref qle, .ref qst, .ref qwt, .int (nI rc), .int (nI tk), .int (nI ps), .int (nI gn), .int bd, .ref qwo]]
  refine wc_aload_n X 0 0 dX11_again_0 rfl ?_
  refine wc_iconstN X 1 0 dX11_again_1 ?_
  refine wc_put X Y 2 0 0 kd11 rfl (by decide) q_765 rfl rfl rfl (Nat.le_of_ble_eq_true rfl) (ws' := [ob o 11 [.int (nI 0), .ref qtx, .int (nI ts), .int (nI pl), .ref qrp, .ref qpg, .ref qtr, .ref qbk, .int (nI dn), .ref qkp, .ref qik, .int (nI sn), .ref qsw, .ref qsi, .long sd, .ref qln, .ref qfm, .ref qby, .ref qwy, .int (nI wz), .ref qfo, .ref qon, .ref qmn, .ref qpr, .ref qle, .ref qst, .ref qwt, .int (nI rc), .int (nI tk), .int (nI ps), .int (nI gn), .int bd, .ref qwo]]) rfl dX11_again_2 ?_
  refine wc_iload_n X 5 1 dX11_again_5 rfl ?_
  refine wc_i2l X 6 dX11_again_6 ?_
  refine wc_lconst X 7 0 dX11_again_7 (by decide) ?_
  refine wc_lconst X 8 1 dX11_again_8 (by decide) ?_
  refine wc_callS X 9 [] (c_X11_in l G ((k).toInt64) 0 1 ) ys_X11_in rfl q_870 ⟨rfl, rfl⟩ ⟨rfl, rfl⟩ ⟨rfl, rfl⟩ rfl rfl rfl dX11_again_9 ?_
  refine wc_topi (b2i false) (congrArg b2i (inL_out rfl rfl ho)) ?_
  refine wc_if_neB X 12 17 dX11_again_12 (by decide) (fun c12_1 => ?_) (fun c12_1 => ?_)
  ·
    exact absurd c12_1 (by decide)
  ·
    refine wc_iconst X 15 (-1) dX11_again_15 (by decide) ?_
    exact ret 16 _ (-1) _ dX11_again_16 (⟨rfl, rfl⟩)

set_option maxHeartbeats 4000000 in
set_option maxRecDepth 100000 in
theorem c_X11_keep0 (l : Launch) (G : GG) (o : Nat) (th : Int32) (qtx ts pl qrp qpg qtr qbk dn qkp qik sn qsw qsi : Nat) (sd : Int64) (qln qfm qby qwy wz qfo qon qmn qpr qle qst qwt rc tk ps gn : Nat) (bd : Int32) (qwo : Nat) (p : Nat → Nat) (kp : Nat → Nat) (ik : Nat → Bool) (hr : pgOk p) : MM l G yX11_keep (Cond.code yX11_keep cX11_keep 3 (some .int)) { frames := 3, cells := 0, slots := 0, locals := 65 } [.ref o, .int (nI 0)] [ob o 11 [.int th, .ref qtx, .int (nI ts), .int (nI pl), .ref qrp, .ref qpg, .ref qtr, .ref qbk, .int (nI dn), .ref qkp, .ref qik, .int (nI sn), .ref qsw, .ref qsi, .long sd, .ref qln, .ref qfm, .ref qby, .ref qwy, .int (nI wz), .ref qfo, .ref qon, .ref qmn, .ref qpr, .ref qle, .ref qst, .ref qwt, .int (nI rc), .int (nI tk), .int (nI ps), .int (nI gn), .int bd, .ref qwo], aI G qpg 22 (nF p), aI G qkp 44 (nF kp), aZ G qik 2 (bF ik)] (fun (v : Option Value) (w : va_W) => ∃ (kp2 : Nat → Nat), v = some (.int (nI (edgN (gz p) (p 0) + edgN (go p) (p 1)))) ∧ w = [ob o 11 [.int (nI 0), .ref qtx, .int (nI ts), .int (nI pl), .ref qrp, .ref qpg, .ref qtr, .ref qbk, .int (nI dn), .ref qkp, .ref qik, .int (nI sn), .ref qsw, .ref qsi, .long sd, .ref qln, .ref qfm, .ref qby, .ref qwy, .int (nI wz), .ref qfo, .ref qon, .ref qmn, .ref qpr, .ref qle, .ref qst, .ref qwt, .int (nI rc), .int (nI tk), .int (nI ps), .int (nI gn), .int bd, .ref qwo], aI G qpg 22 (nF p), aI G qkp 44 (nF kp2), aZ G qik 2 (bF (up ik 0 true))] ∧ ((∀ j, j < 22 → kp2 (22 * 1 + j) = kp (22 * 1 + j)) ∧ ∀ j, j < 22 → kp2 (22 * 0 + j) = p j)) 0 0 := by
  refine MM.ofI (by decide) rfl (fun Γ X Y hnm ret => ?_)
  show Wc Γ 0 0 0 [(0, .ref o), (1, .int (nI 0))] [] [ob o 11 [.int th, .ref qtx, .int (nI ts), .int (nI pl), .ref qrp, .ref qpg, .ref qtr, .ref qbk, .int (nI dn), .ref qkp, .ref qik, .int (nI sn), .ref qsw, .ref qsi, .long sd, .ref qln, .ref qfm, .ref qby, .ref qwy, .int (nI wz), .ref qfo, .ref qon, .ref qmn, .ref qpr, .ref qle, .ref qst, .ref qwt, .int (nI rc), .int (nI tk), .int (nI ps), .int (nI gn), .int bd, .ref qwo], aI G qpg 22 (nF p), aI G qkp 44 (nF kp), aZ G qik 2 (bF ik)]
  refine wc_aload_n X 0 0 dX11_keep_0 rfl ?_
  refine wc_iconstN X 1 0 dX11_keep_1 ?_
  refine wc_put X Y 2 0 0 kd11 rfl (by decide) q_765 rfl rfl rfl (Nat.le_of_ble_eq_true rfl) (ws' := [ob o 11 [.int (nI 0), .ref qtx, .int (nI ts), .int (nI pl), .ref qrp, .ref qpg, .ref qtr, .ref qbk, .int (nI dn), .ref qkp, .ref qik, .int (nI sn), .ref qsw, .ref qsi, .long sd, .ref qln, .ref qfm, .ref qby, .ref qwy, .int (nI wz), .ref qfo, .ref qon, .ref qmn, .ref qpr, .ref qle, .ref qst, .ref qwt, .int (nI rc), .int (nI tk), .int (nI ps), .int (nI gn), .int bd, .ref qwo], aI G qpg 22 (nF p), aI G qkp 44 (nF kp), aZ G qik 2 (bF ik)]) rfl dX11_keep_2 ?_
  refine wc_iload_n X 5 1 dX11_keep_5 rfl ?_
  refine wc_i2l X 6 dX11_keep_6 ?_
  refine wc_lconst X 7 0 dX11_keep_7 (by decide) ?_
  refine wc_lconst X 8 1 dX11_keep_8 (by decide) ?_
  refine wc_callS X 9 [] (c_X11_in l G ((nI 0).toInt64) 0 1 ) ys_X11_in rfl q_870 ⟨rfl, rfl⟩ ⟨rfl, rfl⟩ ⟨rfl, rfl⟩ rfl rfl rfl dX11_keep_9 ?_
  refine wc_topi (b2i true) (by decide) ?_
  refine wc_if_neB X 12 17 dX11_keep_12 (by decide) (fun c12_1 => ?_) (fun c12_1 => ?_)
  ·
    refine wc_aload_n X 17 0 dX11_keep_17 rfl ?_
    refine wc_get X 18 0 10 kd11 rfl (by decide) q_775 rfl dX11_keep_18 ?_
    refine wc_iload_n X 21 1 dX11_keep_21 rfl ?_
    refine wc_iconstN X 22 1 dX11_keep_22 ?_
    refine wc_st (st' := [.int (b2i true), .int (nI 0), .ref qik]) rfl ?_
    refine wc_zastG X Y 23 3 rfl (by decide) (by decide) (ws' := [ob o 11 [.int (nI 0), .ref qtx, .int (nI ts), .int (nI pl), .ref qrp, .ref qpg, .ref qtr, .ref qbk, .int (nI dn), .ref qkp, .ref qik, .int (nI sn), .ref qsw, .ref qsi, .long sd, .ref qln, .ref qfm, .ref qby, .ref qwy, .int (nI wz), .ref qfo, .ref qon, .ref qmn, .ref qpr, .ref qle, .ref qst, .ref qwt, .int (nI rc), .int (nI tk), .int (nI ps), .int (nI gn), .int bd, .ref qwo], aI G qpg 22 (nF p), aI G qkp 44 (nF kp), aZ G qik 2 (bF (up ik 0 true))]) rfl dX11_keep_23 ?_
    refine wc_iconstN X 24 0 dX11_keep_24 ?_
    refine wc_istore_n X 25 (L' := [(0, .ref o), (1, .int (nI 0)), (2, .int (nI 0))]) dX11_keep_25 (by decide) rfl ?_
    have LP_3 : ∀ (fuel_2 : Nat) (i : Nat) (h : Nat → Nat), (i ≤ 22) → (∀ j, j < 22 → h (22 * 1 + j) = kp (22 * 1 + j)) → (∀ j, j < i → h (22 * 0 + j) = p j) → 22 - i < fuel_2 → Wc Γ 0 0 26 [(0, .ref o), (1, .int (nI 0)), (2, .int (nI i))] [] [ob o 11 [.int (nI 0), .ref qtx, .int (nI ts), .int (nI pl), .ref qrp, .ref qpg, .ref qtr, .ref qbk, .int (nI dn), .ref qkp, .ref qik, .int (nI sn), .ref qsw, .ref qsi, .long sd, .ref qln, .ref qfm, .ref qby, .ref qwy, .int (nI wz), .ref qfo, .ref qon, .ref qmn, .ref qpr, .ref qle, .ref qst, .ref qwt, .int (nI rc), .int (nI tk), .int (nI ps), .int (nI gn), .int bd, .ref qwo], aI G qpg 22 (nF p), aI G qkp 44 (nF h), aZ G qik 2 (bF (up ik 0 true))] := by
      intro fuel_2
      induction fuel_2 with
      | zero => intro i h hi h1 h2 hm; exact absurd hm (Nat.not_lt_zero _)
      | succ fuel_2 ih_4 =>
        intro i h hi h1 h2 hm_5
        refine wc_iload_n X 26 2 dX11_keep_26 rfl ?_
        refine wc_bipush X 27 (nI 22) dX11_keep_27 (by decide) ?_
        refine wc_icmp_geN X 29 55 dX11_keep_29 (by decide) (by omega) (by decide) (fun c29_6 => ?_) (fun c29_6 => ?_)
        ·
          refine wc_aload_n X 55 0 dX11_keep_55 rfl ?_
          refine wc_get X 56 0 5 kd11 rfl (by decide) q_770 rfl dX11_keep_56 ?_
          refine wc_callS X 59 [1] (c_X11_allEdges l G qpg p hr.2.1 hr.2.2.2.1 hr.2.2.2.2.1) ys_X11_allEdges rfl q_930 ⟨rfl, rfl⟩ ⟨rfl, rfl⟩ ⟨rfl, rfl⟩ rfl rfl rfl dX11_keep_59 ?_
          exact ret 62 _ (nI (edgN (mG p 0) (p 0) + edgN (mG p 1) (p 1))) _ dX11_keep_62 (⟨h, rfl, rfl, h1, fun j hj => h2 j (by omega)⟩)
        ·
          refine wc_aload_n X 32 0 dX11_keep_32 rfl ?_
          refine wc_get X 33 0 9 kd11 rfl (by decide) q_774 rfl dX11_keep_33 ?_
          refine wc_bipush X 36 (nI 22) dX11_keep_36 (by decide) ?_
          refine wc_iload_n X 38 1 dX11_keep_38 rfl ?_
          refine wc_imulN X 39 dX11_keep_39 ?_
          refine wc_iload_n X 40 2 dX11_keep_40 rfl ?_
          refine wc_iaddN X 41 dX11_keep_41 ?_
          refine wc_aload_n X 42 0 dX11_keep_42 rfl ?_
          refine wc_get X 43 0 5 kd11 rfl (by decide) q_770 rfl dX11_keep_43 ?_
          refine wc_iload_n X 46 2 dX11_keep_46 rfl ?_
          refine wc_ialdG X 47 1 rfl (by omega) (by decide) dX11_keep_47 ?_
          refine wc_iastG X Y 48 2 rfl (by omega) (by decide) (ws' := [ob o 11 [.int (nI 0), .ref qtx, .int (nI ts), .int (nI pl), .ref qrp, .ref qpg, .ref qtr, .ref qbk, .int (nI dn), .ref qkp, .ref qik, .int (nI sn), .ref qsw, .ref qsi, .long sd, .ref qln, .ref qfm, .ref qby, .ref qwy, .int (nI wz), .ref qfo, .ref qon, .ref qmn, .ref qpr, .ref qle, .ref qst, .ref qwt, .int (nI rc), .int (nI tk), .int (nI ps), .int (nI gn), .int bd, .ref qwo], aI G qpg 22 (nF p), aI G qkp 44 (nF (up h ((22 * 0) + i) (p i))), aZ G qik 2 (bF (up ik 0 true))]) rfl dX11_keep_48 ?_
          refine wc_iincN X 49 2 (L' := [(0, .ref o), (1, .int (nI 0)), (2, .int (nI (i + 1)))]) dX11_keep_49 rfl (by decide) rfl ?_
          refine wc_goto X 52 26 dX11_keep_52 (by decide) ?_
          refine wc_L (L' := [(0, .ref o), (1, .int (nI 0)), (2, .int (nI (i + 1)))]) (by rfl) ?_
          exact ih_4 (i + 1) (up h ((22 * 0) + i) (p i)) (by omega) (bk_put2 (p := p) (b := 22 * 0) (d := 22 * 1) (by omega) (by omega) h1 h2).1 (bk_put2 (p := p) (b := 22 * 0) (d := 22 * 1) (by omega) (by omega) h1 h2).2 (by omega)
    exact LP_3 (22 - 0 + 1) 0 kp (by decide) (fun j hj => rfl) (fun j hj => absurd hj (Nat.not_lt_zero _)) (Nat.lt_succ_self _)
  ·
    exact absurd c12_1 (by decide)

set_option maxHeartbeats 4000000 in
set_option maxRecDepth 100000 in
theorem c_X11_againN0 (l : Launch) (G : GG) (o : Nat) (th : Int32) (qtx ts pl qrp qpg qtr qbk dn qkp qik sn qsw qsi : Nat) (sd : Int64) (qln qfm qby qwy wz qfo qon qmn qpr qle qst qwt rc tk ps gn : Nat) (bd : Int32) (qwo : Nat) (ik : Nat → Bool) (hf : ik 0 = false) : MM l G yX11_again (Cond.code yX11_again cX11_again 3 (some .int)) { frames := 1, cells := 0, slots := 0, locals := 25 } [.ref o, .int (nI 0)] [ob o 11 [.int th, .ref qtx, .int (nI ts), .int (nI pl), .ref qrp, .ref qpg, .ref qtr, .ref qbk, .int (nI dn), .ref qkp, .ref qik, .int (nI sn), .ref qsw, .ref qsi, .long sd, .ref qln, .ref qfm, .ref qby, .ref qwy, .int (nI wz), .ref qfo, .ref qon, .ref qmn, .ref qpr, .ref qle, .ref qst, .ref qwt, .int (nI rc), .int (nI tk), .int (nI ps), .int (nI gn), .int bd, .ref qwo], aZ G qik 2 (bF ik)] (fun (v : Option Value) (w : va_W) => v = some (.int (-3)) ∧ w = [ob o 11 [.int (nI 0), .ref qtx, .int (nI ts), .int (nI pl), .ref qrp, .ref qpg, .ref qtr, .ref qbk, .int (nI dn), .ref qkp, .ref qik, .int (nI sn), .ref qsw, .ref qsi, .long sd, .ref qln, .ref qfm, .ref qby, .ref qwy, .int (nI wz), .ref qfo, .ref qon, .ref qmn, .ref qpr, .ref qle, .ref qst, .ref qwt, .int (nI rc), .int (nI tk), .int (nI ps), .int (nI gn), .int bd, .ref qwo], aZ G qik 2 (bF ik)]) 0 0 := by
  refine MM.ofI (by decide) rfl (fun Γ X Y hnm ret => ?_)
  show Wc Γ 0 0 0 [(0, .ref o), (1, .int (nI 0))] [] [ob o 11 [.int th, .ref qtx, .int (nI ts), .int (nI pl), .ref qrp, .ref qpg, .ref qtr, .ref qbk, .int (nI dn), .ref qkp, .ref qik, .int (nI sn), .ref qsw, .ref qsi, .long sd, .ref qln, .ref qfm, .ref qby, .ref qwy, .int (nI wz), .ref qfo, .ref qon, .ref qmn, .ref qpr, .ref qle, .ref qst, .ref qwt, .int (nI rc), .int (nI tk), .int (nI ps), .int (nI gn), .int bd, .ref qwo], aZ G qik 2 (bF ik)]
  refine wc_aload_n X 0 0 dX11_again_0 rfl ?_
  refine wc_iconstN X 1 0 dX11_again_1 ?_
  refine wc_put X Y 2 0 0 kd11 rfl (by decide) q_765 rfl rfl rfl (Nat.le_of_ble_eq_true rfl) (ws' := [ob o 11 [.int (nI 0), .ref qtx, .int (nI ts), .int (nI pl), .ref qrp, .ref qpg, .ref qtr, .ref qbk, .int (nI dn), .ref qkp, .ref qik, .int (nI sn), .ref qsw, .ref qsi, .long sd, .ref qln, .ref qfm, .ref qby, .ref qwy, .int (nI wz), .ref qfo, .ref qon, .ref qmn, .ref qpr, .ref qle, .ref qst, .ref qwt, .int (nI rc), .int (nI tk), .int (nI ps), .int (nI gn), .int bd, .ref qwo], aZ G qik 2 (bF ik)]) rfl dX11_again_2 ?_
  refine wc_iload_n X 5 1 dX11_again_5 rfl ?_
  refine wc_i2l X 6 dX11_again_6 ?_
  refine wc_lconst X 7 0 dX11_again_7 (by decide) ?_
  refine wc_lconst X 8 1 dX11_again_8 (by decide) ?_
  refine wc_callS X 9 [] (c_X11_in l G ((nI 0).toInt64) 0 1 ) ys_X11_in rfl q_870 ⟨rfl, rfl⟩ ⟨rfl, rfl⟩ ⟨rfl, rfl⟩ rfl rfl rfl dX11_again_9 ?_
  refine wc_topi (b2i true) (by decide) ?_
  refine wc_if_neB X 12 17 dX11_again_12 (by decide) (fun c12_1 => ?_) (fun c12_1 => ?_)
  ·
    refine wc_aload_n X 17 0 dX11_again_17 rfl ?_
    refine wc_get X 18 0 10 kd11 rfl (by decide) q_775 rfl dX11_again_18 ?_
    refine wc_iload_n X 21 1 dX11_again_21 rfl ?_
    refine wc_zaldG X 22 1 rfl (by decide) (by decide) dX11_again_22 ?_
    refine wc_if_neB X 23 29 dX11_again_23 (by decide) (fun c23_2 => ?_) (fun c23_2 => ?_)
    ·
      exact absurd c23_2 (by rw [hf]; decide)
    ·
      refine wc_bipush X 26 (-3) dX11_again_26 (by decide) ?_
      exact ret 28 _ (-3) _ dX11_again_28 (⟨rfl, rfl⟩)
  ·
    exact absurd c12_1 (by decide)

set_option maxHeartbeats 4000000 in
set_option maxRecDepth 100000 in
theorem c_X11_againS0 (l : Launch) (G : GG) (o : Nat) (th : Int32) (qtx ts pl qrp qpg qtr qbk dn qkp qik sn qsw qsi : Nat) (sd : Int64) (qln qfm qby qwy wz qfo qon qmn qpr qle qst qwt rc tk ps gn : Nat) (bd : Int32) (qwo : Nat) (p : Nat → Nat) (kp : Nat → Nat) (ik : Nat → Bool) (hr : pgOk (bkP kp 0)) (hf : ik 0 = true) : MM l G yX11_again (Cond.code yX11_again cX11_again 3 (some .int)) { frames := 3, cells := 0, slots := 0, locals := 65 } [.ref o, .int (nI 0)] [ob o 11 [.int th, .ref qtx, .int (nI ts), .int (nI pl), .ref qrp, .ref qpg, .ref qtr, .ref qbk, .int (nI dn), .ref qkp, .ref qik, .int (nI sn), .ref qsw, .ref qsi, .long sd, .ref qln, .ref qfm, .ref qby, .ref qwy, .int (nI wz), .ref qfo, .ref qon, .ref qmn, .ref qpr, .ref qle, .ref qst, .ref qwt, .int (nI rc), .int (nI tk), .int (nI ps), .int (nI gn), .int bd, .ref qwo], aI G qpg 22 (nF p), aI G qkp 44 (nF kp), aZ G qik 2 (bF ik)] (fun (v : Option Value) (w : va_W) => v = some (.int (nI (edgN (gz (bkP kp 0)) ((bkP kp 0) 0) + edgN (go (bkP kp 0)) ((bkP kp 0) 1)))) ∧ w = [ob o 11 [.int (nI 0), .ref qtx, .int (nI ts), .int (nI pl), .ref qrp, .ref qpg, .ref qtr, .ref qbk, .int (nI 0), .ref qkp, .ref qik, .int (nI sn), .ref qsw, .ref qsi, .long sd, .ref qln, .ref qfm, .ref qby, .ref qwy, .int (nI wz), .ref qfo, .ref qon, .ref qmn, .ref qpr, .ref qle, .ref qst, .ref qwt, .int (nI rc), .int (nI tk), .int (nI ps), .int (nI gn), .int bd, .ref qwo], aI G qpg 22 (nF (bkP kp 0)), aI G qkp 44 (nF kp), aZ G qik 2 (bF ik)]) 0 0 := by
  refine MM.ofI (by decide) rfl (fun Γ X Y hnm ret => ?_)
  show Wc Γ 0 0 0 [(0, .ref o), (1, .int (nI 0))] [] [ob o 11 [.int th, .ref qtx, .int (nI ts), .int (nI pl), .ref qrp, .ref qpg, .ref qtr, .ref qbk, .int (nI dn), .ref qkp, .ref qik, .int (nI sn), .ref qsw, .ref qsi, .long sd, .ref qln, .ref qfm, .ref qby, .ref qwy, .int (nI wz), .ref qfo, .ref qon, .ref qmn, .ref qpr, .ref qle, .ref qst, .ref qwt, .int (nI rc), .int (nI tk), .int (nI ps), .int (nI gn), .int bd, .ref qwo], aI G qpg 22 (nF p), aI G qkp 44 (nF kp), aZ G qik 2 (bF ik)]
  refine wc_aload_n X 0 0 dX11_again_0 rfl ?_
  refine wc_iconstN X 1 0 dX11_again_1 ?_
  refine wc_put X Y 2 0 0 kd11 rfl (by decide) q_765 rfl rfl rfl (Nat.le_of_ble_eq_true rfl) (ws' := [ob o 11 [.int (nI 0), .ref qtx, .int (nI ts), .int (nI pl), .ref qrp, .ref qpg, .ref qtr, .ref qbk, .int (nI dn), .ref qkp, .ref qik, .int (nI sn), .ref qsw, .ref qsi, .long sd, .ref qln, .ref qfm, .ref qby, .ref qwy, .int (nI wz), .ref qfo, .ref qon, .ref qmn, .ref qpr, .ref qle, .ref qst, .ref qwt, .int (nI rc), .int (nI tk), .int (nI ps), .int (nI gn), .int bd, .ref qwo], aI G qpg 22 (nF p), aI G qkp 44 (nF kp), aZ G qik 2 (bF ik)]) rfl dX11_again_2 ?_
  refine wc_iload_n X 5 1 dX11_again_5 rfl ?_
  refine wc_i2l X 6 dX11_again_6 ?_
  refine wc_lconst X 7 0 dX11_again_7 (by decide) ?_
  refine wc_lconst X 8 1 dX11_again_8 (by decide) ?_
  refine wc_callS X 9 [] (c_X11_in l G ((nI 0).toInt64) 0 1 ) ys_X11_in rfl q_870 ⟨rfl, rfl⟩ ⟨rfl, rfl⟩ ⟨rfl, rfl⟩ rfl rfl rfl dX11_again_9 ?_
  refine wc_topi (b2i true) (by decide) ?_
  refine wc_if_neB X 12 17 dX11_again_12 (by decide) (fun c12_1 => ?_) (fun c12_1 => ?_)
  ·
    refine wc_aload_n X 17 0 dX11_again_17 rfl ?_
    refine wc_get X 18 0 10 kd11 rfl (by decide) q_775 rfl dX11_again_18 ?_
    refine wc_iload_n X 21 1 dX11_again_21 rfl ?_
    refine wc_zaldG X 22 3 rfl (by decide) (by decide) dX11_again_22 ?_
    refine wc_if_neB X 23 29 dX11_again_23 (by decide) (fun c23_2 => ?_) (fun c23_2 => ?_)
    ·
      refine wc_iconstN X 29 0 dX11_again_29 ?_
      refine wc_istore_n X 30 (L' := [(0, .ref o), (1, .int (nI 0)), (2, .int (nI 0))]) dX11_again_30 (by decide) rfl ?_
      have LP_4 : ∀ (fuel_3 : Nat) (i : Nat) (h : Nat → Nat), (i ≤ 22) → (∀ j, j < i → h j = bkP kp 0 j) → 22 - i < fuel_3 → Wc Γ 0 0 31 [(0, .ref o), (1, .int (nI 0)), (2, .int (nI i))] [] [ob o 11 [.int (nI 0), .ref qtx, .int (nI ts), .int (nI pl), .ref qrp, .ref qpg, .ref qtr, .ref qbk, .int (nI dn), .ref qkp, .ref qik, .int (nI sn), .ref qsw, .ref qsi, .long sd, .ref qln, .ref qfm, .ref qby, .ref qwy, .int (nI wz), .ref qfo, .ref qon, .ref qmn, .ref qpr, .ref qle, .ref qst, .ref qwt, .int (nI rc), .int (nI tk), .int (nI ps), .int (nI gn), .int bd, .ref qwo], aI G qpg 22 (nF h), aI G qkp 44 (nF kp), aZ G qik 2 (bF ik)] := by
        intro fuel_3
        induction fuel_3 with
        | zero => intro i h hi hh hm; exact absurd hm (Nat.not_lt_zero _)
        | succ fuel_3 ih_5 =>
          intro i h hi hh hm_6
          refine wc_iload_n X 31 2 dX11_again_31 rfl ?_
          refine wc_bipush X 32 (nI 22) dX11_again_32 (by decide) ?_
          refine wc_icmp_geN X 34 60 dX11_again_34 (by decide) (by omega) (by decide) (fun c34_7 => ?_) (fun c34_7 => ?_)
          ·
            refine wc_ext X Y 1 (f' := nF ((bkP kp 0))) rfl (fun j hj => congrArg nI (hh j (by omega))) (ws' := [ob o 11 [.int (nI 0), .ref qtx, .int (nI ts), .int (nI pl), .ref qrp, .ref qpg, .ref qtr, .ref qbk, .int (nI dn), .ref qkp, .ref qik, .int (nI sn), .ref qsw, .ref qsi, .long sd, .ref qln, .ref qfm, .ref qby, .ref qwy, .int (nI wz), .ref qfo, .ref qon, .ref qmn, .ref qpr, .ref qle, .ref qst, .ref qwt, .int (nI rc), .int (nI tk), .int (nI ps), .int (nI gn), .int bd, .ref qwo], aI G qpg 22 (nF (bkP kp 0)), aI G qkp 44 (nF kp), aZ G qik 2 (bF ik)]) rfl ?_
            refine wc_aload_n X 60 0 dX11_again_60 rfl ?_
            refine wc_iconstN X 61 0 dX11_again_61 ?_
            refine wc_put X Y 62 0 8 kd11 rfl (by decide) q_773 rfl rfl rfl (Nat.le_of_ble_eq_true rfl) (ws' := [ob o 11 [.int (nI 0), .ref qtx, .int (nI ts), .int (nI pl), .ref qrp, .ref qpg, .ref qtr, .ref qbk, .int (nI 0), .ref qkp, .ref qik, .int (nI sn), .ref qsw, .ref qsi, .long sd, .ref qln, .ref qfm, .ref qby, .ref qwy, .int (nI wz), .ref qfo, .ref qon, .ref qmn, .ref qpr, .ref qle, .ref qst, .ref qwt, .int (nI rc), .int (nI tk), .int (nI ps), .int (nI gn), .int bd, .ref qwo], aI G qpg 22 (nF (bkP kp 0)), aI G qkp 44 (nF kp), aZ G qik 2 (bF ik)]) rfl dX11_again_62 ?_
            refine wc_aload_n X 65 0 dX11_again_65 rfl ?_
            refine wc_get X 66 0 5 kd11 rfl (by decide) q_770 rfl dX11_again_66 ?_
            refine wc_callS X 69 [1] (c_X11_allEdges l G qpg (bkP kp 0) hr.2.1 hr.2.2.2.1 hr.2.2.2.2.1) ys_X11_allEdges rfl q_930 ⟨rfl, rfl⟩ ⟨rfl, rfl⟩ ⟨rfl, rfl⟩ rfl rfl rfl dX11_again_69 ?_
            exact ret 72 _ (nI (edgN (mG (bkP kp 0) 0) ((bkP kp 0) 0) + edgN (mG (bkP kp 0) 1) ((bkP kp 0) 1))) _ dX11_again_72 (⟨rfl, rfl⟩)
          ·
            refine wc_aload_n X 37 0 dX11_again_37 rfl ?_
            refine wc_get X 38 0 5 kd11 rfl (by decide) q_770 rfl dX11_again_38 ?_
            refine wc_iload_n X 41 2 dX11_again_41 rfl ?_
            refine wc_aload_n X 42 0 dX11_again_42 rfl ?_
            refine wc_get X 43 0 9 kd11 rfl (by decide) q_774 rfl dX11_again_43 ?_
            refine wc_bipush X 46 (nI 22) dX11_again_46 (by decide) ?_
            refine wc_iload_n X 48 1 dX11_again_48 rfl ?_
            refine wc_imulN X 49 dX11_again_49 ?_
            refine wc_iload_n X 50 2 dX11_again_50 rfl ?_
            refine wc_iaddN X 51 dX11_again_51 ?_
            refine wc_ialdG X 52 2 rfl (by omega) (by decide) dX11_again_52 ?_
            refine wc_iastG X Y 53 1 rfl (by omega) (by decide) (ws' := [ob o 11 [.int (nI 0), .ref qtx, .int (nI ts), .int (nI pl), .ref qrp, .ref qpg, .ref qtr, .ref qbk, .int (nI dn), .ref qkp, .ref qik, .int (nI sn), .ref qsw, .ref qsi, .long sd, .ref qln, .ref qfm, .ref qby, .ref qwy, .int (nI wz), .ref qfo, .ref qon, .ref qmn, .ref qpr, .ref qle, .ref qst, .ref qwt, .int (nI rc), .int (nI tk), .int (nI ps), .int (nI gn), .int bd, .ref qwo], aI G qpg 22 (nF (up h i (kp ((22 * 0) + i)))), aI G qkp 44 (nF kp), aZ G qik 2 (bF ik)]) rfl dX11_again_53 ?_
            refine wc_iincN X 54 2 (L' := [(0, .ref o), (1, .int (nI 0)), (2, .int (nI (i + 1)))]) dX11_again_54 rfl (by decide) rfl ?_
            refine wc_goto X 57 31 dX11_again_57 (by decide) ?_
            refine wc_L (L' := [(0, .ref o), (1, .int (nI 0)), (2, .int (nI (i + 1)))]) (by rfl) ?_
            exact ih_5 (i + 1) (up h i (kp ((22 * 0) + i))) (by omega) (up_lt9 hh (bkP_in (by omega)).symm) (by omega)
      exact LP_4 (22 - 0 + 1) 0 p (by decide) (fun j hj => absurd hj (Nat.not_lt_zero _)) (Nat.lt_succ_self _)
    ·
      exact absurd c23_2 (by rw [hf]; decide)
  ·
    exact absurd c12_1 (by decide)

set_option maxHeartbeats 4000000 in
set_option maxRecDepth 100000 in
theorem c_X11_keep1 (l : Launch) (G : GG) (o : Nat) (th : Int32) (qtx ts pl qrp qpg qtr qbk dn qkp qik sn qsw qsi : Nat) (sd : Int64) (qln qfm qby qwy wz qfo qon qmn qpr qle qst qwt rc tk ps gn : Nat) (bd : Int32) (qwo : Nat) (p : Nat → Nat) (kp : Nat → Nat) (ik : Nat → Bool) (hr : pgOk p) : MM l G yX11_keep (Cond.code yX11_keep cX11_keep 3 (some .int)) { frames := 3, cells := 0, slots := 0, locals := 65 } [.ref o, .int (nI 1)] [ob o 11 [.int th, .ref qtx, .int (nI ts), .int (nI pl), .ref qrp, .ref qpg, .ref qtr, .ref qbk, .int (nI dn), .ref qkp, .ref qik, .int (nI sn), .ref qsw, .ref qsi, .long sd, .ref qln, .ref qfm, .ref qby, .ref qwy, .int (nI wz), .ref qfo, .ref qon, .ref qmn, .ref qpr, .ref qle, .ref qst, .ref qwt, .int (nI rc), .int (nI tk), .int (nI ps), .int (nI gn), .int bd, .ref qwo], aI G qpg 22 (nF p), aI G qkp 44 (nF kp), aZ G qik 2 (bF ik)] (fun (v : Option Value) (w : va_W) => ∃ (kp2 : Nat → Nat), v = some (.int (nI (edgN (gz p) (p 0) + edgN (go p) (p 1)))) ∧ w = [ob o 11 [.int (nI 0), .ref qtx, .int (nI ts), .int (nI pl), .ref qrp, .ref qpg, .ref qtr, .ref qbk, .int (nI dn), .ref qkp, .ref qik, .int (nI sn), .ref qsw, .ref qsi, .long sd, .ref qln, .ref qfm, .ref qby, .ref qwy, .int (nI wz), .ref qfo, .ref qon, .ref qmn, .ref qpr, .ref qle, .ref qst, .ref qwt, .int (nI rc), .int (nI tk), .int (nI ps), .int (nI gn), .int bd, .ref qwo], aI G qpg 22 (nF p), aI G qkp 44 (nF kp2), aZ G qik 2 (bF (up ik 1 true))] ∧ ((∀ j, j < 22 → kp2 (22 * 0 + j) = kp (22 * 0 + j)) ∧ ∀ j, j < 22 → kp2 (22 * 1 + j) = p j)) 0 0 := by
  refine MM.ofI (by decide) rfl (fun Γ X Y hnm ret => ?_)
  show Wc Γ 0 0 0 [(0, .ref o), (1, .int (nI 1))] [] [ob o 11 [.int th, .ref qtx, .int (nI ts), .int (nI pl), .ref qrp, .ref qpg, .ref qtr, .ref qbk, .int (nI dn), .ref qkp, .ref qik, .int (nI sn), .ref qsw, .ref qsi, .long sd, .ref qln, .ref qfm, .ref qby, .ref qwy, .int (nI wz), .ref qfo, .ref qon, .ref qmn, .ref qpr, .ref qle, .ref qst, .ref qwt, .int (nI rc), .int (nI tk), .int (nI ps), .int (nI gn), .int bd, .ref qwo], aI G qpg 22 (nF p), aI G qkp 44 (nF kp), aZ G qik 2 (bF ik)]
  refine wc_aload_n X 0 0 dX11_keep_0 rfl ?_
  refine wc_iconstN X 1 0 dX11_keep_1 ?_
  refine wc_put X Y 2 0 0 kd11 rfl (by decide) q_765 rfl rfl rfl (Nat.le_of_ble_eq_true rfl) (ws' := [ob o 11 [.int (nI 0), .ref qtx, .int (nI ts), .int (nI pl), .ref qrp, .ref qpg, .ref qtr, .ref qbk, .int (nI dn), .ref qkp, .ref qik, .int (nI sn), .ref qsw, .ref qsi, .long sd, .ref qln, .ref qfm, .ref qby, .ref qwy, .int (nI wz), .ref qfo, .ref qon, .ref qmn, .ref qpr, .ref qle, .ref qst, .ref qwt, .int (nI rc), .int (nI tk), .int (nI ps), .int (nI gn), .int bd, .ref qwo], aI G qpg 22 (nF p), aI G qkp 44 (nF kp), aZ G qik 2 (bF ik)]) rfl dX11_keep_2 ?_
  refine wc_iload_n X 5 1 dX11_keep_5 rfl ?_
  refine wc_i2l X 6 dX11_keep_6 ?_
  refine wc_lconst X 7 0 dX11_keep_7 (by decide) ?_
  refine wc_lconst X 8 1 dX11_keep_8 (by decide) ?_
  refine wc_callS X 9 [] (c_X11_in l G ((nI 1).toInt64) 0 1 ) ys_X11_in rfl q_870 ⟨rfl, rfl⟩ ⟨rfl, rfl⟩ ⟨rfl, rfl⟩ rfl rfl rfl dX11_keep_9 ?_
  refine wc_topi (b2i true) (by decide) ?_
  refine wc_if_neB X 12 17 dX11_keep_12 (by decide) (fun c12_1 => ?_) (fun c12_1 => ?_)
  ·
    refine wc_aload_n X 17 0 dX11_keep_17 rfl ?_
    refine wc_get X 18 0 10 kd11 rfl (by decide) q_775 rfl dX11_keep_18 ?_
    refine wc_iload_n X 21 1 dX11_keep_21 rfl ?_
    refine wc_iconstN X 22 1 dX11_keep_22 ?_
    refine wc_st (st' := [.int (b2i true), .int (nI 1), .ref qik]) rfl ?_
    refine wc_zastG X Y 23 3 rfl (by decide) (by decide) (ws' := [ob o 11 [.int (nI 0), .ref qtx, .int (nI ts), .int (nI pl), .ref qrp, .ref qpg, .ref qtr, .ref qbk, .int (nI dn), .ref qkp, .ref qik, .int (nI sn), .ref qsw, .ref qsi, .long sd, .ref qln, .ref qfm, .ref qby, .ref qwy, .int (nI wz), .ref qfo, .ref qon, .ref qmn, .ref qpr, .ref qle, .ref qst, .ref qwt, .int (nI rc), .int (nI tk), .int (nI ps), .int (nI gn), .int bd, .ref qwo], aI G qpg 22 (nF p), aI G qkp 44 (nF kp), aZ G qik 2 (bF (up ik 1 true))]) rfl dX11_keep_23 ?_
    refine wc_iconstN X 24 0 dX11_keep_24 ?_
    refine wc_istore_n X 25 (L' := [(0, .ref o), (1, .int (nI 1)), (2, .int (nI 0))]) dX11_keep_25 (by decide) rfl ?_
    have LP_3 : ∀ (fuel_2 : Nat) (i : Nat) (h : Nat → Nat), (i ≤ 22) → (∀ j, j < 22 → h (22 * 0 + j) = kp (22 * 0 + j)) → (∀ j, j < i → h (22 * 1 + j) = p j) → 22 - i < fuel_2 → Wc Γ 0 0 26 [(0, .ref o), (1, .int (nI 1)), (2, .int (nI i))] [] [ob o 11 [.int (nI 0), .ref qtx, .int (nI ts), .int (nI pl), .ref qrp, .ref qpg, .ref qtr, .ref qbk, .int (nI dn), .ref qkp, .ref qik, .int (nI sn), .ref qsw, .ref qsi, .long sd, .ref qln, .ref qfm, .ref qby, .ref qwy, .int (nI wz), .ref qfo, .ref qon, .ref qmn, .ref qpr, .ref qle, .ref qst, .ref qwt, .int (nI rc), .int (nI tk), .int (nI ps), .int (nI gn), .int bd, .ref qwo], aI G qpg 22 (nF p), aI G qkp 44 (nF h), aZ G qik 2 (bF (up ik 1 true))] := by
      intro fuel_2
      induction fuel_2 with
      | zero => intro i h hi h1 h2 hm; exact absurd hm (Nat.not_lt_zero _)
      | succ fuel_2 ih_4 =>
        intro i h hi h1 h2 hm_5
        refine wc_iload_n X 26 2 dX11_keep_26 rfl ?_
        refine wc_bipush X 27 (nI 22) dX11_keep_27 (by decide) ?_
        refine wc_icmp_geN X 29 55 dX11_keep_29 (by decide) (by omega) (by decide) (fun c29_6 => ?_) (fun c29_6 => ?_)
        ·
          refine wc_aload_n X 55 0 dX11_keep_55 rfl ?_
          refine wc_get X 56 0 5 kd11 rfl (by decide) q_770 rfl dX11_keep_56 ?_
          refine wc_callS X 59 [1] (c_X11_allEdges l G qpg p hr.2.1 hr.2.2.2.1 hr.2.2.2.2.1) ys_X11_allEdges rfl q_930 ⟨rfl, rfl⟩ ⟨rfl, rfl⟩ ⟨rfl, rfl⟩ rfl rfl rfl dX11_keep_59 ?_
          exact ret 62 _ (nI (edgN (mG p 0) (p 0) + edgN (mG p 1) (p 1))) _ dX11_keep_62 (⟨h, rfl, rfl, h1, fun j hj => h2 j (by omega)⟩)
        ·
          refine wc_aload_n X 32 0 dX11_keep_32 rfl ?_
          refine wc_get X 33 0 9 kd11 rfl (by decide) q_774 rfl dX11_keep_33 ?_
          refine wc_bipush X 36 (nI 22) dX11_keep_36 (by decide) ?_
          refine wc_iload_n X 38 1 dX11_keep_38 rfl ?_
          refine wc_imulN X 39 dX11_keep_39 ?_
          refine wc_iload_n X 40 2 dX11_keep_40 rfl ?_
          refine wc_iaddN X 41 dX11_keep_41 ?_
          refine wc_aload_n X 42 0 dX11_keep_42 rfl ?_
          refine wc_get X 43 0 5 kd11 rfl (by decide) q_770 rfl dX11_keep_43 ?_
          refine wc_iload_n X 46 2 dX11_keep_46 rfl ?_
          refine wc_ialdG X 47 1 rfl (by omega) (by decide) dX11_keep_47 ?_
          refine wc_iastG X Y 48 2 rfl (by omega) (by decide) (ws' := [ob o 11 [.int (nI 0), .ref qtx, .int (nI ts), .int (nI pl), .ref qrp, .ref qpg, .ref qtr, .ref qbk, .int (nI dn), .ref qkp, .ref qik, .int (nI sn), .ref qsw, .ref qsi, .long sd, .ref qln, .ref qfm, .ref qby, .ref qwy, .int (nI wz), .ref qfo, .ref qon, .ref qmn, .ref qpr, .ref qle, .ref qst, .ref qwt, .int (nI rc), .int (nI tk), .int (nI ps), .int (nI gn), .int bd, .ref qwo], aI G qpg 22 (nF p), aI G qkp 44 (nF (up h ((22 * 1) + i) (p i))), aZ G qik 2 (bF (up ik 1 true))]) rfl dX11_keep_48 ?_
          refine wc_iincN X 49 2 (L' := [(0, .ref o), (1, .int (nI 1)), (2, .int (nI (i + 1)))]) dX11_keep_49 rfl (by decide) rfl ?_
          refine wc_goto X 52 26 dX11_keep_52 (by decide) ?_
          refine wc_L (L' := [(0, .ref o), (1, .int (nI 1)), (2, .int (nI (i + 1)))]) (by rfl) ?_
          exact ih_4 (i + 1) (up h ((22 * 1) + i) (p i)) (by omega) (bk_put2 (p := p) (b := 22 * 1) (d := 22 * 0) (by omega) (by omega) h1 h2).1 (bk_put2 (p := p) (b := 22 * 1) (d := 22 * 0) (by omega) (by omega) h1 h2).2 (by omega)
    exact LP_3 (22 - 0 + 1) 0 kp (by decide) (fun j hj => rfl) (fun j hj => absurd hj (Nat.not_lt_zero _)) (Nat.lt_succ_self _)
  ·
    exact absurd c12_1 (by decide)

set_option maxHeartbeats 4000000 in
set_option maxRecDepth 100000 in
theorem c_X11_againN1 (l : Launch) (G : GG) (o : Nat) (th : Int32) (qtx ts pl qrp qpg qtr qbk dn qkp qik sn qsw qsi : Nat) (sd : Int64) (qln qfm qby qwy wz qfo qon qmn qpr qle qst qwt rc tk ps gn : Nat) (bd : Int32) (qwo : Nat) (ik : Nat → Bool) (hf : ik 1 = false) : MM l G yX11_again (Cond.code yX11_again cX11_again 3 (some .int)) { frames := 1, cells := 0, slots := 0, locals := 25 } [.ref o, .int (nI 1)] [ob o 11 [.int th, .ref qtx, .int (nI ts), .int (nI pl), .ref qrp, .ref qpg, .ref qtr, .ref qbk, .int (nI dn), .ref qkp, .ref qik, .int (nI sn), .ref qsw, .ref qsi, .long sd, .ref qln, .ref qfm, .ref qby, .ref qwy, .int (nI wz), .ref qfo, .ref qon, .ref qmn, .ref qpr, .ref qle, .ref qst, .ref qwt, .int (nI rc), .int (nI tk), .int (nI ps), .int (nI gn), .int bd, .ref qwo], aZ G qik 2 (bF ik)] (fun (v : Option Value) (w : va_W) => v = some (.int (-3)) ∧ w = [ob o 11 [.int (nI 0), .ref qtx, .int (nI ts), .int (nI pl), .ref qrp, .ref qpg, .ref qtr, .ref qbk, .int (nI dn), .ref qkp, .ref qik, .int (nI sn), .ref qsw, .ref qsi, .long sd, .ref qln, .ref qfm, .ref qby, .ref qwy, .int (nI wz), .ref qfo, .ref qon, .ref qmn, .ref qpr, .ref qle, .ref qst, .ref qwt, .int (nI rc), .int (nI tk), .int (nI ps), .int (nI gn), .int bd, .ref qwo], aZ G qik 2 (bF ik)]) 0 0 := by
  refine MM.ofI (by decide) rfl (fun Γ X Y hnm ret => ?_)
  show Wc Γ 0 0 0 [(0, .ref o), (1, .int (nI 1))] [] [ob o 11 [.int th, .ref qtx, .int (nI ts), .int (nI pl), .ref qrp, .ref qpg, .ref qtr, .ref qbk, .int (nI dn), .ref qkp, .ref qik, .int (nI sn), .ref qsw, .ref qsi, .long sd, .ref qln, .ref qfm, .ref qby, .ref qwy, .int (nI wz), .ref qfo, .ref qon, .ref qmn, .ref qpr, .ref qle, .ref qst, .ref qwt, .int (nI rc), .int (nI tk), .int (nI ps), .int (nI gn), .int bd, .ref qwo], aZ G qik 2 (bF ik)]
  refine wc_aload_n X 0 0 dX11_again_0 rfl ?_
  refine wc_iconstN X 1 0 dX11_again_1 ?_
  refine wc_put X Y 2 0 0 kd11 rfl (by decide) q_765 rfl rfl rfl (Nat.le_of_ble_eq_true rfl) (ws' := [ob o 11 [.int (nI 0), .ref qtx, .int (nI ts), .int (nI pl), .ref qrp, .ref qpg, .ref qtr, .ref qbk, .int (nI dn), .ref qkp, .ref qik, .int (nI sn), .ref qsw, .ref qsi, .long sd, .ref qln, .ref qfm, .ref qby, .ref qwy, .int (nI wz), .ref qfo, .ref qon, .ref qmn, .ref qpr, .ref qle, .ref qst, .ref qwt, .int (nI rc), .int (nI tk), .int (nI ps), .int (nI gn), .int bd, .ref qwo], aZ G qik 2 (bF ik)]) rfl dX11_again_2 ?_
  refine wc_iload_n X 5 1 dX11_again_5 rfl ?_
  refine wc_i2l X 6 dX11_again_6 ?_
  refine wc_lconst X 7 0 dX11_again_7 (by decide) ?_
  refine wc_lconst X 8 1 dX11_again_8 (by decide) ?_
  refine wc_callS X 9 [] (c_X11_in l G ((nI 1).toInt64) 0 1 ) ys_X11_in rfl q_870 ⟨rfl, rfl⟩ ⟨rfl, rfl⟩ ⟨rfl, rfl⟩ rfl rfl rfl dX11_again_9 ?_
  refine wc_topi (b2i true) (by decide) ?_
  refine wc_if_neB X 12 17 dX11_again_12 (by decide) (fun c12_1 => ?_) (fun c12_1 => ?_)
  ·
    refine wc_aload_n X 17 0 dX11_again_17 rfl ?_
    refine wc_get X 18 0 10 kd11 rfl (by decide) q_775 rfl dX11_again_18 ?_
    refine wc_iload_n X 21 1 dX11_again_21 rfl ?_
    refine wc_zaldG X 22 1 rfl (by decide) (by decide) dX11_again_22 ?_
    refine wc_if_neB X 23 29 dX11_again_23 (by decide) (fun c23_2 => ?_) (fun c23_2 => ?_)
    ·
      exact absurd c23_2 (by rw [hf]; decide)
    ·
      refine wc_bipush X 26 (-3) dX11_again_26 (by decide) ?_
      exact ret 28 _ (-3) _ dX11_again_28 (⟨rfl, rfl⟩)
  ·
    exact absurd c12_1 (by decide)

set_option maxHeartbeats 4000000 in
set_option maxRecDepth 100000 in
theorem c_X11_againS1 (l : Launch) (G : GG) (o : Nat) (th : Int32) (qtx ts pl qrp qpg qtr qbk dn qkp qik sn qsw qsi : Nat) (sd : Int64) (qln qfm qby qwy wz qfo qon qmn qpr qle qst qwt rc tk ps gn : Nat) (bd : Int32) (qwo : Nat) (p : Nat → Nat) (kp : Nat → Nat) (ik : Nat → Bool) (hr : pgOk (bkP kp 1)) (hf : ik 1 = true) : MM l G yX11_again (Cond.code yX11_again cX11_again 3 (some .int)) { frames := 3, cells := 0, slots := 0, locals := 65 } [.ref o, .int (nI 1)] [ob o 11 [.int th, .ref qtx, .int (nI ts), .int (nI pl), .ref qrp, .ref qpg, .ref qtr, .ref qbk, .int (nI dn), .ref qkp, .ref qik, .int (nI sn), .ref qsw, .ref qsi, .long sd, .ref qln, .ref qfm, .ref qby, .ref qwy, .int (nI wz), .ref qfo, .ref qon, .ref qmn, .ref qpr, .ref qle, .ref qst, .ref qwt, .int (nI rc), .int (nI tk), .int (nI ps), .int (nI gn), .int bd, .ref qwo], aI G qpg 22 (nF p), aI G qkp 44 (nF kp), aZ G qik 2 (bF ik)] (fun (v : Option Value) (w : va_W) => v = some (.int (nI (edgN (gz (bkP kp 1)) ((bkP kp 1) 0) + edgN (go (bkP kp 1)) ((bkP kp 1) 1)))) ∧ w = [ob o 11 [.int (nI 0), .ref qtx, .int (nI ts), .int (nI pl), .ref qrp, .ref qpg, .ref qtr, .ref qbk, .int (nI 0), .ref qkp, .ref qik, .int (nI sn), .ref qsw, .ref qsi, .long sd, .ref qln, .ref qfm, .ref qby, .ref qwy, .int (nI wz), .ref qfo, .ref qon, .ref qmn, .ref qpr, .ref qle, .ref qst, .ref qwt, .int (nI rc), .int (nI tk), .int (nI ps), .int (nI gn), .int bd, .ref qwo], aI G qpg 22 (nF (bkP kp 1)), aI G qkp 44 (nF kp), aZ G qik 2 (bF ik)]) 0 0 := by
  refine MM.ofI (by decide) rfl (fun Γ X Y hnm ret => ?_)
  show Wc Γ 0 0 0 [(0, .ref o), (1, .int (nI 1))] [] [ob o 11 [.int th, .ref qtx, .int (nI ts), .int (nI pl), .ref qrp, .ref qpg, .ref qtr, .ref qbk, .int (nI dn), .ref qkp, .ref qik, .int (nI sn), .ref qsw, .ref qsi, .long sd, .ref qln, .ref qfm, .ref qby, .ref qwy, .int (nI wz), .ref qfo, .ref qon, .ref qmn, .ref qpr, .ref qle, .ref qst, .ref qwt, .int (nI rc), .int (nI tk), .int (nI ps), .int (nI gn), .int bd, .ref qwo], aI G qpg 22 (nF p), aI G qkp 44 (nF kp), aZ G qik 2 (bF ik)]
  refine wc_aload_n X 0 0 dX11_again_0 rfl ?_
  refine wc_iconstN X 1 0 dX11_again_1 ?_
  refine wc_put X Y 2 0 0 kd11 rfl (by decide) q_765 rfl rfl rfl (Nat.le_of_ble_eq_true rfl) (ws' := [ob o 11 [.int (nI 0), .ref qtx, .int (nI ts), .int (nI pl), .ref qrp, .ref qpg, .ref qtr, .ref qbk, .int (nI dn), .ref qkp, .ref qik, .int (nI sn), .ref qsw, .ref qsi, .long sd, .ref qln, .ref qfm, .ref qby, .ref qwy, .int (nI wz), .ref qfo, .ref qon, .ref qmn, .ref qpr, .ref qle, .ref qst, .ref qwt, .int (nI rc), .int (nI tk), .int (nI ps), .int (nI gn), .int bd, .ref qwo], aI G qpg 22 (nF p), aI G qkp 44 (nF kp), aZ G qik 2 (bF ik)]) rfl dX11_again_2 ?_
  refine wc_iload_n X 5 1 dX11_again_5 rfl ?_
  refine wc_i2l X 6 dX11_again_6 ?_
  refine wc_lconst X 7 0 dX11_again_7 (by decide) ?_
  refine wc_lconst X 8 1 dX11_again_8 (by decide) ?_
  refine wc_callS X 9 [] (c_X11_in l G ((nI 1).toInt64) 0 1 ) ys_X11_in rfl q_870 ⟨rfl, rfl⟩ ⟨rfl, rfl⟩ ⟨rfl, rfl⟩ rfl rfl rfl dX11_again_9 ?_
  refine wc_topi (b2i true) (by decide) ?_
  refine wc_if_neB X 12 17 dX11_again_12 (by decide) (fun c12_1 => ?_) (fun c12_1 => ?_)
  ·
    refine wc_aload_n X 17 0 dX11_again_17 rfl ?_
    refine wc_get X 18 0 10 kd11 rfl (by decide) q_775 rfl dX11_again_18 ?_
    refine wc_iload_n X 21 1 dX11_again_21 rfl ?_
    refine wc_zaldG X 22 3 rfl (by decide) (by decide) dX11_again_22 ?_
    refine wc_if_neB X 23 29 dX11_again_23 (by decide) (fun c23_2 => ?_) (fun c23_2 => ?_)
    ·
      refine wc_iconstN X 29 0 dX11_again_29 ?_
      refine wc_istore_n X 30 (L' := [(0, .ref o), (1, .int (nI 1)), (2, .int (nI 0))]) dX11_again_30 (by decide) rfl ?_
      have LP_4 : ∀ (fuel_3 : Nat) (i : Nat) (h : Nat → Nat), (i ≤ 22) → (∀ j, j < i → h j = bkP kp 1 j) → 22 - i < fuel_3 → Wc Γ 0 0 31 [(0, .ref o), (1, .int (nI 1)), (2, .int (nI i))] [] [ob o 11 [.int (nI 0), .ref qtx, .int (nI ts), .int (nI pl), .ref qrp, .ref qpg, .ref qtr, .ref qbk, .int (nI dn), .ref qkp, .ref qik, .int (nI sn), .ref qsw, .ref qsi, .long sd, .ref qln, .ref qfm, .ref qby, .ref qwy, .int (nI wz), .ref qfo, .ref qon, .ref qmn, .ref qpr, .ref qle, .ref qst, .ref qwt, .int (nI rc), .int (nI tk), .int (nI ps), .int (nI gn), .int bd, .ref qwo], aI G qpg 22 (nF h), aI G qkp 44 (nF kp), aZ G qik 2 (bF ik)] := by
        intro fuel_3
        induction fuel_3 with
        | zero => intro i h hi hh hm; exact absurd hm (Nat.not_lt_zero _)
        | succ fuel_3 ih_5 =>
          intro i h hi hh hm_6
          refine wc_iload_n X 31 2 dX11_again_31 rfl ?_
          refine wc_bipush X 32 (nI 22) dX11_again_32 (by decide) ?_
          refine wc_icmp_geN X 34 60 dX11_again_34 (by decide) (by omega) (by decide) (fun c34_7 => ?_) (fun c34_7 => ?_)
          ·
            refine wc_ext X Y 1 (f' := nF ((bkP kp 1))) rfl (fun j hj => congrArg nI (hh j (by omega))) (ws' := [ob o 11 [.int (nI 0), .ref qtx, .int (nI ts), .int (nI pl), .ref qrp, .ref qpg, .ref qtr, .ref qbk, .int (nI dn), .ref qkp, .ref qik, .int (nI sn), .ref qsw, .ref qsi, .long sd, .ref qln, .ref qfm, .ref qby, .ref qwy, .int (nI wz), .ref qfo, .ref qon, .ref qmn, .ref qpr, .ref qle, .ref qst, .ref qwt, .int (nI rc), .int (nI tk), .int (nI ps), .int (nI gn), .int bd, .ref qwo], aI G qpg 22 (nF (bkP kp 1)), aI G qkp 44 (nF kp), aZ G qik 2 (bF ik)]) rfl ?_
            refine wc_aload_n X 60 0 dX11_again_60 rfl ?_
            refine wc_iconstN X 61 0 dX11_again_61 ?_
            refine wc_put X Y 62 0 8 kd11 rfl (by decide) q_773 rfl rfl rfl (Nat.le_of_ble_eq_true rfl) (ws' := [ob o 11 [.int (nI 0), .ref qtx, .int (nI ts), .int (nI pl), .ref qrp, .ref qpg, .ref qtr, .ref qbk, .int (nI 0), .ref qkp, .ref qik, .int (nI sn), .ref qsw, .ref qsi, .long sd, .ref qln, .ref qfm, .ref qby, .ref qwy, .int (nI wz), .ref qfo, .ref qon, .ref qmn, .ref qpr, .ref qle, .ref qst, .ref qwt, .int (nI rc), .int (nI tk), .int (nI ps), .int (nI gn), .int bd, .ref qwo], aI G qpg 22 (nF (bkP kp 1)), aI G qkp 44 (nF kp), aZ G qik 2 (bF ik)]) rfl dX11_again_62 ?_
            refine wc_aload_n X 65 0 dX11_again_65 rfl ?_
            refine wc_get X 66 0 5 kd11 rfl (by decide) q_770 rfl dX11_again_66 ?_
            refine wc_callS X 69 [1] (c_X11_allEdges l G qpg (bkP kp 1) hr.2.1 hr.2.2.2.1 hr.2.2.2.2.1) ys_X11_allEdges rfl q_930 ⟨rfl, rfl⟩ ⟨rfl, rfl⟩ ⟨rfl, rfl⟩ rfl rfl rfl dX11_again_69 ?_
            exact ret 72 _ (nI (edgN (mG (bkP kp 1) 0) ((bkP kp 1) 0) + edgN (mG (bkP kp 1) 1) ((bkP kp 1) 1))) _ dX11_again_72 (⟨rfl, rfl⟩)
          ·
            refine wc_aload_n X 37 0 dX11_again_37 rfl ?_
            refine wc_get X 38 0 5 kd11 rfl (by decide) q_770 rfl dX11_again_38 ?_
            refine wc_iload_n X 41 2 dX11_again_41 rfl ?_
            refine wc_aload_n X 42 0 dX11_again_42 rfl ?_
            refine wc_get X 43 0 9 kd11 rfl (by decide) q_774 rfl dX11_again_43 ?_
            refine wc_bipush X 46 (nI 22) dX11_again_46 (by decide) ?_
            refine wc_iload_n X 48 1 dX11_again_48 rfl ?_
            refine wc_imulN X 49 dX11_again_49 ?_
            refine wc_iload_n X 50 2 dX11_again_50 rfl ?_
            refine wc_iaddN X 51 dX11_again_51 ?_
            refine wc_ialdG X 52 2 rfl (by omega) (by decide) dX11_again_52 ?_
            refine wc_iastG X Y 53 1 rfl (by omega) (by decide) (ws' := [ob o 11 [.int (nI 0), .ref qtx, .int (nI ts), .int (nI pl), .ref qrp, .ref qpg, .ref qtr, .ref qbk, .int (nI dn), .ref qkp, .ref qik, .int (nI sn), .ref qsw, .ref qsi, .long sd, .ref qln, .ref qfm, .ref qby, .ref qwy, .int (nI wz), .ref qfo, .ref qon, .ref qmn, .ref qpr, .ref qle, .ref qst, .ref qwt, .int (nI rc), .int (nI tk), .int (nI ps), .int (nI gn), .int bd, .ref qwo], aI G qpg 22 (nF (up h i (kp ((22 * 1) + i)))), aI G qkp 44 (nF kp), aZ G qik 2 (bF ik)]) rfl dX11_again_53 ?_
            refine wc_iincN X 54 2 (L' := [(0, .ref o), (1, .int (nI 1)), (2, .int (nI (i + 1)))]) dX11_again_54 rfl (by decide) rfl ?_
            refine wc_goto X 57 31 dX11_again_57 (by decide) ?_
            refine wc_L (L' := [(0, .ref o), (1, .int (nI 1)), (2, .int (nI (i + 1)))]) (by rfl) ?_
            exact ih_5 (i + 1) (up h i (kp ((22 * 1) + i))) (by omega) (up_lt9 hh (bkP_in (by omega)).symm) (by omega)
      exact LP_4 (22 - 0 + 1) 0 p (by decide) (fun j hj => absurd hj (Nat.not_lt_zero _)) (Nat.lt_succ_self _)
    ·
      exact absurd c23_2 (by rw [hf]; decide)
  ·
    exact absurd c12_1 (by decide)

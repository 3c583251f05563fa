set_option maxHeartbeats 4000000 in
set_option maxRecDepth 100000 in
theorem c_X11_layWay (l : Launch) (G : GG) (o : Nat) (th : Int32) (qtx ts pl qrp qpg qtr qbk dn qkp qik sn qsw qsi : Nat) (sd : Int64) (qln qfm qby qwy wz qfo qon qmn qpr qle qst qwt rc tk ps gn : Nat) (bd : Int32) (qwo : Nat) (fm : Nat → Int32) (bf wy : Nat → Nat) (ln wd : Nat → Nat) (n i0 v : Nat) (hP : Pr fm bf ln wd n) (hi0 : i0 < n) (hn : n ≤ 512) (hv : v = ln i0) (h0 : wd 0 = 0) : MM l G yX11_layWay (Cond.code yX11_layWay cX11_layWay 4 none) { frames := 0, cells := 0, slots := 0, locals := 0 } [.ref o, .int (nI v)] [ob o 11 [.int th, .ref qtx, .int (nI ts), .int (nI pl), .ref qrp, .ref qpg, .ref qtr, .ref qbk, .int (nI dn), .ref qkp, .ref qik, .int (nI sn), .ref qsw, .ref qsi, .long sd, .ref qln, .ref qfm, .ref qby, .ref qwy, .int (nI wz), .ref qfo, .ref qon, .ref qmn, .ref qpr, .ref qle, .ref qst, .ref qwt, .int (nI rc), .int (nI tk), .int (nI ps), .int (nI gn), .int bd, .ref qwo], aI G qfm 512 fm, aI G qby 512 (nF bf), aI G qwy 512 (nF wy)] (fun (v : Option Value) (w : va_W) => ∃ (wy2 : Nat → Nat), v = none ∧ w = [ob o 11 [.int th, .ref qtx, .int (nI ts), .int (nI pl), .ref qrp, .ref qpg, .ref qtr, .ref qbk, .int (nI dn), .ref qkp, .ref qik, .int (nI sn), .ref qsw, .ref qsi, .long sd, .ref qln, .ref qfm, .ref qby, .ref qwy, .int (nI (lenB (wd i0))), .ref qfo, .ref qon, .ref qmn, .ref qpr, .ref qle, .ref qst, .ref qwt, .int (nI rc), .int (nI tk), .int (nI ps), .int (nI gn), .int bd, .ref qwo], aI G qfm 512 fm, aI G qby 512 (nF bf), aI G qwy 512 (nF wy2)] ∧ (∀ j, j < lenB (wd i0) → wy2 j = letE (wd i0) (lenB (wd i0) - 1 - j)) ∧ (lenB (wd i0) < 512)) 0 0 := by
  refine MM.ofV (by decide) rfl (fun Γ X Y hnm ret => ?_)
  show Wc Γ 0 0 0 [(0, .ref o), (1, .int (nI v))] [] [ob o 11 [.int th, .ref qtx, .int (nI ts), .int (nI pl), .ref qrp, .ref qpg, .ref qtr, .ref qbk, .int (nI dn), .ref qkp, .ref qik, .int (nI sn), .ref qsw, .ref qsi, .long sd, .ref qln, .ref qfm, .ref qby, .ref qwy, .int (nI wz), .ref qfo, .ref qon, .ref qmn, .ref qpr, .ref qle, .ref qst, .ref qwt, .int (nI rc), .int (nI tk), .int (nI ps), .int (nI gn), .int bd, .ref qwo], aI G qfm 512 fm, aI G qby 512 (nF bf), aI G qwy 512 (nF wy)]
  refine wc_aload_n X 0 0 dX11_layWay_0 rfl ?_
  refine wc_iconstN X 1 0 dX11_layWay_1 ?_
  refine wc_put X Y 2 0 19 kd11 rfl (by decide) q_784 rfl rfl rfl (Nat.le_of_ble_eq_true rfl) (ws' := [ob o 11 [.int th, .ref qtx, .int (nI ts), .int (nI pl), .ref qrp, .ref qpg, .ref qtr, .ref qbk, .int (nI dn), .ref qkp, .ref qik, .int (nI sn), .ref qsw, .ref qsi, .long sd, .ref qln, .ref qfm, .ref qby, .ref qwy, .int (nI 0), .ref qfo, .ref qon, .ref qmn, .ref qpr, .ref qle, .ref qst, .ref qwt, .int (nI rc), .int (nI tk), .int (nI ps), .int (nI gn), .int bd, .ref qwo], aI G qfm 512 fm, aI G qby 512 (nF bf), aI G qwy 512 (nF wy)]) rfl dX11_layWay_2 ?_
  refine wc_iload_n X 5 1 dX11_layWay_5 rfl ?_
  refine wc_istore_n X 6 (L' := [(0, .ref o), (1, .int (nI v)), (2, .int (nI v))]) dX11_layWay_6 (by decide) rfl ?_
  have LP_2 : ∀ (fuel_1 : Nat) (i : Nat) (sN : Nat) (w : Nat → Nat), (i < n) → (prevN (wd i0) sN = wd i) → (sN + i ≤ i0) → (sN ≤ lenB (wd i0)) → (∀ u, u < sN → w u = letE (wd i0) u) → i < fuel_1 → Wc Γ 0 0 7 [(0, .ref o), (1, .int (nI v)), (2, .int (nI (ln i)))] [] [ob o 11 [.int th, .ref qtx, .int (nI ts), .int (nI pl), .ref qrp, .ref qpg, .ref qtr, .ref qbk, .int (nI dn), .ref qkp, .ref qik, .int (nI sn), .ref qsw, .ref qsi, .long sd, .ref qln, .ref qfm, .ref qby, .ref qwy, .int (nI sN), .ref qfo, .ref qon, .ref qmn, .ref qpr, .ref qle, .ref qst, .ref qwt, .int (nI rc), .int (nI tk), .int (nI ps), .int (nI gn), .int bd, .ref qwo], aI G qfm 512 fm, aI G qby 512 (nF bf), aI G qwy 512 (nF w)] := by
    intro fuel_1
    induction fuel_1 with
    | zero => intro i sN w hi hs hsi hl hw hm; exact absurd hm (Nat.not_lt_zero _)
    | succ fuel_1 ih_3 =>
      intro i sN w hi hs hsi hl hw hm_4
      refine wc_aload_n X 7 0 dX11_layWay_7 rfl ?_
      refine wc_get X 8 0 16 kd11 rfl (by decide) q_781 rfl dX11_layWay_8 ?_
      refine wc_iload_n X 11 2 dX11_layWay_11 rfl ?_
      refine wc_ialdN X 12 1 rfl (hP.2.2.2 i hi) (by decide) dX11_layWay_12 ?_
      refine wc_sipush X 13 (nI 512) dX11_layWay_13 (by decide) ?_
      refine wc_icmp_eq X 16 54 dX11_layWay_16 (by decide) (fun c16_5 => ?_) (fun c16_5 => ?_)
      ·
        have hz := Pr_512 hP hi c16_5
        have hlen := way_end h0 hs hl hz
        refine wc_iconstN X 54 0 dX11_layWay_54 ?_
        refine wc_istore_n X 55 (L' := [(0, .ref o), (1, .int (nI v)), (2, .int (nI 0))]) dX11_layWay_55 (by decide) rfl ?_
        have LP_7 : ∀ (fuel_6 : Nat) (i2 : Nat) (w2 : Nat → Nat), (i2 ≤ sN / 2) → (∀ j, j < sN → w2 j = if j < i2 ∨ sN - i2 ≤ j then w (sN - 1 - j) else w j) → sN / 2 - i2 < fuel_6 → Wc Γ 0 0 56 [(0, .ref o), (1, .int (nI v)), (2, .int (nI i2))] [] [ob o 11 [.int th, .ref qtx, .int (nI ts), .int (nI pl), .ref qrp, .ref qpg, .ref qtr, .ref qbk, .int (nI dn), .ref qkp, .ref qik, .int (nI sn), .ref qsw, .ref qsi, .long sd, .ref qln, .ref qfm, .ref qby, .ref qwy, .int (nI sN), .ref qfo, .ref qon, .ref qmn, .ref qpr, .ref qle, .ref qst, .ref qwt, .int (nI rc), .int (nI tk), .int (nI ps), .int (nI gn), .int bd, .ref qwo], aI G qfm 512 fm, aI G qby 512 (nF bf), aI G qwy 512 (nF w2)] := by
          intro fuel_6
          induction fuel_6 with
          | zero => intro i2 w2 hi2 hw2 hm; exact absurd hm (Nat.not_lt_zero _)
          | succ fuel_6 ih_8 =>
            intro i2 w2 hi2 hw2 hm_9
            refine wc_iload_n X 56 2 dX11_layWay_56 rfl ?_
            refine wc_aload_n X 57 0 dX11_layWay_57 rfl ?_
            refine wc_get X 58 0 19 kd11 rfl (by decide) q_784 rfl dX11_layWay_58 ?_
            refine wc_iconstN X 61 2 dX11_layWay_61 ?_
            refine wc_idivN X 62 dX11_layWay_62 (by omega) (by decide) (by decide) ?_
            refine wc_icmp_geN X 63 112 dX11_layWay_63 (by decide) (by omega) (by omega) (fun c63_10 => ?_) (fun c63_10 => ?_)
            ·
              exact ret 112 _ _ dX11_layWay_112 (⟨w2, rfl, by rw [hlen], fun j hj => by rw [← hlen] at hj ⊢; rw [rev_end (by omega) hw2 j hj]; exact hw _ (by omega), by omega⟩)
            ·
              refine wc_aload_n X 66 0 dX11_layWay_66 rfl ?_
              refine wc_get X 67 0 18 kd11 rfl (by decide) q_783 rfl dX11_layWay_67 ?_
              refine wc_iload_n X 70 2 dX11_layWay_70 rfl ?_
              refine wc_ialdG X 71 3 rfl (by omega) (by decide) dX11_layWay_71 ?_
              refine wc_istore_n X 72 (L' := [(0, .ref o), (1, .int (nI v)), (2, .int (nI i2)), (3, .int (nI (w2 i2)))]) dX11_layWay_72 (by decide) rfl ?_
              refine wc_aload_n X 73 0 dX11_layWay_73 rfl ?_
              refine wc_get X 74 0 18 kd11 rfl (by decide) q_783 rfl dX11_layWay_74 ?_
              refine wc_iload_n X 77 2 dX11_layWay_77 rfl ?_
              refine wc_aload_n X 78 0 dX11_layWay_78 rfl ?_
              refine wc_get X 79 0 18 kd11 rfl (by decide) q_783 rfl dX11_layWay_79 ?_
              refine wc_aload_n X 82 0 dX11_layWay_82 rfl ?_
              refine wc_get X 83 0 19 kd11 rfl (by decide) q_784 rfl dX11_layWay_83 ?_
              refine wc_iconstN X 86 1 dX11_layWay_86 ?_
              refine wc_isubN X 87 dX11_layWay_87 (by omega) ?_
              refine wc_iload_n X 88 2 dX11_layWay_88 rfl ?_
              refine wc_isubN X 89 dX11_layWay_89 (by omega) ?_
              refine wc_ialdG X 90 3 rfl (by omega) (by decide) dX11_layWay_90 ?_
              refine wc_iastG X Y 91 3 rfl (by omega) (by decide) (ws' := [ob o 11 [.int th, .ref qtx, .int (nI ts), .int (nI pl), .ref qrp, .ref qpg, .ref qtr, .ref qbk, .int (nI dn), .ref qkp, .ref qik, .int (nI sn), .ref qsw, .ref qsi, .long sd, .ref qln, .ref qfm, .ref qby, .ref qwy, .int (nI sN), .ref qfo, .ref qon, .ref qmn, .ref qpr, .ref qle, .ref qst, .ref qwt, .int (nI rc), .int (nI tk), .int (nI ps), .int (nI gn), .int bd, .ref qwo], aI G qfm 512 fm, aI G qby 512 (nF bf), aI G qwy 512 (nF (up w2 i2 (w2 ((sN - 1) - i2))))]) rfl dX11_layWay_91 ?_
              refine wc_aload_n X 92 0 dX11_layWay_92 rfl ?_
              refine wc_get X 93 0 18 kd11 rfl (by decide) q_783 rfl dX11_layWay_93 ?_
              refine wc_aload_n X 96 0 dX11_layWay_96 rfl ?_
              refine wc_get X 97 0 19 kd11 rfl (by decide) q_784 rfl dX11_layWay_97 ?_
              refine wc_iconstN X 100 1 dX11_layWay_100 ?_
              refine wc_isubN X 101 dX11_layWay_101 (by omega) ?_
              refine wc_iload_n X 102 2 dX11_layWay_102 rfl ?_
              refine wc_isubN X 103 dX11_layWay_103 (by omega) ?_
              refine wc_iload_n X 104 3 dX11_layWay_104 rfl ?_
              refine wc_iastG X Y 105 3 rfl (by omega) (by decide) (ws' := [ob o 11 [.int th, .ref qtx, .int (nI ts), .int (nI pl), .ref qrp, .ref qpg, .ref qtr, .ref qbk, .int (nI dn), .ref qkp, .ref qik, .int (nI sn), .ref qsw, .ref qsi, .long sd, .ref qln, .ref qfm, .ref qby, .ref qwy, .int (nI sN), .ref qfo, .ref qon, .ref qmn, .ref qpr, .ref qle, .ref qst, .ref qwt, .int (nI rc), .int (nI tk), .int (nI ps), .int (nI gn), .int bd, .ref qwo], aI G qfm 512 fm, aI G qby 512 (nF bf), aI G qwy 512 (nF (up (up w2 i2 (w2 ((sN - 1) - i2))) ((sN - 1) - i2) (w2 i2)))]) rfl dX11_layWay_105 ?_
              refine wc_iincN X 106 2 (L' := [(0, .ref o), (1, .int (nI v)), (2, .int (nI (i2 + 1))), (3, .int (nI (w2 i2)))]) dX11_layWay_106 rfl (by decide) rfl ?_
              refine wc_goto X 109 56 dX11_layWay_109 (by decide) ?_
              refine wc_loc [0, 1, 2] (L' := [(0, .ref o), (1, .int (nI v)), (2, .int (nI (i2 + 1)))]) rfl ?_
              refine wc_L (L' := [(0, .ref o), (1, .int (nI v)), (2, .int (nI (i2 + 1)))]) (by rfl) ?_
              exact ih_8 (i2 + 1) (up (up w2 i2 (w2 ((sN - 1) - i2))) ((sN - 1) - i2) (w2 i2)) (by omega) (rev_bk c63_10 hw2) (by omega)
        exact LP_7 (sN / 2 - 0 + 1) 0 w (Nat.zero_le _) (rev_0 _) (Nat.lt_succ_self _)
      ·
        have hpos : 0 < i := Nat.pos_of_ne_zero (fun e => c16_5 (by rw [e]; exact hP.1))
        obtain ⟨j, c, hj0, hj1, hj2, hj3, hj4, hj5⟩ := hP.2.2.1 i hpos hi
        refine wc_aload_n X 19 0 dX11_layWay_19 rfl ?_
        refine wc_get X 20 0 18 kd11 rfl (by decide) q_783 rfl dX11_layWay_20 ?_
        refine wc_aload_n X 23 0 dX11_layWay_23 rfl ?_
        refine wc_get X 24 0 19 kd11 rfl (by decide) q_784 rfl dX11_layWay_24 ?_
        refine wc_aload_n X 27 0 dX11_layWay_27 rfl ?_
        refine wc_get X 28 0 17 kd11 rfl (by decide) q_782 rfl dX11_layWay_28 ?_
        refine wc_iload_n X 31 2 dX11_layWay_31 rfl ?_
        refine wc_ialdG X 32 2 rfl (hP.2.2.2 i hi) (by decide) dX11_layWay_32 ?_
        refine wc_iastG X Y 33 3 rfl (by omega) (by decide) (ws' := [ob o 11 [.int th, .ref qtx, .int (nI ts), .int (nI pl), .ref qrp, .ref qpg, .ref qtr, .ref qbk, .int (nI dn), .ref qkp, .ref qik, .int (nI sn), .ref qsw, .ref qsi, .long sd, .ref qln, .ref qfm, .ref qby, .ref qwy, .int (nI sN), .ref qfo, .ref qon, .ref qmn, .ref qpr, .ref qle, .ref qst, .ref qwt, .int (nI rc), .int (nI tk), .int (nI ps), .int (nI gn), .int bd, .ref qwo], aI G qfm 512 fm, aI G qby 512 (nF bf), aI G qwy 512 (nF (up w sN (bf (ln i))))]) rfl dX11_layWay_33 ?_
        refine wc_aload_n X 34 0 dX11_layWay_34 rfl ?_
        refine wc_dup X 35 dX11_layWay_35 rfl ?_
        refine wc_get X 36 0 19 kd11 rfl (by decide) q_784 rfl dX11_layWay_36 ?_
        refine wc_iconstN X 39 1 dX11_layWay_39 ?_
        refine wc_iaddN X 40 dX11_layWay_40 ?_
        refine wc_put X Y 41 0 19 kd11 rfl (by decide) q_784 rfl rfl rfl (Nat.le_of_ble_eq_true rfl) (ws' := [ob o 11 [.int th, .ref qtx, .int (nI ts), .int (nI pl), .ref qrp, .ref qpg, .ref qtr, .ref qbk, .int (nI dn), .ref qkp, .ref qik, .int (nI sn), .ref qsw, .ref qsi, .long sd, .ref qln, .ref qfm, .ref qby, .ref qwy, .int (nI (sN + 1)), .ref qfo, .ref qon, .ref qmn, .ref qpr, .ref qle, .ref qst, .ref qwt, .int (nI rc), .int (nI tk), .int (nI ps), .int (nI gn), .int bd, .ref qwo], aI G qfm 512 fm, aI G qby 512 (nF bf), aI G qwy 512 (nF (up w sN (bf (ln i))))]) rfl dX11_layWay_41 ?_
        refine wc_aload_n X 44 0 dX11_layWay_44 rfl ?_
        refine wc_get X 45 0 16 kd11 rfl (by decide) q_781 rfl dX11_layWay_45 ?_
        refine wc_iload_n X 48 2 dX11_layWay_48 rfl ?_
        refine wc_ialdN X 49 1 rfl (hP.2.2.2 i hi) (by decide) dX11_layWay_49 ?_
        refine wc_top (v' := .int (nI (ln j))) (by rw [hj3]) ?_
        refine wc_istore_n X 50 (L' := [(0, .ref o), (1, .int (nI v)), (2, .int (nI (ln j)))]) dX11_layWay_50 (by decide) rfl ?_
        refine wc_goto X 51 7 dX11_layWay_51 (by decide) ?_
        exact ih_3 j (sN + 1) (up w sN (bf (ln i))) (by omega) (way_bk hs hj1 hj2 hj5) (by omega) (way_lt hs hl (by omega)) (way_let hs hj1 hj2 hj5 hj4 hw) (by omega)
  have e_11 : v = ln i0 := hv
  refine wc_L (L' := [(0, .ref o), (1, .int (nI v)), (2, .int (nI (ln i0)))]) (by first | rfl | rw [e_11] | (rw [e_11]; rfl)) ?_
  exact LP_2 (i0 + 1) i0 0 wy hi0 rfl (by omega) (Nat.zero_le _) (fun u hu => absurd hu (Nat.not_lt_zero _)) (Nat.lt_succ_self _)

set_option maxHeartbeats 4000000 in
set_option maxRecDepth 100000 in
theorem c_X11_find (l : Launch) (G : GG) (o : Nat) (th : Int32) (qtx ts pl qrp qpg qtr qbk dn qkp qik sn qsw qsi : Nat) (sd : Int64) (qln qfm qby qwy wz qfo qon qmn qpr qle qst qwt rc tk ps gn : Nat) (bd : Int32) (qwo : Nat) (qx : Nat) (p : Nat → Nat) (ln0 : Nat → Nat) (fm0 : Nat → Int32) (bf0 wy0 : Nat → Nat) (kk : Nat) (hr : pgOk p) (hkk : kk < 3) : MM l G yX11_find (Cond.code yX11_find cX11_find 8 (some .boolean)) { frames := 3, cells := 0, slots := 0, locals := 69 } [.ref o, .ref qx, .int (nI kk)] [ob o 11 [.int th, .ref qtx, .int (nI ts), .int (nI pl), .ref qrp, .ref qpg, .ref qtr, .ref qbk, .int (nI dn), .ref qkp, .ref qik, .int (nI sn), .ref qsw, .ref qsi, .long sd, .ref qln, .ref qfm, .ref qby, .ref qwy, .int (nI wz), .ref qfo, .ref qon, .ref qmn, .ref qpr, .ref qle, .ref qst, .ref qwt, .int (nI rc), .int (nI tk), .int (nI ps), .int (nI gn), .int bd, .ref qwo], aI G qx 22 (nF p), aI G qln 512 (nF ln0), aI G qfm 512 fm0, aI G qby 512 (nF bf0), aI G qwy 512 (nF wy0)] (fun (v : Option Value) (w : va_W) => ∃ (wz2 : Nat) (ln2 : Nat → Nat) (fm2 : Nat → Int32) (bf2 wy2 : Nat → Nat), v = some (.int (b2i ((leastW (gz p) (p 0) (p 2) (go p) (p 1) (p 3) kk).isSome))) ∧ w = [ob o 11 [.int th, .ref qtx, .int (nI ts), .int (nI pl), .ref qrp, .ref qpg, .ref qtr, .ref qbk, .int (nI dn), .ref qkp, .ref qik, .int (nI sn), .ref qsw, .ref qsi, .long sd, .ref qln, .ref qfm, .ref qby, .ref qwy, .int (nI wz2), .ref qfo, .ref qon, .ref qmn, .ref qpr, .ref qle, .ref qst, .ref qwt, .int (nI rc), .int (nI tk), .int (nI ps), .int (nI gn), .int bd, .ref qwo], aI G qx 22 (nF p), aI G qln 512 (nF ln2), aI G qfm 512 fm2, aI G qby 512 (nF bf2), aI G qwy 512 (nF wy2)] ∧ (∀ x, leastW (gz p) (p 0) (p 2) (go p) (p 1) (p 3) kk = some x → wz2 = lenB x ∧ (∀ j, j < lenB x → wy2 j = letE x (lenB x - 1 - j)) ∧ lenB x < 512)) 0 0 := by
  refine MM.ofZ (by decide) rfl (fun Γ X Y hnm ret => ?_)
  show Wc Γ 0 0 0 [(0, .ref o), (1, .ref qx), (2, .int (nI kk))] [] [ob o 11 [.int th, .ref qtx, .int (nI ts), .int (nI pl), .ref qrp, .ref qpg, .ref qtr, .ref qbk, .int (nI dn), .ref qkp, .ref qik, .int (nI sn), .ref qsw, .ref qsi, .long sd, .ref qln, .ref qfm, .ref qby, .ref qwy, .int (nI wz), .ref qfo, .ref qon, .ref qmn, .ref qpr, .ref qle, .ref qst, .ref qwt, .int (nI rc), .int (nI tk), .int (nI ps), .int (nI gn), .int bd, .ref qwo], aI G qx 22 (nF p), aI G qln 512 (nF ln0), aI G qfm 512 fm0, aI G qby 512 (nF bf0), aI G qwy 512 (nF wy0)]
  refine wc_iconstN X 0 0 dX11_find_0 ?_
  refine wc_istore_n X 1 (L' := [(0, .ref o), (1, .ref qx), (2, .int (nI kk)), (3, .int (nI 0))]) dX11_find_1 (by decide) rfl ?_
  have LP_2 : ∀ (fuel_1 : Nat) (i : Nat) (f : Nat → Int32), (i ≤ 512) → (∀ j, j < i → f j = -9) → 512 - i < fuel_1 → Wc Γ 0 0 2 [(0, .ref o), (1, .ref qx), (2, .int (nI kk)), (3, .int (nI i))] [] [ob o 11 [.int th, .ref qtx, .int (nI ts), .int (nI pl), .ref qrp, .ref qpg, .ref qtr, .ref qbk, .int (nI dn), .ref qkp, .ref qik, .int (nI sn), .ref qsw, .ref qsi, .long sd, .ref qln, .ref qfm, .ref qby, .ref qwy, .int (nI wz), .ref qfo, .ref qon, .ref qmn, .ref qpr, .ref qle, .ref qst, .ref qwt, .int (nI rc), .int (nI tk), .int (nI ps), .int (nI gn), .int bd, .ref qwo], aI G qx 22 (nF p), aI G qln 512 (nF ln0), aI G qfm 512 f, aI G qby 512 (nF bf0), aI G qwy 512 (nF wy0)] := by
    intro fuel_1
    induction fuel_1 with
    | zero => intro i f hi hf hm; exact absurd hm (Nat.not_lt_zero _)
    | succ fuel_1 ih_3 =>
      intro i f hi hf hm_4
      refine wc_iload_n X 2 3 dX11_find_2 rfl ?_
      refine wc_sipush X 3 (nI 512) dX11_find_3 (by decide) ?_
      refine wc_icmp_geN X 6 23 dX11_find_6 (by decide) (by omega) (by decide) (fun c6_5 => ?_) (fun c6_5 => ?_)
      ·
        refine wc_aload_n X 23 0 dX11_find_23 rfl ?_
        refine wc_get X 24 0 15 kd11 rfl (by decide) q_780 rfl dX11_find_24 ?_
        refine wc_iconstN X 27 0 dX11_find_27 ?_
        refine wc_bipush X 28 (nI 17) dX11_find_28 (by decide) ?_
        refine wc_iastG X Y 30 2 rfl (by decide) (by decide) (ws' := [ob o 11 [.int th, .ref qtx, .int (nI ts), .int (nI pl), .ref qrp, .ref qpg, .ref qtr, .ref qbk, .int (nI dn), .ref qkp, .ref qik, .int (nI sn), .ref qsw, .ref qsi, .long sd, .ref qln, .ref qfm, .ref qby, .ref qwy, .int (nI wz), .ref qfo, .ref qon, .ref qmn, .ref qpr, .ref qle, .ref qst, .ref qwt, .int (nI rc), .int (nI tk), .int (nI ps), .int (nI gn), .int bd, .ref qwo], aI G qx 22 (nF p), aI G qln 512 (nF (up ln0 0 17)), aI G qfm 512 f, aI G qby 512 (nF bf0), aI G qwy 512 (nF wy0)]) rfl dX11_find_30 ?_
        refine wc_aload_n X 31 0 dX11_find_31 rfl ?_
        refine wc_get X 32 0 16 kd11 rfl (by decide) q_781 rfl dX11_find_32 ?_
        refine wc_bipush X 35 (nI 17) dX11_find_35 (by decide) ?_
        refine wc_sipush X 37 (nI 512) dX11_find_37 (by decide) ?_
        refine wc_iastN X Y 40 3 rfl (by decide) (by decide) (ws' := [ob o 11 [.int th, .ref qtx, .int (nI ts), .int (nI pl), .ref qrp, .ref qpg, .ref qtr, .ref qbk, .int (nI dn), .ref qkp, .ref qik, .int (nI sn), .ref qsw, .ref qsi, .long sd, .ref qln, .ref qfm, .ref qby, .ref qwy, .int (nI wz), .ref qfo, .ref qon, .ref qmn, .ref qpr, .ref qle, .ref qst, .ref qwt, .int (nI rc), .int (nI tk), .int (nI ps), .int (nI gn), .int bd, .ref qwo], aI G qx 22 (nF p), aI G qln 512 (nF (up ln0 0 17)), aI G qfm 512 (upd f 17 (nI 512)), aI G qby 512 (nF bf0), aI G qwy 512 (nF wy0)]) rfl dX11_find_40 ?_
        refine wc_iconstN X 41 1 dX11_find_41 ?_
        refine wc_istore_n X 42 (L' := [(0, .ref o), (1, .ref qx), (2, .int (nI kk)), (3, .int (nI 1))]) dX11_find_42 (by decide) rfl ?_
        refine wc_iconstN X 43 0 dX11_find_43 ?_
        refine wc_istore X 44 (L' := [(0, .ref o), (1, .ref qx), (2, .int (nI kk)), (3, .int (nI 1)), (4, .int (nI 0))]) dX11_find_44 (by decide) rfl ?_
        have LP_7 : ∀ (fuel_6 : Nat) (k : Nat) (n : Nat) (ln : Nat → Nat) (fm : Nat → Int32) (bf : Nat → Nat) (wd : Nat → Nat), (Bf (dP (gz p) (p 0) (go p) (p 1)) 17 (fun _ => False) k 1 n ln wd) → (Pr fm bf ln wd n) → (n ≤ 512) → (k ≤ n) → (∀ i, i < k → wantB (p 2) (p 3) kk (ln i) = false) → 512 - k < fuel_6 → Wc Γ 0 0 46 [(0, .ref o), (1, .ref qx), (2, .int (nI kk)), (3, .int (nI n)), (4, .int (nI k))] [] [ob o 11 [.int th, .ref qtx, .int (nI ts), .int (nI pl), .ref qrp, .ref qpg, .ref qtr, .ref qbk, .int (nI dn), .ref qkp, .ref qik, .int (nI sn), .ref qsw, .ref qsi, .long sd, .ref qln, .ref qfm, .ref qby, .ref qwy, .int (nI wz), .ref qfo, .ref qon, .ref qmn, .ref qpr, .ref qle, .ref qst, .ref qwt, .int (nI rc), .int (nI tk), .int (nI ps), .int (nI gn), .int bd, .ref qwo], aI G qx 22 (nF p), aI G qln 512 (nF ln), aI G qfm 512 fm, aI G qby 512 (nF bf), aI G qwy 512 (nF wy0)] := by
          intro fuel_6
          induction fuel_6 with
          | zero => intro k n ln fm bf wd hB hP hn hkn hw hm; exact absurd hm (Nat.not_lt_zero _)
          | succ fuel_6 ih_8 =>
            intro k n ln fm bf wd hB hP hn hkn hw hm_9
            refine wc_iload X 46 4 dX11_find_46 rfl ?_
            refine wc_iload_n X 48 3 dX11_find_48 rfl ?_
            refine wc_icmp_geN X 49 151 dX11_find_49 (by decide) (by omega) (by omega) (fun c49_10 => ?_) (fun c49_10 => ?_)
            ·
              refine wc_iconstN X 151 0 dX11_find_151 ?_
              refine wc_st (st' := [.int (b2i false)]) rfl ?_
              exact ret 152 _ false _ dX11_find_152 (⟨_, _, _, _, _, by rw [find_none hr (by rw [show k = n by omega] at hB; exact hB) (by rw [show k = n by omega] at hw; exact hw)]; rfl, rfl, fun x hx => by rw [find_none hr (by rw [show k = n by omega] at hB; exact hB) (by rw [show k = n by omega] at hw; exact hw)] at hx; cases hx⟩)
            ·
              refine wc_aload_n X 52 0 dX11_find_52 rfl ?_
              refine wc_get X 53 0 15 kd11 rfl (by decide) q_780 rfl dX11_find_53 ?_
              refine wc_iload X 56 4 dX11_find_56 rfl ?_
              refine wc_ialdG X 58 2 rfl (by omega) (by decide) dX11_find_58 ?_
              refine wc_istore X 59 (L' := [(0, .ref o), (1, .ref qx), (2, .int (nI kk)), (3, .int (nI n)), (4, .int (nI k)), (5, .int (nI (ln k)))]) dX11_find_59 (by decide) rfl ?_
              obtain ⟨vk, hvk⟩ : ∃ v, v = ln k := ⟨_, rfl⟩
              refine wc_L (L' := [(0, .ref o), (1, .ref qx), (2, .int (nI kk)), (3, .int (nI n)), (4, .int (nI k)), (5, .int (nI vk))]) (by rw [hvk]) ?_
              have hvl : vk < 512 := by rw [hvk]; exact hP.2.2.2 k (by omega)
              refine wc_aload_n X 61 1 dX11_find_61 rfl ?_
              refine wc_iload_n X 62 2 dX11_find_62 rfl ?_
              refine wc_iload X 63 5 dX11_find_63 rfl ?_
              refine wc_callS X 65 [1] (c_X11_isWanted l G qx p kk vk hr.2.1 hr.2.2.2.1 hr.2.2.2.2.1 (by first | assumption | omega) (by first | assumption | omega)) ys_X11_isWanted rfl q_1013 ⟨rfl, rfl⟩ ⟨rfl, rfl⟩ ⟨rfl, rfl⟩ rfl rfl rfl dX11_find_65 ?_
              refine wc_topi (b2i (wantB (p 2) (p 3) kk vk)) (by rfl) ?_
              refine wc_if_eqB X 68 79 dX11_find_68 (by decide) (fun c68_11 => ?_) (fun c68_11 => ?_)
              ·
                have hwk := c68_11
                rw [hvk] at hwk
                refine wc_iconstN X 79 1 dX11_find_79 ?_
                refine wc_istore X 80 (L' := [(0, .ref o), (1, .ref qx), (2, .int (nI kk)), (3, .int (nI n)), (4, .int (nI k)), (5, .int (nI vk)), (6, .int (nI 1))]) dX11_find_80 (by decide) rfl ?_
                have LP_13 : ∀ (fuel_12 : Nat) (c : Nat) (n2 : Nat) (l2 : Nat → Nat) (f2 : Nat → Int32) (b2 : Nat → Nat) (w2 : Nat → Nat), (1 ≤ c) → (c ≤ 3) → (Bf (dP (gz p) (p 0) (go p) (p 1)) 17 (fun _ => False) k c n2 l2 w2) → (Pr f2 b2 l2 w2 n2) → (n2 ≤ 512) → (k < n2) → (l2 k = vk) → (∀ i, i < k + 1 → wantB (p 2) (p 3) kk (l2 i) = false) → 3 - c < fuel_12 → Wc Γ 0 0 82 [(0, .ref o), (1, .ref qx), (2, .int (nI kk)), (3, .int (nI n2)), (4, .int (nI k)), (5, .int (nI vk)), (6, .int (nI c))] [] [ob o 11 [.int th, .ref qtx, .int (nI ts), .int (nI pl), .ref qrp, .ref qpg, .ref qtr, .ref qbk, .int (nI dn), .ref qkp, .ref qik, .int (nI sn), .ref qsw, .ref qsi, .long sd, .ref qln, .ref qfm, .ref qby, .ref qwy, .int (nI wz), .ref qfo, .ref qon, .ref qmn, .ref qpr, .ref qle, .ref qst, .ref qwt, .int (nI rc), .int (nI tk), .int (nI ps), .int (nI gn), .int bd, .ref qwo], aI G qx 22 (nF p), aI G qln 512 (nF l2), aI G qfm 512 f2, aI G qby 512 (nF b2), aI G qwy 512 (nF wy0)] := by
                  intro fuel_12
                  induction fuel_12 with
                  | zero => intro c n2 l2 f2 b2 w2 hc1 hc3 hB2 hP2 hn2 hk2 hv2 hw2 hm; exact absurd hm (Nat.not_lt_zero _)
                  | succ fuel_12 ih_14 =>
                    intro c n2 l2 f2 b2 w2 hc1 hc3 hB2 hP2 hn2 hk2 hv2 hw2 hm_15
                    refine wc_iload X 82 6 dX11_find_82 rfl ?_
                    refine wc_iconstN X 84 3 dX11_find_84 ?_
                    refine wc_icmp_geN X 85 145 dX11_find_85 (by decide) (by omega) (by decide) (fun c85_16 => ?_) (fun c85_16 => ?_)
                    ·
                      refine wc_iincN X 145 4 (L' := [(0, .ref o), (1, .ref qx), (2, .int (nI kk)), (3, .int (nI n2)), (4, .int (nI (k + 1))), (5, .int (nI vk)), (6, .int (nI c))]) dX11_find_145 rfl (by decide) rfl ?_
                      refine wc_goto X 148 46 dX11_find_148 (by decide) ?_
                      refine wc_loc [0, 1, 2, 3, 4] (L' := [(0, .ref o), (1, .ref qx), (2, .int (nI kk)), (3, .int (nI n2)), (4, .int (nI (k + 1)))]) rfl ?_
                      refine wc_L (L' := [(0, .ref o), (1, .ref qx), (2, .int (nI kk)), (3, .int (nI n2)), (4, .int (nI (k + 1)))]) (by rfl) ?_
                      exact ih_8 (k + 1) n2 l2 f2 b2 w2 (Bf_next (by rw [show c = 3 by omega] at hB2; exact hB2)) hP2 hn2 (by omega) hw2 (by omega)
                    ·
                      refine wc_aload_n X 88 1 dX11_find_88 rfl ?_
                      refine wc_iload X 89 5 dX11_find_89 rfl ?_
                      refine wc_iload X 91 6 dX11_find_91 rfl ?_
                      refine wc_callS X 93 [1] (c_X11_next l G qx p vk c hr.2.1 hr.2.2.2.1 hr.2.2.2.2.1 hr.2.2.2.2.2.1 (by first | assumption | omega) (by first | assumption | omega) (by first | assumption | omega)) ys_X11_next rfl q_1020 ⟨rfl, rfl⟩ ⟨rfl, rfl⟩ ⟨rfl, rfl⟩ rfl rfl rfl dX11_find_93 ?_
                      refine wc_topi (nI (dP (gz p) (p 0) (go p) (p 1) vk c)) (congrArg nI (by rfl)) ?_
                      refine wc_istore X 96 (L' := [(0, .ref o), (1, .ref qx), (2, .int (nI kk)), (3, .int (nI n2)), (4, .int (nI k)), (5, .int (nI vk)), (6, .int (nI c)), (7, .int (nI (dP (gz p) (p 0) (go p) (p 1) vk c)))]) dX11_find_96 (by decide) rfl ?_
                      refine wc_aload_n X 98 0 dX11_find_98 rfl ?_
                      refine wc_get X 99 0 16 kd11 rfl (by decide) q_781 rfl dX11_find_99 ?_
                      refine wc_iload X 102 7 dX11_find_102 rfl ?_
                      refine wc_ialdN X 104 3 rfl (dP_lt hr.2.2.2.2.2.1 (fun j => hr.2.2.2.2.1 _) _ _) (by decide) dX11_find_104 ?_
                      refine wc_bipush X 105 (-9) dX11_find_105 (by decide) ?_
                      refine wc_icmp_ne X 107 139 dX11_find_107 (by decide) (fun c107_17 => ?_) (fun c107_17 => ?_)
                      ·
                        refine wc_iincN X 139 6 (L' := [(0, .ref o), (1, .ref qx), (2, .int (nI kk)), (3, .int (nI n2)), (4, .int (nI k)), (5, .int (nI vk)), (6, .int (nI (c + 1))), (7, .int (nI (dP (gz p) (p 0) (go p) (p 1) vk c)))]) dX11_find_139 rfl (by decide) rfl ?_
                        refine wc_goto X 142 82 dX11_find_142 (by decide) ?_
                        refine wc_loc [0, 1, 2, 3, 4, 5, 6] (L' := [(0, .ref o), (1, .ref qx), (2, .int (nI kk)), (3, .int (nI n2)), (4, .int (nI k)), (5, .int (nI vk)), (6, .int (nI (c + 1)))]) rfl ?_
                        refine wc_L (L' := [(0, .ref o), (1, .ref qx), (2, .int (nI kk)), (3, .int (nI n2)), (4, .int (nI k)), (5, .int (nI vk)), (6, .int (nI (c + 1)))]) (by rfl) ?_
                        exact ih_14 (c + 1) n2 l2 f2 b2 w2 (by omega) (by omega) (Bf_old hB2 hk2 (Or.inr (by rw [hv2]; exact (hP2.2.1 _ (dP_lt hr.2.2.2.2.2.1 (fun j => hr.2.2.2.2.1 _) _ _)).resolve_right c107_17))) hP2 hn2 hk2 hv2 hw2 (by omega)
                      ·
                        have hnew : ∀ j, j < n2 → l2 j ≠ dP (gz p) (p 0) (go p) (p 1) vk c := fun j hj e => Pr_vis hP2 hj (by rw [e]; exact c107_17)
                        have hlt : n2 < 512 := pigeon_new hP2.2.2.2 hB2.2.2.2.2.2.1 (dP_lt hr.2.2.2.2.2.1 (fun j => hr.2.2.2.2.1 _) vk c) hnew
                        refine wc_aload_n X 110 0 dX11_find_110 rfl ?_
                        refine wc_get X 111 0 16 kd11 rfl (by decide) q_781 rfl dX11_find_111 ?_
                        refine wc_iload X 114 7 dX11_find_114 rfl ?_
                        refine wc_iload X 116 5 dX11_find_116 rfl ?_
                        refine wc_iastN X Y 118 3 rfl (dP_lt hr.2.2.2.2.2.1 (fun j => hr.2.2.2.2.1 _) _ _) (by decide) (ws' := [ob o 11 [.int th, .ref qtx, .int (nI ts), .int (nI pl), .ref qrp, .ref qpg, .ref qtr, .ref qbk, .int (nI dn), .ref qkp, .ref qik, .int (nI sn), .ref qsw, .ref qsi, .long sd, .ref qln, .ref qfm, .ref qby, .ref qwy, .int (nI wz), .ref qfo, .ref qon, .ref qmn, .ref qpr, .ref qle, .ref qst, .ref qwt, .int (nI rc), .int (nI tk), .int (nI ps), .int (nI gn), .int bd, .ref qwo], aI G qx 22 (nF p), aI G qln 512 (nF l2), aI G qfm 512 (upd f2 (dP (gz p) (p 0) (go p) (p 1) vk c) (nI vk)), aI G qby 512 (nF b2), aI G qwy 512 (nF wy0)]) rfl dX11_find_118 ?_
                        refine wc_aload_n X 119 0 dX11_find_119 rfl ?_
                        refine wc_get X 120 0 17 kd11 rfl (by decide) q_782 rfl dX11_find_120 ?_
                        refine wc_iload X 123 7 dX11_find_123 rfl ?_
                        refine wc_iload X 125 6 dX11_find_125 rfl ?_
                        refine wc_iastG X Y 127 4 rfl (dP_lt hr.2.2.2.2.2.1 (fun j => hr.2.2.2.2.1 _) _ _) (by decide) (ws' := [ob o 11 [.int th, .ref qtx, .int (nI ts), .int (nI pl), .ref qrp, .ref qpg, .ref qtr, .ref qbk, .int (nI dn), .ref qkp, .ref qik, .int (nI sn), .ref qsw, .ref qsi, .long sd, .ref qln, .ref qfm, .ref qby, .ref qwy, .int (nI wz), .ref qfo, .ref qon, .ref qmn, .ref qpr, .ref qle, .ref qst, .ref qwt, .int (nI rc), .int (nI tk), .int (nI ps), .int (nI gn), .int bd, .ref qwo], aI G qx 22 (nF p), aI G qln 512 (nF l2), aI G qfm 512 (upd f2 (dP (gz p) (p 0) (go p) (p 1) vk c) (nI vk)), aI G qby 512 (nF (up b2 (dP (gz p) (p 0) (go p) (p 1) vk c) c)), aI G qwy 512 (nF wy0)]) rfl dX11_find_127 ?_
                        refine wc_aload_n X 128 0 dX11_find_128 rfl ?_
                        refine wc_get X 129 0 15 kd11 rfl (by decide) q_780 rfl dX11_find_129 ?_
                        refine wc_iload_n X 132 3 dX11_find_132 rfl ?_
                        refine wc_iload X 133 7 dX11_find_133 rfl ?_
                        refine wc_iastG X Y 135 2 rfl (by omega) (by decide) (ws' := [ob o 11 [.int th, .ref qtx, .int (nI ts), .int (nI pl), .ref qrp, .ref qpg, .ref qtr, .ref qbk, .int (nI dn), .ref qkp, .ref qik, .int (nI sn), .ref qsw, .ref qsi, .long sd, .ref qln, .ref qfm, .ref qby, .ref qwy, .int (nI wz), .ref qfo, .ref qon, .ref qmn, .ref qpr, .ref qle, .ref qst, .ref qwt, .int (nI rc), .int (nI tk), .int (nI ps), .int (nI gn), .int bd, .ref qwo], aI G qx 22 (nF p), aI G qln 512 (nF (up l2 n2 (dP (gz p) (p 0) (go p) (p 1) vk c))), aI G qfm 512 (upd f2 (dP (gz p) (p 0) (go p) (p 1) vk c) (nI vk)), aI G qby 512 (nF (up b2 (dP (gz p) (p 0) (go p) (p 1) vk c) c)), aI G qwy 512 (nF wy0)]) rfl dX11_find_135 ?_
                        refine wc_iincN X 136 3 (L' := [(0, .ref o), (1, .ref qx), (2, .int (nI kk)), (3, .int (nI (n2 + 1))), (4, .int (nI k)), (5, .int (nI vk)), (6, .int (nI c)), (7, .int (nI (dP (gz p) (p 0) (go p) (p 1) vk c)))]) dX11_find_136 rfl (by decide) rfl ?_
                        refine wc_iincN X 139 6 (L' := [(0, .ref o), (1, .ref qx), (2, .int (nI kk)), (3, .int (nI (n2 + 1))), (4, .int (nI k)), (5, .int (nI vk)), (6, .int (nI (c + 1))), (7, .int (nI (dP (gz p) (p 0) (go p) (p 1) vk c)))]) dX11_find_139 rfl (by decide) rfl ?_
                        refine wc_goto X 142 82 dX11_find_142 (by decide) ?_
                        refine wc_loc [0, 1, 2, 3, 4, 5, 6] (L' := [(0, .ref o), (1, .ref qx), (2, .int (nI kk)), (3, .int (nI (n2 + 1))), (4, .int (nI k)), (5, .int (nI vk)), (6, .int (nI (c + 1)))]) rfl ?_
                        refine wc_L (L' := [(0, .ref o), (1, .ref qx), (2, .int (nI kk)), (3, .int (nI (n2 + 1))), (4, .int (nI k)), (5, .int (nI vk)), (6, .int (nI (c + 1)))]) (by rfl) ?_
                        exact ih_14 (c + 1) (n2 + 1) (up l2 n2 (dP (gz p) (p 0) (go p) (p 1) vk c)) (upd f2 (dP (gz p) (p 0) (go p) (p 1) vk c) (nI vk)) (up b2 (dP (gz p) (p 0) (go p) (p 1) vk c) c) (up w2 n2 (2 * w2 k + c)) (by omega) (by omega) (Bf_new hB2 hk2 hc1 (by omega) (by rw [hv2]) hnew) (by have hq := Pr_new hP2 hk2 hc1 (show c ≤ 2 by omega) (dP_lt hr.2.2.2.2.2.1 (fun j => hr.2.2.2.2.1 _) vk c) hnew; rw [hv2] at hq; exact hq) (by omega) (by omega) (by rw [up_n _ _ (by omega)]; exact hv2) (fun i hi => by rw [up_n _ _ (by omega)]; exact hw2 i hi) (by omega)
                exact LP_13 (3 - 1 + 1) 1 n ln fm bf wd (by decide) (by decide) hB hP hn (by omega) hvk.symm (lt_ext hw hwk) (Nat.lt_succ_self _)
              ·
                have hwk := c68_11
                rw [hvk] at hwk
                refine wc_aload_n X 71 0 dX11_find_71 rfl ?_
                refine wc_iload X 72 5 dX11_find_72 rfl ?_
                refine wc_mutV X Y 74 [0, 3, 4, 5] [1, 2] 0 (c_X11_layWay l G o th qtx ts pl qrp qpg qtr qbk dn qkp qik sn qsw qsi sd qln qfm qby qwy wz qfo qon qmn qpr qle qst qwt rc tk ps gn bd qwo fm bf wy0 ln wd n k vk hP (by omega) (by first | assumption | omega) hvk hB.2.2.1) yv_X11_layWay kd11 rfl rfl (wr := [aI G qx 22 (nF p), aI G qln 512 (nF ln)]) rfl ⟨rfl, rfl, rfl⟩ q_1016 ⟨rfl, rfl⟩ ⟨rfl, rfl⟩ ⟨rfl, rfl⟩ rfl rfl rfl dX11_find_74 (fun v w hp_18 => ?_)
                obtain ⟨wy2_19, rfl, rfl, hwy1, hwy2⟩ := hp_18
                refine wc_perm Y [2, 0, 1, 3, 4, 5] [ob o 11 [.int th, .ref qtx, .int (nI ts), .int (nI pl), .ref qrp, .ref qpg, .ref qtr, .ref qbk, .int (nI dn), .ref qkp, .ref qik, .int (nI sn), .ref qsw, .ref qsi, .long sd, .ref qln, .ref qfm, .ref qby, .ref qwy, .int (nI (lenB (wd k))), .ref qfo, .ref qon, .ref qmn, .ref qpr, .ref qle, .ref qst, .ref qwt, .int (nI rc), .int (nI tk), .int (nI ps), .int (nI gn), .int bd, .ref qwo], aI G qx 22 (nF p), aI G qln 512 (nF ln), aI G qfm 512 fm, aI G qby 512 (nF bf), aI G qwy 512 (nF wy2_19)] rfl rfl ?_
                show Wc Γ 0 0 77 [(0, .ref o), (1, .ref qx), (2, .int (nI kk)), (3, .int (nI n)), (4, .int (nI k)), (5, .int (nI vk))] [] [ob o 11 [.int th, .ref qtx, .int (nI ts), .int (nI pl), .ref qrp, .ref qpg, .ref qtr, .ref qbk, .int (nI dn), .ref qkp, .ref qik, .int (nI sn), .ref qsw, .ref qsi, .long sd, .ref qln, .ref qfm, .ref qby, .ref qwy, .int (nI (lenB (wd k))), .ref qfo, .ref qon, .ref qmn, .ref qpr, .ref qle, .ref qst, .ref qwt, .int (nI rc), .int (nI tk), .int (nI ps), .int (nI gn), .int bd, .ref qwo], aI G qx 22 (nF p), aI G qln 512 (nF ln), aI G qfm 512 fm, aI G qby 512 (nF bf), aI G qwy 512 (nF wy2_19)]
                refine wc_iconstN X 77 1 dX11_find_77 ?_
                refine wc_st (st' := [.int (b2i true)]) rfl ?_
                exact ret 78 _ true _ dX11_find_78 (⟨_, _, _, _, _, by rw [find_some hr hB (by omega) hwk hw]; rfl, rfl, fun x hx => by rw [find_some hr hB (by omega) hwk hw] at hx; cases hx; exact ⟨rfl, hwy1, hwy2⟩⟩)
        exact LP_7 (512 - 0 + 1) 0 1 (up ln0 0 17) (upd f 17 (nI 512)) bf0 (fun _ => 0) (Bf_init (up_s _ _ _)) (find_init (fun j hj => hf j (by omega))) (by decide) (by decide) (fun i hi => absurd hi (Nat.not_lt_zero _)) (Nat.lt_succ_self _)
      ·
        refine wc_aload_n X 9 0 dX11_find_9 rfl ?_
        refine wc_get X 10 0 16 kd11 rfl (by decide) q_781 rfl dX11_find_10 ?_
        refine wc_iload_n X 13 3 dX11_find_13 rfl ?_
        refine wc_bipush X 14 (-9) dX11_find_14 (by decide) ?_
        refine wc_iastN X Y 16 3 rfl (by omega) (by decide) (ws' := [ob o 11 [.int th, .ref qtx, .int (nI ts), .int (nI pl), .ref qrp, .ref qpg, .ref qtr, .ref qbk, .int (nI dn), .ref qkp, .ref qik, .int (nI sn), .ref qsw, .ref qsi, .long sd, .ref qln, .ref qfm, .ref qby, .ref qwy, .int (nI wz), .ref qfo, .ref qon, .ref qmn, .ref qpr, .ref qle, .ref qst, .ref qwt, .int (nI rc), .int (nI tk), .int (nI ps), .int (nI gn), .int bd, .ref qwo], aI G qx 22 (nF p), aI G qln 512 (nF ln0), aI G qfm 512 (upd f i (-9)), aI G qby 512 (nF bf0), aI G qwy 512 (nF wy0)]) rfl dX11_find_16 ?_
        refine wc_iincN X 17 3 (L' := [(0, .ref o), (1, .ref qx), (2, .int (nI kk)), (3, .int (nI (i + 1)))]) dX11_find_17 rfl (by decide) rfl ?_
        refine wc_goto X 20 2 dX11_find_20 (by decide) ?_
        refine wc_L (L' := [(0, .ref o), (1, .ref qx), (2, .int (nI kk)), (3, .int (nI (i + 1)))]) (by rfl) ?_
        exact ih_3 (i + 1) (upd f i (-9)) (by omega) (fillM_bk hf) (by omega)
  exact LP_2 (512 - 0 + 1) 0 fm0 (by omega) (fun j hj => absurd hj (Nat.not_lt_zero _)) (Nat.lt_succ_self _)

set_option maxHeartbeats 4000000 in
set_option maxRecDepth 100000 in
theorem c_X11_isWithin (l : Launch) (G : GG) (o : Nat) (th : Int32) (qtx ts pl qrp qpg qtr qbk dn qkp qik sn qsw qsi : Nat) (sd : Int64) (qln qfm qby qwy wz qfo qon qmn qpr qle qst qwt rc tk ps gn : Nat) (bd : Int32) (qwo : Nat) (qx : Nat) (p : Nat → Nat) (ln0 : Nat → Nat) (fm0 : Nat → Int32) (bf0 wy0 : Nat → Nat) (hr : pgOk p) : MM l G yX11_isWithin (Cond.code yX11_isWithin cX11_isWithin 2 (some .boolean)) { frames := 4, cells := 0, slots := 0, locals := 96 } [.ref o, .ref qx] [ob o 11 [.int th, .ref qtx, .int (nI ts), .int (nI pl), .ref qrp, .ref qpg, .ref qtr, .ref qbk, .int (nI dn), .ref qkp, .ref qik, .int (nI sn), .ref qsw, .ref qsi, .long sd, .ref qln, .ref qfm, .ref qby, .ref qwy, .int (nI wz), .ref qfo, .ref qon, .ref qmn, .ref qpr, .ref qle, .ref qst, .ref qwt, .int (nI rc), .int (nI tk), .int (nI ps), .int (nI gn), .int bd, .ref qwo], aI G qx 22 (nF p), aI G qln 512 (nF ln0), aI G qfm 512 fm0, aI G qby 512 (nF bf0), aI G qwy 512 (nF wy0)] (fun (v : Option Value) (w : va_W) => ∃ (wz2 : Nat) (ln2 : Nat → Nat) (fm2 : Nat → Int32) (bf2 wy2 : Nat → Nat), v = some (.int (b2i (withB (gz p) (p 0) (p 2) (go p) (p 1) (p 3)))) ∧ w = [ob o 11 [.int th, .ref qtx, .int (nI ts), .int (nI pl), .ref qrp, .ref qpg, .ref qtr, .ref qbk, .int (nI dn), .ref qkp, .ref qik, .int (nI sn), .ref qsw, .ref qsi, .long sd, .ref qln, .ref qfm, .ref qby, .ref qwy, .int (nI wz2), .ref qfo, .ref qon, .ref qmn, .ref qpr, .ref qle, .ref qst, .ref qwt, .int (nI rc), .int (nI tk), .int (nI ps), .int (nI gn), .int bd, .ref qwo], aI G qx 22 (nF p), aI G qln 512 (nF ln2), aI G qfm 512 fm2, aI G qby 512 (nF bf2), aI G qwy 512 (nF wy2)]) 0 0 := by
  refine MM.ofZ (by decide) rfl (fun Γ X Y hnm ret => ?_)
  show Wc Γ 0 0 0 [(0, .ref o), (1, .ref qx)] [] [ob o 11 [.int th, .ref qtx, .int (nI ts), .int (nI pl), .ref qrp, .ref qpg, .ref qtr, .ref qbk, .int (nI dn), .ref qkp, .ref qik, .int (nI sn), .ref qsw, .ref qsi, .long sd, .ref qln, .ref qfm, .ref qby, .ref qwy, .int (nI wz), .ref qfo, .ref qon, .ref qmn, .ref qpr, .ref qle, .ref qst, .ref qwt, .int (nI rc), .int (nI tk), .int (nI ps), .int (nI gn), .int bd, .ref qwo], aI G qx 22 (nF p), aI G qln 512 (nF ln0), aI G qfm 512 fm0, aI G qby 512 (nF bf0), aI G qwy 512 (nF wy0)]
  refine wc_aload_n X 0 0 dX11_isWithin_0 rfl ?_
  refine wc_aload_n X 1 1 dX11_isWithin_1 rfl ?_
  refine wc_iconstN X 2 0 dX11_isWithin_2 ?_
  refine wc_mutV X Y 3 [0, 1, 2, 3, 4, 5] [] 0 (c_X11_find l G o th qtx ts pl qrp qpg qtr qbk dn qkp qik sn qsw qsi sd qln qfm qby qwy wz qfo qon qmn qpr qle qst qwt rc tk ps gn bd qwo qx p ln0 fm0 bf0 wy0 0 (by first | assumption | omega) (by decide)) yv_X11_find kd11 rfl rfl (wr := []) rfl ⟨rfl, rfl, rfl⟩ q_1009 ⟨rfl, rfl⟩ ⟨rfl, rfl⟩ ⟨rfl, rfl⟩ rfl rfl rfl dX11_isWithin_3 (fun v w hp_1 => ?_)
  obtain ⟨wz2_2, ln2_3, fm2_4, bf2_5, wy2_6, rfl, rfl, hf_7⟩ := hp_1
  refine wc_perm Y [0, 1, 2, 3, 4, 5] [ob o 11 [.int th, .ref qtx, .int (nI ts), .int (nI pl), .ref qrp, .ref qpg, .ref qtr, .ref qbk, .int (nI dn), .ref qkp, .ref qik, .int (nI sn), .ref qsw, .ref qsi, .long sd, .ref qln, .ref qfm, .ref qby, .ref qwy, .int (nI wz2_2), .ref qfo, .ref qon, .ref qmn, .ref qpr, .ref qle, .ref qst, .ref qwt, .int (nI rc), .int (nI tk), .int (nI ps), .int (nI gn), .int bd, .ref qwo], aI G qx 22 (nF p), aI G qln 512 (nF ln2_3), aI G qfm 512 fm2_4, aI G qby 512 (nF bf2_5), aI G qwy 512 (nF wy2_6)] rfl rfl ?_
  show Wc Γ 0 0 6 [(0, .ref o), (1, .ref qx)] [.int (b2i ((leastW (gz p) (p 0) (p 2) (go p) (p 1) (p 3) 0).isSome))] [ob o 11 [.int th, .ref qtx, .int (nI ts), .int (nI pl), .ref qrp, .ref qpg, .ref qtr, .ref qbk, .int (nI dn), .ref qkp, .ref qik, .int (nI sn), .ref qsw, .ref qsi, .long sd, .ref qln, .ref qfm, .ref qby, .ref qwy, .int (nI wz2_2), .ref qfo, .ref qon, .ref qmn, .ref qpr, .ref qle, .ref qst, .ref qwt, .int (nI rc), .int (nI tk), .int (nI ps), .int (nI gn), .int bd, .ref qwo], aI G qx 22 (nF p), aI G qln 512 (nF ln2_3), aI G qfm 512 fm2_4, aI G qby 512 (nF bf2_5), aI G qwy 512 (nF wy2_6)]
  refine wc_if_neB X 6 13 dX11_isWithin_6 (by decide) (fun c6_8 => ?_) (fun c6_8 => ?_)
  ·
    refine wc_iconstN X 13 0 dX11_isWithin_13 ?_
    refine wc_st (st' := [.int (b2i false)]) rfl ?_
    exact ret 14 _ false _ dX11_isWithin_14 (⟨_, _, _, _, _, by unfold withB; rw [with_f c6_8] <;> rfl, rfl⟩)
  ·
    refine wc_iconstN X 9 1 dX11_isWithin_9 ?_
    refine wc_goto X 10 14 dX11_isWithin_10 (by decide) ?_
    refine wc_st (st' := [.int (b2i true)]) rfl ?_
    exact ret 14 _ true _ dX11_isWithin_14 (⟨_, _, _, _, _, by unfold withB; rw [with_t c6_8] <;> rfl, rfl⟩)

set_option maxHeartbeats 4000000 in
set_option maxRecDepth 100000 in
theorem c_X11_tellWay (l : Launch) (G : GG) (o : Nat) (th : Int32) (qtx ts pl qrp qpg qtr qbk dn qkp qik sn qsw qsi : Nat) (sd : Int64) (qln qfm qby qwy wz qfo qon qmn qpr qle qst qwt rc tk ps gn : Nat) (bd : Int32) (qwo : Nat) (wy : Nat → Nat) (b : Bool) (k : Nat) (hk : k ≤ 200) (hz : b = true → wz < 512) : RM l G yX11_tellWay (Cond.code yX11_tellWay cX11_tellWay 3 (some .int)) { frames := 0, cells := 0, slots := 0, locals := 0 } [.ref o, .int (b2i b), .int (nI k)] [ob o 11 [.int th, .ref qtx, .int (nI ts), .int (nI pl), .ref qrp, .ref qpg, .ref qtr, .ref qbk, .int (nI dn), .ref qkp, .ref qik, .int (nI sn), .ref qsw, .ref qsi, .long sd, .ref qln, .ref qfm, .ref qby, .ref qwy, .int (nI wz), .ref qfo, .ref qon, .ref qmn, .ref qpr, .ref qle, .ref qst, .ref qwt, .int (nI rc), .int (nI tk), .int (nI ps), .int (nI gn), .int bd, .ref qwo], aI G qwy 512 (nF wy)] (.int (if b && decide (k ≤ wz) then (if k = 0 then nI wz else nI (wy (k - 1))) else -9)) := by
  refine RM.ofI (by decide) rfl (fun Γ X ret => ?_)
  show Wc Γ 0 0 0 [(0, .ref o), (1, .int (b2i b)), (2, .int (nI k))] [] [ob o 11 [.int th, .ref qtx, .int (nI ts), .int (nI pl), .ref qrp, .ref qpg, .ref qtr, .ref qbk, .int (nI dn), .ref qkp, .ref qik, .int (nI sn), .ref qsw, .ref qsi, .long sd, .ref qln, .ref qfm, .ref qby, .ref qwy, .int (nI wz), .ref qfo, .ref qon, .ref qmn, .ref qpr, .ref qle, .ref qst, .ref qwt, .int (nI rc), .int (nI tk), .int (nI ps), .int (nI gn), .int bd, .ref qwo], aI G qwy 512 (nF wy)]
  refine wc_iload_n X 0 1 dX11_tellWay_0 rfl ?_
  refine wc_if_eqB X 1 12 dX11_tellWay_1 (by decide) (fun c1_1 => ?_) (fun c1_1 => ?_)
  ·
    refine wc_bipush X 12 (-9) dX11_tellWay_12 (by decide) ?_
    exact ret 14 _ (-9) dX11_tellWay_14 (by rw [c1_1]; rfl)
  ·
    have hz2 := hz c1_1
    refine wc_iload_n X 4 2 dX11_tellWay_4 rfl ?_
    refine wc_aload_n X 5 0 dX11_tellWay_5 rfl ?_
    refine wc_get X 6 0 19 kd11 rfl (by decide) q_784 rfl dX11_tellWay_6 ?_
    refine wc_icmp_leN X 9 15 dX11_tellWay_9 (by decide) (by omega) (by omega) (fun c9_2 => ?_) (fun c9_2 => ?_)
    ·
      refine wc_iload_n X 15 2 dX11_tellWay_15 rfl ?_
      refine wc_if_neN X 16 26 dX11_tellWay_16 (by decide) (by omega) (fun c16_3 => ?_) (fun c16_3 => ?_)
      ·
        refine wc_aload_n X 26 0 dX11_tellWay_26 rfl ?_
        refine wc_get X 27 0 18 kd11 rfl (by decide) q_783 rfl dX11_tellWay_27 ?_
        refine wc_iload_n X 30 2 dX11_tellWay_30 rfl ?_
        refine wc_iconstN X 31 1 dX11_tellWay_31 ?_
        refine wc_isubN X 32 dX11_tellWay_32 (by omega) ?_
        refine wc_ialdG X 33 1 rfl (by omega) (by decide) dX11_tellWay_33 ?_
        exact ret 34 _ (nI (wy (k - 1))) dX11_tellWay_34 (by rw [c1_1, decide_eq_true (by omega), if_pos (show (true && true) = true from rfl), if_neg c16_3])
      ·
        refine wc_aload_n X 19 0 dX11_tellWay_19 rfl ?_
        refine wc_get X 20 0 19 kd11 rfl (by decide) q_784 rfl dX11_tellWay_20 ?_
        refine wc_goto X 23 34 dX11_tellWay_23 (by decide) ?_
        exact ret 34 _ (nI wz) dX11_tellWay_34 (by rw [c1_1, decide_eq_true (by omega), if_pos (show (true && true) = true from rfl), if_pos c16_3])
    ·
      refine wc_bipush X 12 (-9) dX11_tellWay_12 (by decide) ?_
      exact ret 14 _ (-9) dX11_tellWay_14 (by rw [c1_1, decide_eq_false (by omega)]; rfl)

set_option maxHeartbeats 4000000 in
set_option maxRecDepth 100000 in
theorem c_X2_meetS (l : Launch) (G : GG) (o qc qr n : Nat) (cb : Nat → Int32) (rw0 : Nat → Nat) (a b : Nat) (x : Int32) (ha : a < 16) (hb : b < 32) (hsk : a = 0 ∨ ¬ cb (a + 16 * b) = -1) : MM l G yX2_meet (Cond.code yX2_meet cX2_meet 5 none) { frames := 0, cells := 0, slots := 0, locals := 0 } [.ref o, .int (nI a), .int (nI b), .int x] [ob o 2 [.ref qc, .ref qr, .int (nI n)], aI G qc 512 cb, aI G qr 512 (nF rw0)] (fun (v : Option Value) (w : va_W) => v = none ∧ w = [ob o 2 [.ref qc, .ref qr, .int (nI n)], aI G qc 512 cb, aI G qr 512 (nF rw0)]) 0 0 := by
  refine MM.ofV (by decide) rfl (fun Γ X Y hnm ret => ?_)
  show Wc Γ 0 0 0 [(0, .ref o), (1, .int (nI a)), (2, .int (nI b)), (3, .int x)] [] [ob o 2 [.ref qc, .ref qr, .int (nI n)], aI G qc 512 cb, aI G qr 512 (nF rw0)]
  refine wc_iload_n X 0 1 dX2_meet_0 rfl ?_
  refine wc_bipush X 1 (nI 16) dX2_meet_1 (by decide) ?_
  refine wc_iload_n X 3 2 dX2_meet_3 rfl ?_
  refine wc_imulN X 4 dX2_meet_4 ?_
  refine wc_iaddN X 5 dX2_meet_5 ?_
  refine wc_istore X 6 (L' := [(0, .ref o), (1, .int (nI a)), (2, .int (nI b)), (3, .int x), (4, .int (nI (a + (16 * b))))]) dX2_meet_6 (by decide) rfl ?_
  refine wc_iload_n X 8 1 dX2_meet_8 rfl ?_
  refine wc_if_eqN X 9 38 dX2_meet_9 (by decide) (by omega) (fun c9_1 => ?_) (fun c9_1 => ?_)
  ·
    exact ret 38 _ _ dX2_meet_38 (⟨rfl, rfl⟩)
  ·
    refine wc_iload X 12 4 dX2_meet_12 rfl ?_
    refine wc_ifltF X 14 (tgt := 38) dX2_meet_14 (by decide) (by omega) ?_
    refine wc_iload X 17 4 dX2_meet_17 rfl ?_
    refine wc_aload_n X 19 0 dX2_meet_19 rfl ?_
    refine wc_get X 20 0 0 kd2 rfl (by decide) q_134 rfl dX2_meet_20 ?_
    refine wc_alenI X 23 1 rfl dX2_meet_23 ?_
    refine wc_icmp_geN X 24 38 dX2_meet_24 (by decide) (by omega) (by decide) (fun c24_3 => ?_) (fun c24_3 => ?_)
    ·
      exact absurd c24_3 (by omega)
    ·
      refine wc_aload_n X 27 0 dX2_meet_27 rfl ?_
      refine wc_get X 28 0 0 kd2 rfl (by decide) q_134 rfl dX2_meet_28 ?_
      refine wc_iload X 31 4 dX2_meet_31 rfl ?_
      refine wc_ialdN X 33 1 rfl (by omega) (by decide) dX2_meet_33 ?_
      refine wc_iconst X 34 (-1) dX2_meet_34 (by decide) ?_
      refine wc_icmp_eq X 35 39 dX2_meet_35 (by decide) (fun c35_4 => ?_) (fun c35_4 => ?_)
      ·
        exact absurd c35_4 (hsk.resolve_left c9_1)
      ·
        exact ret 38 _ _ dX2_meet_38 (⟨rfl, rfl⟩)

set_option maxHeartbeats 4000000 in
set_option maxRecDepth 100000 in
theorem c_X2_meetN (l : Launch) (G : GG) (o qc qr n : Nat) (cb : Nat → Int32) (rw0 : Nat → Nat) (a b : Nat) (x : Int32) (ha : a < 16) (hb : b < 32) (hne : a ≠ 0) (hcb : cb (a + 16 * b) = -1) (hn : n < 512) : MM l G yX2_meet (Cond.code yX2_meet cX2_meet 5 none) { frames := 0, cells := 0, slots := 0, locals := 0 } [.ref o, .int (nI a), .int (nI b), .int x] [ob o 2 [.ref qc, .ref qr, .int (nI n)], aI G qc 512 cb, aI G qr 512 (nF rw0)] (fun (v : Option Value) (w : va_W) => v = none ∧ w = [ob o 2 [.ref qc, .ref qr, .int (nI (n + 1))], aI G qc 512 (upd cb (a + 16 * b) x), aI G qr 512 (nF (up rw0 n (a + 16 * b)))]) 0 0 := by
  refine MM.ofV (by decide) rfl (fun Γ X Y hnm ret => ?_)
  show Wc Γ 0 0 0 [(0, .ref o), (1, .int (nI a)), (2, .int (nI b)), (3, .int x)] [] [ob o 2 [.ref qc, .ref qr, .int (nI n)], aI G qc 512 cb, aI G qr 512 (nF rw0)]
  refine wc_iload_n X 0 1 dX2_meet_0 rfl ?_
  refine wc_bipush X 1 (nI 16) dX2_meet_1 (by decide) ?_
  refine wc_iload_n X 3 2 dX2_meet_3 rfl ?_
  refine wc_imulN X 4 dX2_meet_4 ?_
  refine wc_iaddN X 5 dX2_meet_5 ?_
  refine wc_istore X 6 (L' := [(0, .ref o), (1, .int (nI a)), (2, .int (nI b)), (3, .int x), (4, .int (nI (a + (16 * b))))]) dX2_meet_6 (by decide) rfl ?_
  refine wc_iload_n X 8 1 dX2_meet_8 rfl ?_
  refine wc_if_eqN X 9 38 dX2_meet_9 (by decide) (by omega) (fun c9_1 => ?_) (fun c9_1 => ?_)
  ·
    exact absurd c9_1 hne
  ·
    refine wc_iload X 12 4 dX2_meet_12 rfl ?_
    refine wc_ifltF X 14 (tgt := 38) dX2_meet_14 (by decide) (by omega) ?_
    refine wc_iload X 17 4 dX2_meet_17 rfl ?_
    refine wc_aload_n X 19 0 dX2_meet_19 rfl ?_
    refine wc_get X 20 0 0 kd2 rfl (by decide) q_134 rfl dX2_meet_20 ?_
    refine wc_alenI X 23 1 rfl dX2_meet_23 ?_
    refine wc_icmp_geN X 24 38 dX2_meet_24 (by decide) (by omega) (by decide) (fun c24_3 => ?_) (fun c24_3 => ?_)
    ·
      exact absurd c24_3 (by omega)
    ·
      refine wc_aload_n X 27 0 dX2_meet_27 rfl ?_
      refine wc_get X 28 0 0 kd2 rfl (by decide) q_134 rfl dX2_meet_28 ?_
      refine wc_iload X 31 4 dX2_meet_31 rfl ?_
      refine wc_ialdN X 33 1 rfl (by omega) (by decide) dX2_meet_33 ?_
      refine wc_iconst X 34 (-1) dX2_meet_34 (by decide) ?_
      refine wc_icmp_eq X 35 39 dX2_meet_35 (by decide) (fun c35_4 => ?_) (fun c35_4 => ?_)
      ·
        refine wc_aload_n X 39 0 dX2_meet_39 rfl ?_
        refine wc_get X 40 0 0 kd2 rfl (by decide) q_134 rfl dX2_meet_40 ?_
        refine wc_iload X 43 4 dX2_meet_43 rfl ?_
        refine wc_iload_n X 45 3 dX2_meet_45 rfl ?_
        refine wc_iastN X Y 46 1 rfl (by omega) (by decide) (ws' := [ob o 2 [.ref qc, .ref qr, .int (nI n)], aI G qc 512 (upd cb (a + (16 * b)) x), aI G qr 512 (nF rw0)]) rfl dX2_meet_46 ?_
        refine wc_aload_n X 47 0 dX2_meet_47 rfl ?_
        refine wc_get X 48 0 2 kd2 rfl (by decide) q_136 rfl dX2_meet_48 ?_
        refine wc_aload_n X 51 0 dX2_meet_51 rfl ?_
        refine wc_get X 52 0 1 kd2 rfl (by decide) q_135 rfl dX2_meet_52 ?_
        refine wc_alenI X 55 2 rfl dX2_meet_55 ?_
        refine wc_icmp_geN X 56 80 dX2_meet_56 (by decide) (by omega) (by decide) (fun c56_5 => ?_) (fun c56_5 => ?_)
        ·
          exact absurd c56_5 (by omega)
        ·
          refine wc_aload_n X 59 0 dX2_meet_59 rfl ?_
          refine wc_get X 60 0 1 kd2 rfl (by decide) q_135 rfl dX2_meet_60 ?_
          refine wc_aload_n X 63 0 dX2_meet_63 rfl ?_
          refine wc_get X 64 0 2 kd2 rfl (by decide) q_136 rfl dX2_meet_64 ?_
          refine wc_iload X 67 4 dX2_meet_67 rfl ?_
          refine wc_iastG X Y 69 2 rfl (by omega) (by decide) (ws' := [ob o 2 [.ref qc, .ref qr, .int (nI n)], aI G qc 512 (upd cb (a + (16 * b)) x), aI G qr 512 (nF (up rw0 n (a + (16 * b))))]) rfl dX2_meet_69 ?_
          refine wc_aload_n X 70 0 dX2_meet_70 rfl ?_
          refine wc_dup X 71 dX2_meet_71 rfl ?_
          refine wc_get X 72 0 2 kd2 rfl (by decide) q_136 rfl dX2_meet_72 ?_
          refine wc_iconstN X 75 1 dX2_meet_75 ?_
          refine wc_iaddN X 76 dX2_meet_76 ?_
          refine wc_put X Y 77 0 2 kd2 rfl (by decide) q_136 rfl rfl rfl (Nat.le_of_ble_eq_true rfl) (ws' := [ob o 2 [.ref qc, .ref qr, .int (nI (n + 1))], aI G qc 512 (upd cb (a + (16 * b)) x), aI G qr 512 (nF (up rw0 n (a + (16 * b))))]) rfl dX2_meet_77 ?_
          exact ret 80 _ _ dX2_meet_80 (⟨rfl, rfl⟩)
      ·
        exact absurd hcb c35_4

set_option maxHeartbeats 4000000 in
set_option maxRecDepth 100000 in
theorem c_X2_spellBack (l : Launch) (G : GG) (o qc qr n : Nat) (cb : Nat → Int32) (sp lsp len : Nat) (b : Bool) (g : Nat → Nat) (ln wd : Nat → Nat) (m i0 v : Nat) (hP : PrG cb ln wd m) (hi0 : i0 < m) (hn : m ≤ 512) (hv : v = ln i0) (h0 : wd 0 = 0) (hlen : lenB (wd i0) < 200) : MM l G yX2_spellBack (Cond.code yX2_spellBack cX2_spellBack 5 none) { frames := 1, cells := 0, slots := 0, locals := 21 } [.ref o, .int (nI v), .ref sp] [ob o 2 [.ref qc, .ref qr, .int (nI n)], aI G qc 512 cb, ob sp 8 [.int (b2i b), .int (nI len), .ref lsp], aI G lsp 200 (nF g)] (fun (v : Option Value) (w : va_W) => ∃ (g2 : Nat → Nat), v = none ∧ w = [ob o 2 [.ref qc, .ref qr, .int (nI n)], aI G qc 512 cb, ob sp 8 [.int (b2i true), .int (nI (lenB (wd i0))), .ref lsp], aI G lsp 200 (nF g2)] ∧ (∀ j, j < lenB (wd i0) → g2 j = letE (wd i0) j)) 0 0 := by
  refine MM.ofV (by decide) rfl (fun Γ X Y hnm ret => ?_)
  show Wc Γ 0 0 0 [(0, .ref o), (1, .int (nI v)), (2, .ref sp)] [] [ob o 2 [.ref qc, .ref qr, .int (nI n)], aI G qc 512 cb, ob sp 8 [.int (b2i b), .int (nI len), .ref lsp], aI G lsp 200 (nF g)]
  refine wc_aload_n X 0 2 dX2_spellBack_0 rfl ?_
  refine wc_iconstN X 1 1 dX2_spellBack_1 ?_
  refine wc_st (st' := [.int (b2i true), .ref sp]) rfl ?_
  refine wc_mutV X Y 2 [2] [0, 1, 3] 2 (c_X8_clear l G sp lsp len b true ) yv_X8_clear kd8 rfl rfl (wr := [ob o 2 [.ref qc, .ref qr, .int (nI n)], aI G qc 512 cb, aI G lsp 200 (nF g)]) rfl ⟨rfl, rfl, rfl⟩ q_547 ⟨rfl, rfl⟩ ⟨rfl, rfl⟩ ⟨rfl, rfl⟩ rfl rfl rfl dX2_spellBack_2 (fun v w hp_1 => ?_)
  obtain ⟨rfl, rfl⟩ := hp_1
  refine wc_perm Y [0, 1, 3, 2] [ob o 2 [.ref qc, .ref qr, .int (nI n)], aI G qc 512 cb, ob sp 8 [.int (b2i true), .int (nI 0), .ref lsp], aI G lsp 200 (nF g)] rfl rfl ?_
  show Wc Γ 0 0 5 [(0, .ref o), (1, .int (nI v)), (2, .ref sp)] [] [ob o 2 [.ref qc, .ref qr, .int (nI n)], aI G qc 512 cb, ob sp 8 [.int (b2i true), .int (nI 0), .ref lsp], aI G lsp 200 (nF g)]
  refine wc_iload_n X 5 1 dX2_spellBack_5 rfl ?_
  refine wc_istore_n X 6 (L' := [(0, .ref o), (1, .int (nI v)), (2, .ref sp), (3, .int (nI v))]) dX2_spellBack_6 (by decide) rfl ?_
  refine wc_iconstN X 7 0 dX2_spellBack_7 ?_
  refine wc_istore X 8 (L' := [(0, .ref o), (1, .int (nI v)), (2, .ref sp), (3, .int (nI v)), (4, .int (nI 0))]) dX2_spellBack_8 (by decide) rfl ?_
  have LP_3 : ∀ (fuel_2 : Nat) (i : Nat) (sN : Nat) (w : Nat → Nat), (i < m) → (prevN (wd i0) sN = wd i) → (sN + i ≤ i0) → (sN ≤ lenB (wd i0)) → (∀ u, u < sN → w u = letE (wd i0) u) → i < fuel_2 → Wc Γ 0 0 10 [(0, .ref o), (1, .int (nI v)), (2, .ref sp), (3, .int (nI (ln i))), (4, .int (nI sN))] [] [ob o 2 [.ref qc, .ref qr, .int (nI n)], aI G qc 512 cb, ob sp 8 [.int (b2i true), .int (nI sN), .ref lsp], aI G lsp 200 (nF w)] := by
    intro fuel_2
    induction fuel_2 with
    | zero => intro i sN w hi hs hsi hl hw hm; exact absurd hm (Nat.not_lt_zero _)
    | succ fuel_2 ih_4 =>
      intro i sN w hi hs hsi hl hw hm_5
      have hli := hP.2.2.2 i hi
      refine wc_iload X 10 4 dX2_spellBack_10 rfl ?_
      refine wc_aload_n X 12 0 dX2_spellBack_12 rfl ?_
      refine wc_get X 13 0 0 kd2 rfl (by decide) q_134 rfl dX2_spellBack_13 ?_
      refine wc_alenI X 16 1 rfl dX2_spellBack_16 ?_
      refine wc_icmp_geN X 17 72 dX2_spellBack_17 (by decide) (by omega) (by decide) (fun c17_6 => ?_) (fun c17_6 => ?_)
      ·
        exact absurd c17_6 (by omega)
      ·
        refine wc_iload_n X 20 3 dX2_spellBack_20 rfl ?_
        refine wc_ifltF X 21 (tgt := 42) dX2_spellBack_21 (by decide) (by omega) ?_
        refine wc_iload_n X 24 3 dX2_spellBack_24 rfl ?_
        refine wc_aload_n X 25 0 dX2_spellBack_25 rfl ?_
        refine wc_get X 26 0 0 kd2 rfl (by decide) q_134 rfl dX2_spellBack_26 ?_
        refine wc_alenI X 29 1 rfl dX2_spellBack_29 ?_
        refine wc_icmp_geN X 30 42 dX2_spellBack_30 (by decide) (by omega) (by decide) (fun c30_8 => ?_) (fun c30_8 => ?_)
        ·
          exact absurd c30_8 (by omega)
        ·
          refine wc_aload_n X 33 0 dX2_spellBack_33 rfl ?_
          refine wc_get X 34 0 0 kd2 rfl (by decide) q_134 rfl dX2_spellBack_34 ?_
          refine wc_iload_n X 37 3 dX2_spellBack_37 rfl ?_
          refine wc_ialdN X 38 1 rfl (by omega) (by decide) dX2_spellBack_38 ?_
          refine wc_if_ge X 39 43 dX2_spellBack_39 (by decide) (fun c39_9 => ?_) (fun c39_9 => ?_)
          ·
            have hpos : 0 < i := Nat.pos_of_ne_zero (fun e => absurd c39_9 (by rw [e, hP.1]; decide))
            obtain ⟨j, c, hj0, hj1, hj2, hj3, hj5⟩ := hP.2.2.1 i hpos hi
            have hlj := hP.2.2.2 j (by omega)
            refine wc_aload_n X 43 2 dX2_spellBack_43 rfl ?_
            refine wc_aload_n X 44 0 dX2_spellBack_44 rfl ?_
            refine wc_get X 45 0 0 kd2 rfl (by decide) q_134 rfl dX2_spellBack_45 ?_
            refine wc_iload_n X 48 3 dX2_spellBack_48 rfl ?_
            refine wc_ialdN X 49 1 rfl (by omega) (by decide) dX2_spellBack_49 ?_
            refine wc_top (v' := .int (nI (ln j * 2 + c - 1))) (by rw [hj3]) ?_
            refine wc_iconstN X 50 2 dX2_spellBack_50 ?_
            refine wc_iremN X 51 dX2_spellBack_51 (by omega) (by decide) (by decide) ?_
            refine wc_iconstN X 52 1 dX2_spellBack_52 ?_
            refine wc_iaddN X 53 dX2_spellBack_53 ?_
            refine wc_topi (nI c) (congrArg nI (by omega)) ?_
            refine wc_mutV X Y 54 [2, 3] [0, 1] 2 (c_X8_prepend l G sp lsp sN true w c (by first | assumption | omega)) yv_X8_prepend kd8 rfl rfl (wr := [ob o 2 [.ref qc, .ref qr, .int (nI n)], aI G qc 512 cb]) rfl ⟨rfl, rfl, rfl⟩ q_551 ⟨rfl, rfl⟩ ⟨rfl, rfl⟩ ⟨rfl, rfl⟩ rfl rfl rfl dX2_spellBack_54 (fun v w hp_10 => ?_)
            obtain ⟨rfl, rfl⟩ := hp_10
            refine wc_perm Y [0, 1, 2, 3] [ob o 2 [.ref qc, .ref qr, .int (nI n)], aI G qc 512 cb, ob sp 8 [.int (b2i true), .int (nI (sN + 1)), .ref lsp], aI G lsp 200 (nF (up w sN c))] rfl rfl ?_
            show Wc Γ 0 0 57 [(0, .ref o), (1, .int (nI v)), (2, .ref sp), (3, .int (nI (ln i))), (4, .int (nI sN))] [] [ob o 2 [.ref qc, .ref qr, .int (nI n)], aI G qc 512 cb, ob sp 8 [.int (b2i true), .int (nI (sN + 1)), .ref lsp], aI G lsp 200 (nF (up w sN c))]
            refine wc_aload_n X 57 0 dX2_spellBack_57 rfl ?_
            refine wc_get X 58 0 0 kd2 rfl (by decide) q_134 rfl dX2_spellBack_58 ?_
            refine wc_iload_n X 61 3 dX2_spellBack_61 rfl ?_
            refine wc_ialdN X 62 1 rfl (by omega) (by decide) dX2_spellBack_62 ?_
            refine wc_top (v' := .int (nI (ln j * 2 + c - 1))) (by rw [hj3]) ?_
            refine wc_iconstN X 63 2 dX2_spellBack_63 ?_
            refine wc_idivN X 64 dX2_spellBack_64 (by omega) (by decide) (by decide) ?_
            refine wc_topi (nI (ln j)) (congrArg nI (by omega)) ?_
            refine wc_istore_n X 65 (L' := [(0, .ref o), (1, .int (nI v)), (2, .ref sp), (3, .int (nI (ln j))), (4, .int (nI sN))]) dX2_spellBack_65 (by decide) rfl ?_
            refine wc_iincN X 66 4 (L' := [(0, .ref o), (1, .int (nI v)), (2, .ref sp), (3, .int (nI (ln j))), (4, .int (nI (sN + 1)))]) dX2_spellBack_66 rfl (by decide) rfl ?_
            refine wc_goto X 69 10 dX2_spellBack_69 (by decide) ?_
            refine wc_L (L' := [(0, .ref o), (1, .int (nI v)), (2, .ref sp), (3, .int (nI (ln j))), (4, .int (nI (sN + 1)))]) (by rfl) ?_
            exact ih_4 j (sN + 1) (up w sN c) (by omega) (way_bk hs hj1 hj2 hj5) (by omega) (way_lt hs hl (by omega)) (way_let hs hj1 hj2 hj5 rfl hw) (by omega)
          ·
            have hz := PrG_0 hP hi c39_9
            have hle := way_end h0 hs hl hz
            exact ret 42 _ _ dX2_spellBack_42 (⟨w, rfl, by rw [hle], fun j hj => hw j (by omega)⟩)
  have e_11 : v = ln i0 := hv
  refine wc_L (L' := [(0, .ref o), (1, .int (nI v)), (2, .ref sp), (3, .int (nI (ln i0))), (4, .int (nI 0))]) (by first | rfl | rw [e_11] | (rw [e_11]; rfl)) ?_
  exact LP_3 (i0 + 1) i0 0 g hi0 rfl (by omega) (Nat.zero_le _) (fun u hu => absurd hu (Nat.not_lt_zero _)) (Nat.lt_succ_self _)

set_option maxHeartbeats 4000000 in
set_option maxRecDepth 100000 in
theorem c_X2_spell (l : Launch) (G : GG) (o qc qr n : Nat) (cb : Nat → Int32) (rw0 : Nat → Nat) (qa la n0 e0 : Nat) (g0 : Nat → Nat) (qb lb n1 e1 : Nat) (g1 : Nat → Nat) (sp lsp len : Nat) (b : Bool) (g : Nat → Nat) (hn0 : n0 ≤ 4) (hg0 : ∀ j, g0 j < 16) (hn1 : n1 ≤ 5) (hg1 : ∀ j, g1 j < 32) : MM l G yX2_spell (Cond.code yX2_spell cX2_spell 9 none) { frames := 2, cells := 0, slots := 0, locals := 47 } [.ref o, .ref qa, .ref qb, .ref sp] [ob o 2 [.ref qc, .ref qr, .int (nI n)], aI G qc 512 cb, aI G qr 512 (nF rw0), ob qa 6 [.int (nI n0), .int (nI e0), .ref la], aI G la 10 (nF g0), ob qb 6 [.int (nI n1), .int (nI e1), .ref lb], aI G lb 10 (nF g1), ob sp 8 [.int (b2i b), .int (nI len), .ref lsp], aI G lsp 200 (nF g)] (fun (v : Option Value) (w : va_W) => ∃ (cb2 : Nat → Int32) (rw2 : Nat → Nat) (n2 len2 : Nat) (gg2 : Nat → Nat), v = none ∧ w = [ob o 2 [.ref qc, .ref qr, .int (nI n2)], aI G qc 512 cb2, aI G qr 512 (nF rw2), ob qa 6 [.int (nI n0), .int (nI e0), .ref la], aI G la 10 (nF g0), ob qb 6 [.int (nI n1), .int (nI e1), .ref lb], aI G lb 10 (nF g1), ob sp 8 [.int (b2i ((leastW g0 n0 e0 g1 n1 e1 0).isSome)), .int (nI len2), .ref lsp], aI G lsp 200 (nF gg2)] ∧ (∀ x, leastW g0 n0 e0 g1 n1 e1 0 = some x → len2 = lenB x ∧ ∀ j, j < lenB x → gg2 j = letE x j) ∧ (len2 ≤ 200)) 0 0 := by
  refine MM.ofV (by decide) rfl (fun Γ X Y hnm ret => ?_)
  show Wc Γ 0 0 0 [(0, .ref o), (1, .ref qa), (2, .ref qb), (3, .ref sp)] [] [ob o 2 [.ref qc, .ref qr, .int (nI n)], aI G qc 512 cb, aI G qr 512 (nF rw0), ob qa 6 [.int (nI n0), .int (nI e0), .ref la], aI G la 10 (nF g0), ob qb 6 [.int (nI n1), .int (nI e1), .ref lb], aI G lb 10 (nF g1), ob sp 8 [.int (b2i b), .int (nI len), .ref lsp], aI G lsp 200 (nF g)]
  refine wc_aload_n X 0 0 dX2_spell_0 rfl ?_
  refine wc_get X 1 0 0 kd2 rfl (by decide) q_134 rfl dX2_spell_1 ?_
  refine wc_iconst X 4 (-1) dX2_spell_4 (by decide) ?_
  refine wc_mutS X Y 5 [1] [0, 2, 3, 4, 5, 6, 7, 8] (c_J7_fill_53178 l G qc 512 cb (-1) (by decide)) ys_J7_fill_53178 rfl (wr := [ob o 2 [.ref qc, .ref qr, .int (nI n)], aI G qr 512 (nF rw0), ob qa 6 [.int (nI n0), .int (nI e0), .ref la], aI G la 10 (nF g0), ob qb 6 [.int (nI n1), .int (nI e1), .ref lb], aI G lb 10 (nF g1), ob sp 8 [.int (b2i b), .int (nI len), .ref lsp], aI G lsp 200 (nF g)]) rfl ⟨rfl, rfl, rfl⟩ q_537 ⟨rfl, rfl⟩ ⟨rfl, rfl⟩ ⟨rfl, rfl⟩ rfl rfl rfl dX2_spell_5 (fun v w hp_1 => ?_)
  obtain ⟨rfl, rfl⟩ := hp_1
  refine wc_perm Y [0, 8, 1, 2, 3, 4, 5, 6, 7] [ob o 2 [.ref qc, .ref qr, .int (nI n)], aI G qc 512 (fillF cb (-1) 512), aI G qr 512 (nF rw0), ob qa 6 [.int (nI n0), .int (nI e0), .ref la], aI G la 10 (nF g0), ob qb 6 [.int (nI n1), .int (nI e1), .ref lb], aI G lb 10 (nF g1), ob sp 8 [.int (b2i b), .int (nI len), .ref lsp], aI G lsp 200 (nF g)] rfl rfl ?_
  show Wc Γ 0 0 8 [(0, .ref o), (1, .ref qa), (2, .ref qb), (3, .ref sp)] [] [ob o 2 [.ref qc, .ref qr, .int (nI n)], aI G qc 512 (fillF cb (-1) 512), aI G qr 512 (nF rw0), ob qa 6 [.int (nI n0), .int (nI e0), .ref la], aI G la 10 (nF g0), ob qb 6 [.int (nI n1), .int (nI e1), .ref lb], aI G lb 10 (nF g1), ob sp 8 [.int (b2i b), .int (nI len), .ref lsp], aI G lsp 200 (nF g)]
  refine wc_ext X Y 1 (f' := (fun _ => -1)) rfl (fun j hj => by unfold fillF; rw [if_pos hj]) (ws' := [ob o 2 [.ref qc, .ref qr, .int (nI n)], aI G qc 512 (fun _ => -1), aI G qr 512 (nF rw0), ob qa 6 [.int (nI n0), .int (nI e0), .ref la], aI G la 10 (nF g0), ob qb 6 [.int (nI n1), .int (nI e1), .ref lb], aI G lb 10 (nF g1), ob sp 8 [.int (b2i b), .int (nI len), .ref lsp], aI G lsp 200 (nF g)]) rfl ?_
  refine wc_aload_n X 8 0 dX2_spell_8 rfl ?_
  refine wc_iconstN X 9 0 dX2_spell_9 ?_
  refine wc_put X Y 10 0 2 kd2 rfl (by decide) q_136 rfl rfl rfl (Nat.le_of_ble_eq_true rfl) (ws' := [ob o 2 [.ref qc, .ref qr, .int (nI 0)], aI G qc 512 (fun _ => -1), aI G qr 512 (nF rw0), ob qa 6 [.int (nI n0), .int (nI e0), .ref la], aI G la 10 (nF g0), ob qb 6 [.int (nI n1), .int (nI e1), .ref lb], aI G lb 10 (nF g1), ob sp 8 [.int (b2i b), .int (nI len), .ref lsp], aI G lsp 200 (nF g)]) rfl dX2_spell_10 ?_
  refine wc_aload_n X 13 0 dX2_spell_13 rfl ?_
  refine wc_iconstN X 14 1 dX2_spell_14 ?_
  refine wc_iconstN X 15 1 dX2_spell_15 ?_
  refine wc_bipush X 16 (-2) dX2_spell_16 (by decide) ?_
  refine wc_mutV X Y 18 [0, 1, 2] [3, 4, 5, 6, 7, 8] 0 (c_X2_meetN l G o qc qr 0 (fun _ => -1) rw0 1 1 (-2) (by decide) (by decide) (by decide) rfl (by decide)) yv_X2_meet kd2 rfl rfl (wr := [ob qa 6 [.int (nI n0), .int (nI e0), .ref la], aI G la 10 (nF g0), ob qb 6 [.int (nI n1), .int (nI e1), .ref lb], aI G lb 10 (nF g1), ob sp 8 [.int (b2i b), .int (nI len), .ref lsp], aI G lsp 200 (nF g)]) rfl ⟨rfl, rfl, rfl⟩ q_538 ⟨rfl, rfl⟩ ⟨rfl, rfl⟩ ⟨rfl, rfl⟩ rfl rfl rfl dX2_spell_18 (fun v w hp_2 => ?_)
  obtain ⟨rfl, rfl⟩ := hp_2
  refine wc_perm Y [6, 7, 8, 0, 1, 2, 3, 4, 5] [ob o 2 [.ref qc, .ref qr, .int (nI (0 + 1))], aI G qc 512 (upd (fun _ => -1) (1 + 16 * 1) (-2)), aI G qr 512 (nF (up rw0 0 (1 + 16 * 1))), ob qa 6 [.int (nI n0), .int (nI e0), .ref la], aI G la 10 (nF g0), ob qb 6 [.int (nI n1), .int (nI e1), .ref lb], aI G lb 10 (nF g1), ob sp 8 [.int (b2i b), .int (nI len), .ref lsp], aI G lsp 200 (nF g)] rfl rfl ?_
  show Wc Γ 0 0 21 [(0, .ref o), (1, .ref qa), (2, .ref qb), (3, .ref sp)] [] [ob o 2 [.ref qc, .ref qr, .int (nI (0 + 1))], aI G qc 512 (upd (fun _ => -1) (1 + 16 * 1) (-2)), aI G qr 512 (nF (up rw0 0 (1 + 16 * 1))), ob qa 6 [.int (nI n0), .int (nI e0), .ref la], aI G la 10 (nF g0), ob qb 6 [.int (nI n1), .int (nI e1), .ref lb], aI G lb 10 (nF g1), ob sp 8 [.int (b2i b), .int (nI len), .ref lsp], aI G lsp 200 (nF g)]
  refine wc_iconstN X 21 0 dX2_spell_21 ?_
  refine wc_istore X 22 (L' := [(0, .ref o), (1, .ref qa), (2, .ref qb), (3, .ref sp), (4, .int (nI 0))]) dX2_spell_22 (by decide) rfl ?_
  have LP_4 : ∀ (fuel_3 : Nat) (k : Nat) (n : Nat) (ln : Nat → Nat) (cb2 : Nat → Int32) (wd : Nat → Nat), (Bf (dG g0 n0 g1 n1) 17 deadG k 1 n ln wd) → (PrG cb2 ln wd n) → (n ≤ 512) → (k ≤ n) → (∀ i, i < k → wantG e0 e1 (ln i) = false) → 512 - k < fuel_3 → Wc Γ 0 0 24 [(0, .ref o), (1, .ref qa), (2, .ref qb), (3, .ref sp), (4, .int (nI k))] [] [ob o 2 [.ref qc, .ref qr, .int (nI n)], aI G qc 512 cb2, aI G qr 512 (nF ln), ob qa 6 [.int (nI n0), .int (nI e0), .ref la], aI G la 10 (nF g0), ob qb 6 [.int (nI n1), .int (nI e1), .ref lb], aI G lb 10 (nF g1), ob sp 8 [.int (b2i b), .int (nI len), .ref lsp], aI G lsp 200 (nF g)] := by
    intro fuel_3
    induction fuel_3 with
    | zero => intro k n ln cb2 wd hB hP hn hkn hw hm; exact absurd hm (Nat.not_lt_zero _)
    | succ fuel_3 ih_5 =>
      intro k n ln cb2 wd hB hP hn hkn hw hm_6
      refine wc_iload X 24 4 dX2_spell_24 rfl ?_
      refine wc_aload_n X 26 0 dX2_spell_26 rfl ?_
      refine wc_get X 27 0 2 kd2 rfl (by decide) q_136 rfl dX2_spell_27 ?_
      refine wc_icmp_geN X 30 142 dX2_spell_30 (by decide) (by omega) (by omega) (fun c30_7 => ?_) (fun c30_7 => ?_)
      ·
        refine wc_aload_n X 142 3 dX2_spell_142 rfl ?_
        refine wc_iconstN X 143 0 dX2_spell_143 ?_
        refine wc_st (st' := [.int (b2i false), .ref sp]) rfl ?_
        refine wc_mutV X Y 144 [7] [0, 1, 2, 3, 4, 5, 6, 8] 7 (c_X8_clear l G sp lsp len b false ) yv_X8_clear kd8 rfl rfl (wr := [ob o 2 [.ref qc, .ref qr, .int (nI n)], aI G qc 512 cb2, aI G qr 512 (nF ln), ob qa 6 [.int (nI n0), .int (nI e0), .ref la], aI G la 10 (nF g0), ob qb 6 [.int (nI n1), .int (nI e1), .ref lb], aI G lb 10 (nF g1), aI G lsp 200 (nF g)]) rfl ⟨rfl, rfl, rfl⟩ q_547 ⟨rfl, rfl⟩ ⟨rfl, rfl⟩ ⟨rfl, rfl⟩ rfl rfl rfl dX2_spell_144 (fun v w hp_8 => ?_)
        obtain ⟨rfl, rfl⟩ := hp_8
        refine wc_perm Y [0, 1, 2, 3, 4, 5, 6, 8, 7] [ob o 2 [.ref qc, .ref qr, .int (nI n)], aI G qc 512 cb2, aI G qr 512 (nF ln), ob qa 6 [.int (nI n0), .int (nI e0), .ref la], aI G la 10 (nF g0), ob qb 6 [.int (nI n1), .int (nI e1), .ref lb], aI G lb 10 (nF g1), ob sp 8 [.int (b2i false), .int (nI 0), .ref lsp], aI G lsp 200 (nF g)] rfl rfl ?_
        show Wc Γ 0 0 147 [(0, .ref o), (1, .ref qa), (2, .ref qb), (3, .ref sp), (4, .int (nI k))] [] [ob o 2 [.ref qc, .ref qr, .int (nI n)], aI G qc 512 cb2, aI G qr 512 (nF ln), ob qa 6 [.int (nI n0), .int (nI e0), .ref la], aI G la 10 (nF g0), ob qb 6 [.int (nI n1), .int (nI e1), .ref lb], aI G lb 10 (nF g1), ob sp 8 [.int (b2i false), .int (nI 0), .ref lsp], aI G lsp 200 (nF g)]
        exact ret 147 _ _ dX2_spell_147 (⟨_, _, _, _, _, rfl, by rw [gap_none hg0 (show Bf (dG g0 n0 g1 n1) 17 deadG n 1 n ln wd by rw [show k = n by omega] at hB; exact hB) (by rw [show k = n by omega] at hw; exact hw)]; rfl, (fun x hx => by rw [gap_none hg0 (show Bf (dG g0 n0 g1 n1) 17 deadG n 1 n ln wd by rw [show k = n by omega] at hB; exact hB) (by rw [show k = n by omega] at hw; exact hw)] at hx; cases hx), by decide⟩)
      ·
        refine wc_iload X 33 4 dX2_spell_33 rfl ?_
        refine wc_aload_n X 35 0 dX2_spell_35 rfl ?_
        refine wc_get X 36 0 1 kd2 rfl (by decide) q_135 rfl dX2_spell_36 ?_
        refine wc_alenI X 39 2 rfl dX2_spell_39 ?_
        refine wc_icmp_geN X 40 142 dX2_spell_40 (by decide) (by omega) (by decide) (fun c40_9 => ?_) (fun c40_9 => ?_)
        ·
          exact absurd c40_9 (by omega)
        ·
          refine wc_aload_n X 43 0 dX2_spell_43 rfl ?_
          refine wc_get X 44 0 1 kd2 rfl (by decide) q_135 rfl dX2_spell_44 ?_
          refine wc_iload X 47 4 dX2_spell_47 rfl ?_
          refine wc_ialdG X 49 2 rfl (by omega) (by decide) dX2_spell_49 ?_
          refine wc_istore X 50 (L' := [(0, .ref o), (1, .ref qa), (2, .ref qb), (3, .ref sp), (4, .int (nI k)), (5, .int (nI (ln k)))]) dX2_spell_50 (by decide) rfl ?_
          obtain ⟨vk, hvk⟩ : ∃ v, v = ln k := ⟨_, rfl⟩
          refine wc_L (L' := [(0, .ref o), (1, .ref qa), (2, .ref qb), (3, .ref sp), (4, .int (nI k)), (5, .int (nI vk))]) (by rw [hvk]) ?_
          have hvl : vk < 512 := by rw [hvk]; exact hP.2.2.2 k (by omega)
          refine wc_iload X 52 5 dX2_spell_52 rfl ?_
          refine wc_bipush X 54 (nI 16) dX2_spell_54 (by decide) ?_
          refine wc_iremN X 56 dX2_spell_56 (by omega) (by decide) (by decide) ?_
          refine wc_istore X 57 (L' := [(0, .ref o), (1, .ref qa), (2, .ref qb), (3, .ref sp), (4, .int (nI k)), (5, .int (nI vk)), (6, .int (nI (vk % 16)))]) dX2_spell_57 (by decide) rfl ?_
          refine wc_iload X 59 5 dX2_spell_59 rfl ?_
          refine wc_bipush X 61 (nI 16) dX2_spell_61 (by decide) ?_
          refine wc_idivN X 63 dX2_spell_63 (by omega) (by decide) (by decide) ?_
          refine wc_istore X 64 (L' := [(0, .ref o), (1, .ref qa), (2, .ref qb), (3, .ref sp), (4, .int (nI k)), (5, .int (nI vk)), (6, .int (nI (vk % 16))), (7, .int (nI (vk / 16)))]) dX2_spell_64 (by decide) rfl ?_
          refine wc_aload_n X 66 1 dX2_spell_66 rfl ?_
          refine wc_iload X 67 6 dX2_spell_67 rfl ?_
          refine wc_callV X 69 [3] 3 (c_X6_hasEndIn l G qa la n0 e0 (vk % 16) (by omega)) yv_X6_hasEndIn kd6 rfl rfl q_542 ⟨rfl, rfl⟩ ⟨rfl, rfl⟩ ⟨rfl, rfl⟩ rfl rfl rfl dX2_spell_69 ?_
          refine wc_if_eqB X 72 92 dX2_spell_72 (by decide) (fun c72_10 => ?_) (fun c72_10 => ?_)
          ·
            have hwk : wantG e0 e1 vk = false := by unfold wantG; rw [c72_10]; rfl
            refine wc_iconstN X 92 1 dX2_spell_92 ?_
            refine wc_istore X 93 (L' := [(0, .ref o), (1, .ref qa), (2, .ref qb), (3, .ref sp), (4, .int (nI k)), (5, .int (nI vk)), (6, .int (nI (vk % 16))), (7, .int (nI (vk / 16))), (8, .int (nI 1))]) dX2_spell_93 (by decide) rfl ?_
            have LP_12 : ∀ (fuel_11 : Nat) (c : Nat) (n3 : Nat) (l3 : Nat → Nat) (b3 : Nat → Int32) (w3 : Nat → Nat), (1 ≤ c) → (c ≤ 3) → (Bf (dG g0 n0 g1 n1) 17 deadG k c n3 l3 w3) → (PrG b3 l3 w3 n3) → (n3 ≤ 512) → (k < n3) → (l3 k = vk) → (∀ i, i < k + 1 → wantG e0 e1 (l3 i) = false) → 3 - c < fuel_11 → Wc Γ 0 0 95 [(0, .ref o), (1, .ref qa), (2, .ref qb), (3, .ref sp), (4, .int (nI k)), (5, .int (nI vk)), (6, .int (nI (vk % 16))), (7, .int (nI (vk / 16))), (8, .int (nI c))] [] [ob o 2 [.ref qc, .ref qr, .int (nI n3)], aI G qc 512 b3, aI G qr 512 (nF l3), ob qa 6 [.int (nI n0), .int (nI e0), .ref la], aI G la 10 (nF g0), ob qb 6 [.int (nI n1), .int (nI e1), .ref lb], aI G lb 10 (nF g1), ob sp 8 [.int (b2i b), .int (nI len), .ref lsp], aI G lsp 200 (nF g)] := by
              intro fuel_11
              induction fuel_11 with
              | zero => intro c n3 l3 b3 w3 hc1 hc3 hB3 hP3 hn3 hk3 hv3 hw3 hm; exact absurd hm (Nat.not_lt_zero _)
              | succ fuel_11 ih_13 =>
                intro c n3 l3 b3 w3 hc1 hc3 hB3 hP3 hn3 hk3 hv3 hw3 hm_14
                refine wc_iload X 95 8 dX2_spell_95 rfl ?_
                refine wc_iconstN X 97 2 dX2_spell_97 ?_
                refine wc_icmp_gtN X 98 136 dX2_spell_98 (by decide) (by omega) (by decide) (fun c98_15 => ?_) (fun c98_15 => ?_)
                ·
                  refine wc_iincN X 136 4 (L' := [(0, .ref o), (1, .ref qa), (2, .ref qb), (3, .ref sp), (4, .int (nI (k + 1))), (5, .int (nI vk)), (6, .int (nI (vk % 16))), (7, .int (nI (vk / 16))), (8, .int (nI c))]) dX2_spell_136 rfl (by decide) rfl ?_
                  refine wc_goto X 139 24 dX2_spell_139 (by decide) ?_
                  refine wc_loc [0, 1, 2, 3, 4] (L' := [(0, .ref o), (1, .ref qa), (2, .ref qb), (3, .ref sp), (4, .int (nI (k + 1)))]) rfl ?_
                  refine wc_L (L' := [(0, .ref o), (1, .ref qa), (2, .ref qb), (3, .ref sp), (4, .int (nI (k + 1)))]) (by rfl) ?_
                  exact ih_5 (k + 1) n3 l3 b3 w3 (Bf_next (by rw [show c = 3 by omega] at hB3; exact hB3)) hP3 hn3 (by omega) hw3 (by omega)
                ·
                  refine wc_aload_n X 101 0 dX2_spell_101 rfl ?_
                  refine wc_aload_n X 102 1 dX2_spell_102 rfl ?_
                  refine wc_iload X 103 6 dX2_spell_103 rfl ?_
                  refine wc_iload X 105 8 dX2_spell_105 rfl ?_
                  refine wc_callV X 107 [3, 4] 3 (c_X6_step l G qa la n0 e0 g0 (vk % 16) c (by omega) (by omega) (by first | assumption | omega) (by omega)) yv_X6_step kd6 rfl rfl q_555 ⟨rfl, rfl⟩ ⟨rfl, rfl⟩ ⟨rfl, rfl⟩ rfl rfl rfl dX2_spell_107 ?_
                  refine wc_aload_n X 110 2 dX2_spell_110 rfl ?_
                  refine wc_iload X 111 7 dX2_spell_111 rfl ?_
                  refine wc_iload X 113 8 dX2_spell_113 rfl ?_
                  refine wc_callV X 115 [5, 6] 5 (c_X6_step l G qb lb n1 e1 g1 (vk / 16) c (by omega) (by omega) (by first | assumption | omega) (by omega)) yv_X6_step kd6 rfl rfl q_555 ⟨rfl, rfl⟩ ⟨rfl, rfl⟩ ⟨rfl, rfl⟩ rfl rfl rfl dX2_spell_115 ?_
                  refine wc_iload X 118 5 dX2_spell_118 rfl ?_
                  refine wc_iconstN X 120 2 dX2_spell_120 ?_
                  refine wc_imulN X 121 dX2_spell_121 ?_
                  refine wc_iload X 122 8 dX2_spell_122 rfl ?_
                  refine wc_iaddN X 124 dX2_spell_124 ?_
                  refine wc_iconstN X 125 1 dX2_spell_125 ?_
                  refine wc_isubN X 126 dX2_spell_126 (by omega) ?_
                  rcases gap_cases (stepN g0 (vk % 16) c n0) (b3 (dG g0 n0 g1 n1 vk c)) with hd | ⟨hd, hcb⟩ | ⟨hd, hcb⟩
                  ·
                    refine wc_mutV X Y 127 [0, 1, 2] [3, 4, 5, 6, 7, 8] 0 (c_X2_meetS l G o qc qr n3 b3 l3 (stepN g0 (vk % 16) c n0) (stepN g1 (vk / 16) c n1) (nI (((vk * 2) + c) - 1)) (stepN_ltP (k := 4) hg0 _ _ _) (stepN_ltP (k := 5) hg1 _ _ _) (Or.inl hd)) yv_X2_meet kd2 rfl rfl (wr := [ob qa 6 [.int (nI n0), .int (nI e0), .ref la], aI G la 10 (nF g0), ob qb 6 [.int (nI n1), .int (nI e1), .ref lb], aI G lb 10 (nF g1), ob sp 8 [.int (b2i b), .int (nI len), .ref lsp], aI G lsp 200 (nF g)]) rfl ⟨rfl, rfl, rfl⟩ q_538 ⟨rfl, rfl⟩ ⟨rfl, rfl⟩ ⟨rfl, rfl⟩ rfl rfl rfl dX2_spell_127 (fun v w hp_16 => ?_)
                    obtain ⟨rfl, rfl⟩ := hp_16
                    refine wc_perm Y [6, 7, 8, 0, 1, 2, 3, 4, 5] [ob o 2 [.ref qc, .ref qr, .int (nI n3)], aI G qc 512 b3, aI G qr 512 (nF l3), ob qa 6 [.int (nI n0), .int (nI e0), .ref la], aI G la 10 (nF g0), ob qb 6 [.int (nI n1), .int (nI e1), .ref lb], aI G lb 10 (nF g1), ob sp 8 [.int (b2i b), .int (nI len), .ref lsp], aI G lsp 200 (nF g)] rfl rfl ?_
                    show Wc Γ 0 0 130 [(0, .ref o), (1, .ref qa), (2, .ref qb), (3, .ref sp), (4, .int (nI k)), (5, .int (nI vk)), (6, .int (nI (vk % 16))), (7, .int (nI (vk / 16))), (8, .int (nI c))] [] [ob o 2 [.ref qc, .ref qr, .int (nI n3)], aI G qc 512 b3, aI G qr 512 (nF l3), ob qa 6 [.int (nI n0), .int (nI e0), .ref la], aI G la 10 (nF g0), ob qb 6 [.int (nI n1), .int (nI e1), .ref lb], aI G lb 10 (nF g1), ob sp 8 [.int (b2i b), .int (nI len), .ref lsp], aI G lsp 200 (nF g)]
                    refine wc_iincN X 130 8 (L' := [(0, .ref o), (1, .ref qa), (2, .ref qb), (3, .ref sp), (4, .int (nI k)), (5, .int (nI vk)), (6, .int (nI (vk % 16))), (7, .int (nI (vk / 16))), (8, .int (nI (c + 1)))]) dX2_spell_130 rfl (by decide) rfl ?_
                    refine wc_goto X 133 95 dX2_spell_133 (by decide) ?_
                    refine wc_L (L' := [(0, .ref o), (1, .ref qa), (2, .ref qb), (3, .ref sp), (4, .int (nI k)), (5, .int (nI vk)), (6, .int (nI (vk % 16))), (7, .int (nI (vk / 16))), (8, .int (nI (c + 1)))]) (by rfl) ?_
                    exact ih_13 (c + 1) n3 l3 b3 w3 (by omega) (by omega) (Bf_old hB3 hk3 (Or.inl (by rw [hv3]; unfold deadG dG; rw [hd]; omega))) hP3 hn3 hk3 hv3 hw3 (by omega)
                  ·
                    refine wc_mutV X Y 127 [0, 1, 2] [3, 4, 5, 6, 7, 8] 0 (c_X2_meetS l G o qc qr n3 b3 l3 (stepN g0 (vk % 16) c n0) (stepN g1 (vk / 16) c n1) (nI (((vk * 2) + c) - 1)) (stepN_ltP (k := 4) hg0 _ _ _) (stepN_ltP (k := 5) hg1 _ _ _) (Or.inr hcb)) yv_X2_meet kd2 rfl rfl (wr := [ob qa 6 [.int (nI n0), .int (nI e0), .ref la], aI G la 10 (nF g0), ob qb 6 [.int (nI n1), .int (nI e1), .ref lb], aI G lb 10 (nF g1), ob sp 8 [.int (b2i b), .int (nI len), .ref lsp], aI G lsp 200 (nF g)]) rfl ⟨rfl, rfl, rfl⟩ q_538 ⟨rfl, rfl⟩ ⟨rfl, rfl⟩ ⟨rfl, rfl⟩ rfl rfl rfl dX2_spell_127 (fun v w hp_17 => ?_)
                    obtain ⟨rfl, rfl⟩ := hp_17
                    refine wc_perm Y [6, 7, 8, 0, 1, 2, 3, 4, 5] [ob o 2 [.ref qc, .ref qr, .int (nI n3)], aI G qc 512 b3, aI G qr 512 (nF l3), ob qa 6 [.int (nI n0), .int (nI e0), .ref la], aI G la 10 (nF g0), ob qb 6 [.int (nI n1), .int (nI e1), .ref lb], aI G lb 10 (nF g1), ob sp 8 [.int (b2i b), .int (nI len), .ref lsp], aI G lsp 200 (nF g)] rfl rfl ?_
                    show Wc Γ 0 0 130 [(0, .ref o), (1, .ref qa), (2, .ref qb), (3, .ref sp), (4, .int (nI k)), (5, .int (nI vk)), (6, .int (nI (vk % 16))), (7, .int (nI (vk / 16))), (8, .int (nI c))] [] [ob o 2 [.ref qc, .ref qr, .int (nI n3)], aI G qc 512 b3, aI G qr 512 (nF l3), ob qa 6 [.int (nI n0), .int (nI e0), .ref la], aI G la 10 (nF g0), ob qb 6 [.int (nI n1), .int (nI e1), .ref lb], aI G lb 10 (nF g1), ob sp 8 [.int (b2i b), .int (nI len), .ref lsp], aI G lsp 200 (nF g)]
                    refine wc_iincN X 130 8 (L' := [(0, .ref o), (1, .ref qa), (2, .ref qb), (3, .ref sp), (4, .int (nI k)), (5, .int (nI vk)), (6, .int (nI (vk % 16))), (7, .int (nI (vk / 16))), (8, .int (nI (c + 1)))]) dX2_spell_130 rfl (by decide) rfl ?_
                    refine wc_goto X 133 95 dX2_spell_133 (by decide) ?_
                    refine wc_L (L' := [(0, .ref o), (1, .ref qa), (2, .ref qb), (3, .ref sp), (4, .int (nI k)), (5, .int (nI vk)), (6, .int (nI (vk % 16))), (7, .int (nI (vk / 16))), (8, .int (nI (c + 1)))]) (by rfl) ?_
                    exact ih_13 (c + 1) n3 l3 b3 w3 (by omega) (by omega) (Bf_old hB3 hk3 (Or.inr (by rw [hv3]; exact (hP3.2.1 _ (dG_lt hg0 hg1 _ _)).resolve_right hcb))) hP3 hn3 hk3 hv3 hw3 (by omega)
                  ·
                    have hnew : ∀ j, j < n3 → l3 j ≠ dG g0 n0 g1 n1 vk c := fun j hj e => PrG_vis hP3 hj (by rw [e]; exact hcb)
                    have hlt : n3 < 512 := pigeon_new hP3.2.2.2 hB3.2.2.2.2.2.1 (dG_lt hg0 hg1 vk c) hnew
                    refine wc_mutV X Y 127 [0, 1, 2] [3, 4, 5, 6, 7, 8] 0 (c_X2_meetN l G o qc qr n3 b3 l3 (stepN g0 (vk % 16) c n0) (stepN g1 (vk / 16) c n1) (nI (((vk * 2) + c) - 1)) (stepN_ltP (k := 4) hg0 _ _ _) (stepN_ltP (k := 5) hg1 _ _ _) hd hcb hlt) yv_X2_meet kd2 rfl rfl (wr := [ob qa 6 [.int (nI n0), .int (nI e0), .ref la], aI G la 10 (nF g0), ob qb 6 [.int (nI n1), .int (nI e1), .ref lb], aI G lb 10 (nF g1), ob sp 8 [.int (b2i b), .int (nI len), .ref lsp], aI G lsp 200 (nF g)]) rfl ⟨rfl, rfl, rfl⟩ q_538 ⟨rfl, rfl⟩ ⟨rfl, rfl⟩ ⟨rfl, rfl⟩ rfl rfl rfl dX2_spell_127 (fun v w hp_18 => ?_)
                    obtain ⟨rfl, rfl⟩ := hp_18
                    refine wc_perm Y [6, 7, 8, 0, 1, 2, 3, 4, 5] [ob o 2 [.ref qc, .ref qr, .int (nI (n3 + 1))], aI G qc 512 (upd b3 ((stepN g0 (vk % 16) c n0) + 16 * (stepN g1 (vk / 16) c n1)) (nI (((vk * 2) + c) - 1))), aI G qr 512 (nF (up l3 n3 ((stepN g0 (vk % 16) c n0) + 16 * (stepN g1 (vk / 16) c n1)))), ob qa 6 [.int (nI n0), .int (nI e0), .ref la], aI G la 10 (nF g0), ob qb 6 [.int (nI n1), .int (nI e1), .ref lb], aI G lb 10 (nF g1), ob sp 8 [.int (b2i b), .int (nI len), .ref lsp], aI G lsp 200 (nF g)] rfl rfl ?_
                    show Wc Γ 0 0 130 [(0, .ref o), (1, .ref qa), (2, .ref qb), (3, .ref sp), (4, .int (nI k)), (5, .int (nI vk)), (6, .int (nI (vk % 16))), (7, .int (nI (vk / 16))), (8, .int (nI c))] [] [ob o 2 [.ref qc, .ref qr, .int (nI (n3 + 1))], aI G qc 512 (upd b3 ((stepN g0 (vk % 16) c n0) + 16 * (stepN g1 (vk / 16) c n1)) (nI (((vk * 2) + c) - 1))), aI G qr 512 (nF (up l3 n3 ((stepN g0 (vk % 16) c n0) + 16 * (stepN g1 (vk / 16) c n1)))), ob qa 6 [.int (nI n0), .int (nI e0), .ref la], aI G la 10 (nF g0), ob qb 6 [.int (nI n1), .int (nI e1), .ref lb], aI G lb 10 (nF g1), ob sp 8 [.int (b2i b), .int (nI len), .ref lsp], aI G lsp 200 (nF g)]
                    refine wc_iincN X 130 8 (L' := [(0, .ref o), (1, .ref qa), (2, .ref qb), (3, .ref sp), (4, .int (nI k)), (5, .int (nI vk)), (6, .int (nI (vk % 16))), (7, .int (nI (vk / 16))), (8, .int (nI (c + 1)))]) dX2_spell_130 rfl (by decide) rfl ?_
                    refine wc_goto X 133 95 dX2_spell_133 (by decide) ?_
                    refine wc_L (L' := [(0, .ref o), (1, .ref qa), (2, .ref qb), (3, .ref sp), (4, .int (nI k)), (5, .int (nI vk)), (6, .int (nI (vk % 16))), (7, .int (nI (vk / 16))), (8, .int (nI (c + 1)))]) (by rfl) ?_
                    exact ih_13 (c + 1) (n3 + 1) (up l3 n3 ((stepN g0 (vk % 16) c n0) + 16 * (stepN g1 (vk / 16) c n1))) (upd b3 ((stepN g0 (vk % 16) c n0) + 16 * (stepN g1 (vk / 16) c n1)) (nI (((vk * 2) + c) - 1))) (up w3 n3 (2 * w3 k + c)) (by omega) (by omega) (Bf_new hB3 hk3 hc1 (by omega) (by rw [hv3]; rfl) hnew) (by have hq := PrG_new hP3 hk3 hc1 (show c ≤ 2 by omega) (dG_lt hg0 hg1 vk c) hnew; rw [hv3] at hq; exact hq) (by omega) (by omega) (by rw [up_n _ _ (by omega)]; exact hv3) (fun i hi => by rw [up_n _ _ (by omega)]; exact hw3 i hi) (by omega)
            exact LP_12 (3 - 1 + 1) 1 n ln cb2 wd (by decide) (by decide) hB hP hn (by omega) hvk.symm (lt_ext hw (by rw [← hvk]; exact hwk)) (Nat.lt_succ_self _)
          ·
            refine wc_aload_n X 75 2 dX2_spell_75 rfl ?_
            refine wc_iload X 76 7 dX2_spell_76 rfl ?_
            refine wc_callV X 78 [5] 5 (c_X6_hasEndIn l G qb lb n1 e1 (vk / 16) (by omega)) yv_X6_hasEndIn kd6 rfl rfl q_542 ⟨rfl, rfl⟩ ⟨rfl, rfl⟩ ⟨rfl, rfl⟩ rfl rfl rfl dX2_spell_78 ?_
            refine wc_if_neB X 81 92 dX2_spell_81 (by decide) (fun c81_19 => ?_) (fun c81_19 => ?_)
            ·
              have hwk : wantG e0 e1 vk = false := by unfold wantG; rw [c81_19, Bool.not_true, Bool.and_false]
              refine wc_iconstN X 92 1 dX2_spell_92 ?_
              refine wc_istore X 93 (L' := [(0, .ref o), (1, .ref qa), (2, .ref qb), (3, .ref sp), (4, .int (nI k)), (5, .int (nI vk)), (6, .int (nI (vk % 16))), (7, .int (nI (vk / 16))), (8, .int (nI 1))]) dX2_spell_93 (by decide) rfl ?_
              have LP_21 : ∀ (fuel_20 : Nat) (c : Nat) (n3 : Nat) (l3 : Nat → Nat) (b3 : Nat → Int32) (w3 : Nat → Nat), (1 ≤ c) → (c ≤ 3) → (Bf (dG g0 n0 g1 n1) 17 deadG k c n3 l3 w3) → (PrG b3 l3 w3 n3) → (n3 ≤ 512) → (k < n3) → (l3 k = vk) → (∀ i, i < k + 1 → wantG e0 e1 (l3 i) = false) → 3 - c < fuel_20 → Wc Γ 0 0 95 [(0, .ref o), (1, .ref qa), (2, .ref qb), (3, .ref sp), (4, .int (nI k)), (5, .int (nI vk)), (6, .int (nI (vk % 16))), (7, .int (nI (vk / 16))), (8, .int (nI c))] [] [ob o 2 [.ref qc, .ref qr, .int (nI n3)], aI G qc 512 b3, aI G qr 512 (nF l3), ob qa 6 [.int (nI n0), .int (nI e0), .ref la], aI G la 10 (nF g0), ob qb 6 [.int (nI n1), .int (nI e1), .ref lb], aI G lb 10 (nF g1), ob sp 8 [.int (b2i b), .int (nI len), .ref lsp], aI G lsp 200 (nF g)] := by
                intro fuel_20
                induction fuel_20 with
                | zero => intro c n3 l3 b3 w3 hc1 hc3 hB3 hP3 hn3 hk3 hv3 hw3 hm; exact absurd hm (Nat.not_lt_zero _)
                | succ fuel_20 ih_22 =>
                  intro c n3 l3 b3 w3 hc1 hc3 hB3 hP3 hn3 hk3 hv3 hw3 hm_23
                  refine wc_iload X 95 8 dX2_spell_95 rfl ?_
                  refine wc_iconstN X 97 2 dX2_spell_97 ?_
                  refine wc_icmp_gtN X 98 136 dX2_spell_98 (by decide) (by omega) (by decide) (fun c98_24 => ?_) (fun c98_24 => ?_)
                  ·
                    refine wc_iincN X 136 4 (L' := [(0, .ref o), (1, .ref qa), (2, .ref qb), (3, .ref sp), (4, .int (nI (k + 1))), (5, .int (nI vk)), (6, .int (nI (vk % 16))), (7, .int (nI (vk / 16))), (8, .int (nI c))]) dX2_spell_136 rfl (by decide) rfl ?_
                    refine wc_goto X 139 24 dX2_spell_139 (by decide) ?_
                    refine wc_loc [0, 1, 2, 3, 4] (L' := [(0, .ref o), (1, .ref qa), (2, .ref qb), (3, .ref sp), (4, .int (nI (k + 1)))]) rfl ?_
                    refine wc_L (L' := [(0, .ref o), (1, .ref qa), (2, .ref qb), (3, .ref sp), (4, .int (nI (k + 1)))]) (by rfl) ?_
                    exact ih_5 (k + 1) n3 l3 b3 w3 (Bf_next (by rw [show c = 3 by omega] at hB3; exact hB3)) hP3 hn3 (by omega) hw3 (by omega)
                  ·
                    refine wc_aload_n X 101 0 dX2_spell_101 rfl ?_
                    refine wc_aload_n X 102 1 dX2_spell_102 rfl ?_
                    refine wc_iload X 103 6 dX2_spell_103 rfl ?_
                    refine wc_iload X 105 8 dX2_spell_105 rfl ?_
                    refine wc_callV X 107 [3, 4] 3 (c_X6_step l G qa la n0 e0 g0 (vk % 16) c (by omega) (by omega) (by first | assumption | omega) (by omega)) yv_X6_step kd6 rfl rfl q_555 ⟨rfl, rfl⟩ ⟨rfl, rfl⟩ ⟨rfl, rfl⟩ rfl rfl rfl dX2_spell_107 ?_
                    refine wc_aload_n X 110 2 dX2_spell_110 rfl ?_
                    refine wc_iload X 111 7 dX2_spell_111 rfl ?_
                    refine wc_iload X 113 8 dX2_spell_113 rfl ?_
                    refine wc_callV X 115 [5, 6] 5 (c_X6_step l G qb lb n1 e1 g1 (vk / 16) c (by omega) (by omega) (by first | assumption | omega) (by omega)) yv_X6_step kd6 rfl rfl q_555 ⟨rfl, rfl⟩ ⟨rfl, rfl⟩ ⟨rfl, rfl⟩ rfl rfl rfl dX2_spell_115 ?_
                    refine wc_iload X 118 5 dX2_spell_118 rfl ?_
                    refine wc_iconstN X 120 2 dX2_spell_120 ?_
                    refine wc_imulN X 121 dX2_spell_121 ?_
                    refine wc_iload X 122 8 dX2_spell_122 rfl ?_
                    refine wc_iaddN X 124 dX2_spell_124 ?_
                    refine wc_iconstN X 125 1 dX2_spell_125 ?_
                    refine wc_isubN X 126 dX2_spell_126 (by omega) ?_
                    rcases gap_cases (stepN g0 (vk % 16) c n0) (b3 (dG g0 n0 g1 n1 vk c)) with hd | ⟨hd, hcb⟩ | ⟨hd, hcb⟩
                    ·
                      refine wc_mutV X Y 127 [0, 1, 2] [3, 4, 5, 6, 7, 8] 0 (c_X2_meetS l G o qc qr n3 b3 l3 (stepN g0 (vk % 16) c n0) (stepN g1 (vk / 16) c n1) (nI (((vk * 2) + c) - 1)) (stepN_ltP (k := 4) hg0 _ _ _) (stepN_ltP (k := 5) hg1 _ _ _) (Or.inl hd)) yv_X2_meet kd2 rfl rfl (wr := [ob qa 6 [.int (nI n0), .int (nI e0), .ref la], aI G la 10 (nF g0), ob qb 6 [.int (nI n1), .int (nI e1), .ref lb], aI G lb 10 (nF g1), ob sp 8 [.int (b2i b), .int (nI len), .ref lsp], aI G lsp 200 (nF g)]) rfl ⟨rfl, rfl, rfl⟩ q_538 ⟨rfl, rfl⟩ ⟨rfl, rfl⟩ ⟨rfl, rfl⟩ rfl rfl rfl dX2_spell_127 (fun v w hp_25 => ?_)
                      obtain ⟨rfl, rfl⟩ := hp_25
                      refine wc_perm Y [6, 7, 8, 0, 1, 2, 3, 4, 5] [ob o 2 [.ref qc, .ref qr, .int (nI n3)], aI G qc 512 b3, aI G qr 512 (nF l3), ob qa 6 [.int (nI n0), .int (nI e0), .ref la], aI G la 10 (nF g0), ob qb 6 [.int (nI n1), .int (nI e1), .ref lb], aI G lb 10 (nF g1), ob sp 8 [.int (b2i b), .int (nI len), .ref lsp], aI G lsp 200 (nF g)] rfl rfl ?_
                      show Wc Γ 0 0 130 [(0, .ref o), (1, .ref qa), (2, .ref qb), (3, .ref sp), (4, .int (nI k)), (5, .int (nI vk)), (6, .int (nI (vk % 16))), (7, .int (nI (vk / 16))), (8, .int (nI c))] [] [ob o 2 [.ref qc, .ref qr, .int (nI n3)], aI G qc 512 b3, aI G qr 512 (nF l3), ob qa 6 [.int (nI n0), .int (nI e0), .ref la], aI G la 10 (nF g0), ob qb 6 [.int (nI n1), .int (nI e1), .ref lb], aI G lb 10 (nF g1), ob sp 8 [.int (b2i b), .int (nI len), .ref lsp], aI G lsp 200 (nF g)]
                      refine wc_iincN X 130 8 (L' := [(0, .ref o), (1, .ref qa), (2, .ref qb), (3, .ref sp), (4, .int (nI k)), (5, .int (nI vk)), (6, .int (nI (vk % 16))), (7, .int (nI (vk / 16))), (8, .int (nI (c + 1)))]) dX2_spell_130 rfl (by decide) rfl ?_
                      refine wc_goto X 133 95 dX2_spell_133 (by decide) ?_
                      refine wc_L (L' := [(0, .ref o), (1, .ref qa), (2, .ref qb), (3, .ref sp), (4, .int (nI k)), (5, .int (nI vk)), (6, .int (nI (vk % 16))), (7, .int (nI (vk / 16))), (8, .int (nI (c + 1)))]) (by rfl) ?_
                      exact ih_22 (c + 1) n3 l3 b3 w3 (by omega) (by omega) (Bf_old hB3 hk3 (Or.inl (by rw [hv3]; unfold deadG dG; rw [hd]; omega))) hP3 hn3 hk3 hv3 hw3 (by omega)
                    ·
                      refine wc_mutV X Y 127 [0, 1, 2] [3, 4, 5, 6, 7, 8] 0 (c_X2_meetS l G o qc qr n3 b3 l3 (stepN g0 (vk % 16) c n0) (stepN g1 (vk / 16) c n1) (nI (((vk * 2) + c) - 1)) (stepN_ltP (k := 4) hg0 _ _ _) (stepN_ltP (k := 5) hg1 _ _ _) (Or.inr hcb)) yv_X2_meet kd2 rfl rfl (wr := [ob qa 6 [.int (nI n0), .int (nI e0), .ref la], aI G la 10 (nF g0), ob qb 6 [.int (nI n1), .int (nI e1), .ref lb], aI G lb 10 (nF g1), ob sp 8 [.int (b2i b), .int (nI len), .ref lsp], aI G lsp 200 (nF g)]) rfl ⟨rfl, rfl, rfl⟩ q_538 ⟨rfl, rfl⟩ ⟨rfl, rfl⟩ ⟨rfl, rfl⟩ rfl rfl rfl dX2_spell_127 (fun v w hp_26 => ?_)
                      obtain ⟨rfl, rfl⟩ := hp_26
                      refine wc_perm Y [6, 7, 8, 0, 1, 2, 3, 4, 5] [ob o 2 [.ref qc, .ref qr, .int (nI n3)], aI G qc 512 b3, aI G qr 512 (nF l3), ob qa 6 [.int (nI n0), .int (nI e0), .ref la], aI G la 10 (nF g0), ob qb 6 [.int (nI n1), .int (nI e1), .ref lb], aI G lb 10 (nF g1), ob sp 8 [.int (b2i b), .int (nI len), .ref lsp], aI G lsp 200 (nF g)] rfl rfl ?_
                      show Wc Γ 0 0 130 [(0, .ref o), (1, .ref qa), (2, .ref qb), (3, .ref sp), (4, .int (nI k)), (5, .int (nI vk)), (6, .int (nI (vk % 16))), (7, .int (nI (vk / 16))), (8, .int (nI c))] [] [ob o 2 [.ref qc, .ref qr, .int (nI n3)], aI G qc 512 b3, aI G qr 512 (nF l3), ob qa 6 [.int (nI n0), .int (nI e0), .ref la], aI G la 10 (nF g0), ob qb 6 [.int (nI n1), .int (nI e1), .ref lb], aI G lb 10 (nF g1), ob sp 8 [.int (b2i b), .int (nI len), .ref lsp], aI G lsp 200 (nF g)]
                      refine wc_iincN X 130 8 (L' := [(0, .ref o), (1, .ref qa), (2, .ref qb), (3, .ref sp), (4, .int (nI k)), (5, .int (nI vk)), (6, .int (nI (vk % 16))), (7, .int (nI (vk / 16))), (8, .int (nI (c + 1)))]) dX2_spell_130 rfl (by decide) rfl ?_
                      refine wc_goto X 133 95 dX2_spell_133 (by decide) ?_
                      refine wc_L (L' := [(0, .ref o), (1, .ref qa), (2, .ref qb), (3, .ref sp), (4, .int (nI k)), (5, .int (nI vk)), (6, .int (nI (vk % 16))), (7, .int (nI (vk / 16))), (8, .int (nI (c + 1)))]) (by rfl) ?_
                      exact ih_22 (c + 1) n3 l3 b3 w3 (by omega) (by omega) (Bf_old hB3 hk3 (Or.inr (by rw [hv3]; exact (hP3.2.1 _ (dG_lt hg0 hg1 _ _)).resolve_right hcb))) hP3 hn3 hk3 hv3 hw3 (by omega)
                    ·
                      have hnew : ∀ j, j < n3 → l3 j ≠ dG g0 n0 g1 n1 vk c := fun j hj e => PrG_vis hP3 hj (by rw [e]; exact hcb)
                      have hlt : n3 < 512 := pigeon_new hP3.2.2.2 hB3.2.2.2.2.2.1 (dG_lt hg0 hg1 vk c) hnew
                      refine wc_mutV X Y 127 [0, 1, 2] [3, 4, 5, 6, 7, 8] 0 (c_X2_meetN l G o qc qr n3 b3 l3 (stepN g0 (vk % 16) c n0) (stepN g1 (vk / 16) c n1) (nI (((vk * 2) + c) - 1)) (stepN_ltP (k := 4) hg0 _ _ _) (stepN_ltP (k := 5) hg1 _ _ _) hd hcb hlt) yv_X2_meet kd2 rfl rfl (wr := [ob qa 6 [.int (nI n0), .int (nI e0), .ref la], aI G la 10 (nF g0), ob qb 6 [.int (nI n1), .int (nI e1), .ref lb], aI G lb 10 (nF g1), ob sp 8 [.int (b2i b), .int (nI len), .ref lsp], aI G lsp 200 (nF g)]) rfl ⟨rfl, rfl, rfl⟩ q_538 ⟨rfl, rfl⟩ ⟨rfl, rfl⟩ ⟨rfl, rfl⟩ rfl rfl rfl dX2_spell_127 (fun v w hp_27 => ?_)
                      obtain ⟨rfl, rfl⟩ := hp_27
                      refine wc_perm Y [6, 7, 8, 0, 1, 2, 3, 4, 5] [ob o 2 [.ref qc, .ref qr, .int (nI (n3 + 1))], aI G qc 512 (upd b3 ((stepN g0 (vk % 16) c n0) + 16 * (stepN g1 (vk / 16) c n1)) (nI (((vk * 2) + c) - 1))), aI G qr 512 (nF (up l3 n3 ((stepN g0 (vk % 16) c n0) + 16 * (stepN g1 (vk / 16) c n1)))), ob qa 6 [.int (nI n0), .int (nI e0), .ref la], aI G la 10 (nF g0), ob qb 6 [.int (nI n1), .int (nI e1), .ref lb], aI G lb 10 (nF g1), ob sp 8 [.int (b2i b), .int (nI len), .ref lsp], aI G lsp 200 (nF g)] rfl rfl ?_
                      show Wc Γ 0 0 130 [(0, .ref o), (1, .ref qa), (2, .ref qb), (3, .ref sp), (4, .int (nI k)), (5, .int (nI vk)), (6, .int (nI (vk % 16))), (7, .int (nI (vk / 16))), (8, .int (nI c))] [] [ob o 2 [.ref qc, .ref qr, .int (nI (n3 + 1))], aI G qc 512 (upd b3 ((stepN g0 (vk % 16) c n0) + 16 * (stepN g1 (vk / 16) c n1)) (nI (((vk * 2) + c) - 1))), aI G qr 512 (nF (up l3 n3 ((stepN g0 (vk % 16) c n0) + 16 * (stepN g1 (vk / 16) c n1)))), ob qa 6 [.int (nI n0), .int (nI e0), .ref la], aI G la 10 (nF g0), ob qb 6 [.int (nI n1), .int (nI e1), .ref lb], aI G lb 10 (nF g1), ob sp 8 [.int (b2i b), .int (nI len), .ref lsp], aI G lsp 200 (nF g)]
                      refine wc_iincN X 130 8 (L' := [(0, .ref o), (1, .ref qa), (2, .ref qb), (3, .ref sp), (4, .int (nI k)), (5, .int (nI vk)), (6, .int (nI (vk % 16))), (7, .int (nI (vk / 16))), (8, .int (nI (c + 1)))]) dX2_spell_130 rfl (by decide) rfl ?_
                      refine wc_goto X 133 95 dX2_spell_133 (by decide) ?_
                      refine wc_L (L' := [(0, .ref o), (1, .ref qa), (2, .ref qb), (3, .ref sp), (4, .int (nI k)), (5, .int (nI vk)), (6, .int (nI (vk % 16))), (7, .int (nI (vk / 16))), (8, .int (nI (c + 1)))]) (by rfl) ?_
                      exact ih_22 (c + 1) (n3 + 1) (up l3 n3 ((stepN g0 (vk % 16) c n0) + 16 * (stepN g1 (vk / 16) c n1))) (upd b3 ((stepN g0 (vk % 16) c n0) + 16 * (stepN g1 (vk / 16) c n1)) (nI (((vk * 2) + c) - 1))) (up w3 n3 (2 * w3 k + c)) (by omega) (by omega) (Bf_new hB3 hk3 hc1 (by omega) (by rw [hv3]; rfl) hnew) (by have hq := PrG_new hP3 hk3 hc1 (show c ≤ 2 by omega) (dG_lt hg0 hg1 vk c) hnew; rw [hv3] at hq; exact hq) (by omega) (by omega) (by rw [up_n _ _ (by omega)]; exact hv3) (fun i hi => by rw [up_n _ _ (by omega)]; exact hw3 i hi) (by omega)
              exact LP_21 (3 - 1 + 1) 1 n ln cb2 wd (by decide) (by decide) hB hP hn (by omega) hvk.symm (lt_ext hw (by rw [← hvk]; exact hwk)) (Nat.lt_succ_self _)
            ·
              have hwk : wantG e0 e1 vk = true := by unfold wantG; rw [c72_10, c81_19]; rfl
              have hLW : leastW g0 n0 e0 g1 n1 e1 0 = some (wd k) := gap_some hg0 hB (by omega) (by rw [← hvk]; exact hwk) hw
              have hpu := pump hg0 hg1 hLW
              refine wc_aload_n X 84 0 dX2_spell_84 rfl ?_
              refine wc_iload X 85 5 dX2_spell_85 rfl ?_
              refine wc_aload_n X 87 3 dX2_spell_87 rfl ?_
              refine wc_mutV X Y 88 [0, 1, 7, 8] [2, 3, 4, 5, 6] 0 (c_X2_spellBack l G o qc qr n cb2 sp lsp len b g ln wd n k vk hP (by omega) hn hvk hB.2.2.1 (by omega)) yv_X2_spellBack kd2 rfl rfl (wr := [aI G qr 512 (nF ln), ob qa 6 [.int (nI n0), .int (nI e0), .ref la], aI G la 10 (nF g0), ob qb 6 [.int (nI n1), .int (nI e1), .ref lb], aI G lb 10 (nF g1)]) rfl ⟨rfl, rfl, rfl⟩ q_543 ⟨rfl, rfl⟩ ⟨rfl, rfl⟩ ⟨rfl, rfl⟩ rfl rfl rfl dX2_spell_88 (fun v w hp_28 => ?_)
              obtain ⟨g2_29, rfl, rfl, hf_30⟩ := hp_28
              refine wc_perm Y [5, 6, 0, 1, 2, 3, 4, 7, 8] [ob o 2 [.ref qc, .ref qr, .int (nI n)], aI G qc 512 cb2, aI G qr 512 (nF ln), ob qa 6 [.int (nI n0), .int (nI e0), .ref la], aI G la 10 (nF g0), ob qb 6 [.int (nI n1), .int (nI e1), .ref lb], aI G lb 10 (nF g1), ob sp 8 [.int (b2i true), .int (nI (lenB (wd k))), .ref lsp], aI G lsp 200 (nF g2_29)] rfl rfl ?_
              show Wc Γ 0 0 91 [(0, .ref o), (1, .ref qa), (2, .ref qb), (3, .ref sp), (4, .int (nI k)), (5, .int (nI vk)), (6, .int (nI (vk % 16))), (7, .int (nI (vk / 16)))] [] [ob o 2 [.ref qc, .ref qr, .int (nI n)], aI G qc 512 cb2, aI G qr 512 (nF ln), ob qa 6 [.int (nI n0), .int (nI e0), .ref la], aI G la 10 (nF g0), ob qb 6 [.int (nI n1), .int (nI e1), .ref lb], aI G lb 10 (nF g1), ob sp 8 [.int (b2i true), .int (nI (lenB (wd k))), .ref lsp], aI G lsp 200 (nF g2_29)]
              exact ret 91 _ _ dX2_spell_91 (⟨_, _, _, _, _, rfl, by rw [hLW]; rfl, fun x hx => by rw [hLW] at hx; cases hx; exact ⟨rfl, hf_30⟩, by omega⟩)
  exact LP_4 (512 - 0 + 1) 0 (0 + 1) (up rw0 0 (1 + 16 * 1)) (upd (fun _ => -1) (1 + 16 * 1) (-2)) (fun _ => 0) (Bf_init (up_s _ _ _)) gap_init (by decide) (by decide) (fun i hi => absurd hi (Nat.not_lt_zero _)) (Nat.lt_succ_self _)

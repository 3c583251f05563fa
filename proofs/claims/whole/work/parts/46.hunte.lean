set_option maxHeartbeats 4000000 in
set_option maxRecDepth 100000 in
theorem c_X3_goOn (l : Launch) (G : GG) (h qst qse qpa qle qgo md : Nat) (s : Sr) (o qf ql : Nat) (fw ld : Nat → Nat) (F : Nat → Nat → Bool) (z qa la n0 e0 : Nat) (g0 : Nat → Nat) (qb lb n1 e1 : Nat) (g1 : Nat → Nat) (k : Nat) (hn0 : n0 ≤ 4) (he0 : e0 < 16) (hg0 : ∀ j, g0 j < 16) (hn1 : n1 ≤ 5) (he1 : e1 < 32) (hg1 : ∀ j, g1 j < 32) (hmd : md ≤ 2) (hF : md = 2 → ∀ x y, x < 9 → y < 9 → Nat.testBit (fw x) y = F x y) (hC : Cvr F n0 n1) (hI : Inv F md n0 n1 s) (hg0n : ∀ j, g0 j < 2 ^ n0) (hg1n : ∀ j, g1 j < 2 ^ n1) (hk : k < srN s) : MM l G yX3_goOn (Cond.code yX3_goOn cX3_goOn 7 none) { frames := 4, cells := 0, slots := 0, locals := 98 } [.ref h, .ref z, .int (nI k)] [ob h 3 [.int (nI (srN s)), .int (nI (srT s)), .int (nI (srA s)), .int (nI (srD s)), .int (bI (srB s)), .int (nI md), .ref o, .ref qst, .ref qse, .ref qpa, .ref qle, .ref qgo], aI G qst 128 (nF (srO s)), aI G qse 128 (nF (srM s)), aI G qpa 128 (srP s), aI G qle 128 (nF (srL s)), aZ G qgo 128 (bF (srG s)), ob o 5 [.ref qf, .ref ql], aI G qf 9 (nF fw), aI G ql 18 (nF ld), ob z 1 [.ref qa, .ref qb], ob qa 6 [.int (nI n0), .int (nI e0), .ref la], aI G la 10 (nF g0), ob qb 6 [.int (nI n1), .int (nI e1), .ref lb], aI G lb 10 (nF g1)] (fun (v : Option Value) (w : va_W) => ∃ (s2 : Sr), v = none ∧ w = [ob h 3 [.int (nI (srN s2)), .int (nI (srT s2)), .int (nI (srA s2)), .int (nI (srD s2)), .int (bI (srB s2)), .int (nI md), .ref o, .ref qst, .ref qse, .ref qpa, .ref qle, .ref qgo], aI G qst 128 (nF (srO s2)), aI G qse 128 (nF (srM s2)), aI G qpa 128 (srP s2), aI G qle 128 (nF (srL s2)), aZ G qgo 128 (bF (srG s2)), ob o 5 [.ref qf, .ref ql], aI G qf 9 (nF fw), aI G ql 18 (nF ld), ob z 1 [.ref qa, .ref qb], ob qa 6 [.int (nI n0), .int (nI e0), .ref la], aI G la 10 (nF g0), ob qb 6 [.int (nI n1), .int (nI e1), .ref lb], aI G lb 10 (nF g1)] ∧ s2 = goS F md e0 e1 g0 g1 n1 (srO s k) (srM s k) k s 8) 0 0 := by
  refine MM.ofV (by decide) rfl (fun Γ X Y hnm ret => ?_)
  show Wc Γ 0 0 0 [(0, .ref h), (1, .ref z), (2, .int (nI k))] [] [ob h 3 [.int (nI (srN s)), .int (nI (srT s)), .int (nI (srA s)), .int (nI (srD s)), .int (bI (srB s)), .int (nI md), .ref o, .ref qst, .ref qse, .ref qpa, .ref qle, .ref qgo], aI G qst 128 (nF (srO s)), aI G qse 128 (nF (srM s)), aI G qpa 128 (srP s), aI G qle 128 (nF (srL s)), aZ G qgo 128 (bF (srG s)), ob o 5 [.ref qf, .ref ql], aI G qf 9 (nF fw), aI G ql 18 (nF ld), ob z 1 [.ref qa, .ref qb], ob qa 6 [.int (nI n0), .int (nI e0), .ref la], aI G la 10 (nF g0), ob qb 6 [.int (nI n1), .int (nI e1), .ref lb], aI G lb 10 (nF g1)]
  refine wc_iconstN X 0 1 dX3_goOn_0 ?_
  refine wc_istore_n X 1 (L' := [(0, .ref h), (1, .ref z), (2, .int (nI k)), (3, .int (nI 1))]) dX3_goOn_1 (by decide) rfl ?_
  have LP_2 : ∀ (fuel_1 : Nat) (c : Nat) (t : Sr), (1 ≤ c) → (c ≤ 3) → (t = goS F md e0 e1 g0 g1 n1 (srO s k) (srM s k) k s (4 * (c - 1))) → 3 - c < fuel_1 → Wc Γ 0 0 2 [(0, .ref h), (1, .ref z), (2, .int (nI k)), (3, .int (nI c))] [] [ob h 3 [.int (nI (srN t)), .int (nI (srT t)), .int (nI (srA t)), .int (nI (srD t)), .int (bI (srB t)), .int (nI md), .ref o, .ref qst, .ref qse, .ref qpa, .ref qle, .ref qgo], aI G qst 128 (nF (srO t)), aI G qse 128 (nF (srM t)), aI G qpa 128 (srP t), aI G qle 128 (nF (srL t)), aZ G qgo 128 (bF (srG t)), ob o 5 [.ref qf, .ref ql], aI G qf 9 (nF fw), aI G ql 18 (nF ld), ob z 1 [.ref qa, .ref qb], ob qa 6 [.int (nI n0), .int (nI e0), .ref la], aI G la 10 (nF g0), ob qb 6 [.int (nI n1), .int (nI e1), .ref lb], aI G lb 10 (nF g1)] := by
    intro fuel_1
    induction fuel_1 with
    | zero => intro c t hc1 hc3 ht hm; exact absurd hm (Nat.not_lt_zero _)
    | succ fuel_1 ih_3 =>
      intro c t hc1 hc3 ht hm_4
      have hit : Inv F md n0 n1 t ∧ srN s ≤ srN t ∧ ∀ j, j < srN s → srO t j = srO s j ∧ srM t j = srM s j := by rw [ht]; exact goS_inv hC hn1 hI hk hg0n hg1n _ (by omega)
      refine wc_iload_n X 2 3 dX3_goOn_2 rfl ?_
      refine wc_iconstN X 3 2 dX3_goOn_3 ?_
      refine wc_icmp_gtN X 4 88 dX3_goOn_4 (by decide) (by omega) (by decide) (fun c4_5 => ?_) (fun c4_5 => ?_)
      ·
        exact ret 88 _ _ dX3_goOn_88 (⟨t, rfl, rfl, by rw [ht, show c = 3 by omega]⟩)
      ·
        refine wc_aload_n X 7 1 dX3_goOn_7 rfl ?_
        refine wc_get X 8 9 0 kd1 rfl (by decide) q_70 rfl dX3_goOn_8 ?_
        refine wc_aload_n X 11 0 dX3_goOn_11 rfl ?_
        refine wc_get X 12 0 7 kd3 rfl (by decide) q_193 rfl dX3_goOn_12 ?_
        refine wc_iload_n X 15 2 dX3_goOn_15 rfl ?_
        refine wc_ialdG X 16 1 rfl (Nat.lt_of_lt_of_le hk (Inv_le hn0 hn1 hI)) (by decide) dX3_goOn_16 ?_
        refine wc_topi (nI (srO s k)) (congrArg nI ((hit.2.2 k hk).1)) ?_
        refine wc_iload_n X 17 3 dX3_goOn_17 rfl ?_
        refine wc_callV X 18 [10, 11] 10 (c_X6_targets l G qa la n0 e0 g0 (srO s k) c (by have := (hI.1 k hk).1; omega) hc1 (by omega)) yv_X6_targets kd6 rfl rfl q_631 ⟨rfl, rfl⟩ ⟨rfl, rfl⟩ ⟨rfl, rfl⟩ rfl rfl rfl dX3_goOn_18 ?_
        refine wc_istore X 21 (L' := [(0, .ref h), (1, .ref z), (2, .int (nI k)), (3, .int (nI c)), (4, .int (nI (g0 ((srO s k) * 2 + c - 1))))]) dX3_goOn_21 (by decide) rfl ?_
        refine wc_aload_n X 23 1 dX3_goOn_23 rfl ?_
        refine wc_get X 24 9 1 kd1 rfl (by decide) q_78 rfl dX3_goOn_24 ?_
        refine wc_aload_n X 27 0 dX3_goOn_27 rfl ?_
        refine wc_get X 28 0 8 kd3 rfl (by decide) q_194 rfl dX3_goOn_28 ?_
        refine wc_iload_n X 31 2 dX3_goOn_31 rfl ?_
        refine wc_ialdG X 32 2 rfl (Nat.lt_of_lt_of_le hk (Inv_le hn0 hn1 hI)) (by decide) dX3_goOn_32 ?_
        refine wc_topi (nI (srM s k)) (congrArg nI ((hit.2.2 k hk).2)) ?_
        refine wc_iload_n X 33 3 dX3_goOn_33 rfl ?_
        refine wc_callV X 34 [12, 13] 12 (c_X6_step l G qb lb n1 e1 g1 (srM s k) c hn1 (pw5 hn1 (hI.1 k hk).2.1) hc1 (by omega)) yv_X6_step kd6 rfl rfl q_632 ⟨rfl, rfl⟩ ⟨rfl, rfl⟩ ⟨rfl, rfl⟩ rfl rfl rfl dX3_goOn_34 ?_
        refine wc_istore X 37 (L' := [(0, .ref h), (1, .ref z), (2, .int (nI k)), (3, .int (nI c)), (4, .int (nI (g0 ((srO s k) * 2 + c - 1)))), (5, .int (nI (stepN g1 (srM s k) c n1)))]) dX3_goOn_37 (by decide) rfl ?_
        refine wc_iconstN X 39 0 dX3_goOn_39 ?_
        refine wc_istore X 40 (L' := [(0, .ref h), (1, .ref z), (2, .int (nI k)), (3, .int (nI c)), (4, .int (nI (g0 ((srO s k) * 2 + c - 1)))), (5, .int (nI (stepN g1 (srM s k) c n1))), (6, .int (nI 0))]) dX3_goOn_40 (by decide) rfl ?_
        have LP_7 : ∀ (fuel_6 : Nat) (q : Nat) (u : Sr), (q ≤ 4) → (u = goS F md e0 e1 g0 g1 n1 (srO s k) (srM s k) k s (4 * (c - 1) + q)) → 4 - q < fuel_6 → Wc Γ 0 0 42 [(0, .ref h), (1, .ref z), (2, .int (nI k)), (3, .int (nI c)), (4, .int (nI (g0 ((srO s k) * 2 + c - 1)))), (5, .int (nI (stepN g1 (srM s k) c n1))), (6, .int (nI q))] [] [ob h 3 [.int (nI (srN u)), .int (nI (srT u)), .int (nI (srA u)), .int (nI (srD u)), .int (bI (srB u)), .int (nI md), .ref o, .ref qst, .ref qse, .ref qpa, .ref qle, .ref qgo], aI G qst 128 (nF (srO u)), aI G qse 128 (nF (srM u)), aI G qpa 128 (srP u), aI G qle 128 (nF (srL u)), aZ G qgo 128 (bF (srG u)), ob o 5 [.ref qf, .ref ql], aI G qf 9 (nF fw), aI G ql 18 (nF ld), ob z 1 [.ref qa, .ref qb], ob qa 6 [.int (nI n0), .int (nI e0), .ref la], aI G la 10 (nF g0), ob qb 6 [.int (nI n1), .int (nI e1), .ref lb], aI G lb 10 (nF g1)] := by
          intro fuel_6
          induction fuel_6 with
          | zero => intro q u hq4 hu hm; exact absurd hm (Nat.not_lt_zero _)
          | succ fuel_6 ih_8 =>
            intro q u hq4 hu hm_9
            have hiu : Inv F md n0 n1 u ∧ srN s ≤ srN u ∧ ∀ j, j < srN s → srO u j = srO s j ∧ srM u j = srM s j := by rw [hu]; exact goS_inv hC hn1 hI hk hg0n hg1n _ (by omega)
            refine wc_iload X 42 6 dX3_goOn_42 rfl ?_
            refine wc_iconstN X 44 4 dX3_goOn_44 ?_
            refine wc_icmp_geN X 45 82 dX3_goOn_45 (by decide) (by omega) (by decide) (fun c45_10 => ?_) (fun c45_10 => ?_)
            ·
              refine wc_iincN X 82 3 (L' := [(0, .ref h), (1, .ref z), (2, .int (nI k)), (3, .int (nI (c + 1))), (4, .int (nI (g0 ((srO s k) * 2 + c - 1)))), (5, .int (nI (stepN g1 (srM s k) c n1))), (6, .int (nI q))]) dX3_goOn_82 rfl (by decide) rfl ?_
              refine wc_goto X 85 2 dX3_goOn_85 (by decide) ?_
              refine wc_loc [0, 1, 2, 3] (L' := [(0, .ref h), (1, .ref z), (2, .int (nI k)), (3, .int (nI (c + 1)))]) rfl ?_
              refine wc_L (L' := [(0, .ref h), (1, .ref z), (2, .int (nI k)), (3, .int (nI (c + 1)))]) (by rfl) ?_
              exact ih_3 (c + 1) u (by omega) (by omega) (go_end1 hu hc1 (by omega)) (by omega)
            ·
              refine wc_aload_n X 48 0 dX3_goOn_48 rfl ?_
              refine wc_get X 49 0 4 kd3 rfl (by decide) q_189 rfl dX3_goOn_49 ?_
              rcases opt_cases (srB u) with hb | ⟨kb, hb⟩
              ·
                refine wc_if_ge X 52 82 dX3_goOn_52 (by decide) (fun c52_11 => ?_) (fun c52_11 => ?_)
                ·
                  exact absurd c52_11 (by rw [hb]; decide)
                ·
                  refine wc_iload X 55 4 dX3_goOn_55 rfl ?_
                  refine wc_iload X 57 6 dX3_goOn_57 rfl ?_
                  refine wc_ishrN X 59 dX3_goOn_59 (by omega) (Nat.lt_trans (hg0 _) (by decide)) ?_
                  refine wc_iconstN X 60 1 dX3_goOn_60 ?_
                  refine wc_iandN X 61 dX3_goOn_61 ?_
                  refine wc_topi (b2i (Nat.testBit (g0 ((srO s k) * 2 + c - 1)) q)) (nI_bit _ _) ?_
                  refine wc_if_eqB X 62 76 dX3_goOn_62 (by decide) (fun c62_12 => ?_) (fun c62_12 => ?_)
                  ·
                    refine wc_iincN X 76 6 (L' := [(0, .ref h), (1, .ref z), (2, .int (nI k)), (3, .int (nI c)), (4, .int (nI (g0 ((srO s k) * 2 + c - 1)))), (5, .int (nI (stepN g1 (srM s k) c n1))), (6, .int (nI (q + 1)))]) dX3_goOn_76 rfl (by decide) rfl ?_
                    refine wc_goto X 79 42 dX3_goOn_79 (by decide) ?_
                    refine wc_L (L' := [(0, .ref h), (1, .ref z), (2, .int (nI k)), (3, .int (nI c)), (4, .int (nI (g0 ((srO s k) * 2 + c - 1)))), (5, .int (nI (stepN g1 (srM s k) c n1))), (6, .int (nI (q + 1)))]) (by rfl) ?_
                    exact ih_8 (q + 1) u (by omega) (go_off hu hc1 (by omega) c62_12) (by omega)
                  ·
                    refine wc_aload_n X 65 0 dX3_goOn_65 rfl ?_
                    refine wc_aload_n X 66 1 dX3_goOn_66 rfl ?_
                    refine wc_iload X 67 6 dX3_goOn_67 rfl ?_
                    refine wc_iload X 69 5 dX3_goOn_69 rfl ?_
                    refine wc_iload_n X 71 2 dX3_goOn_71 rfl ?_
                    refine wc_iload_n X 72 3 dX3_goOn_72 rfl ?_
                    refine wc_mutV X Y 73 [0, 1, 2, 3, 4, 5, 6, 7, 8, 9, 10, 11, 12, 13] [] 0 (c_X3_come l G h qst qse qpa qle qgo md u o qf ql fw ld F z qa la n0 e0 g0 qb lb n1 e1 g1 q (stepN g1 (srM s k) c n1) (nI k) c (by first | assumption | omega) (by first | assumption | omega) (by first | assumption | omega) (by first | assumption | omega) (by first | assumption | omega) (by first | assumption | omega) (by first | assumption | omega) (by first | assumption | omega) (by first | assumption | omega) hiu.1 (bit_lt (hg0n _) c62_12) (stepN_ltP (k := n1) hg1n _ _ _)) yv_X3_come kd3 rfl rfl (wr := []) rfl ⟨rfl, rfl, rfl⟩ q_604 ⟨rfl, rfl⟩ ⟨rfl, rfl⟩ ⟨rfl, rfl⟩ rfl rfl rfl dX3_goOn_73 (fun v w hp_13 => ?_)
                    obtain ⟨s9, rfl, rfl, hs9⟩ := hp_13
                    refine wc_perm Y [0, 1, 2, 3, 4, 5, 6, 7, 8, 9, 10, 11, 12, 13] [ob h 3 [.int (nI (srN s9)), .int (nI (srT s9)), .int (nI (srA s9)), .int (nI (srD s9)), .int (bI (srB s9)), .int (nI md), .ref o, .ref qst, .ref qse, .ref qpa, .ref qle, .ref qgo], aI G qst 128 (nF (srO s9)), aI G qse 128 (nF (srM s9)), aI G qpa 128 (srP s9), aI G qle 128 (nF (srL s9)), aZ G qgo 128 (bF (srG s9)), ob o 5 [.ref qf, .ref ql], aI G qf 9 (nF fw), aI G ql 18 (nF ld), ob z 1 [.ref qa, .ref qb], ob qa 6 [.int (nI n0), .int (nI e0), .ref la], aI G la 10 (nF g0), ob qb 6 [.int (nI n1), .int (nI e1), .ref lb], aI G lb 10 (nF g1)] rfl rfl ?_
                    show Wc Γ 0 0 76 [(0, .ref h), (1, .ref z), (2, .int (nI k)), (3, .int (nI c)), (4, .int (nI (g0 ((srO s k) * 2 + c - 1)))), (5, .int (nI (stepN g1 (srM s k) c n1))), (6, .int (nI q))] [] [ob h 3 [.int (nI (srN s9)), .int (nI (srT s9)), .int (nI (srA s9)), .int (nI (srD s9)), .int (bI (srB s9)), .int (nI md), .ref o, .ref qst, .ref qse, .ref qpa, .ref qle, .ref qgo], aI G qst 128 (nF (srO s9)), aI G qse 128 (nF (srM s9)), aI G qpa 128 (srP s9), aI G qle 128 (nF (srL s9)), aZ G qgo 128 (bF (srG s9)), ob o 5 [.ref qf, .ref ql], aI G qf 9 (nF fw), aI G ql 18 (nF ld), ob z 1 [.ref qa, .ref qb], ob qa 6 [.int (nI n0), .int (nI e0), .ref la], aI G la 10 (nF g0), ob qb 6 [.int (nI n1), .int (nI e1), .ref lb], aI G lb 10 (nF g1)]
                    refine wc_iincN X 76 6 (L' := [(0, .ref h), (1, .ref z), (2, .int (nI k)), (3, .int (nI c)), (4, .int (nI (g0 ((srO s k) * 2 + c - 1)))), (5, .int (nI (stepN g1 (srM s k) c n1))), (6, .int (nI (q + 1)))]) dX3_goOn_76 rfl (by decide) rfl ?_
                    refine wc_goto X 79 42 dX3_goOn_79 (by decide) ?_
                    refine wc_L (L' := [(0, .ref h), (1, .ref z), (2, .int (nI k)), (3, .int (nI c)), (4, .int (nI (g0 ((srO s k) * 2 + c - 1)))), (5, .int (nI (stepN g1 (srM s k) c n1))), (6, .int (nI (q + 1)))]) (by rfl) ?_
                    exact ih_8 (q + 1) s9 (by omega) (go_on hu hc1 (by omega) hb c62_12 hs9) (by omega)
              ·
                refine wc_topi (nI kb) (by rw [hb]; rfl) ?_
                refine wc_ifgeT X 52 82 dX3_goOn_52 (by decide) (by have := hiu.1.2.2.2 kb hb; have := Inv_le hn0 hn1 hiu.1; omega) ?_
                refine wc_iincN X 82 3 (L' := [(0, .ref h), (1, .ref z), (2, .int (nI k)), (3, .int (nI (c + 1))), (4, .int (nI (g0 ((srO s k) * 2 + c - 1)))), (5, .int (nI (stepN g1 (srM s k) c n1))), (6, .int (nI q))]) dX3_goOn_82 rfl (by decide) rfl ?_
                refine wc_goto X 85 2 dX3_goOn_85 (by decide) ?_
                refine wc_loc [0, 1, 2, 3] (L' := [(0, .ref h), (1, .ref z), (2, .int (nI k)), (3, .int (nI (c + 1)))]) rfl ?_
                refine wc_L (L' := [(0, .ref h), (1, .ref z), (2, .int (nI k)), (3, .int (nI (c + 1)))]) (by rfl) ?_
                exact ih_3 (c + 1) u (by omega) (by omega) (go_end2 hu hc1 hq4 hb) (by omega)
        exact LP_7 (4 - 0 + 1) 0 t (by decide) ht (Nat.lt_succ_self _)
  exact LP_2 (3 - 1 + 1) 1 s (by decide) (by decide) rfl (Nat.lt_succ_self _)

set_option maxHeartbeats 4000000 in
set_option maxRecDepth 100000 in
theorem c_X3_run (l : Launch) (G : GG) (h qst qse qpa qle qgo m0 md : Nat) (s : Sr) (o qf ql : Nat) (fw ld : Nat → Nat) (F : Nat → Nat → Bool) (z qa la n0 e0 : Nat) (g0 : Nat → Nat) (qb lb n1 e1 : Nat) (g1 : Nat → Nat) (hn0 : n0 ≤ 4) (he0 : e0 < 16) (hg0 : ∀ j, g0 j < 16) (hn1 : n1 ≤ 5) (he1 : e1 < 32) (hg1 : ∀ j, g1 j < 32) (hg0n : ∀ j, g0 j < 2 ^ n0) (hg1n : ∀ j, g1 j < 2 ^ n1) (hn01 : 1 ≤ n0) (hn11 : 1 ≤ n1) (he0n : e0 < 2 ^ n0) (he1n : e1 < 2 ^ n1) (hmd : md ≤ 2) (hC : Cvr F n0 n1) (hFo : ∀ x y, F x y = folB g0 n0 e0 g1 n1 e1 x y) : MM l G yX3_run (Cond.code yX3_run cX3_run 4 none) { frames := 5, cells := 0, slots := 0, locals := 124 } [.ref h, .ref z, .int (nI md)] [ob h 3 [.int (nI (srN s)), .int (nI (srT s)), .int (nI (srA s)), .int (nI (srD s)), .int (bI (srB s)), .int (nI m0), .ref o, .ref qst, .ref qse, .ref qpa, .ref qle, .ref qgo], aI G qst 128 (nF (srO s)), aI G qse 128 (nF (srM s)), aI G qpa 128 (srP s), aI G qle 128 (nF (srL s)), aZ G qgo 128 (bF (srG s)), ob o 5 [.ref qf, .ref ql], aI G qf 9 (nF fw), aI G ql 18 (nF ld), ob z 1 [.ref qa, .ref qb], ob qa 6 [.int (nI n0), .int (nI e0), .ref la], aI G la 10 (nF g0), ob qb 6 [.int (nI n1), .int (nI e1), .ref lb], aI G lb 10 (nF g1)] (fun (v : Option Value) (w : va_W) => ∃ (s2 : Sr) (f2 l2 : Nat → Nat), v = none ∧ w = [ob h 3 [.int (nI (srN s2)), .int (nI (srT s2)), .int (nI (srA s2)), .int (nI (srD s2)), .int (bI (srB s2)), .int (nI md), .ref o, .ref qst, .ref qse, .ref qpa, .ref qle, .ref qgo], aI G qst 128 (nF (srO s2)), aI G qse 128 (nF (srM s2)), aI G qpa 128 (srP s2), aI G qle 128 (nF (srL s2)), aZ G qgo 128 (bF (srG s2)), ob o 5 [.ref qf, .ref ql], aI G qf 9 (nF f2), aI G ql 18 (nF l2), ob z 1 [.ref qa, .ref qb], ob qa 6 [.int (nI n0), .int (nI e0), .ref la], aI G la 10 (nF g0), ob qb 6 [.int (nI n1), .int (nI e1), .ref lb], aI G lb 10 (nF g1)] ∧ s2 = runS F md e0 e1 g0 g1 n1 (sZ s) 128) 0 0 := by
  refine MM.ofV (by decide) rfl (fun Γ X Y hnm ret => ?_)
  show Wc Γ 0 0 0 [(0, .ref h), (1, .ref z), (2, .int (nI md))] [] [ob h 3 [.int (nI (srN s)), .int (nI (srT s)), .int (nI (srA s)), .int (nI (srD s)), .int (bI (srB s)), .int (nI m0), .ref o, .ref qst, .ref qse, .ref qpa, .ref qle, .ref qgo], aI G qst 128 (nF (srO s)), aI G qse 128 (nF (srM s)), aI G qpa 128 (srP s), aI G qle 128 (nF (srL s)), aZ G qgo 128 (bF (srG s)), ob o 5 [.ref qf, .ref ql], aI G qf 9 (nF fw), aI G ql 18 (nF ld), ob z 1 [.ref qa, .ref qb], ob qa 6 [.int (nI n0), .int (nI e0), .ref la], aI G la 10 (nF g0), ob qb 6 [.int (nI n1), .int (nI e1), .ref lb], aI G lb 10 (nF g1)]
  refine wc_aload_n X 0 0 dX3_run_0 rfl ?_
  refine wc_iload_n X 1 2 dX3_run_1 rfl ?_
  refine wc_put X Y 2 0 5 kd3 rfl (by decide) q_191 rfl rfl rfl (Nat.le_of_ble_eq_true rfl) (ws' := [ob h 3 [.int (nI (srN s)), .int (nI (srT s)), .int (nI (srA s)), .int (nI (srD s)), .int (bI (srB s)), .int (nI md), .ref o, .ref qst, .ref qse, .ref qpa, .ref qle, .ref qgo], aI G qst 128 (nF (srO s)), aI G qse 128 (nF (srM s)), aI G qpa 128 (srP s), aI G qle 128 (nF (srL s)), aZ G qgo 128 (bF (srG s)), ob o 5 [.ref qf, .ref ql], aI G qf 9 (nF fw), aI G ql 18 (nF ld), ob z 1 [.ref qa, .ref qb], ob qa 6 [.int (nI n0), .int (nI e0), .ref la], aI G la 10 (nF g0), ob qb 6 [.int (nI n1), .int (nI e1), .ref lb], aI G lb 10 (nF g1)]) rfl dX3_run_2 ?_
  refine wc_aload_n X 5 0 dX3_run_5 rfl ?_
  refine wc_iconstN X 6 0 dX3_run_6 ?_
  refine wc_put X Y 7 0 0 kd3 rfl (by decide) q_181 rfl rfl rfl (Nat.le_of_ble_eq_true rfl) (ws' := [ob h 3 [.int (nI 0), .int (nI (srT s)), .int (nI (srA s)), .int (nI (srD s)), .int (bI (srB s)), .int (nI md), .ref o, .ref qst, .ref qse, .ref qpa, .ref qle, .ref qgo], aI G qst 128 (nF (srO s)), aI G qse 128 (nF (srM s)), aI G qpa 128 (srP s), aI G qle 128 (nF (srL s)), aZ G qgo 128 (bF (srG s)), ob o 5 [.ref qf, .ref ql], aI G qf 9 (nF fw), aI G ql 18 (nF ld), ob z 1 [.ref qa, .ref qb], ob qa 6 [.int (nI n0), .int (nI e0), .ref la], aI G la 10 (nF g0), ob qb 6 [.int (nI n1), .int (nI e1), .ref lb], aI G lb 10 (nF g1)]) rfl dX3_run_7 ?_
  refine wc_aload_n X 10 0 dX3_run_10 rfl ?_
  refine wc_iconstN X 11 0 dX3_run_11 ?_
  refine wc_put X Y 12 0 1 kd3 rfl (by decide) q_183 rfl rfl rfl (Nat.le_of_ble_eq_true rfl) (ws' := [ob h 3 [.int (nI 0), .int (nI 0), .int (nI (srA s)), .int (nI (srD s)), .int (bI (srB s)), .int (nI md), .ref o, .ref qst, .ref qse, .ref qpa, .ref qle, .ref qgo], aI G qst 128 (nF (srO s)), aI G qse 128 (nF (srM s)), aI G qpa 128 (srP s), aI G qle 128 (nF (srL s)), aZ G qgo 128 (bF (srG s)), ob o 5 [.ref qf, .ref ql], aI G qf 9 (nF fw), aI G ql 18 (nF ld), ob z 1 [.ref qa, .ref qb], ob qa 6 [.int (nI n0), .int (nI e0), .ref la], aI G la 10 (nF g0), ob qb 6 [.int (nI n1), .int (nI e1), .ref lb], aI G lb 10 (nF g1)]) rfl dX3_run_12 ?_
  refine wc_aload_n X 15 0 dX3_run_15 rfl ?_
  refine wc_iconstN X 16 0 dX3_run_16 ?_
  refine wc_put X Y 17 0 2 kd3 rfl (by decide) q_185 rfl rfl rfl (Nat.le_of_ble_eq_true rfl) (ws' := [ob h 3 [.int (nI 0), .int (nI 0), .int (nI 0), .int (nI (srD s)), .int (bI (srB s)), .int (nI md), .ref o, .ref qst, .ref qse, .ref qpa, .ref qle, .ref qgo], aI G qst 128 (nF (srO s)), aI G qse 128 (nF (srM s)), aI G qpa 128 (srP s), aI G qle 128 (nF (srL s)), aZ G qgo 128 (bF (srG s)), ob o 5 [.ref qf, .ref ql], aI G qf 9 (nF fw), aI G ql 18 (nF ld), ob z 1 [.ref qa, .ref qb], ob qa 6 [.int (nI n0), .int (nI e0), .ref la], aI G la 10 (nF g0), ob qb 6 [.int (nI n1), .int (nI e1), .ref lb], aI G lb 10 (nF g1)]) rfl dX3_run_17 ?_
  refine wc_aload_n X 20 0 dX3_run_20 rfl ?_
  refine wc_iconstN X 21 0 dX3_run_21 ?_
  refine wc_put X Y 22 0 3 kd3 rfl (by decide) q_187 rfl rfl rfl (Nat.le_of_ble_eq_true rfl) (ws' := [ob h 3 [.int (nI 0), .int (nI 0), .int (nI 0), .int (nI 0), .int (bI (srB s)), .int (nI md), .ref o, .ref qst, .ref qse, .ref qpa, .ref qle, .ref qgo], aI G qst 128 (nF (srO s)), aI G qse 128 (nF (srM s)), aI G qpa 128 (srP s), aI G qle 128 (nF (srL s)), aZ G qgo 128 (bF (srG s)), ob o 5 [.ref qf, .ref ql], aI G qf 9 (nF fw), aI G ql 18 (nF ld), ob z 1 [.ref qa, .ref qb], ob qa 6 [.int (nI n0), .int (nI e0), .ref la], aI G la 10 (nF g0), ob qb 6 [.int (nI n1), .int (nI e1), .ref lb], aI G lb 10 (nF g1)]) rfl dX3_run_22 ?_
  refine wc_aload_n X 25 0 dX3_run_25 rfl ?_
  refine wc_bipush X 26 (-9) dX3_run_26 (by decide) ?_
  refine wc_put X Y 28 0 4 kd3 rfl (by decide) q_189 rfl rfl rfl (Nat.le_of_ble_eq_true rfl) (ws' := [ob h 3 [.int (nI 0), .int (nI 0), .int (nI 0), .int (nI 0), .int (-9), .int (nI md), .ref o, .ref qst, .ref qse, .ref qpa, .ref qle, .ref qgo], aI G qst 128 (nF (srO s)), aI G qse 128 (nF (srM s)), aI G qpa 128 (srP s), aI G qle 128 (nF (srL s)), aZ G qgo 128 (bF (srG s)), ob o 5 [.ref qf, .ref ql], aI G qf 9 (nF fw), aI G ql 18 (nF ld), ob z 1 [.ref qa, .ref qb], ob qa 6 [.int (nI n0), .int (nI e0), .ref la], aI G la 10 (nF g0), ob qb 6 [.int (nI n1), .int (nI e1), .ref lb], aI G lb 10 (nF g1)]) rfl dX3_run_28 ?_
  refine wc_aload_n X 31 0 dX3_run_31 rfl ?_
  refine wc_get X 32 0 5 kd3 rfl (by decide) q_191 rfl dX3_run_32 ?_
  refine wc_iconstN X 35 2 dX3_run_35 ?_
  refine wc_icmp_neN X 36 47 dX3_run_36 (by decide) (by omega) (by decide) (fun c36_1 => ?_) (fun c36_1 => ?_)
  ·
    have hF1 : md = 2 → ∀ x y, x < 9 → y < 9 → Nat.testBit (fw x) y = F x y := fun z => absurd z c36_1
    refine wc_aload_n X 47 0 dX3_run_47 rfl ?_
    refine wc_aload_n X 48 1 dX3_run_48 rfl ?_
    refine wc_iconstN X 49 0 dX3_run_49 ?_
    refine wc_iconstN X 50 1 dX3_run_50 ?_
    refine wc_bipush X 51 (-9) dX3_run_51 (by decide) ?_
    refine wc_iconstN X 53 0 dX3_run_53 ?_
    refine wc_mutV X Y 54 [0, 1, 2, 3, 4, 5, 6, 7, 8, 9, 10, 11, 12, 13] [] 0 (c_X3_come l G h qst qse qpa qle qgo md (sZ s) o qf ql fw ld F z qa la n0 e0 g0 qb lb n1 e1 g1 0 1 (-9) 0 (by first | assumption | omega) (by first | assumption | omega) (by first | assumption | omega) (by first | assumption | omega) (by first | assumption | omega) (by first | assumption | omega) (by first | assumption | omega) hF1 (by first | assumption | omega) ⟨fun i hi => absurd hi (Nat.not_lt_zero _), fun i hi => absurd hi (Nat.not_lt_zero _), fun i j hi => absurd hi (Nat.not_lt_zero _), fun k hk => by cases hk⟩ (by omega) (Nat.lt_of_lt_of_le (show 1 < 2 ^ 1 by decide) (Nat.pow_le_pow_right (by decide) hn11))) yv_X3_come kd3 rfl rfl (wr := []) rfl ⟨rfl, rfl, rfl⟩ q_604 ⟨rfl, rfl⟩ ⟨rfl, rfl⟩ ⟨rfl, rfl⟩ rfl rfl rfl dX3_run_54 (fun v w hp_2 => ?_)
    obtain ⟨s9, rfl, rfl, hs9⟩ := hp_2
    refine wc_perm Y [0, 1, 2, 3, 4, 5, 6, 7, 8, 9, 10, 11, 12, 13] [ob h 3 [.int (nI (srN s9)), .int (nI (srT s9)), .int (nI (srA s9)), .int (nI (srD s9)), .int (bI (srB s9)), .int (nI md), .ref o, .ref qst, .ref qse, .ref qpa, .ref qle, .ref qgo], aI G qst 128 (nF (srO s9)), aI G qse 128 (nF (srM s9)), aI G qpa 128 (srP s9), aI G qle 128 (nF (srL s9)), aZ G qgo 128 (bF (srG s9)), ob o 5 [.ref qf, .ref ql], aI G qf 9 (nF fw), aI G ql 18 (nF ld), ob z 1 [.ref qa, .ref qb], ob qa 6 [.int (nI n0), .int (nI e0), .ref la], aI G la 10 (nF g0), ob qb 6 [.int (nI n1), .int (nI e1), .ref lb], aI G lb 10 (nF g1)] rfl rfl ?_
    show Wc Γ 0 0 57 [(0, .ref h), (1, .ref z), (2, .int (nI md))] [] [ob h 3 [.int (nI (srN s9)), .int (nI (srT s9)), .int (nI (srA s9)), .int (nI (srD s9)), .int (bI (srB s9)), .int (nI md), .ref o, .ref qst, .ref qse, .ref qpa, .ref qle, .ref qgo], aI G qst 128 (nF (srO s9)), aI G qse 128 (nF (srM s9)), aI G qpa 128 (srP s9), aI G qle 128 (nF (srL s9)), aZ G qgo 128 (bF (srG s9)), ob o 5 [.ref qf, .ref ql], aI G qf 9 (nF fw), aI G ql 18 (nF ld), ob z 1 [.ref qa, .ref qb], ob qa 6 [.int (nI n0), .int (nI e0), .ref la], aI G la 10 (nF g0), ob qb 6 [.int (nI n1), .int (nI e1), .ref lb], aI G lb 10 (nF g1)]
    refine wc_iconstN X 57 0 dX3_run_57 ?_
    refine wc_istore_n X 58 (L' := [(0, .ref h), (1, .ref z), (2, .int (nI md)), (3, .int (nI 0))]) dX3_run_58 (by decide) rfl ?_
    have LP_4 : ∀ (fuel_3 : Nat) (k : Nat) (t : Sr) (f : Nat → Nat) (l2 : Nat → Nat), (k ≤ 128) → (t = runS F md e0 e1 g0 g1 n1 (sZ s) k) → (md = 2 → ∀ x y, x < 9 → y < 9 → Nat.testBit (f x) y = F x y) → 128 - k < fuel_3 → Wc Γ 0 0 59 [(0, .ref h), (1, .ref z), (2, .int (nI md)), (3, .int (nI k))] [] [ob h 3 [.int (nI (srN t)), .int (nI (srT t)), .int (nI (srA t)), .int (nI (srD t)), .int (bI (srB t)), .int (nI md), .ref o, .ref qst, .ref qse, .ref qpa, .ref qle, .ref qgo], aI G qst 128 (nF (srO t)), aI G qse 128 (nF (srM t)), aI G qpa 128 (srP t), aI G qle 128 (nF (srL t)), aZ G qgo 128 (bF (srG t)), ob o 5 [.ref qf, .ref ql], aI G qf 9 (nF f), aI G ql 18 (nF l2), ob z 1 [.ref qa, .ref qb], ob qa 6 [.int (nI n0), .int (nI e0), .ref la], aI G la 10 (nF g0), ob qb 6 [.int (nI n1), .int (nI e1), .ref lb], aI G lb 10 (nF g1)] := by
      intro fuel_3
      induction fuel_3 with
      | zero => intro k t f l2 hk ht hFf hm; exact absurd hm (Nat.not_lt_zero _)
      | succ fuel_3 ih_5 =>
        intro k t f l2 hk ht hFf hm_6
        have hit : Inv F md n0 n1 t := by rw [ht]; exact run_inv hC hn01 hn1 hn11 hg0n hg1n rfl rfl k
        refine wc_iload_n X 59 3 dX3_run_59 rfl ?_
        refine wc_aload_n X 60 0 dX3_run_60 rfl ?_
        refine wc_get X 61 0 0 kd3 rfl (by decide) q_181 rfl dX3_run_61 ?_
        refine wc_icmp_geN X 64 112 dX3_run_64 (by decide) (by omega) (by have := Inv_le hn0 hn1 hit; omega) (fun c64_7 => ?_) (fun c64_7 => ?_)
        ·
          exact ret 112 _ _ dX3_run_112 (⟨t, f, l2, rfl, rfl, (by first | exact rn_end1 ht hk (by omega) | rw [ht, show k = 128 by omega])⟩)
        ·
          refine wc_iload_n X 67 3 dX3_run_67 rfl ?_
          refine wc_sipush X 68 (nI 128) dX3_run_68 (by decide) ?_
          refine wc_icmp_geN X 71 112 dX3_run_71 (by decide) (by omega) (by decide) (fun c71_8 => ?_) (fun c71_8 => ?_)
          ·
            exact ret 112 _ _ dX3_run_112 (⟨t, f, l2, rfl, rfl, (by first | exact rn_end1 ht hk (by omega) | rw [ht, show k = 128 by omega])⟩)
          ·
            refine wc_aload_n X 74 0 dX3_run_74 rfl ?_
            refine wc_get X 75 0 4 kd3 rfl (by decide) q_189 rfl dX3_run_75 ?_
            rcases opt_cases (srB t) with hb | ⟨kb, hb⟩
            ·
              refine wc_if_ge X 78 112 dX3_run_78 (by decide) (fun c78_9 => ?_) (fun c78_9 => ?_)
              ·
                exact absurd c78_9 (by rw [hb]; decide)
              ·
                refine wc_aload_n X 81 0 dX3_run_81 rfl ?_
                refine wc_get X 82 0 11 kd3 rfl (by decide) q_197 rfl dX3_run_82 ?_
                refine wc_iload_n X 85 3 dX3_run_85 rfl ?_
                refine wc_zaldG X 86 5 rfl (by omega) (by decide) dX3_run_86 ?_
                refine wc_if_neB X 87 106 dX3_run_87 (by decide) (fun c87_10 => ?_) (fun c87_10 => ?_)
                ·
                  refine wc_iincN X 106 3 (L' := [(0, .ref h), (1, .ref z), (2, .int (nI md)), (3, .int (nI (k + 1)))]) dX3_run_106 rfl (by decide) rfl ?_
                  refine wc_goto X 109 59 dX3_run_109 (by decide) ?_
                  refine wc_L (L' := [(0, .ref h), (1, .ref z), (2, .int (nI md)), (3, .int (nI (k + 1)))]) (by rfl) ?_
                  exact ih_5 (k + 1) t f l2 (by omega) (rn_off ht c87_10) hFf (by omega)
                ·
                  refine wc_aload_n X 90 0 dX3_run_90 rfl ?_
                  refine wc_dup X 91 dX3_run_91 rfl ?_
                  refine wc_get X 92 0 1 kd3 rfl (by decide) q_183 rfl dX3_run_92 ?_
                  refine wc_iconstN X 95 1 dX3_run_95 ?_
                  refine wc_iaddN X 96 dX3_run_96 ?_
                  refine wc_put X Y 97 0 1 kd3 rfl (by decide) q_183 rfl rfl rfl (Nat.le_of_ble_eq_true rfl) (ws' := [ob h 3 [.int (nI (srN t)), .int (nI ((srT t) + 1)), .int (nI (srA t)), .int (nI (srD t)), .int (bI (srB t)), .int (nI md), .ref o, .ref qst, .ref qse, .ref qpa, .ref qle, .ref qgo], aI G qst 128 (nF (srO t)), aI G qse 128 (nF (srM t)), aI G qpa 128 (srP t), aI G qle 128 (nF (srL t)), aZ G qgo 128 (bF (srG t)), ob o 5 [.ref qf, .ref ql], aI G qf 9 (nF f), aI G ql 18 (nF l2), ob z 1 [.ref qa, .ref qb], ob qa 6 [.int (nI n0), .int (nI e0), .ref la], aI G la 10 (nF g0), ob qb 6 [.int (nI n1), .int (nI e1), .ref lb], aI G lb 10 (nF g1)]) rfl dX3_run_97 ?_
                  refine wc_aload_n X 100 0 dX3_run_100 rfl ?_
                  refine wc_aload_n X 101 1 dX3_run_101 rfl ?_
                  refine wc_iload_n X 102 3 dX3_run_102 rfl ?_
                  refine wc_mutV X Y 103 [0, 1, 2, 3, 4, 5, 6, 7, 8, 9, 10, 11, 12, 13] [] 0 (c_X3_goOn l G h qst qse qpa qle qgo md (tkS t) o qf ql f l2 F z qa la n0 e0 g0 qb lb n1 e1 g1 k (by first | assumption | omega) (by first | assumption | omega) (by first | assumption | omega) (by first | assumption | omega) (by first | assumption | omega) (by first | assumption | omega) (by first | assumption | omega) hFf (by first | assumption | omega) hit (by first | assumption | omega) (by first | assumption | omega) (show k < srN t by omega)) yv_X3_goOn kd3 rfl rfl (wr := []) rfl ⟨rfl, rfl, rfl⟩ q_627 ⟨rfl, rfl⟩ ⟨rfl, rfl⟩ ⟨rfl, rfl⟩ rfl rfl rfl dX3_run_103 (fun v w hp_11 => ?_)
                  obtain ⟨s8, rfl, rfl, hs8⟩ := hp_11
                  refine wc_perm Y [0, 1, 2, 3, 4, 5, 6, 7, 8, 9, 10, 11, 12, 13] [ob h 3 [.int (nI (srN s8)), .int (nI (srT s8)), .int (nI (srA s8)), .int (nI (srD s8)), .int (bI (srB s8)), .int (nI md), .ref o, .ref qst, .ref qse, .ref qpa, .ref qle, .ref qgo], aI G qst 128 (nF (srO s8)), aI G qse 128 (nF (srM s8)), aI G qpa 128 (srP s8), aI G qle 128 (nF (srL s8)), aZ G qgo 128 (bF (srG s8)), ob o 5 [.ref qf, .ref ql], aI G qf 9 (nF f), aI G ql 18 (nF l2), ob z 1 [.ref qa, .ref qb], ob qa 6 [.int (nI n0), .int (nI e0), .ref la], aI G la 10 (nF g0), ob qb 6 [.int (nI n1), .int (nI e1), .ref lb], aI G lb 10 (nF g1)] rfl rfl ?_
                  show Wc Γ 0 0 106 [(0, .ref h), (1, .ref z), (2, .int (nI md)), (3, .int (nI k))] [] [ob h 3 [.int (nI (srN s8)), .int (nI (srT s8)), .int (nI (srA s8)), .int (nI (srD s8)), .int (bI (srB s8)), .int (nI md), .ref o, .ref qst, .ref qse, .ref qpa, .ref qle, .ref qgo], aI G qst 128 (nF (srO s8)), aI G qse 128 (nF (srM s8)), aI G qpa 128 (srP s8), aI G qle 128 (nF (srL s8)), aZ G qgo 128 (bF (srG s8)), ob o 5 [.ref qf, .ref ql], aI G qf 9 (nF f), aI G ql 18 (nF l2), ob z 1 [.ref qa, .ref qb], ob qa 6 [.int (nI n0), .int (nI e0), .ref la], aI G la 10 (nF g0), ob qb 6 [.int (nI n1), .int (nI e1), .ref lb], aI G lb 10 (nF g1)]
                  refine wc_iincN X 106 3 (L' := [(0, .ref h), (1, .ref z), (2, .int (nI md)), (3, .int (nI (k + 1)))]) dX3_run_106 rfl (by decide) rfl ?_
                  refine wc_goto X 109 59 dX3_run_109 (by decide) ?_
                  refine wc_L (L' := [(0, .ref h), (1, .ref z), (2, .int (nI md)), (3, .int (nI (k + 1)))]) (by rfl) ?_
                  exact ih_5 (k + 1) s8 f l2 (by omega) (rn_on ht hb (by omega) c87_10 hs8) hFf (by omega)
            ·
              refine wc_topi (nI kb) (by rw [hb]; rfl) ?_
              refine wc_ifgeT X 78 112 dX3_run_78 (by decide) (by have := hit.2.2.2 kb hb; have := Inv_le hn0 hn1 hit; omega) ?_
              exact ret 112 _ _ dX3_run_112 (⟨t, f, l2, rfl, rfl, rn_end2 ht hk hb⟩)
    exact LP_4 (128 - 0 + 1) 0 s9 fw ld (by decide) hs9 hF1 (Nat.lt_succ_self _)
  ·
    refine wc_aload_n X 39 0 dX3_run_39 rfl ?_
    refine wc_get X 40 0 6 kd3 rfl (by decide) q_192 rfl dX3_run_40 ?_
    refine wc_aload_n X 43 1 dX3_run_43 rfl ?_
    refine wc_mutV X Y 44 [6, 7, 8, 9, 10, 11, 12, 13] [0, 1, 2, 3, 4, 5] 6 (c_X5_work l G o qf ql fw ld z qa la n0 e0 g0 qb lb n1 e1 g1 (by first | assumption | omega) (by first | assumption | omega) (by first | assumption | omega) (by first | assumption | omega) (by first | assumption | omega) (by first | assumption | omega) (by first | assumption | omega) (by first | assumption | omega)) yv_X5_work kd5 rfl rfl (wr := [ob h 3 [.int (nI 0), .int (nI 0), .int (nI 0), .int (nI 0), .int (-9), .int (nI md), .ref o, .ref qst, .ref qse, .ref qpa, .ref qle, .ref qgo], aI G qst 128 (nF (srO s)), aI G qse 128 (nF (srM s)), aI G qpa 128 (srP s), aI G qle 128 (nF (srL s)), aZ G qgo 128 (bF (srG s))]) rfl ⟨rfl, rfl, rfl⟩ q_603 ⟨rfl, rfl⟩ ⟨rfl, rfl⟩ ⟨rfl, rfl⟩ rfl rfl rfl dX3_run_44 (fun v w hp_13 => ?_)
    obtain ⟨f9, l9, rfl, rfl, hw9⟩ := hp_13
    refine wc_perm Y [0, 1, 2, 3, 4, 5, 6, 7, 8, 9, 10, 11, 12, 13] [ob h 3 [.int (nI 0), .int (nI 0), .int (nI 0), .int (nI 0), .int (-9), .int (nI md), .ref o, .ref qst, .ref qse, .ref qpa, .ref qle, .ref qgo], aI G qst 128 (nF (srO s)), aI G qse 128 (nF (srM s)), aI G qpa 128 (srP s), aI G qle 128 (nF (srL s)), aZ G qgo 128 (bF (srG s)), ob o 5 [.ref qf, .ref ql], aI G qf 9 (nF f9), aI G ql 18 (nF l9), ob z 1 [.ref qa, .ref qb], ob qa 6 [.int (nI n0), .int (nI e0), .ref la], aI G la 10 (nF g0), ob qb 6 [.int (nI n1), .int (nI e1), .ref lb], aI G lb 10 (nF g1)] rfl rfl ?_
    show Wc Γ 0 0 47 [(0, .ref h), (1, .ref z), (2, .int (nI md))] [] [ob h 3 [.int (nI 0), .int (nI 0), .int (nI 0), .int (nI 0), .int (-9), .int (nI md), .ref o, .ref qst, .ref qse, .ref qpa, .ref qle, .ref qgo], aI G qst 128 (nF (srO s)), aI G qse 128 (nF (srM s)), aI G qpa 128 (srP s), aI G qle 128 (nF (srL s)), aZ G qgo 128 (bF (srG s)), ob o 5 [.ref qf, .ref ql], aI G qf 9 (nF f9), aI G ql 18 (nF l9), ob z 1 [.ref qa, .ref qb], ob qa 6 [.int (nI n0), .int (nI e0), .ref la], aI G la 10 (nF g0), ob qb 6 [.int (nI n1), .int (nI e1), .ref lb], aI G lb 10 (nF g1)]
    have hF1 : md = 2 → ∀ x y, x < 9 → y < 9 → Nat.testBit (f9 x) y = F x y := fun _ x y hx hy => by rw [hw9 x y hx hy, hFo]
    refine wc_aload_n X 47 0 dX3_run_47 rfl ?_
    refine wc_aload_n X 48 1 dX3_run_48 rfl ?_
    refine wc_iconstN X 49 0 dX3_run_49 ?_
    refine wc_iconstN X 50 1 dX3_run_50 ?_
    refine wc_bipush X 51 (-9) dX3_run_51 (by decide) ?_
    refine wc_iconstN X 53 0 dX3_run_53 ?_
    refine wc_mutV X Y 54 [0, 1, 2, 3, 4, 5, 6, 7, 8, 9, 10, 11, 12, 13] [] 0 (c_X3_come l G h qst qse qpa qle qgo md (sZ s) o qf ql f9 l9 F z qa la n0 e0 g0 qb lb n1 e1 g1 0 1 (-9) 0 (by first | assumption | omega) (by first | assumption | omega) (by first | assumption | omega) (by first | assumption | omega) (by first | assumption | omega) (by first | assumption | omega) (by first | assumption | omega) hF1 (by first | assumption | omega) ⟨fun i hi => absurd hi (Nat.not_lt_zero _), fun i hi => absurd hi (Nat.not_lt_zero _), fun i j hi => absurd hi (Nat.not_lt_zero _), fun k hk => by cases hk⟩ (by omega) (Nat.lt_of_lt_of_le (show 1 < 2 ^ 1 by decide) (Nat.pow_le_pow_right (by decide) hn11))) yv_X3_come kd3 rfl rfl (wr := []) rfl ⟨rfl, rfl, rfl⟩ q_604 ⟨rfl, rfl⟩ ⟨rfl, rfl⟩ ⟨rfl, rfl⟩ rfl rfl rfl dX3_run_54 (fun v w hp_14 => ?_)
    obtain ⟨s9, rfl, rfl, hs9⟩ := hp_14
    refine wc_perm Y [0, 1, 2, 3, 4, 5, 6, 7, 8, 9, 10, 11, 12, 13] [ob h 3 [.int (nI (srN s9)), .int (nI (srT s9)), .int (nI (srA s9)), .int (nI (srD s9)), .int (bI (srB s9)), .int (nI md), .ref o, .ref qst, .ref qse, .ref qpa, .ref qle, .ref qgo], aI G qst 128 (nF (srO s9)), aI G qse 128 (nF (srM s9)), aI G qpa 128 (srP s9), aI G qle 128 (nF (srL s9)), aZ G qgo 128 (bF (srG s9)), ob o 5 [.ref qf, .ref ql], aI G qf 9 (nF f9), aI G ql 18 (nF l9), ob z 1 [.ref qa, .ref qb], ob qa 6 [.int (nI n0), .int (nI e0), .ref la], aI G la 10 (nF g0), ob qb 6 [.int (nI n1), .int (nI e1), .ref lb], aI G lb 10 (nF g1)] rfl rfl ?_
    show Wc Γ 0 0 57 [(0, .ref h), (1, .ref z), (2, .int (nI md))] [] [ob h 3 [.int (nI (srN s9)), .int (nI (srT s9)), .int (nI (srA s9)), .int (nI (srD s9)), .int (bI (srB s9)), .int (nI md), .ref o, .ref qst, .ref qse, .ref qpa, .ref qle, .ref qgo], aI G qst 128 (nF (srO s9)), aI G qse 128 (nF (srM s9)), aI G qpa 128 (srP s9), aI G qle 128 (nF (srL s9)), aZ G qgo 128 (bF (srG s9)), ob o 5 [.ref qf, .ref ql], aI G qf 9 (nF f9), aI G ql 18 (nF l9), ob z 1 [.ref qa, .ref qb], ob qa 6 [.int (nI n0), .int (nI e0), .ref la], aI G la 10 (nF g0), ob qb 6 [.int (nI n1), .int (nI e1), .ref lb], aI G lb 10 (nF g1)]
    refine wc_iconstN X 57 0 dX3_run_57 ?_
    refine wc_istore_n X 58 (L' := [(0, .ref h), (1, .ref z), (2, .int (nI md)), (3, .int (nI 0))]) dX3_run_58 (by decide) rfl ?_
    have LP_16 : ∀ (fuel_15 : Nat) (k : Nat) (t : Sr) (f : Nat → Nat) (l2 : Nat → Nat), (k ≤ 128) → (t = runS F md e0 e1 g0 g1 n1 (sZ s) k) → (md = 2 → ∀ x y, x < 9 → y < 9 → Nat.testBit (f x) y = F x y) → 128 - k < fuel_15 → Wc Γ 0 0 59 [(0, .ref h), (1, .ref z), (2, .int (nI md)), (3, .int (nI k))] [] [ob h 3 [.int (nI (srN t)), .int (nI (srT t)), .int (nI (srA t)), .int (nI (srD t)), .int (bI (srB t)), .int (nI md), .ref o, .ref qst, .ref qse, .ref qpa, .ref qle, .ref qgo], aI G qst 128 (nF (srO t)), aI G qse 128 (nF (srM t)), aI G qpa 128 (srP t), aI G qle 128 (nF (srL t)), aZ G qgo 128 (bF (srG t)), ob o 5 [.ref qf, .ref ql], aI G qf 9 (nF f), aI G ql 18 (nF l2), ob z 1 [.ref qa, .ref qb], ob qa 6 [.int (nI n0), .int (nI e0), .ref la], aI G la 10 (nF g0), ob qb 6 [.int (nI n1), .int (nI e1), .ref lb], aI G lb 10 (nF g1)] := by
      intro fuel_15
      induction fuel_15 with
      | zero => intro k t f l2 hk ht hFf hm; exact absurd hm (Nat.not_lt_zero _)
      | succ fuel_15 ih_17 =>
        intro k t f l2 hk ht hFf hm_18
        have hit : Inv F md n0 n1 t := by rw [ht]; exact run_inv hC hn01 hn1 hn11 hg0n hg1n rfl rfl k
        refine wc_iload_n X 59 3 dX3_run_59 rfl ?_
        refine wc_aload_n X 60 0 dX3_run_60 rfl ?_
        refine wc_get X 61 0 0 kd3 rfl (by decide) q_181 rfl dX3_run_61 ?_
        refine wc_icmp_geN X 64 112 dX3_run_64 (by decide) (by omega) (by have := Inv_le hn0 hn1 hit; omega) (fun c64_19 => ?_) (fun c64_19 => ?_)
        ·
          exact ret 112 _ _ dX3_run_112 (⟨t, f, l2, rfl, rfl, (by first | exact rn_end1 ht hk (by omega) | rw [ht, show k = 128 by omega])⟩)
        ·
          refine wc_iload_n X 67 3 dX3_run_67 rfl ?_
          refine wc_sipush X 68 (nI 128) dX3_run_68 (by decide) ?_
          refine wc_icmp_geN X 71 112 dX3_run_71 (by decide) (by omega) (by decide) (fun c71_20 => ?_) (fun c71_20 => ?_)
          ·
            exact ret 112 _ _ dX3_run_112 (⟨t, f, l2, rfl, rfl, (by first | exact rn_end1 ht hk (by omega) | rw [ht, show k = 128 by omega])⟩)
          ·
            refine wc_aload_n X 74 0 dX3_run_74 rfl ?_
            refine wc_get X 75 0 4 kd3 rfl (by decide) q_189 rfl dX3_run_75 ?_
            rcases opt_cases (srB t) with hb | ⟨kb, hb⟩
            ·
              refine wc_if_ge X 78 112 dX3_run_78 (by decide) (fun c78_21 => ?_) (fun c78_21 => ?_)
              ·
                exact absurd c78_21 (by rw [hb]; decide)
              ·
                refine wc_aload_n X 81 0 dX3_run_81 rfl ?_
                refine wc_get X 82 0 11 kd3 rfl (by decide) q_197 rfl dX3_run_82 ?_
                refine wc_iload_n X 85 3 dX3_run_85 rfl ?_
                refine wc_zaldG X 86 5 rfl (by omega) (by decide) dX3_run_86 ?_
                refine wc_if_neB X 87 106 dX3_run_87 (by decide) (fun c87_22 => ?_) (fun c87_22 => ?_)
                ·
                  refine wc_iincN X 106 3 (L' := [(0, .ref h), (1, .ref z), (2, .int (nI md)), (3, .int (nI (k + 1)))]) dX3_run_106 rfl (by decide) rfl ?_
                  refine wc_goto X 109 59 dX3_run_109 (by decide) ?_
                  refine wc_L (L' := [(0, .ref h), (1, .ref z), (2, .int (nI md)), (3, .int (nI (k + 1)))]) (by rfl) ?_
                  exact ih_17 (k + 1) t f l2 (by omega) (rn_off ht c87_22) hFf (by omega)
                ·
                  refine wc_aload_n X 90 0 dX3_run_90 rfl ?_
                  refine wc_dup X 91 dX3_run_91 rfl ?_
                  refine wc_get X 92 0 1 kd3 rfl (by decide) q_183 rfl dX3_run_92 ?_
                  refine wc_iconstN X 95 1 dX3_run_95 ?_
                  refine wc_iaddN X 96 dX3_run_96 ?_
                  refine wc_put X Y 97 0 1 kd3 rfl (by decide) q_183 rfl rfl rfl (Nat.le_of_ble_eq_true rfl) (ws' := [ob h 3 [.int (nI (srN t)), .int (nI ((srT t) + 1)), .int (nI (srA t)), .int (nI (srD t)), .int (bI (srB t)), .int (nI md), .ref o, .ref qst, .ref qse, .ref qpa, .ref qle, .ref qgo], aI G qst 128 (nF (srO t)), aI G qse 128 (nF (srM t)), aI G qpa 128 (srP t), aI G qle 128 (nF (srL t)), aZ G qgo 128 (bF (srG t)), ob o 5 [.ref qf, .ref ql], aI G qf 9 (nF f), aI G ql 18 (nF l2), ob z 1 [.ref qa, .ref qb], ob qa 6 [.int (nI n0), .int (nI e0), .ref la], aI G la 10 (nF g0), ob qb 6 [.int (nI n1), .int (nI e1), .ref lb], aI G lb 10 (nF g1)]) rfl dX3_run_97 ?_
                  refine wc_aload_n X 100 0 dX3_run_100 rfl ?_
                  refine wc_aload_n X 101 1 dX3_run_101 rfl ?_
                  refine wc_iload_n X 102 3 dX3_run_102 rfl ?_
                  refine wc_mutV X Y 103 [0, 1, 2, 3, 4, 5, 6, 7, 8, 9, 10, 11, 12, 13] [] 0 (c_X3_goOn l G h qst qse qpa qle qgo md (tkS t) o qf ql f l2 F z qa la n0 e0 g0 qb lb n1 e1 g1 k (by first | assumption | omega) (by first | assumption | omega) (by first | assumption | omega) (by first | assumption | omega) (by first | assumption | omega) (by first | assumption | omega) (by first | assumption | omega) hFf (by first | assumption | omega) hit (by first | assumption | omega) (by first | assumption | omega) (show k < srN t by omega)) yv_X3_goOn kd3 rfl rfl (wr := []) rfl ⟨rfl, rfl, rfl⟩ q_627 ⟨rfl, rfl⟩ ⟨rfl, rfl⟩ ⟨rfl, rfl⟩ rfl rfl rfl dX3_run_103 (fun v w hp_23 => ?_)
                  obtain ⟨s8, rfl, rfl, hs8⟩ := hp_23
                  refine wc_perm Y [0, 1, 2, 3, 4, 5, 6, 7, 8, 9, 10, 11, 12, 13] [ob h 3 [.int (nI (srN s8)), .int (nI (srT s8)), .int (nI (srA s8)), .int (nI (srD s8)), .int (bI (srB s8)), .int (nI md), .ref o, .ref qst, .ref qse, .ref qpa, .ref qle, .ref qgo], aI G qst 128 (nF (srO s8)), aI G qse 128 (nF (srM s8)), aI G qpa 128 (srP s8), aI G qle 128 (nF (srL s8)), aZ G qgo 128 (bF (srG s8)), ob o 5 [.ref qf, .ref ql], aI G qf 9 (nF f), aI G ql 18 (nF l2), ob z 1 [.ref qa, .ref qb], ob qa 6 [.int (nI n0), .int (nI e0), .ref la], aI G la 10 (nF g0), ob qb 6 [.int (nI n1), .int (nI e1), .ref lb], aI G lb 10 (nF g1)] rfl rfl ?_
                  show Wc Γ 0 0 106 [(0, .ref h), (1, .ref z), (2, .int (nI md)), (3, .int (nI k))] [] [ob h 3 [.int (nI (srN s8)), .int (nI (srT s8)), .int (nI (srA s8)), .int (nI (srD s8)), .int (bI (srB s8)), .int (nI md), .ref o, .ref qst, .ref qse, .ref qpa, .ref qle, .ref qgo], aI G qst 128 (nF (srO s8)), aI G qse 128 (nF (srM s8)), aI G qpa 128 (srP s8), aI G qle 128 (nF (srL s8)), aZ G qgo 128 (bF (srG s8)), ob o 5 [.ref qf, .ref ql], aI G qf 9 (nF f), aI G ql 18 (nF l2), ob z 1 [.ref qa, .ref qb], ob qa 6 [.int (nI n0), .int (nI e0), .ref la], aI G la 10 (nF g0), ob qb 6 [.int (nI n1), .int (nI e1), .ref lb], aI G lb 10 (nF g1)]
                  refine wc_iincN X 106 3 (L' := [(0, .ref h), (1, .ref z), (2, .int (nI md)), (3, .int (nI (k + 1)))]) dX3_run_106 rfl (by decide) rfl ?_
                  refine wc_goto X 109 59 dX3_run_109 (by decide) ?_
                  refine wc_L (L' := [(0, .ref h), (1, .ref z), (2, .int (nI md)), (3, .int (nI (k + 1)))]) (by rfl) ?_
                  exact ih_17 (k + 1) s8 f l2 (by omega) (rn_on ht hb (by omega) c87_22 hs8) hFf (by omega)
            ·
              refine wc_topi (nI kb) (by rw [hb]; rfl) ?_
              refine wc_ifgeT X 78 112 dX3_run_78 (by decide) (by have := hit.2.2.2 kb hb; have := Inv_le hn0 hn1 hit; omega) ?_
              exact ret 112 _ _ dX3_run_112 (⟨t, f, l2, rfl, rfl, rn_end2 ht hk hb⟩)
    exact LP_16 (128 - 0 + 1) 0 s9 f9 l9 (by decide) hs9 hF1 (Nat.lt_succ_self _)

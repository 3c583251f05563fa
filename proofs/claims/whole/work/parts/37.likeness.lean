set_option maxHeartbeats 4000000 in
set_option maxRecDepth 100000 in
theorem c_X5_byEnds (l : Launch) (G : GG) (z qa la n0 e0 : Nat) (g0 : Nat → Nat) (qb lb n1 e1 : Nat) (g1 : Nat → Nat) (x : Nat) (hn0 : n0 ≤ 4) (he0 : e0 < 16) (hg0 : ∀ j, g0 j < 16) (hn1 : n1 ≤ 5) (he1 : e1 < 32) (hg1 : ∀ j, g1 j < 32) (hx : x < 9) : RM l G yX5_byEnds (Cond.code yX5_byEnds cX5_byEnds 4 (some .int)) { frames := 1, cells := 0, slots := 0, locals := 20 } [.ref z, .int (nI x)] [ob z 1 [.ref qa, .ref qb], ob qa 6 [.int (nI n0), .int (nI e0), .ref la], aI G la 10 (nF g0), ob qb 6 [.int (nI n1), .int (nI e1), .ref lb], aI G lb 10 (nF g1)] (.int (nI (bsN n0 e0 n1 e1 x))) := by
  refine RM.ofI (by decide) rfl (fun Γ X ret => ?_)
  show Wc Γ 0 0 0 [(0, .ref z), (1, .int (nI x))] [] [ob z 1 [.ref qa, .ref qb], ob qa 6 [.int (nI n0), .int (nI e0), .ref la], aI G la 10 (nF g0), ob qb 6 [.int (nI n1), .int (nI e1), .ref lb], aI G lb 10 (nF g1)]
  refine wc_aload_n X 0 0 dX5_byEnds_0 rfl ?_
  refine wc_get X 1 0 0 kd1 rfl (by decide) q_69 rfl dX5_byEnds_1 ?_
  refine wc_callV X 4 [1] 1 (c_X6_allStates l G qa la n0 e0 (by omega)) yv_X6_allStates kd6 rfl rfl q_575 ⟨rfl, rfl⟩ ⟨rfl, rfl⟩ ⟨rfl, rfl⟩ rfl rfl rfl dX5_byEnds_4 ?_
  refine wc_aload_n X 7 0 dX5_byEnds_7 rfl ?_
  refine wc_get X 8 0 1 kd1 rfl (by decide) q_77 rfl dX5_byEnds_8 ?_
  refine wc_callV X 11 [3] 3 (c_X6_allStates l G qb lb n1 e1 (by omega)) yv_X6_allStates kd6 rfl rfl q_575 ⟨rfl, rfl⟩ ⟨rfl, rfl⟩ ⟨rfl, rfl⟩ rfl rfl rfl dX5_byEnds_11 ?_
  refine wc_iconstN X 14 4 dX5_byEnds_14 ?_
  refine wc_ishlN X 15 dX5_byEnds_15 (by decide) (by have := pw_lt (k := 5) hn1; omega) ?_
  refine wc_iorN X 16 dX5_byEnds_16 ?_
  refine wc_topi (nI (knN n0 n1)) (congrArg nI (rfl)) ?_
  refine wc_istore_n X 17 (L' := [(0, .ref z), (1, .int (nI x)), (2, .int (nI (knN n0 n1)))]) dX5_byEnds_17 (by decide) rfl ?_
  refine wc_aload_n X 18 0 dX5_byEnds_18 rfl ?_
  refine wc_get X 19 0 0 kd1 rfl (by decide) q_69 rfl dX5_byEnds_19 ?_
  refine wc_get X 22 1 1 kd6 rfl (by decide) q_56 rfl dX5_byEnds_22 ?_
  refine wc_aload_n X 25 0 dX5_byEnds_25 rfl ?_
  refine wc_get X 26 0 1 kd1 rfl (by decide) q_77 rfl dX5_byEnds_26 ?_
  refine wc_get X 29 3 1 kd6 rfl (by decide) q_56 rfl dX5_byEnds_29 ?_
  refine wc_iconstN X 32 4 dX5_byEnds_32 ?_
  refine wc_ishlN X 33 dX5_byEnds_33 (by decide) (by omega) ?_
  refine wc_iorN X 34 dX5_byEnds_34 ?_
  refine wc_topi (nI (enN e0 e1)) (congrArg nI (rfl)) ?_
  refine wc_istore_n X 35 (L' := [(0, .ref z), (1, .int (nI x)), (2, .int (nI (knN n0 n1))), (3, .int (nI (enN e0 e1)))]) dX5_byEnds_35 (by decide) rfl ?_
  refine wc_iload_n X 36 2 dX5_byEnds_36 rfl ?_
  refine wc_iload_n X 37 1 dX5_byEnds_37 rfl ?_
  refine wc_ishrN X 38 dX5_byEnds_38 (by omega) (Nat.lt_trans (knN_lt hn0 hn1) (by decide)) ?_
  refine wc_iconstN X 39 1 dX5_byEnds_39 ?_
  refine wc_iandN X 40 dX5_byEnds_40 ?_
  refine wc_topi (b2i (Nat.testBit (knN n0 n1) x)) (nI_bit _ _) ?_
  refine wc_if_neB X 41 46 dX5_byEnds_41 (by decide) (fun c41_1 => ?_) (fun c41_1 => ?_)
  ·
    refine wc_iload_n X 46 3 dX5_byEnds_46 rfl ?_
    refine wc_iload_n X 47 1 dX5_byEnds_47 rfl ?_
    refine wc_ishrN X 48 dX5_byEnds_48 (by omega) (Nat.lt_trans (enN_lt he0 he1) (by decide)) ?_
    refine wc_iconstN X 49 1 dX5_byEnds_49 ?_
    refine wc_iandN X 50 dX5_byEnds_50 ?_
    refine wc_topi (b2i (Nat.testBit (enN e0 e1) x)) (nI_bit _ _) ?_
    refine wc_if_eqB X 51 58 dX5_byEnds_51 (by decide) (fun c51_2 => ?_) (fun c51_2 => ?_)
    ·
      refine wc_iload_n X 58 2 dX5_byEnds_58 rfl ?_
      exact ret 59 _ (nI (knN n0 n1)) dX5_byEnds_59 (by unfold bsN; simp [c41_1, c51_2])
    ·
      refine wc_iload_n X 54 3 dX5_byEnds_54 rfl ?_
      refine wc_goto X 55 59 dX5_byEnds_55 (by decide) ?_
      exact ret 59 _ (nI (enN e0 e1)) dX5_byEnds_59 (by unfold bsN; simp [c41_1, c51_2])
  ·
    refine wc_iconstN X 44 0 dX5_byEnds_44 ?_
    exact ret 45 _ (nI 0) dX5_byEnds_45 (by unfold bsN; simp [c41_1])

set_option maxHeartbeats 4000000 in
set_option maxRecDepth 100000 in
theorem c_X5_leadsTo (l : Launch) (G : GG) (z qa la n0 e0 : Nat) (g0 : Nat → Nat) (qb lb n1 e1 : Nat) (g1 : Nat → Nat) (x c : Nat) (hn0 : n0 ≤ 4) (he0 : e0 < 16) (hg0 : ∀ j, g0 j < 16) (hn1 : n1 ≤ 5) (he1 : e1 < 32) (hg1 : ∀ j, g1 j < 32) (hx : x < 9) (h1 : 1 ≤ c) (h2 : c ≤ 2) : RM l G yX5_leadsTo (Cond.code yX5_leadsTo cX5_leadsTo 3 (some .int)) { frames := 1, cells := 0, slots := 0, locals := 23 } [.ref z, .int (nI x), .int (nI c)] [ob z 1 [.ref qa, .ref qb], ob qa 6 [.int (nI n0), .int (nI e0), .ref la], aI G la 10 (nF g0), ob qb 6 [.int (nI n1), .int (nI e1), .ref lb], aI G lb 10 (nF g1)] (.int (nI (le9 g0 g1 x c))) := by
  refine RM.ofI (by decide) rfl (fun Γ X ret => ?_)
  show Wc Γ 0 0 0 [(0, .ref z), (1, .int (nI x)), (2, .int (nI c))] [] [ob z 1 [.ref qa, .ref qb], ob qa 6 [.int (nI n0), .int (nI e0), .ref la], aI G la 10 (nF g0), ob qb 6 [.int (nI n1), .int (nI e1), .ref lb], aI G lb 10 (nF g1)]
  refine wc_iload_n X 0 1 dX5_leadsTo_0 rfl ?_
  refine wc_iconstN X 1 4 dX5_leadsTo_1 ?_
  refine wc_icmp_geN X 2 17 dX5_leadsTo_2 (by decide) (by omega) (by decide) (fun c2_1 => ?_) (fun c2_1 => ?_)
  ·
    refine wc_aload_n X 17 0 dX5_leadsTo_17 rfl ?_
    refine wc_get X 18 0 1 kd1 rfl (by decide) q_77 rfl dX5_leadsTo_18 ?_
    refine wc_iload_n X 21 1 dX5_leadsTo_21 rfl ?_
    refine wc_iconstN X 22 4 dX5_leadsTo_22 ?_
    refine wc_isubN X 23 dX5_leadsTo_23 (by omega) ?_
    refine wc_iload_n X 24 2 dX5_leadsTo_24 rfl ?_
    refine wc_callV X 25 [3, 4] 3 (c_X6_targets l G qb lb n1 e1 g1 (x - 4) c (by omega) (by first | assumption | omega) (by first | assumption | omega)) yv_X6_targets kd6 rfl rfl q_579 ⟨rfl, rfl⟩ ⟨rfl, rfl⟩ ⟨rfl, rfl⟩ rfl rfl rfl dX5_leadsTo_25 ?_
    refine wc_iconstN X 28 4 dX5_leadsTo_28 ?_
    refine wc_ishlN X 29 dX5_leadsTo_29 (by decide) (by have := hg1 ((x - 4) * 2 + c - 1); omega) ?_
    exact ret 30 _ (nI ((g1 ((x - 4) * 2 + c - 1)) * 2 ^ 4)) dX5_leadsTo_30 (by unfold le9; first | rw [if_pos (by omega)] | rw [if_neg (by omega)])
  ·
    refine wc_aload_n X 5 0 dX5_leadsTo_5 rfl ?_
    refine wc_get X 6 0 0 kd1 rfl (by decide) q_69 rfl dX5_leadsTo_6 ?_
    refine wc_iload_n X 9 1 dX5_leadsTo_9 rfl ?_
    refine wc_iload_n X 10 2 dX5_leadsTo_10 rfl ?_
    refine wc_callV X 11 [1, 2] 1 (c_X6_targets l G qa la n0 e0 g0 x c (by omega) (by first | assumption | omega) (by first | assumption | omega)) yv_X6_targets kd6 rfl rfl q_579 ⟨rfl, rfl⟩ ⟨rfl, rfl⟩ ⟨rfl, rfl⟩ rfl rfl rfl dX5_leadsTo_11 ?_
    refine wc_goto X 14 30 dX5_leadsTo_14 (by decide) ?_
    exact ret 30 _ (nI (g0 (x * 2 + c - 1))) dX5_leadsTo_30 (by unfold le9; first | rw [if_pos (by omega)] | rw [if_neg (by omega)])

set_option maxHeartbeats 4000000 in
set_option maxRecDepth 100000 in
theorem c_X5_isRefuted (l : Launch) (G : GG) (o qf ql : Nat) (fw ld : Nat → Nat) (g0 g1 : Nat → Nat) (x y : Nat) (hg0 : ∀ j, g0 j < 16) (hg1 : ∀ j, g1 j < 32) (hld : ∀ a i, a < 9 → i < 2 → ld (a * 2 + i) = le9 g0 g1 a (i + 1)) (hx : x < 9) (hy : y < 9) : RM l G yX5_isRefuted (Cond.code yX5_isRefuted cX5_isRefuted 7 (some .boolean)) { frames := 0, cells := 0, slots := 0, locals := 0 } [.ref o, .int (nI x), .int (nI y)] [ob o 5 [.ref qf, .ref ql], aI G qf 9 (nF fw), aI G ql 18 (nF ld)] (.int (b2i (decB (¬ Hd g0 g1 (Fw fw) x y)))) := by
  refine RM.ofZ (by decide) rfl (fun Γ X ret => ?_)
  show Wc Γ 0 0 0 [(0, .ref o), (1, .int (nI x)), (2, .int (nI y))] [] [ob o 5 [.ref qf, .ref ql], aI G qf 9 (nF fw), aI G ql 18 (nF ld)]
  refine wc_iconstN X 0 0 dX5_isRefuted_0 ?_
  refine wc_istore_n X 1 (L' := [(0, .ref o), (1, .int (nI x)), (2, .int (nI y)), (3, .int (nI 0))]) dX5_isRefuted_1 (by decide) rfl ?_
  have LP_2 : ∀ (fuel_1 : Nat) (c : Nat), (c ≤ 2) → (Hl g0 g1 (Fw fw) x y c) → 2 - c < fuel_1 → Wc Γ 0 0 2 [(0, .ref o), (1, .int (nI x)), (2, .int (nI y)), (3, .int (nI c))] [] [ob o 5 [.ref qf, .ref ql], aI G qf 9 (nF fw), aI G ql 18 (nF ld)] := by
    intro fuel_1
    induction fuel_1 with
    | zero => intro c hc2 hH hm; exact absurd hm (Nat.not_lt_zero _)
    | succ fuel_1 ih_3 =>
      intro c hc2 hH hm_4
      refine wc_iload_n X 2 3 dX5_isRefuted_2 rfl ?_
      refine wc_iconstN X 3 2 dX5_isRefuted_3 ?_
      refine wc_icmp_geN X 4 78 dX5_isRefuted_4 (by decide) (by omega) (by decide) (fun c4_5 => ?_) (fun c4_5 => ?_)
      ·
        refine wc_iconstN X 78 0 dX5_isRefuted_78 ?_
        refine wc_st (st' := [.int (b2i false)]) rfl ?_
        exact ret 79 _ false dX5_isRefuted_79 ((lk_ok (by omega) hH).symm)
      ·
        refine wc_aload_n X 7 0 dX5_isRefuted_7 rfl ?_
        refine wc_get X 8 0 1 kd5 rfl (by decide) q_167 rfl dX5_isRefuted_8 ?_
        refine wc_iload_n X 11 1 dX5_isRefuted_11 rfl ?_
        refine wc_iconstN X 12 2 dX5_isRefuted_12 ?_
        refine wc_imulN X 13 dX5_isRefuted_13 ?_
        refine wc_iload_n X 14 3 dX5_isRefuted_14 rfl ?_
        refine wc_iaddN X 15 dX5_isRefuted_15 ?_
        refine wc_ialdG X 16 2 rfl (by omega) (by decide) dX5_isRefuted_16 ?_
        refine wc_topi (nI (le9 g0 g1 x (c + 1))) (congrArg nI (hld x c hx (by omega))) ?_
        refine wc_istore X 17 (L' := [(0, .ref o), (1, .int (nI x)), (2, .int (nI y)), (3, .int (nI c)), (4, .int (nI (le9 g0 g1 x (c + 1))))]) dX5_isRefuted_17 (by decide) rfl ?_
        refine wc_aload_n X 19 0 dX5_isRefuted_19 rfl ?_
        refine wc_get X 20 0 1 kd5 rfl (by decide) q_167 rfl dX5_isRefuted_20 ?_
        refine wc_iload_n X 23 2 dX5_isRefuted_23 rfl ?_
        refine wc_iconstN X 24 2 dX5_isRefuted_24 ?_
        refine wc_imulN X 25 dX5_isRefuted_25 ?_
        refine wc_iload_n X 26 3 dX5_isRefuted_26 rfl ?_
        refine wc_iaddN X 27 dX5_isRefuted_27 ?_
        refine wc_ialdG X 28 2 rfl (by omega) (by decide) dX5_isRefuted_28 ?_
        refine wc_topi (nI (le9 g0 g1 y (c + 1))) (congrArg nI (hld y c hy (by omega))) ?_
        refine wc_istore X 29 (L' := [(0, .ref o), (1, .int (nI x)), (2, .int (nI y)), (3, .int (nI c)), (4, .int (nI (le9 g0 g1 x (c + 1)))), (5, .int (nI (le9 g0 g1 y (c + 1))))]) dX5_isRefuted_29 (by decide) rfl ?_
        refine wc_iconstN X 31 0 dX5_isRefuted_31 ?_
        refine wc_istore X 32 (L' := [(0, .ref o), (1, .int (nI x)), (2, .int (nI y)), (3, .int (nI c)), (4, .int (nI (le9 g0 g1 x (c + 1)))), (5, .int (nI (le9 g0 g1 y (c + 1)))), (6, .int (nI 0))]) dX5_isRefuted_32 (by decide) rfl ?_
        have LP_7 : ∀ (fuel_6 : Nat) (e : Nat), (e ≤ 9) → (∀ j, j < e → Hc g0 g1 (Fw fw) x y (c + 1) j) → 9 - e < fuel_6 → Wc Γ 0 0 34 [(0, .ref o), (1, .int (nI x)), (2, .int (nI y)), (3, .int (nI c)), (4, .int (nI (le9 g0 g1 x (c + 1)))), (5, .int (nI (le9 g0 g1 y (c + 1)))), (6, .int (nI e))] [] [ob o 5 [.ref qf, .ref ql], aI G qf 9 (nF fw), aI G ql 18 (nF ld)] := by
          intro fuel_6
          induction fuel_6 with
          | zero => intro e he9 hE hm; exact absurd hm (Nat.not_lt_zero _)
          | succ fuel_6 ih_8 =>
            intro e he9 hE hm_9
            refine wc_iload X 34 6 dX5_isRefuted_34 rfl ?_
            refine wc_bipush X 36 (nI 9) dX5_isRefuted_36 (by decide) ?_
            refine wc_icmp_geN X 38 72 dX5_isRefuted_38 (by decide) (by omega) (by decide) (fun c38_10 => ?_) (fun c38_10 => ?_)
            ·
              refine wc_iincN X 72 3 (L' := [(0, .ref o), (1, .int (nI x)), (2, .int (nI y)), (3, .int (nI (c + 1))), (4, .int (nI (le9 g0 g1 x (c + 1)))), (5, .int (nI (le9 g0 g1 y (c + 1)))), (6, .int (nI e))]) dX5_isRefuted_72 rfl (by decide) rfl ?_
              refine wc_goto X 75 2 dX5_isRefuted_75 (by decide) ?_
              refine wc_loc [0, 1, 2, 3] (L' := [(0, .ref o), (1, .int (nI x)), (2, .int (nI y)), (3, .int (nI (c + 1)))]) rfl ?_
              refine wc_L (L' := [(0, .ref o), (1, .int (nI x)), (2, .int (nI y)), (3, .int (nI (c + 1)))]) (by rfl) ?_
              exact ih_3 (c + 1) (by omega) ⟨hH, fun j hj => hE j (by omega)⟩ (by omega)
            ·
              refine wc_iload X 41 4 dX5_isRefuted_41 rfl ?_
              refine wc_iload X 43 6 dX5_isRefuted_43 rfl ?_
              refine wc_ishrN X 45 dX5_isRefuted_45 (by omega) (Nat.lt_trans (le9_lt hg0 hg1 _ _) (by decide)) ?_
              refine wc_iconstN X 46 1 dX5_isRefuted_46 ?_
              refine wc_iandN X 47 dX5_isRefuted_47 ?_
              refine wc_topi (b2i (Nat.testBit (le9 g0 g1 x (c + 1)) e)) (nI_bit _ _) ?_
              refine wc_if_eqB X 48 66 dX5_isRefuted_48 (by decide) (fun c48_11 => ?_) (fun c48_11 => ?_)
              ·
                refine wc_iincN X 66 6 (L' := [(0, .ref o), (1, .int (nI x)), (2, .int (nI y)), (3, .int (nI c)), (4, .int (nI (le9 g0 g1 x (c + 1)))), (5, .int (nI (le9 g0 g1 y (c + 1)))), (6, .int (nI (e + 1)))]) dX5_isRefuted_66 rfl (by decide) rfl ?_
                refine wc_goto X 69 34 dX5_isRefuted_69 (by decide) ?_
                refine wc_L (L' := [(0, .ref o), (1, .int (nI x)), (2, .int (nI y)), (3, .int (nI c)), (4, .int (nI (le9 g0 g1 x (c + 1)))), (5, .int (nI (le9 g0 g1 y (c + 1)))), (6, .int (nI (e + 1)))]) (by rfl) ?_
                exact ih_8 (e + 1) (by omega) (lt_ext hE (Or.inl c48_11)) (by omega)
              ·
                refine wc_aload_n X 51 0 dX5_isRefuted_51 rfl ?_
                refine wc_get X 52 0 0 kd5 rfl (by decide) q_166 rfl dX5_isRefuted_52 ?_
                refine wc_iload X 55 6 dX5_isRefuted_55 rfl ?_
                refine wc_ialdG X 57 1 rfl (by omega) (by decide) dX5_isRefuted_57 ?_
                refine wc_iload X 58 5 dX5_isRefuted_58 rfl ?_
                refine wc_iandN X 60 dX5_isRefuted_60 ?_
                refine wc_if_neN X 61 66 dX5_isRefuted_61 (by decide) (Nat.lt_of_le_of_lt Nat.and_le_right (Nat.lt_trans (le9_lt hg0 hg1 _ _) (by decide))) (fun c61_12 => ?_) (fun c61_12 => ?_)
                ·
                  refine wc_iincN X 66 6 (L' := [(0, .ref o), (1, .int (nI x)), (2, .int (nI y)), (3, .int (nI c)), (4, .int (nI (le9 g0 g1 x (c + 1)))), (5, .int (nI (le9 g0 g1 y (c + 1)))), (6, .int (nI (e + 1)))]) dX5_isRefuted_66 rfl (by decide) rfl ?_
                  refine wc_goto X 69 34 dX5_isRefuted_69 (by decide) ?_
                  refine wc_L (L' := [(0, .ref o), (1, .int (nI x)), (2, .int (nI y)), (3, .int (nI c)), (4, .int (nI (le9 g0 g1 x (c + 1)))), (5, .int (nI (le9 g0 g1 y (c + 1)))), (6, .int (nI (e + 1)))]) (by rfl) ?_
                  exact ih_8 (e + 1) (by omega) (lt_ext hE (lk_in hg0 hg1 c61_12)) (by omega)
                ·
                  refine wc_iconstN X 64 1 dX5_isRefuted_64 ?_
                  refine wc_st (st' := [.int (b2i true)]) rfl ?_
                  exact ret 65 _ true dX5_isRefuted_65 ((decB_t (lk_out (by omega) (by omega) c48_11 c61_12)).symm)
        exact LP_7 (9 - 0 + 1) 0 (by decide) (fun j hj => absurd hj (Nat.not_lt_zero _)) (Nat.lt_succ_self _)
  exact LP_2 (2 - 0 + 1) 0 (by decide) trivial (Nat.lt_succ_self _)

set_option maxHeartbeats 4000000 in
set_option maxRecDepth 100000 in
theorem c_X5_notRefuted (l : Launch) (G : GG) (o qf ql : Nat) (fw ld : Nat → Nat) (g0 g1 : Nat → Nat) (x : Nat) (hg0 : ∀ j, g0 j < 16) (hg1 : ∀ j, g1 j < 32) (hld : ∀ a i, a < 9 → i < 2 → ld (a * 2 + i) = le9 g0 g1 a (i + 1)) (hx : x < 9) (hf : fw x < 512) : RM l G yX5_notRefuted (Cond.code yX5_notRefuted cX5_notRefuted 4 (some .int)) { frames := 1, cells := 0, slots := 0, locals := 26 } [.ref o, .int (nI x)] [ob o 5 [.ref qf, .ref ql], aI G qf 9 (nF fw), aI G ql 18 (nF ld)] (.int (nI (nrf g0 g1 fw x 9))) := by
  refine RM.ofI (by decide) rfl (fun Γ X ret => ?_)
  show Wc Γ 0 0 0 [(0, .ref o), (1, .int (nI x))] [] [ob o 5 [.ref qf, .ref ql], aI G qf 9 (nF fw), aI G ql 18 (nF ld)]
  refine wc_aload_n X 0 0 dX5_notRefuted_0 rfl ?_
  refine wc_get X 1 0 0 kd5 rfl (by decide) q_166 rfl dX5_notRefuted_1 ?_
  refine wc_iload_n X 4 1 dX5_notRefuted_4 rfl ?_
  refine wc_ialdG X 5 1 rfl (by omega) (by decide) dX5_notRefuted_5 ?_
  refine wc_istore_n X 6 (L' := [(0, .ref o), (1, .int (nI x)), (2, .int (nI (fw x)))]) dX5_notRefuted_6 (by decide) rfl ?_
  refine wc_iconstN X 7 0 dX5_notRefuted_7 ?_
  refine wc_istore_n X 8 (L' := [(0, .ref o), (1, .int (nI x)), (2, .int (nI (fw x))), (3, .int (nI 0))]) dX5_notRefuted_8 (by decide) rfl ?_
  have LP_2 : ∀ (fuel_1 : Nat) (y : Nat), (y ≤ 9) → 9 - y < fuel_1 → Wc Γ 0 0 9 [(0, .ref o), (1, .int (nI x)), (2, .int (nI (nrf g0 g1 fw x y))), (3, .int (nI y))] [] [ob o 5 [.ref qf, .ref ql], aI G qf 9 (nF fw), aI G ql 18 (nF ld)] := by
    intro fuel_1
    induction fuel_1 with
    | zero => intro y hy9 hm; exact absurd hm (Nat.not_lt_zero _)
    | succ fuel_1 ih_3 =>
      intro y hy9 hm_4
      refine wc_iload_n X 9 3 dX5_notRefuted_9 rfl ?_
      refine wc_bipush X 10 (nI 9) dX5_notRefuted_10 (by decide) ?_
      refine wc_icmp_geN X 12 46 dX5_notRefuted_12 (by decide) (by omega) (by decide) (fun c12_5 => ?_) (fun c12_5 => ?_)
      ·
        refine wc_iload_n X 46 2 dX5_notRefuted_46 rfl ?_
        exact ret 47 _ (nI (nrf g0 g1 fw x y)) dX5_notRefuted_47 (by rw [show y = 9 by omega])
      ·
        refine wc_iload_n X 15 2 dX5_notRefuted_15 rfl ?_
        refine wc_iload_n X 16 3 dX5_notRefuted_16 rfl ?_
        refine wc_ishrN X 17 dX5_notRefuted_17 (by omega) (Nat.lt_trans (nrf_lt hf y hy9) (by decide)) ?_
        refine wc_iconstN X 18 1 dX5_notRefuted_18 ?_
        refine wc_iandN X 19 dX5_notRefuted_19 ?_
        refine wc_topi (b2i (Nat.testBit (nrf g0 g1 fw x y) y)) (nI_bit _ _) ?_
        refine wc_if_eqB X 20 40 dX5_notRefuted_20 (by decide) (fun c20_6 => ?_) (fun c20_6 => ?_)
        ·
          refine wc_iincN X 40 3 (L' := [(0, .ref o), (1, .int (nI x)), (2, .int (nI (nrf g0 g1 fw x y))), (3, .int (nI (y + 1)))]) dX5_notRefuted_40 rfl (by decide) rfl ?_
          refine wc_goto X 43 9 dX5_notRefuted_43 (by decide) ?_
          have e_7 : nrf g0 g1 fw x y = nrf g0 g1 fw x (y + 1) := (nrf_off c20_6)
          refine wc_L (L' := [(0, .ref o), (1, .int (nI x)), (2, .int (nI (nrf g0 g1 fw x (y + 1)))), (3, .int (nI (y + 1)))]) (by first | rfl | rw [e_7] | (rw [e_7]; rfl)) ?_
          exact ih_3 (y + 1) (by omega) (by omega)
        ·
          refine wc_aload_n X 23 0 dX5_notRefuted_23 rfl ?_
          refine wc_iload_n X 24 1 dX5_notRefuted_24 rfl ?_
          refine wc_iload_n X 25 3 dX5_notRefuted_25 rfl ?_
          refine wc_callV X 26 [0, 1, 2] 0 (c_X5_isRefuted l G o qf ql fw ld g0 g1 x y (by first | assumption | omega) (by first | assumption | omega) (by first | assumption | omega) (by first | assumption | omega) (by omega)) yv_X5_isRefuted kd5 rfl rfl q_584 ⟨rfl, rfl⟩ ⟨rfl, rfl⟩ ⟨rfl, rfl⟩ rfl rfl rfl dX5_notRefuted_26 ?_
          refine wc_if_eqB X 29 40 dX5_notRefuted_29 (by decide) (fun c29_8 => ?_) (fun c29_8 => ?_)
          ·
            refine wc_iincN X 40 3 (L' := [(0, .ref o), (1, .int (nI x)), (2, .int (nI (nrf g0 g1 fw x y))), (3, .int (nI (y + 1)))]) dX5_notRefuted_40 rfl (by decide) rfl ?_
            refine wc_goto X 43 9 dX5_notRefuted_43 (by decide) ?_
            have e_9 : nrf g0 g1 fw x y = nrf g0 g1 fw x (y + 1) := (nrf_no c29_8)
            refine wc_L (L' := [(0, .ref o), (1, .int (nI x)), (2, .int (nI (nrf g0 g1 fw x (y + 1)))), (3, .int (nI (y + 1)))]) (by first | rfl | rw [e_9] | (rw [e_9]; rfl)) ?_
            exact ih_3 (y + 1) (by omega) (by omega)
          ·
            refine wc_iload_n X 32 2 dX5_notRefuted_32 rfl ?_
            refine wc_iconstN X 33 1 dX5_notRefuted_33 ?_
            refine wc_iload_n X 34 3 dX5_notRefuted_34 rfl ?_
            refine wc_shl1 X 35 dX5_notRefuted_35 (by omega) ?_
            refine wc_iconst X 36 (-1) dX5_notRefuted_36 (by decide) ?_
            refine wc_ixor X 37 dX5_notRefuted_37 ?_
            refine wc_iand X 38 dX5_notRefuted_38 ?_
            refine wc_topi (nI (nrf g0 g1 fw x y ^^^ 2 ^ y)) (clr_bit c20_6) ?_
            refine wc_istore_n X 39 (L' := [(0, .ref o), (1, .int (nI x)), (2, .int (nI (nrf g0 g1 fw x y ^^^ 2 ^ y))), (3, .int (nI y))]) dX5_notRefuted_39 (by decide) rfl ?_
            refine wc_iincN X 40 3 (L' := [(0, .ref o), (1, .int (nI x)), (2, .int (nI (nrf g0 g1 fw x y ^^^ 2 ^ y))), (3, .int (nI (y + 1)))]) dX5_notRefuted_40 rfl (by decide) rfl ?_
            refine wc_goto X 43 9 dX5_notRefuted_43 (by decide) ?_
            have e_10 : nrf g0 g1 fw x y ^^^ 2 ^ y = nrf g0 g1 fw x (y + 1) := (nrf_yes c20_6 c29_8)
            refine wc_L (L' := [(0, .ref o), (1, .int (nI x)), (2, .int (nI (nrf g0 g1 fw x (y + 1)))), (3, .int (nI (y + 1)))]) (by first | rfl | rw [e_10] | (rw [e_10]; rfl)) ?_
            exact ih_3 (y + 1) (by omega) (by omega)
  have e_11 : fw x = nrf g0 g1 fw x 0 := rfl
  refine wc_L (L' := [(0, .ref o), (1, .int (nI x)), (2, .int (nI (nrf g0 g1 fw x 0))), (3, .int (nI 0))]) (by first | rfl | rw [e_11] | (rw [e_11]; rfl)) ?_
  exact LP_2 (9 - 0 + 1) 0 (by decide) (Nat.lt_succ_self _)

set_option maxHeartbeats 4000000 in
set_option maxRecDepth 100000 in
theorem c_X5_holds (l : Launch) (G : GG) (o qf ql : Nat) (fw ld : Nat → Nat) (m st om S : Nat) (hm : m < 2) (hs : st < 5) (hsm : m = 0 → st < 4) (hom : om < 2) (hS : S < 32) : RM l G yX5_holds (Cond.code yX5_holds cX5_holds 7 (some .boolean)) { frames := 0, cells := 0, slots := 0, locals := 0 } [.ref o, .int (nI m), .int (nI st), .int (nI om), .int (nI S)] [ob o 5 [.ref qf, .ref ql], aI G qf 9 (nF fw), aI G ql 18 (nF ld)] (.int (b2i (fw (ixN m st) &&& ysN om S != 0))) := by
  refine RM.ofZ (by decide) rfl (fun Γ X ret => ?_)
  show Wc Γ 0 0 0 [(0, .ref o), (1, .int (nI m)), (2, .int (nI st)), (3, .int (nI om)), (4, .int (nI S))] [] [ob o 5 [.ref qf, .ref ql], aI G qf 9 (nF fw), aI G ql 18 (nF ld)]
  refine wc_iload_n X 0 1 dX5_holds_0 rfl ?_
  refine wc_if_neN X 1 8 dX5_holds_1 (by decide) (by omega) (fun c1_1 => ?_) (fun c1_1 => ?_)
  ·
    refine wc_iload_n X 8 2 dX5_holds_8 rfl ?_
    refine wc_iconstN X 9 4 dX5_holds_9 ?_
    refine wc_iaddN X 10 dX5_holds_10 ?_
    refine wc_istore X 11 (L' := [(0, .ref o), (1, .int (nI m)), (2, .int (nI st)), (3, .int (nI om)), (4, .int (nI S)), (5, .int (nI (st + 4)))]) dX5_holds_11 (by decide) rfl ?_
    refine wc_iload_n X 13 3 dX5_holds_13 rfl ?_
    refine wc_if_neN X 14 22 dX5_holds_14 (by decide) (by omega) (fun c14_2 => ?_) (fun c14_2 => ?_)
    ·
      refine wc_iload X 22 4 dX5_holds_22 rfl ?_
      refine wc_iconstN X 24 4 dX5_holds_24 ?_
      refine wc_ishlN X 25 dX5_holds_25 (by decide) (by omega) ?_
      refine wc_istore X 26 (L' := [(0, .ref o), (1, .int (nI m)), (2, .int (nI st)), (3, .int (nI om)), (4, .int (nI S)), (5, .int (nI (st + 4))), (6, .int (nI (S * 2 ^ 4)))]) dX5_holds_26 (by decide) rfl ?_
      refine wc_iload X 28 5 dX5_holds_28 rfl ?_
      refine wc_ifltF X 30 (tgt := 57) dX5_holds_30 (by decide) (by omega) ?_
      refine wc_iload X 33 5 dX5_holds_33 rfl ?_
      refine wc_bipush X 35 (nI 9) dX5_holds_35 (by decide) ?_
      refine wc_icmp_geN X 37 57 dX5_holds_37 (by decide) (by omega) (by decide) (fun c37_4 => ?_) (fun c37_4 => ?_)
      ·
        exact absurd c37_4 (by omega)
      ·
        refine wc_aload_n X 40 0 dX5_holds_40 rfl ?_
        refine wc_get X 41 0 0 kd5 rfl (by decide) q_166 rfl dX5_holds_41 ?_
        refine wc_iload X 44 5 dX5_holds_44 rfl ?_
        refine wc_ialdG X 46 1 rfl (by omega) (by decide) dX5_holds_46 ?_
        refine wc_iload X 47 6 dX5_holds_47 rfl ?_
        refine wc_iandN X 49 dX5_holds_49 ?_
        refine wc_if_eqN X 50 57 dX5_holds_50 (by decide) (Nat.lt_of_le_of_lt Nat.and_le_right (by omega)) (fun c50_5 => ?_) (fun c50_5 => ?_)
        ·
          refine wc_iconstN X 57 0 dX5_holds_57 ?_
          refine wc_st (st' := [.int (b2i false)]) rfl ?_
          exact ret 58 _ false dX5_holds_58 (by unfold ixN ysN; simp [c1_1, c14_2, c37_4, c50_5])
        ·
          refine wc_iconstN X 53 1 dX5_holds_53 ?_
          refine wc_goto X 54 58 dX5_holds_54 (by decide) ?_
          refine wc_st (st' := [.int (b2i true)]) rfl ?_
          exact ret 58 _ true dX5_holds_58 (by unfold ixN ysN; simp [c1_1, c14_2, c37_4, c50_5])
    ·
      refine wc_iload X 17 4 dX5_holds_17 rfl ?_
      refine wc_goto X 19 26 dX5_holds_19 (by decide) ?_
      refine wc_istore X 26 (L' := [(0, .ref o), (1, .int (nI m)), (2, .int (nI st)), (3, .int (nI om)), (4, .int (nI S)), (5, .int (nI (st + 4))), (6, .int (nI S))]) dX5_holds_26 (by decide) rfl ?_
      refine wc_iload X 28 5 dX5_holds_28 rfl ?_
      refine wc_ifltF X 30 (tgt := 57) dX5_holds_30 (by decide) (by omega) ?_
      refine wc_iload X 33 5 dX5_holds_33 rfl ?_
      refine wc_bipush X 35 (nI 9) dX5_holds_35 (by decide) ?_
      refine wc_icmp_geN X 37 57 dX5_holds_37 (by decide) (by omega) (by decide) (fun c37_7 => ?_) (fun c37_7 => ?_)
      ·
        exact absurd c37_7 (by omega)
      ·
        refine wc_aload_n X 40 0 dX5_holds_40 rfl ?_
        refine wc_get X 41 0 0 kd5 rfl (by decide) q_166 rfl dX5_holds_41 ?_
        refine wc_iload X 44 5 dX5_holds_44 rfl ?_
        refine wc_ialdG X 46 1 rfl (by omega) (by decide) dX5_holds_46 ?_
        refine wc_iload X 47 6 dX5_holds_47 rfl ?_
        refine wc_iandN X 49 dX5_holds_49 ?_
        refine wc_if_eqN X 50 57 dX5_holds_50 (by decide) (Nat.lt_of_le_of_lt Nat.and_le_right (by omega)) (fun c50_8 => ?_) (fun c50_8 => ?_)
        ·
          refine wc_iconstN X 57 0 dX5_holds_57 ?_
          refine wc_st (st' := [.int (b2i false)]) rfl ?_
          exact ret 58 _ false dX5_holds_58 (by unfold ixN ysN; simp [c1_1, c14_2, c37_7, c50_8])
        ·
          refine wc_iconstN X 53 1 dX5_holds_53 ?_
          refine wc_goto X 54 58 dX5_holds_54 (by decide) ?_
          refine wc_st (st' := [.int (b2i true)]) rfl ?_
          exact ret 58 _ true dX5_holds_58 (by unfold ixN ysN; simp [c1_1, c14_2, c37_7, c50_8])
  ·
    refine wc_iload_n X 4 2 dX5_holds_4 rfl ?_
    refine wc_goto X 5 11 dX5_holds_5 (by decide) ?_
    refine wc_istore X 11 (L' := [(0, .ref o), (1, .int (nI m)), (2, .int (nI st)), (3, .int (nI om)), (4, .int (nI S)), (5, .int (nI st))]) dX5_holds_11 (by decide) rfl ?_
    refine wc_iload_n X 13 3 dX5_holds_13 rfl ?_
    refine wc_if_neN X 14 22 dX5_holds_14 (by decide) (by omega) (fun c14_9 => ?_) (fun c14_9 => ?_)
    ·
      refine wc_iload X 22 4 dX5_holds_22 rfl ?_
      refine wc_iconstN X 24 4 dX5_holds_24 ?_
      refine wc_ishlN X 25 dX5_holds_25 (by decide) (by omega) ?_
      refine wc_istore X 26 (L' := [(0, .ref o), (1, .int (nI m)), (2, .int (nI st)), (3, .int (nI om)), (4, .int (nI S)), (5, .int (nI st)), (6, .int (nI (S * 2 ^ 4)))]) dX5_holds_26 (by decide) rfl ?_
      refine wc_iload X 28 5 dX5_holds_28 rfl ?_
      refine wc_ifltF X 30 (tgt := 57) dX5_holds_30 (by decide) (by omega) ?_
      refine wc_iload X 33 5 dX5_holds_33 rfl ?_
      refine wc_bipush X 35 (nI 9) dX5_holds_35 (by decide) ?_
      refine wc_icmp_geN X 37 57 dX5_holds_37 (by decide) (by omega) (by decide) (fun c37_11 => ?_) (fun c37_11 => ?_)
      ·
        exact absurd c37_11 (by omega)
      ·
        refine wc_aload_n X 40 0 dX5_holds_40 rfl ?_
        refine wc_get X 41 0 0 kd5 rfl (by decide) q_166 rfl dX5_holds_41 ?_
        refine wc_iload X 44 5 dX5_holds_44 rfl ?_
        refine wc_ialdG X 46 1 rfl (by omega) (by decide) dX5_holds_46 ?_
        refine wc_iload X 47 6 dX5_holds_47 rfl ?_
        refine wc_iandN X 49 dX5_holds_49 ?_
        refine wc_if_eqN X 50 57 dX5_holds_50 (by decide) (Nat.lt_of_le_of_lt Nat.and_le_right (by omega)) (fun c50_12 => ?_) (fun c50_12 => ?_)
        ·
          refine wc_iconstN X 57 0 dX5_holds_57 ?_
          refine wc_st (st' := [.int (b2i false)]) rfl ?_
          exact ret 58 _ false dX5_holds_58 (by unfold ixN ysN; simp [c1_1, c14_9, c37_11, c50_12])
        ·
          refine wc_iconstN X 53 1 dX5_holds_53 ?_
          refine wc_goto X 54 58 dX5_holds_54 (by decide) ?_
          refine wc_st (st' := [.int (b2i true)]) rfl ?_
          exact ret 58 _ true dX5_holds_58 (by unfold ixN ysN; simp [c1_1, c14_9, c37_11, c50_12])
    ·
      refine wc_iload X 17 4 dX5_holds_17 rfl ?_
      refine wc_goto X 19 26 dX5_holds_19 (by decide) ?_
      refine wc_istore X 26 (L' := [(0, .ref o), (1, .int (nI m)), (2, .int (nI st)), (3, .int (nI om)), (4, .int (nI S)), (5, .int (nI st)), (6, .int (nI S))]) dX5_holds_26 (by decide) rfl ?_
      refine wc_iload X 28 5 dX5_holds_28 rfl ?_
      refine wc_ifltF X 30 (tgt := 57) dX5_holds_30 (by decide) (by omega) ?_
      refine wc_iload X 33 5 dX5_holds_33 rfl ?_
      refine wc_bipush X 35 (nI 9) dX5_holds_35 (by decide) ?_
      refine wc_icmp_geN X 37 57 dX5_holds_37 (by decide) (by omega) (by decide) (fun c37_14 => ?_) (fun c37_14 => ?_)
      ·
        exact absurd c37_14 (by omega)
      ·
        refine wc_aload_n X 40 0 dX5_holds_40 rfl ?_
        refine wc_get X 41 0 0 kd5 rfl (by decide) q_166 rfl dX5_holds_41 ?_
        refine wc_iload X 44 5 dX5_holds_44 rfl ?_
        refine wc_ialdG X 46 1 rfl (by omega) (by decide) dX5_holds_46 ?_
        refine wc_iload X 47 6 dX5_holds_47 rfl ?_
        refine wc_iandN X 49 dX5_holds_49 ?_
        refine wc_if_eqN X 50 57 dX5_holds_50 (by decide) (Nat.lt_of_le_of_lt Nat.and_le_right (by omega)) (fun c50_15 => ?_) (fun c50_15 => ?_)
        ·
          refine wc_iconstN X 57 0 dX5_holds_57 ?_
          refine wc_st (st' := [.int (b2i false)]) rfl ?_
          exact ret 58 _ false dX5_holds_58 (by unfold ixN ysN; simp [c1_1, c14_9, c37_14, c50_15])
        ·
          refine wc_iconstN X 53 1 dX5_holds_53 ?_
          refine wc_goto X 54 58 dX5_holds_54 (by decide) ?_
          refine wc_st (st' := [.int (b2i true)]) rfl ?_
          exact ret 58 _ true dX5_holds_58 (by unfold ixN ysN; simp [c1_1, c14_9, c37_14, c50_15])

set_option maxHeartbeats 4000000 in
set_option maxRecDepth 100000 in
theorem c_X5_holdsForEach (l : Launch) (G : GG) (o qf ql : Nat) (fw ld : Nat → Nat) (S T : Nat) (hS : S < 32) (hT : T < 32) : RM l G yX5_holdsForEach (Cond.code yX5_holdsForEach cX5_holdsForEach 5 (some .boolean)) { frames := 0, cells := 0, slots := 0, locals := 0 } [.ref o, .int (nI S), .int (nI T)] [ob o 5 [.ref qf, .ref ql], aI G qf 9 (nF fw), aI G ql 18 (nF ld)] (.int (b2i (decB (∀ s, s < 5 → Nat.testBit S s = true → fw (s + 4) &&& T * 2 ^ 4 ≠ 0)))) := by
  refine RM.ofZ (by decide) rfl (fun Γ X ret => ?_)
  show Wc Γ 0 0 0 [(0, .ref o), (1, .int (nI S)), (2, .int (nI T))] [] [ob o 5 [.ref qf, .ref ql], aI G qf 9 (nF fw), aI G ql 18 (nF ld)]
  refine wc_iconstN X 0 0 dX5_holdsForEach_0 ?_
  refine wc_istore_n X 1 (L' := [(0, .ref o), (1, .int (nI S)), (2, .int (nI T)), (3, .int (nI 0))]) dX5_holdsForEach_1 (by decide) rfl ?_
  have LP_2 : ∀ (fuel_1 : Nat) (s : Nat), (s ≤ 5) → (∀ j, j < s → Nat.testBit S j = true → fw (j + 4) &&& T * 2 ^ 4 ≠ 0) → 5 - s < fuel_1 → Wc Γ 0 0 2 [(0, .ref o), (1, .int (nI S)), (2, .int (nI T)), (3, .int (nI s))] [] [ob o 5 [.ref qf, .ref ql], aI G qf 9 (nF fw), aI G ql 18 (nF ld)] := by
    intro fuel_1
    induction fuel_1 with
    | zero => intro s hs5 hA hm; exact absurd hm (Nat.not_lt_zero _)
    | succ fuel_1 ih_3 =>
      intro s hs5 hA hm_4
      refine wc_iload_n X 2 3 dX5_holdsForEach_2 rfl ?_
      refine wc_iconstN X 3 5 dX5_holdsForEach_3 ?_
      refine wc_icmp_geN X 4 50 dX5_holdsForEach_4 (by decide) (by omega) (by decide) (fun c4_5 => ?_) (fun c4_5 => ?_)
      ·
        refine wc_iconstN X 50 1 dX5_holdsForEach_50 ?_
        refine wc_st (st' := [.int (b2i true)]) rfl ?_
        exact ret 51 _ true dX5_holdsForEach_51 ((decB_t (fun j hj => hA j (by omega))).symm)
      ·
        refine wc_iload_n X 7 1 dX5_holdsForEach_7 rfl ?_
        refine wc_iload_n X 8 3 dX5_holdsForEach_8 rfl ?_
        refine wc_ishrN X 9 dX5_holdsForEach_9 (by omega) (by omega) ?_
        refine wc_iconstN X 10 1 dX5_holdsForEach_10 ?_
        refine wc_iandN X 11 dX5_holdsForEach_11 ?_
        refine wc_topi (b2i (Nat.testBit S s)) (nI_bit _ _) ?_
        refine wc_if_eqB X 12 19 dX5_holdsForEach_12 (by decide) (fun c12_6 => ?_) (fun c12_6 => ?_)
        ·
          refine wc_iconstN X 19 0 dX5_holdsForEach_19 ?_
          refine wc_istore X 20 (L' := [(0, .ref o), (1, .int (nI S)), (2, .int (nI T)), (3, .int (nI s)), (4, .int (nI 0))]) dX5_holdsForEach_20 (by decide) rfl ?_
          refine wc_iload X 22 4 dX5_holdsForEach_22 rfl ?_
          refine wc_if_eqN X 24 44 dX5_holdsForEach_24 (by decide) (by decide) (fun c24_7 => ?_) (fun c24_7 => ?_)
          ·
            refine wc_iincN X 44 3 (L' := [(0, .ref o), (1, .int (nI S)), (2, .int (nI T)), (3, .int (nI (s + 1))), (4, .int (nI 0))]) dX5_holdsForEach_44 rfl (by decide) rfl ?_
            refine wc_goto X 47 2 dX5_holdsForEach_47 (by decide) ?_
            refine wc_loc [0, 1, 2, 3] (L' := [(0, .ref o), (1, .int (nI S)), (2, .int (nI T)), (3, .int (nI (s + 1)))]) rfl ?_
            refine wc_L (L' := [(0, .ref o), (1, .int (nI S)), (2, .int (nI T)), (3, .int (nI (s + 1)))]) (by rfl) ?_
            exact ih_3 (s + 1) (by omega) (lt_ext hA (fun z => by rw [c12_6] at z; cases z)) (by omega)
          ·
            exact absurd c24_7 (by decide)
        ·
          refine wc_iconstN X 15 1 dX5_holdsForEach_15 ?_
          refine wc_goto X 16 20 dX5_holdsForEach_16 (by decide) ?_
          refine wc_istore X 20 (L' := [(0, .ref o), (1, .int (nI S)), (2, .int (nI T)), (3, .int (nI s)), (4, .int (nI 1))]) dX5_holdsForEach_20 (by decide) rfl ?_
          refine wc_iload X 22 4 dX5_holdsForEach_22 rfl ?_
          refine wc_if_eqN X 24 44 dX5_holdsForEach_24 (by decide) (by decide) (fun c24_8 => ?_) (fun c24_8 => ?_)
          ·
            exact absurd c24_8 (by decide)
          ·
            refine wc_aload_n X 27 0 dX5_holdsForEach_27 rfl ?_
            refine wc_get X 28 0 0 kd5 rfl (by decide) q_166 rfl dX5_holdsForEach_28 ?_
            refine wc_iload_n X 31 3 dX5_holdsForEach_31 rfl ?_
            refine wc_iconstN X 32 4 dX5_holdsForEach_32 ?_
            refine wc_iaddN X 33 dX5_holdsForEach_33 ?_
            refine wc_ialdG X 34 1 rfl (by omega) (by decide) dX5_holdsForEach_34 ?_
            refine wc_iload_n X 35 2 dX5_holdsForEach_35 rfl ?_
            refine wc_iconstN X 36 4 dX5_holdsForEach_36 ?_
            refine wc_ishlN X 37 dX5_holdsForEach_37 (by decide) (by omega) ?_
            refine wc_iandN X 38 dX5_holdsForEach_38 ?_
            refine wc_if_neN X 39 44 dX5_holdsForEach_39 (by decide) (Nat.lt_of_le_of_lt Nat.and_le_right (by omega)) (fun c39_9 => ?_) (fun c39_9 => ?_)
            ·
              refine wc_iincN X 44 3 (L' := [(0, .ref o), (1, .int (nI S)), (2, .int (nI T)), (3, .int (nI (s + 1))), (4, .int (nI 1))]) dX5_holdsForEach_44 rfl (by decide) rfl ?_
              refine wc_goto X 47 2 dX5_holdsForEach_47 (by decide) ?_
              refine wc_loc [0, 1, 2, 3] (L' := [(0, .ref o), (1, .int (nI S)), (2, .int (nI T)), (3, .int (nI (s + 1)))]) rfl ?_
              refine wc_L (L' := [(0, .ref o), (1, .int (nI S)), (2, .int (nI T)), (3, .int (nI (s + 1)))]) (by rfl) ?_
              exact ih_3 (s + 1) (by omega) (lt_ext hA (fun z => c39_9)) (by omega)
            ·
              refine wc_iconstN X 42 0 dX5_holdsForEach_42 ?_
              refine wc_st (st' := [.int (b2i false)]) rfl ?_
              exact ret 43 _ false dX5_holdsForEach_43 ((decB_f (fun z => z s (by omega) c12_6 c39_9)).symm)
  exact LP_2 (5 - 0 + 1) 0 (by decide) (fun j hj => absurd hj (Nat.not_lt_zero _)) (Nat.lt_succ_self _)

set_option maxHeartbeats 4000000 in
set_option maxRecDepth 100000 in
theorem c_X5_work (l : Launch) (G : GG) (o qf ql : Nat) (fw ld : Nat → Nat) (z qa la n0 e0 : Nat) (g0 : Nat → Nat) (qb lb n1 e1 : Nat) (g1 : Nat → Nat) (hn0 : n0 ≤ 4) (he0 : e0 < 16) (hg0 : ∀ j, g0 j < 16) (hn1 : n1 ≤ 5) (he1 : e1 < 32) (hg1 : ∀ j, g1 j < 32) (he0n : e0 < 2 ^ n0) (he1n : e1 < 2 ^ n1) : MM l G yX5_work (Cond.code yX5_work cX5_work 6 none) { frames := 2, cells := 0, slots := 0, locals := 49 } [.ref o, .ref z] [ob o 5 [.ref qf, .ref ql], aI G qf 9 (nF fw), aI G ql 18 (nF ld), ob z 1 [.ref qa, .ref qb], ob qa 6 [.int (nI n0), .int (nI e0), .ref la], aI G la 10 (nF g0), ob qb 6 [.int (nI n1), .int (nI e1), .ref lb], aI G lb 10 (nF g1)] (fun (v : Option Value) (w : va_W) => ∃ (f2 l2 : Nat → Nat), v = none ∧ w = [ob o 5 [.ref qf, .ref ql], aI G qf 9 (nF f2), aI G ql 18 (nF l2), ob z 1 [.ref qa, .ref qb], ob qa 6 [.int (nI n0), .int (nI e0), .ref la], aI G la 10 (nF g0), ob qb 6 [.int (nI n1), .int (nI e1), .ref lb], aI G lb 10 (nF g1)] ∧ (∀ x y, x < 9 → y < 9 → Nat.testBit (f2 x) y = folB g0 n0 e0 g1 n1 e1 x y)) 0 0 := by
  refine MM.ofV (by decide) rfl (fun Γ X Y hnm ret => ?_)
  show Wc Γ 0 0 0 [(0, .ref o), (1, .ref z)] [] [ob o 5 [.ref qf, .ref ql], aI G qf 9 (nF fw), aI G ql 18 (nF ld), ob z 1 [.ref qa, .ref qb], ob qa 6 [.int (nI n0), .int (nI e0), .ref la], aI G la 10 (nF g0), ob qb 6 [.int (nI n1), .int (nI e1), .ref lb], aI G lb 10 (nF g1)]
  refine wc_iconstN X 0 0 dX5_work_0 ?_
  refine wc_istore_n X 1 (L' := [(0, .ref o), (1, .ref z), (2, .int (nI 0))]) dX5_work_1 (by decide) rfl ?_
  have LP_2 : ∀ (fuel_1 : Nat) (x : Nat) (f : Nat → Nat) (l2 : Nat → Nat), (x ≤ 9) → (∀ j, j < x → f j = bsN n0 e0 n1 e1 j) → (∀ a i, a < x → i < 2 → l2 (a * 2 + i) = le9 g0 g1 a (i + 1)) → 9 - x < fuel_1 → Wc Γ 0 0 2 [(0, .ref o), (1, .ref z), (2, .int (nI x))] [] [ob o 5 [.ref qf, .ref ql], aI G qf 9 (nF f), aI G ql 18 (nF l2), ob z 1 [.ref qa, .ref qb], ob qa 6 [.int (nI n0), .int (nI e0), .ref la], aI G la 10 (nF g0), ob qb 6 [.int (nI n1), .int (nI e1), .ref lb], aI G lb 10 (nF g1)] := by
    intro fuel_1
    induction fuel_1 with
    | zero => intro x f l2 hx hf hld hm; exact absurd hm (Nat.not_lt_zero _)
    | succ fuel_1 ih_3 =>
      intro x f l2 hx hf hld hm_4
      refine wc_iload_n X 2 2 dX5_work_2 rfl ?_
      refine wc_bipush X 3 (nI 9) dX5_work_3 (by decide) ?_
      refine wc_icmp_geN X 5 55 dX5_work_5 (by decide) (by omega) (by decide) (fun c5_5 => ?_) (fun c5_5 => ?_)
      ·
        refine wc_iconstN X 55 1 dX5_work_55 ?_
        refine wc_istore_n X 56 (L' := [(0, .ref o), (1, .ref z), (2, .int (nI 1))]) dX5_work_56 (by decide) rfl ?_
        refine wc_iconstN X 57 0 dX5_work_57 ?_
        refine wc_istore_n X 58 (L' := [(0, .ref o), (1, .ref z), (2, .int (nI 1)), (3, .int (nI 0))]) dX5_work_58 (by decide) rfl ?_
        have LP_7 : ∀ (fuel_6 : Nat) (r : Nat) (m : Bool) (f1 : Nat → Nat), (r ≤ 82) → (FolIn g0 n0 e0 g1 n1 e1 (Fw f1)) → (∀ j, j < 9 → f1 j < 512) → (m = true → r + cF f1 ≤ 81) → (m = false → ∀ j y, j < 9 → y < 9 → Fw f1 j y = true → Hd g0 g1 (Fw f1) j y) → 82 - r < fuel_6 → Wc Γ 0 0 59 [(0, .ref o), (1, .ref z), (2, .int (b2i m)), (3, .int (nI r))] [] [ob o 5 [.ref qf, .ref ql], aI G qf 9 (nF f1), aI G ql 18 (nF l2), ob z 1 [.ref qa, .ref qb], ob qa 6 [.int (nI n0), .int (nI e0), .ref la], aI G la 10 (nF g0), ob qb 6 [.int (nI n1), .int (nI e1), .ref lb], aI G lb 10 (nF g1)] := by
          intro fuel_6
          induction fuel_6 with
          | zero => intro r m f1 hr hF h5 hC hm hm; exact absurd hm (Nat.not_lt_zero _)
          | succ fuel_6 ih_8 =>
            intro r m f1 hr hF h5 hC hm hm_9
            refine wc_iload_n X 59 3 dX5_work_59 rfl ?_
            refine wc_bipush X 60 (nI 81) dX5_work_60 (by decide) ?_
            refine wc_icmp_gtN X 62 132 dX5_work_62 (by decide) (by omega) (by decide) (fun c62_10 => ?_) (fun c62_10 => ?_)
            ·
              exact ret 132 _ _ dX5_work_132 (⟨f1, l2, rfl, rfl, fun x y hx hy => FolIn_end hF (fun a b ha hb hv => hm (lk_m (by omega) hC) a b ha hb hv) (fun a c e _ hb => le9_bit hg0 hg1 a c e hb) hx hy⟩)
            ·
              refine wc_iload_n X 65 2 dX5_work_65 rfl ?_
              refine wc_if_eqB X 66 132 dX5_work_66 (by decide) (fun c66_11 => ?_) (fun c66_11 => ?_)
              ·
                exact ret 132 _ _ dX5_work_132 (⟨f1, l2, rfl, rfl, fun x y hx hy => FolIn_end hF (fun a b ha hb hv => hm c66_11 a b ha hb hv) (fun a c e _ hb => le9_bit hg0 hg1 a c e hb) hx hy⟩)
              ·
                have hmt := c66_11
                refine wc_iconstN X 69 0 dX5_work_69 ?_
                refine wc_istore_n X 70 (L' := [(0, .ref o), (1, .ref z), (2, .int (nI 0)), (3, .int (nI r))]) dX5_work_70 (by decide) rfl ?_
                refine wc_iconstN X 71 0 dX5_work_71 ?_
                refine wc_istore X 72 (L' := [(0, .ref o), (1, .ref z), (2, .int (nI 0)), (3, .int (nI r)), (4, .int (nI 0))]) dX5_work_72 (by decide) rfl ?_
                have LP_13 : ∀ (fuel_12 : Nat) (x2 : Nat) (m2 : Bool) (f2 : Nat → Nat), (x2 ≤ 9) → (FolIn g0 n0 e0 g1 n1 e1 (Fw f2)) → (∀ j, j < 9 → f2 j < 512) → (cF f2 ≤ cF f1) → (m2 = true → cF f2 < cF f1) → (m2 = false → ∀ j y, j < x2 → y < 9 → Fw f2 j y = true → Hd g0 g1 (Fw f2) j y) → 9 - x2 < fuel_12 → Wc Γ 0 0 74 [(0, .ref o), (1, .ref z), (2, .int (b2i m2)), (3, .int (nI r)), (4, .int (nI x2))] [] [ob o 5 [.ref qf, .ref ql], aI G qf 9 (nF f2), aI G ql 18 (nF l2), ob z 1 [.ref qa, .ref qb], ob qa 6 [.int (nI n0), .int (nI e0), .ref la], aI G la 10 (nF g0), ob qb 6 [.int (nI n1), .int (nI e1), .ref lb], aI G lb 10 (nF g1)] := by
                  intro fuel_12
                  induction fuel_12 with
                  | zero => intro x2 m2 f2 hx9 hF2 h52 hle hlt2 hm0 hm; exact absurd hm (Nat.not_lt_zero _)
                  | succ fuel_12 ih_14 =>
                    intro x2 m2 f2 hx9 hF2 h52 hle hlt2 hm0 hm_15
                    refine wc_iload X 74 4 dX5_work_74 rfl ?_
                    refine wc_bipush X 76 (nI 9) dX5_work_76 (by decide) ?_
                    refine wc_icmp_geN X 78 126 dX5_work_78 (by decide) (by omega) (by decide) (fun c78_16 => ?_) (fun c78_16 => ?_)
                    ·
                      refine wc_iincN X 126 3 (L' := [(0, .ref o), (1, .ref z), (2, .int (b2i m2)), (3, .int (nI (r + 1))), (4, .int (nI x2))]) dX5_work_126 rfl (by decide) rfl ?_
                      refine wc_goto X 129 59 dX5_work_129 (by decide) ?_
                      refine wc_loc [0, 1, 2, 3] (L' := [(0, .ref o), (1, .ref z), (2, .int (b2i m2)), (3, .int (nI (r + 1)))]) rfl ?_
                      refine wc_L (L' := [(0, .ref o), (1, .ref z), (2, .int (b2i m2)), (3, .int (nI (r + 1)))]) (by rfl) ?_
                      exact ih_8 (r + 1) m2 f2 (by omega) hF2 h52 (fun z => by have := hlt2 z; have := hC hmt; omega) (fun z j y hj hy hb => hm0 z j y (by omega) hy hb) (by omega)
                    ·
                      refine wc_aload_n X 81 0 dX5_work_81 rfl ?_
                      refine wc_iload X 82 4 dX5_work_82 rfl ?_
                      refine wc_callV X 84 [0, 1, 2] 0 (c_X5_notRefuted l G o qf ql f2 l2 g0 g1 x2 (by first | assumption | omega) (by first | assumption | omega) (fun a i ha hi => hld a i (by omega) hi) (by omega) (h52 _ (by omega))) yv_X5_notRefuted kd5 rfl rfl q_580 ⟨rfl, rfl⟩ ⟨rfl, rfl⟩ ⟨rfl, rfl⟩ rfl rfl rfl dX5_work_84 ?_
                      refine wc_istore X 87 (L' := [(0, .ref o), (1, .ref z), (2, .int (b2i m2)), (3, .int (nI r)), (4, .int (nI x2)), (5, .int (nI (nrf g0 g1 f2 x2 9)))]) dX5_work_87 (by decide) rfl ?_
                      refine wc_iload_n X 89 2 dX5_work_89 rfl ?_
                      refine wc_if_neB X 90 105 dX5_work_90 (by decide) (fun c90_17 => ?_) (fun c90_17 => ?_)
                      ·
                        refine wc_iconstN X 105 1 dX5_work_105 ?_
                        refine wc_goto X 106 110 dX5_work_106 (by decide) ?_
                        refine wc_istore_n X 110 (L' := [(0, .ref o), (1, .ref z), (2, .int (nI 1)), (3, .int (nI r)), (4, .int (nI x2)), (5, .int (nI (nrf g0 g1 f2 x2 9)))]) dX5_work_110 (by decide) rfl ?_
                        refine wc_aload_n X 111 0 dX5_work_111 rfl ?_
                        refine wc_get X 112 0 0 kd5 rfl (by decide) q_166 rfl dX5_work_112 ?_
                        refine wc_iload X 115 4 dX5_work_115 rfl ?_
                        refine wc_iload X 117 5 dX5_work_117 rfl ?_
                        refine wc_iastG X Y 119 1 rfl (by omega) (by decide) (ws' := [ob o 5 [.ref qf, .ref ql], aI G qf 9 (nF (up f2 x2 (nrf g0 g1 f2 x2 9))), aI G ql 18 (nF l2), ob z 1 [.ref qa, .ref qb], ob qa 6 [.int (nI n0), .int (nI e0), .ref la], aI G la 10 (nF g0), ob qb 6 [.int (nI n1), .int (nI e1), .ref lb], aI G lb 10 (nF g1)]) rfl dX5_work_119 ?_
                        refine wc_iincN X 120 4 (L' := [(0, .ref o), (1, .ref z), (2, .int (nI 1)), (3, .int (nI r)), (4, .int (nI (x2 + 1))), (5, .int (nI (nrf g0 g1 f2 x2 9)))]) dX5_work_120 rfl (by decide) rfl ?_
                        refine wc_goto X 123 74 dX5_work_123 (by decide) ?_
                        refine wc_loc [0, 1, 2, 3, 4] (L' := [(0, .ref o), (1, .ref z), (2, .int (nI 1)), (3, .int (nI r)), (4, .int (nI (x2 + 1)))]) rfl ?_
                        have e_18 : (.int (nI 1) : Value) = .int (b2i true) := rfl
                        refine wc_L (L' := [(0, .ref o), (1, .ref z), (2, .int (b2i true)), (3, .int (nI r)), (4, .int (nI (x2 + 1)))]) (by first | rfl | rw [e_18] | (rw [e_18]; rfl)) ?_
                        exact ih_14 (x2 + 1) true (up f2 x2 (nrf g0 g1 f2 x2 9)) (by omega) (Fw_up rfl hF2) (fw_512 h52 (nrf_lt (h52 _ (by omega)) 9 (Nat.le_refl _))) (Nat.le_trans (cF_le rfl) hle) (fun _ => Nat.lt_of_le_of_lt (cF_le rfl) (hlt2 c90_17)) (fun z => (Bool.false_ne_true z.symm).elim) (by omega)
                      ·
                        refine wc_iload X 93 5 dX5_work_93 rfl ?_
                        refine wc_aload_n X 95 0 dX5_work_95 rfl ?_
                        refine wc_get X 96 0 0 kd5 rfl (by decide) q_166 rfl dX5_work_96 ?_
                        refine wc_iload X 99 4 dX5_work_99 rfl ?_
                        refine wc_ialdG X 101 1 rfl (by omega) (by decide) dX5_work_101 ?_
                        refine wc_icmp_eqN X 102 109 dX5_work_102 (by decide) (Nat.lt_trans (nrf_lt (h52 _ (by omega)) 9 (Nat.le_refl _)) (by decide)) (Nat.lt_trans (h52 _ (by omega)) (by decide)) (fun c102_19 => ?_) (fun c102_19 => ?_)
                        ·
                          refine wc_iconstN X 109 0 dX5_work_109 ?_
                          refine wc_istore_n X 110 (L' := [(0, .ref o), (1, .ref z), (2, .int (nI 0)), (3, .int (nI r)), (4, .int (nI x2)), (5, .int (nI (nrf g0 g1 f2 x2 9)))]) dX5_work_110 (by decide) rfl ?_
                          refine wc_aload_n X 111 0 dX5_work_111 rfl ?_
                          refine wc_get X 112 0 0 kd5 rfl (by decide) q_166 rfl dX5_work_112 ?_
                          refine wc_iload X 115 4 dX5_work_115 rfl ?_
                          refine wc_iload X 117 5 dX5_work_117 rfl ?_
                          refine wc_iastG X Y 119 1 rfl (by omega) (by decide) (ws' := [ob o 5 [.ref qf, .ref ql], aI G qf 9 (nF (up f2 x2 (nrf g0 g1 f2 x2 9))), aI G ql 18 (nF l2), ob z 1 [.ref qa, .ref qb], ob qa 6 [.int (nI n0), .int (nI e0), .ref la], aI G la 10 (nF g0), ob qb 6 [.int (nI n1), .int (nI e1), .ref lb], aI G lb 10 (nF g1)]) rfl dX5_work_119 ?_
                          refine wc_iincN X 120 4 (L' := [(0, .ref o), (1, .ref z), (2, .int (nI 0)), (3, .int (nI r)), (4, .int (nI (x2 + 1))), (5, .int (nI (nrf g0 g1 f2 x2 9)))]) dX5_work_120 rfl (by decide) rfl ?_
                          refine wc_goto X 123 74 dX5_work_123 (by decide) ?_
                          refine wc_loc [0, 1, 2, 3, 4] (L' := [(0, .ref o), (1, .ref z), (2, .int (nI 0)), (3, .int (nI r)), (4, .int (nI (x2 + 1)))]) rfl ?_
                          have e_20 : (.int (nI 0) : Value) = .int (b2i false) := rfl
                          refine wc_L (L' := [(0, .ref o), (1, .ref z), (2, .int (b2i false)), (3, .int (nI r)), (4, .int (nI (x2 + 1)))]) (by first | rfl | rw [e_20] | (rw [e_20]; rfl)) ?_
                          exact ih_14 (x2 + 1) false (up f2 x2 (nrf g0 g1 f2 x2 9)) (by omega) (Fw_up rfl hF2) (fw_512 h52 (nrf_lt (h52 _ (by omega)) 9 (Nat.le_refl _))) (Nat.le_trans (cF_le rfl) hle) (fun z => (Bool.false_ne_true z).elim) (fun _ => lk_hm (hm0 c90_17) c102_19) (by omega)
                        ·
                          refine wc_iconstN X 105 1 dX5_work_105 ?_
                          refine wc_goto X 106 110 dX5_work_106 (by decide) ?_
                          refine wc_istore_n X 110 (L' := [(0, .ref o), (1, .ref z), (2, .int (nI 1)), (3, .int (nI r)), (4, .int (nI x2)), (5, .int (nI (nrf g0 g1 f2 x2 9)))]) dX5_work_110 (by decide) rfl ?_
                          refine wc_aload_n X 111 0 dX5_work_111 rfl ?_
                          refine wc_get X 112 0 0 kd5 rfl (by decide) q_166 rfl dX5_work_112 ?_
                          refine wc_iload X 115 4 dX5_work_115 rfl ?_
                          refine wc_iload X 117 5 dX5_work_117 rfl ?_
                          refine wc_iastG X Y 119 1 rfl (by omega) (by decide) (ws' := [ob o 5 [.ref qf, .ref ql], aI G qf 9 (nF (up f2 x2 (nrf g0 g1 f2 x2 9))), aI G ql 18 (nF l2), ob z 1 [.ref qa, .ref qb], ob qa 6 [.int (nI n0), .int (nI e0), .ref la], aI G la 10 (nF g0), ob qb 6 [.int (nI n1), .int (nI e1), .ref lb], aI G lb 10 (nF g1)]) rfl dX5_work_119 ?_
                          refine wc_iincN X 120 4 (L' := [(0, .ref o), (1, .ref z), (2, .int (nI 1)), (3, .int (nI r)), (4, .int (nI (x2 + 1))), (5, .int (nI (nrf g0 g1 f2 x2 9)))]) dX5_work_120 rfl (by decide) rfl ?_
                          refine wc_goto X 123 74 dX5_work_123 (by decide) ?_
                          refine wc_loc [0, 1, 2, 3, 4] (L' := [(0, .ref o), (1, .ref z), (2, .int (nI 1)), (3, .int (nI r)), (4, .int (nI (x2 + 1)))]) rfl ?_
                          have e_21 : (.int (nI 1) : Value) = .int (b2i true) := rfl
                          refine wc_L (L' := [(0, .ref o), (1, .ref z), (2, .int (b2i true)), (3, .int (nI r)), (4, .int (nI (x2 + 1)))]) (by first | rfl | rw [e_21] | (rw [e_21]; rfl)) ?_
                          exact ih_14 (x2 + 1) true (up f2 x2 (nrf g0 g1 f2 x2 9)) (by omega) (Fw_up rfl hF2) (fw_512 h52 (nrf_lt (h52 _ (by omega)) 9 (Nat.le_refl _))) (Nat.le_trans (cF_le rfl) hle) (fun _ => Nat.lt_of_lt_of_le (cF_lt (by omega) (h52 _ (by omega)) rfl c102_19) hle) (fun z => (Bool.false_ne_true z.symm).elim) (by omega)
                have e_22 : (.int (nI 0) : Value) = .int (b2i false) := rfl
                refine wc_L (L' := [(0, .ref o), (1, .ref z), (2, .int (b2i false)), (3, .int (nI r)), (4, .int (nI 0))]) (by first | rfl | rw [e_22] | (rw [e_22]; rfl)) ?_
                exact LP_13 (9 - 0 + 1) 0 false f1 (by decide) hF h5 (Nat.le_refl _) (fun z => (Bool.false_ne_true z).elim) (fun _ j y hj => absurd hj (Nat.not_lt_zero _)) (Nat.lt_succ_self _)
        have e_23 : (.int (nI 1) : Value) = .int (b2i true) := rfl
        refine wc_L (L' := [(0, .ref o), (1, .ref z), (2, .int (b2i true)), (3, .int (nI 0))]) (by first | rfl | rw [e_23] | (rw [e_23]; rfl)) ?_
        exact LP_7 (82 - 0 + 1) 0 true f (by decide) (Fw_init hn0 he0 he0n he1n (fun j hj => hf j (by omega))) (fun j hj => by rw [hf j (by omega)]; exact bsN_lt hn0 hn1 he0 he1 j) (fun _ => by rw [Nat.zero_add]; exact cnt_all _ 81) (fun z => (Bool.false_ne_true z.symm).elim) (Nat.lt_succ_self _)
      ·
        refine wc_aload_n X 8 0 dX5_work_8 rfl ?_
        refine wc_get X 9 0 0 kd5 rfl (by decide) q_166 rfl dX5_work_9 ?_
        refine wc_iload_n X 12 2 dX5_work_12 rfl ?_
        refine wc_aload_n X 13 1 dX5_work_13 rfl ?_
        refine wc_iload_n X 14 2 dX5_work_14 rfl ?_
        refine wc_callS X 15 [3, 4, 5, 6, 7] (c_X5_byEnds l G z qa la n0 e0 g0 qb lb n1 e1 g1 x (by first | assumption | omega) (by first | assumption | omega) (by first | assumption | omega) (by first | assumption | omega) (by first | assumption | omega) (by first | assumption | omega) (by omega)) ys_X5_byEnds rfl q_572 ⟨rfl, rfl⟩ ⟨rfl, rfl⟩ ⟨rfl, rfl⟩ rfl rfl rfl dX5_work_15 ?_
        refine wc_iastG X Y 18 1 rfl (by omega) (by decide) (ws' := [ob o 5 [.ref qf, .ref ql], aI G qf 9 (nF (up f x (bsN n0 e0 n1 e1 x))), aI G ql 18 (nF l2), ob z 1 [.ref qa, .ref qb], ob qa 6 [.int (nI n0), .int (nI e0), .ref la], aI G la 10 (nF g0), ob qb 6 [.int (nI n1), .int (nI e1), .ref lb], aI G lb 10 (nF g1)]) rfl dX5_work_18 ?_
        refine wc_aload_n X 19 0 dX5_work_19 rfl ?_
        refine wc_get X 20 0 1 kd5 rfl (by decide) q_167 rfl dX5_work_20 ?_
        refine wc_iload_n X 23 2 dX5_work_23 rfl ?_
        refine wc_iconstN X 24 2 dX5_work_24 ?_
        refine wc_imulN X 25 dX5_work_25 ?_
        refine wc_aload_n X 26 1 dX5_work_26 rfl ?_
        refine wc_iload_n X 27 2 dX5_work_27 rfl ?_
        refine wc_iconstN X 28 1 dX5_work_28 ?_
        refine wc_callS X 29 [3, 4, 5, 6, 7] (c_X5_leadsTo l G z qa la n0 e0 g0 qb lb n1 e1 g1 x 1 (by first | assumption | omega) (by first | assumption | omega) (by first | assumption | omega) (by first | assumption | omega) (by first | assumption | omega) (by first | assumption | omega) (by omega) (by decide) (by decide)) ys_X5_leadsTo rfl q_576 ⟨rfl, rfl⟩ ⟨rfl, rfl⟩ ⟨rfl, rfl⟩ rfl rfl rfl dX5_work_29 ?_
        refine wc_iastG X Y 32 2 rfl (by omega) (by decide) (ws' := [ob o 5 [.ref qf, .ref ql], aI G qf 9 (nF (up f x (bsN n0 e0 n1 e1 x))), aI G ql 18 (nF (up l2 (x * 2) (le9 g0 g1 x 1))), ob z 1 [.ref qa, .ref qb], ob qa 6 [.int (nI n0), .int (nI e0), .ref la], aI G la 10 (nF g0), ob qb 6 [.int (nI n1), .int (nI e1), .ref lb], aI G lb 10 (nF g1)]) rfl dX5_work_32 ?_
        refine wc_aload_n X 33 0 dX5_work_33 rfl ?_
        refine wc_get X 34 0 1 kd5 rfl (by decide) q_167 rfl dX5_work_34 ?_
        refine wc_iload_n X 37 2 dX5_work_37 rfl ?_
        refine wc_iconstN X 38 2 dX5_work_38 ?_
        refine wc_imulN X 39 dX5_work_39 ?_
        refine wc_iconstN X 40 1 dX5_work_40 ?_
        refine wc_iaddN X 41 dX5_work_41 ?_
        refine wc_aload_n X 42 1 dX5_work_42 rfl ?_
        refine wc_iload_n X 43 2 dX5_work_43 rfl ?_
        refine wc_iconstN X 44 2 dX5_work_44 ?_
        refine wc_callS X 45 [3, 4, 5, 6, 7] (c_X5_leadsTo l G z qa la n0 e0 g0 qb lb n1 e1 g1 x 2 (by first | assumption | omega) (by first | assumption | omega) (by first | assumption | omega) (by first | assumption | omega) (by first | assumption | omega) (by first | assumption | omega) (by omega) (by decide) (by decide)) ys_X5_leadsTo rfl q_576 ⟨rfl, rfl⟩ ⟨rfl, rfl⟩ ⟨rfl, rfl⟩ rfl rfl rfl dX5_work_45 ?_
        refine wc_iastG X Y 48 2 rfl (by omega) (by decide) (ws' := [ob o 5 [.ref qf, .ref ql], aI G qf 9 (nF (up f x (bsN n0 e0 n1 e1 x))), aI G ql 18 (nF (up (up l2 (x * 2) (le9 g0 g1 x 1)) ((x * 2) + 1) (le9 g0 g1 x 2))), ob z 1 [.ref qa, .ref qb], ob qa 6 [.int (nI n0), .int (nI e0), .ref la], aI G la 10 (nF g0), ob qb 6 [.int (nI n1), .int (nI e1), .ref lb], aI G lb 10 (nF g1)]) rfl dX5_work_48 ?_
        refine wc_iincN X 49 2 (L' := [(0, .ref o), (1, .ref z), (2, .int (nI (x + 1)))]) dX5_work_49 rfl (by decide) rfl ?_
        refine wc_goto X 52 2 dX5_work_52 (by decide) ?_
        refine wc_L (L' := [(0, .ref o), (1, .ref z), (2, .int (nI (x + 1)))]) (by rfl) ?_
        exact ih_3 (x + 1) (up f x (bsN n0 e0 n1 e1 x)) (up (up l2 (x * 2) (le9 g0 g1 x 1)) ((x * 2) + 1) (le9 g0 g1 x 2)) (by omega) (lk_f hf rfl) (lk_ld hld rfl rfl) (by omega)
  exact LP_2 (9 - 0 + 1) 0 fw ld (by decide) (fun j hj => absurd hj (Nat.not_lt_zero _)) (fun a i hj => absurd hj (Nat.not_lt_zero _)) (Nat.lt_succ_self _)

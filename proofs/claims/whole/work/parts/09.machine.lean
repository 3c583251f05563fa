set_option maxHeartbeats 4000000 in
set_option maxRecDepth 100000 in
theorem c_X6_knows (l : Launch) (G : GG) (q lq n e : Nat) (x : Int32)  : RM l G yX6_knows (Cond.code yX6_knows cX6_knows 2 (some .boolean)) { frames := 0, cells := 0, slots := 0, locals := 0 } [.ref q, .int x] [ob q 6 [.int (nI n), .int (nI e), .ref lq]] (.int (b2i (!decide (x < 0) && !decide (nI n ≤ x)))) := by
  refine RM.ofZ (by decide) rfl (fun Γ X ret => ?_)
  show Wc Γ 0 0 0 [(0, .ref q), (1, .int x)] [] [ob q 6 [.int (nI n), .int (nI e), .ref lq]]
  refine wc_iload_n X 0 1 dX6_knows_0 rfl ?_
  refine wc_if_lt X 1 16 dX6_knows_1 (by decide) (fun c1_1 => ?_) (fun c1_1 => ?_)
  ·
    refine wc_iconstN X 16 0 dX6_knows_16 ?_
    refine wc_st (st' := [.int (b2i false)]) rfl ?_
    exact ret 17 _ false dX6_knows_17 (by first | rfl | (simp [c1_1]; done) | (simp [c1_1] <;> omega))
  ·
    refine wc_iload_n X 4 1 dX6_knows_4 rfl ?_
    refine wc_aload_n X 5 0 dX6_knows_5 rfl ?_
    refine wc_get X 6 0 0 kd6 rfl (by decide) q_51 rfl dX6_knows_6 ?_
    refine wc_icmp_ge X 9 16 dX6_knows_9 (by decide) (fun c9_2 => ?_) (fun c9_2 => ?_)
    ·
      refine wc_iconstN X 16 0 dX6_knows_16 ?_
      refine wc_st (st' := [.int (b2i false)]) rfl ?_
      exact ret 17 _ false dX6_knows_17 (by first | rfl | (simp [c1_1, c9_2]; done) | (simp [c1_1, c9_2] <;> omega))
    ·
      refine wc_iconstN X 12 1 dX6_knows_12 ?_
      refine wc_goto X 13 17 dX6_knows_13 (by decide) ?_
      refine wc_st (st' := [.int (b2i true)]) rfl ?_
      exact ret 17 _ true dX6_knows_17 (by first | rfl | (simp [c1_1, c9_2]; done) | (simp [c1_1, c9_2] <;> omega))

set_option maxHeartbeats 4000000 in
set_option maxRecDepth 100000 in
theorem c_X6_knowsN (l : Launch) (G : GG) (q lq n e i : Nat) (hi : i < 1000) (hn : n ≤ 5) : RM l G yX6_knows (Cond.code yX6_knows cX6_knows 2 (some .boolean)) { frames := 0, cells := 0, slots := 0, locals := 0 } [.ref q, .int (nI i)] [ob q 6 [.int (nI n), .int (nI e), .ref lq]] (.int (b2i (decide (i < n)))) := by
  refine RM.ofZ (by decide) rfl (fun Γ X ret => ?_)
  show Wc Γ 0 0 0 [(0, .ref q), (1, .int (nI i))] [] [ob q 6 [.int (nI n), .int (nI e), .ref lq]]
  refine wc_iload_n X 0 1 dX6_knows_0 rfl ?_
  refine wc_ifltF X 1 (tgt := 16) dX6_knows_1 (by decide) (by omega) ?_
  refine wc_iload_n X 4 1 dX6_knows_4 rfl ?_
  refine wc_aload_n X 5 0 dX6_knows_5 rfl ?_
  refine wc_get X 6 0 0 kd6 rfl (by decide) q_51 rfl dX6_knows_6 ?_
  refine wc_icmp_geN X 9 16 dX6_knows_9 (by decide) (by omega) (by omega) (fun c9_2 => ?_) (fun c9_2 => ?_)
  ·
    refine wc_iconstN X 16 0 dX6_knows_16 ?_
    refine wc_st (st' := [.int (b2i false)]) rfl ?_
    exact ret 17 _ false dX6_knows_17 (by first | rfl | (simp [c9_2]; done) | (simp [c9_2] <;> omega))
  ·
    refine wc_iconstN X 12 1 dX6_knows_12 ?_
    refine wc_goto X 13 17 dX6_knows_13 (by decide) ?_
    refine wc_st (st' := [.int (b2i true)]) rfl ?_
    exact ret 17 _ true dX6_knows_17 (by first | rfl | (simp [c9_2]; done) | (simp [c9_2] <;> omega))

set_option maxHeartbeats 4000000 in
set_option maxRecDepth 100000 in
theorem c_X6_isEnd (l : Launch) (G : GG) (q lq n e i : Nat) (hi : i < 32) (hn : n ≤ 5) (he : e < 32) : RM l G yX6_isEnd (Cond.code yX6_isEnd cX6_isEnd 2 (some .boolean)) { frames := 1, cells := 0, slots := 0, locals := 21 } [.ref q, .int (nI i)] [ob q 6 [.int (nI n), .int (nI e), .ref lq]] (.int (b2i (decide (i < n) && Nat.testBit e i))) := by
  refine RM.ofZ (by decide) rfl (fun Γ X ret => ?_)
  show Wc Γ 0 0 0 [(0, .ref q), (1, .int (nI i))] [] [ob q 6 [.int (nI n), .int (nI e), .ref lq]]
  refine wc_aload_n X 0 0 dX6_isEnd_0 rfl ?_
  refine wc_iload_n X 1 1 dX6_isEnd_1 rfl ?_
  refine wc_callV X 2 [0] 0 (c_X6_knowsN l G q lq n e i (by first | assumption | omega) (by first | assumption | omega)) yv_X6_knows kd6 rfl rfl q_368 ⟨rfl, rfl⟩ ⟨rfl, rfl⟩ ⟨rfl, rfl⟩ rfl rfl rfl dX6_isEnd_2 ?_
  refine wc_if_eqB X 5 23 dX6_isEnd_5 (by decide) (fun c5_1 => ?_) (fun c5_1 => ?_)
  ·
    refine wc_iconstN X 23 0 dX6_isEnd_23 ?_
    refine wc_st (st' := [.int (b2i false)]) rfl ?_
    exact ret 24 _ false dX6_isEnd_24 (by first | rfl | (simp [c5_1]; done) | (simp [c5_1] <;> omega))
  ·
    refine wc_aload_n X 8 0 dX6_isEnd_8 rfl ?_
    refine wc_get X 9 0 1 kd6 rfl (by decide) q_54 rfl dX6_isEnd_9 ?_
    refine wc_iload_n X 12 1 dX6_isEnd_12 rfl ?_
    refine wc_ishrN X 13 dX6_isEnd_13 (by omega) (by omega) ?_
    refine wc_iconstN X 14 1 dX6_isEnd_14 ?_
    refine wc_iandN X 15 dX6_isEnd_15 ?_
    refine wc_topi (b2i (Nat.testBit e i)) (nI_bit _ _) ?_
    refine wc_if_eqB X 16 23 dX6_isEnd_16 (by decide) (fun c16_2 => ?_) (fun c16_2 => ?_)
    ·
      refine wc_iconstN X 23 0 dX6_isEnd_23 ?_
      refine wc_st (st' := [.int (b2i false)]) rfl ?_
      exact ret 24 _ false dX6_isEnd_24 (by first | rfl | (simp [c5_1, c16_2]; done) | (simp [c5_1, c16_2] <;> omega))
    ·
      refine wc_iconstN X 19 1 dX6_isEnd_19 ?_
      refine wc_goto X 20 24 dX6_isEnd_20 (by decide) ?_
      refine wc_st (st' := [.int (b2i true)]) rfl ?_
      exact ret 24 _ true dX6_isEnd_24 (by first | rfl | (simp [c5_1, c16_2]; done) | (simp [c5_1, c16_2] <;> omega))

set_option maxHeartbeats 4000000 in
set_option maxRecDepth 100000 in
theorem c_X6_hasEndIn (l : Launch) (G : GG) (q lq n e S : Nat) (hS : S < 32) : RM l G yX6_hasEndIn (Cond.code yX6_hasEndIn cX6_hasEndIn 2 (some .boolean)) { frames := 0, cells := 0, slots := 0, locals := 0 } [.ref q, .int (nI S)] [ob q 6 [.int (nI n), .int (nI e), .ref lq]] (.int (b2i (S &&& e != 0))) := by
  refine RM.ofZ (by decide) rfl (fun Γ X ret => ?_)
  show Wc Γ 0 0 0 [(0, .ref q), (1, .int (nI S))] [] [ob q 6 [.int (nI n), .int (nI e), .ref lq]]
  refine wc_iload_n X 0 1 dX6_hasEndIn_0 rfl ?_
  refine wc_aload_n X 1 0 dX6_hasEndIn_1 rfl ?_
  refine wc_get X 2 0 1 kd6 rfl (by decide) q_54 rfl dX6_hasEndIn_2 ?_
  refine wc_iandN X 5 dX6_hasEndIn_5 ?_
  refine wc_if_eqN X 6 13 dX6_hasEndIn_6 (by decide) (and_lt (by omega)) (fun c6_1 => ?_) (fun c6_1 => ?_)
  ·
    refine wc_iconstN X 13 0 dX6_hasEndIn_13 ?_
    refine wc_st (st' := [.int (b2i false)]) rfl ?_
    exact ret 14 _ false dX6_hasEndIn_14 (by first | rfl | (simp [c6_1]; done) | (simp [c6_1] <;> omega))
  ·
    refine wc_iconstN X 9 1 dX6_hasEndIn_9 ?_
    refine wc_goto X 10 14 dX6_hasEndIn_10 (by decide) ?_
    refine wc_st (st' := [.int (b2i true)]) rfl ?_
    exact ret 14 _ true dX6_hasEndIn_14 (by first | rfl | (simp [c6_1]; done) | (simp [c6_1] <;> omega))

set_option maxHeartbeats 4000000 in
set_option maxRecDepth 100000 in
theorem c_X6_allStates (l : Launch) (G : GG) (q lq n e : Nat) (hn : n ≤ 5) : RM l G yX6_allStates (Cond.code yX6_allStates cX6_allStates 1 (some .int)) { frames := 0, cells := 0, slots := 0, locals := 0 } [.ref q] [ob q 6 [.int (nI n), .int (nI e), .ref lq]] (.int (nI (2 ^ n - 1))) := by
  refine RM.ofI (by decide) rfl (fun Γ X ret => ?_)
  show Wc Γ 0 0 0 [(0, .ref q)] [] [ob q 6 [.int (nI n), .int (nI e), .ref lq]]
  refine wc_iconstN X 0 1 dX6_allStates_0 ?_
  refine wc_aload_n X 1 0 dX6_allStates_1 rfl ?_
  refine wc_get X 2 0 0 kd6 rfl (by decide) q_51 rfl dX6_allStates_2 ?_
  refine wc_shl1 X 5 dX6_allStates_5 (by omega) ?_
  refine wc_iconstN X 6 1 dX6_allStates_6 ?_
  refine wc_isubN X 7 dX6_allStates_7 (Nat.two_pow_pos _) ?_
  exact ret 8 _ (nI ((2 ^ n) - 1)) dX6_allStates_8 (rfl)

set_option maxHeartbeats 4000000 in
set_option maxRecDepth 100000 in
theorem c_X6_targets (l : Launch) (G : GG) (q lq n e : Nat) (g : Nat → Nat) (i c : Nat) (hi : i < 5) (h1 : 1 ≤ c) (h2 : c ≤ 2) : RM l G yX6_targets (Cond.code yX6_targets cX6_targets 4 (some .int)) { frames := 0, cells := 0, slots := 0, locals := 0 } [.ref q, .int (nI i), .int (nI c)] [ob q 6 [.int (nI n), .int (nI e), .ref lq], aI G lq 10 (nF g)] (.int (nI (g (i * 2 + c - 1)))) := by
  refine RM.ofI (by decide) rfl (fun Γ X ret => ?_)
  show Wc Γ 0 0 0 [(0, .ref q), (1, .int (nI i)), (2, .int (nI c))] [] [ob q 6 [.int (nI n), .int (nI e), .ref lq], aI G lq 10 (nF g)]
  refine wc_iload_n X 0 1 dX6_targets_0 rfl ?_
  refine wc_iconstN X 1 2 dX6_targets_1 ?_
  refine wc_imulN X 2 dX6_targets_2 ?_
  refine wc_iload_n X 3 2 dX6_targets_3 rfl ?_
  refine wc_iaddN X 4 dX6_targets_4 ?_
  refine wc_iconstN X 5 1 dX6_targets_5 ?_
  refine wc_isubN X 6 dX6_targets_6 (by omega) ?_
  refine wc_istore_n X 7 (L' := [(0, .ref q), (1, .int (nI i)), (2, .int (nI c)), (3, .int (nI (((i * 2) + c) - 1)))]) dX6_targets_7 (by decide) rfl ?_
  refine wc_iload_n X 8 3 dX6_targets_8 rfl ?_
  refine wc_ifltF X 9 (tgt := 30) dX6_targets_9 (by decide) (by omega) ?_
  refine wc_iload_n X 12 3 dX6_targets_12 rfl ?_
  refine wc_aload_n X 13 0 dX6_targets_13 rfl ?_
  refine wc_get X 14 0 2 kd6 rfl (by decide) q_59 rfl dX6_targets_14 ?_
  refine wc_alenI X 17 1 rfl dX6_targets_17 ?_
  refine wc_icmp_geN X 18 30 dX6_targets_18 (by decide) (by omega) (by decide) (fun c18_2 => ?_) (fun c18_2 => ?_)
  ·
    exact absurd c18_2 (by omega)
  ·
    refine wc_aload_n X 21 0 dX6_targets_21 rfl ?_
    refine wc_get X 22 0 2 kd6 rfl (by decide) q_59 rfl dX6_targets_22 ?_
    refine wc_iload_n X 25 3 dX6_targets_25 rfl ?_
    refine wc_ialdG X 26 1 rfl (by omega) (by decide) dX6_targets_26 ?_
    refine wc_goto X 27 31 dX6_targets_27 (by decide) ?_
    exact ret 31 _ (nI (g (((i * 2) + c) - 1))) dX6_targets_31 (rfl)

set_option maxHeartbeats 4000000 in
set_option maxRecDepth 100000 in
theorem c_X6_joins (l : Launch) (G : GG) (q lq n e : Nat) (g : Nat → Nat) (i c t : Nat) (hi : i < 5) (h1 : 1 ≤ c) (h2 : c ≤ 2) (ht : t < 32) (hg : ∀ j, g j < 32) : RM l G yX6_joins (Cond.code yX6_joins cX6_joins 4 (some .boolean)) { frames := 1, cells := 0, slots := 0, locals := 23 } [.ref q, .int (nI i), .int (nI c), .int (nI t)] [ob q 6 [.int (nI n), .int (nI e), .ref lq], aI G lq 10 (nF g)] (.int (b2i (Nat.testBit (g (i * 2 + c - 1)) t))) := by
  refine RM.ofZ (by decide) rfl (fun Γ X ret => ?_)
  show Wc Γ 0 0 0 [(0, .ref q), (1, .int (nI i)), (2, .int (nI c)), (3, .int (nI t))] [] [ob q 6 [.int (nI n), .int (nI e), .ref lq], aI G lq 10 (nF g)]
  refine wc_aload_n X 0 0 dX6_joins_0 rfl ?_
  refine wc_iload_n X 1 1 dX6_joins_1 rfl ?_
  refine wc_iload_n X 2 2 dX6_joins_2 rfl ?_
  refine wc_callV X 3 [0, 1] 0 (c_X6_targets l G q lq n e g i c (by first | assumption | omega) (by first | assumption | omega) (by first | assumption | omega)) yv_X6_targets kd6 rfl rfl q_332 ⟨rfl, rfl⟩ ⟨rfl, rfl⟩ ⟨rfl, rfl⟩ rfl rfl rfl dX6_joins_3 ?_
  refine wc_iload_n X 6 3 dX6_joins_6 rfl ?_
  refine wc_ishrN X 7 dX6_joins_7 (by omega) (Nat.lt_trans (hg _) (by decide)) ?_
  refine wc_iconstN X 8 1 dX6_joins_8 ?_
  refine wc_iandN X 9 dX6_joins_9 ?_
  refine wc_topi (b2i (Nat.testBit (g (i * 2 + c - 1)) t)) (nI_bit _ _) ?_
  refine wc_if_eqB X 10 17 dX6_joins_10 (by decide) (fun c10_1 => ?_) (fun c10_1 => ?_)
  ·
    refine wc_iconstN X 17 0 dX6_joins_17 ?_
    refine wc_st (st' := [.int (b2i false)]) rfl ?_
    exact ret 18 _ false dX6_joins_18 (by first | rfl | (simp [c10_1]; done) | (simp [c10_1] <;> omega))
  ·
    refine wc_iconstN X 13 1 dX6_joins_13 ?_
    refine wc_goto X 14 18 dX6_joins_14 (by decide) ?_
    refine wc_st (st' := [.int (b2i true)]) rfl ?_
    exact ret 18 _ true dX6_joins_18 (by first | rfl | (simp [c10_1]; done) | (simp [c10_1] <;> omega))

set_option maxHeartbeats 4000000 in
set_option maxRecDepth 100000 in
theorem c_X6_flipEdge (l : Launch) (G : GG) (q lq n e : Nat) (g : Nat → Nat) (i c t : Nat) (hi : i < 5) (h1 : 1 ≤ c) (h2 : c ≤ 2) (ht : t < 5) : MM l G yX6_flipEdge (Cond.code yX6_flipEdge cX6_flipEdge 5 none) { frames := 0, cells := 0, slots := 0, locals := 0 } [.ref q, .int (nI i), .int (nI c), .int (nI t)] [ob q 6 [.int (nI n), .int (nI e), .ref lq], aI G lq 10 (nF g)] (fun (v : Option Value) (w : va_W) => v = none ∧ w = [ob q 6 [.int (nI n), .int (nI e), .ref lq], aI G lq 10 (nF (up g (i * 2 + c - 1) (g (i * 2 + c - 1) ^^^ 2 ^ t)))]) 0 0 := by
  refine MM.ofV (by decide) rfl (fun Γ X Y hnm ret => ?_)
  show Wc Γ 0 0 0 [(0, .ref q), (1, .int (nI i)), (2, .int (nI c)), (3, .int (nI t))] [] [ob q 6 [.int (nI n), .int (nI e), .ref lq], aI G lq 10 (nF g)]
  refine wc_iload_n X 0 1 dX6_flipEdge_0 rfl ?_
  refine wc_iconstN X 1 2 dX6_flipEdge_1 ?_
  refine wc_imulN X 2 dX6_flipEdge_2 ?_
  refine wc_iload_n X 3 2 dX6_flipEdge_3 rfl ?_
  refine wc_iaddN X 4 dX6_flipEdge_4 ?_
  refine wc_iconstN X 5 1 dX6_flipEdge_5 ?_
  refine wc_isubN X 6 dX6_flipEdge_6 (by omega) ?_
  refine wc_istore X 7 (L' := [(0, .ref q), (1, .int (nI i)), (2, .int (nI c)), (3, .int (nI t)), (4, .int (nI (((i * 2) + c) - 1)))]) dX6_flipEdge_7 (by decide) rfl ?_
  refine wc_iload X 9 4 dX6_flipEdge_9 rfl ?_
  refine wc_ifltF X 11 (tgt := 37) dX6_flipEdge_11 (by decide) (by omega) ?_
  refine wc_iload X 14 4 dX6_flipEdge_14 rfl ?_
  refine wc_aload_n X 16 0 dX6_flipEdge_16 rfl ?_
  refine wc_get X 17 0 2 kd6 rfl (by decide) q_59 rfl dX6_flipEdge_17 ?_
  refine wc_alenI X 20 1 rfl dX6_flipEdge_20 ?_
  refine wc_icmp_geN X 21 37 dX6_flipEdge_21 (by decide) (by omega) (by decide) (fun c21_2 => ?_) (fun c21_2 => ?_)
  ·
    exact absurd c21_2 (by omega)
  ·
    refine wc_aload_n X 24 0 dX6_flipEdge_24 rfl ?_
    refine wc_get X 25 0 2 kd6 rfl (by decide) q_59 rfl dX6_flipEdge_25 ?_
    refine wc_iload X 28 4 dX6_flipEdge_28 rfl ?_
    refine wc_dup2 X 30 dX6_flipEdge_30 rfl rfl ?_
    refine wc_ialdG X 31 1 rfl (by omega) (by decide) dX6_flipEdge_31 ?_
    refine wc_iconstN X 32 1 dX6_flipEdge_32 ?_
    refine wc_iload_n X 33 3 dX6_flipEdge_33 rfl ?_
    refine wc_shl1 X 34 dX6_flipEdge_34 (by omega) ?_
    refine wc_ixorN X 35 dX6_flipEdge_35 ?_
    refine wc_iastG X Y 36 1 rfl (by omega) (by decide) (ws' := [ob q 6 [.int (nI n), .int (nI e), .ref lq], aI G lq 10 (nF (up g (((i * 2) + c) - 1) ((g (((i * 2) + c) - 1)) ^^^ (2 ^ t))))]) rfl dX6_flipEdge_36 ?_
    exact ret 37 _ _ dX6_flipEdge_37 (⟨rfl, rfl⟩)

set_option maxHeartbeats 4000000 in
set_option maxRecDepth 100000 in
theorem c_X6_flipEnd (l : Launch) (G : GG) (q lq n e t : Nat) (ht : t < 5) : MM l G yX6_flipEnd (Cond.code yX6_flipEnd cX6_flipEnd 2 none) { frames := 0, cells := 0, slots := 0, locals := 0 } [.ref q, .int (nI t)] [ob q 6 [.int (nI n), .int (nI e), .ref lq]] (fun (v : Option Value) (w : va_W) => v = none ∧ w = [ob q 6 [.int (nI n), .int (nI (e ^^^ 2 ^ t)), .ref lq]]) 0 0 := by
  refine MM.ofV (by decide) rfl (fun Γ X Y hnm ret => ?_)
  show Wc Γ 0 0 0 [(0, .ref q), (1, .int (nI t))] [] [ob q 6 [.int (nI n), .int (nI e), .ref lq]]
  refine wc_aload_n X 0 0 dX6_flipEnd_0 rfl ?_
  refine wc_dup X 1 dX6_flipEnd_1 rfl ?_
  refine wc_get X 2 0 1 kd6 rfl (by decide) q_54 rfl dX6_flipEnd_2 ?_
  refine wc_iconstN X 5 1 dX6_flipEnd_5 ?_
  refine wc_iload_n X 6 1 dX6_flipEnd_6 rfl ?_
  refine wc_shl1 X 7 dX6_flipEnd_7 (by omega) ?_
  refine wc_ixorN X 8 dX6_flipEnd_8 ?_
  refine wc_put X Y 9 0 1 kd6 rfl (by decide) q_54 rfl rfl rfl (Nat.le_of_ble_eq_true rfl) (ws' := [ob q 6 [.int (nI n), .int (nI (e ^^^ (2 ^ t))), .ref lq]]) rfl dX6_flipEnd_9 ?_
  exact ret 12 _ _ dX6_flipEnd_12 (⟨rfl, rfl⟩)

set_option maxHeartbeats 4000000 in
set_option maxRecDepth 100000 in
theorem c_J6_bitCount_0f7a4 (l : Launch) (G : GG) (s : Nat) (hs : s < 32) : RM l G yJ6_bitCount_0f7a4 (Cond.code yJ6_bitCount_0f7a4 cJ6_bitCount_0f7a4 1 (some .int)) { frames := 0, cells := 0, slots := 0, locals := 0 } [.int (nI s)] [] (.int (nI (ones s))) := by
  refine RM.ofI (by decide) rfl (fun Γ X ret => ?_)
  show Wc Γ 0 0 0 [(0, .int (nI s))] [] []
  refine wc_iload_n X 0 0 dJ6_bitCount_0f7a4_0 rfl ?_
  refine wc_iload_n X 1 0 dJ6_bitCount_0f7a4_1 rfl ?_
  refine wc_iconstN X 2 1 dJ6_bitCount_0f7a4_2 ?_
  refine wc_iushr X 3 dJ6_bitCount_0f7a4_3 ?_
  refine wc_ldcw X 4 265 (1431655765) q_339 dJ6_bitCount_0f7a4_4 ?_
  refine wc_iand X 7 dJ6_bitCount_0f7a4_7 ?_
  refine wc_isub X 8 dJ6_bitCount_0f7a4_8 ?_
  refine wc_istore_n X 9 (L' := [(0, .int ((nI s) - ((((nI s).toUInt32 >>> ((nI 1).toUInt32 &&& Int32.toUInt32 31)).toInt32) &&& 1431655765)))]) dJ6_bitCount_0f7a4_9 (by decide) rfl ?_
  refine wc_iload_n X 10 0 dJ6_bitCount_0f7a4_10 rfl ?_
  refine wc_ldcw X 11 266 (858993459) q_340 dJ6_bitCount_0f7a4_11 ?_
  refine wc_iand X 14 dJ6_bitCount_0f7a4_14 ?_
  refine wc_iload_n X 15 0 dJ6_bitCount_0f7a4_15 rfl ?_
  refine wc_iconstN X 16 2 dJ6_bitCount_0f7a4_16 ?_
  refine wc_iushr X 17 dJ6_bitCount_0f7a4_17 ?_
  refine wc_ldcw X 18 266 (858993459) q_340 dJ6_bitCount_0f7a4_18 ?_
  refine wc_iand X 21 dJ6_bitCount_0f7a4_21 ?_
  refine wc_iadd X 22 dJ6_bitCount_0f7a4_22 ?_
  refine wc_istore_n X 23 (L' := [(0, .int ((((nI s) - ((((nI s).toUInt32 >>> ((nI 1).toUInt32 &&& Int32.toUInt32 31)).toInt32) &&& 1431655765)) &&& 858993459) + ((((((nI s) - ((((nI s).toUInt32 >>> ((nI 1).toUInt32 &&& Int32.toUInt32 31)).toInt32) &&& 1431655765))).toUInt32 >>> ((nI 2).toUInt32 &&& Int32.toUInt32 31)).toInt32) &&& 858993459)))]) dJ6_bitCount_0f7a4_23 (by decide) rfl ?_
  refine wc_iload_n X 24 0 dJ6_bitCount_0f7a4_24 rfl ?_
  refine wc_iload_n X 25 0 dJ6_bitCount_0f7a4_25 rfl ?_
  refine wc_iconstN X 26 4 dJ6_bitCount_0f7a4_26 ?_
  refine wc_iushr X 27 dJ6_bitCount_0f7a4_27 ?_
  refine wc_iadd X 28 dJ6_bitCount_0f7a4_28 ?_
  refine wc_ldcw X 29 267 (252645135) q_341 dJ6_bitCount_0f7a4_29 ?_
  refine wc_iand X 32 dJ6_bitCount_0f7a4_32 ?_
  refine wc_istore_n X 33 (L' := [(0, .int ((((((nI s) - ((((nI s).toUInt32 >>> ((nI 1).toUInt32 &&& Int32.toUInt32 31)).toInt32) &&& 1431655765)) &&& 858993459) + ((((((nI s) - ((((nI s).toUInt32 >>> ((nI 1).toUInt32 &&& Int32.toUInt32 31)).toInt32) &&& 1431655765))).toUInt32 >>> ((nI 2).toUInt32 &&& Int32.toUInt32 31)).toInt32) &&& 858993459)) + (((((((nI s) - ((((nI s).toUInt32 >>> ((nI 1).toUInt32 &&& Int32.toUInt32 31)).toInt32) &&& 1431655765)) &&& 858993459) + ((((((nI s) - ((((nI s).toUInt32 >>> ((nI 1).toUInt32 &&& Int32.toUInt32 31)).toInt32) &&& 1431655765))).toUInt32 >>> ((nI 2).toUInt32 &&& Int32.toUInt32 31)).toInt32) &&& 858993459))).toUInt32 >>> ((nI 4).toUInt32 &&& Int32.toUInt32 31)).toInt32)) &&& 252645135))]) dJ6_bitCount_0f7a4_33 (by decide) rfl ?_
  refine wc_iload_n X 34 0 dJ6_bitCount_0f7a4_34 rfl ?_
  refine wc_iload_n X 35 0 dJ6_bitCount_0f7a4_35 rfl ?_
  refine wc_bipush X 36 (nI 8) dJ6_bitCount_0f7a4_36 (by decide) ?_
  refine wc_iushr X 38 dJ6_bitCount_0f7a4_38 ?_
  refine wc_iadd X 39 dJ6_bitCount_0f7a4_39 ?_
  refine wc_istore_n X 40 (L' := [(0, .int (((((((nI s) - ((((nI s).toUInt32 >>> ((nI 1).toUInt32 &&& Int32.toUInt32 31)).toInt32) &&& 1431655765)) &&& 858993459) + ((((((nI s) - ((((nI s).toUInt32 >>> ((nI 1).toUInt32 &&& Int32.toUInt32 31)).toInt32) &&& 1431655765))).toUInt32 >>> ((nI 2).toUInt32 &&& Int32.toUInt32 31)).toInt32) &&& 858993459)) + (((((((nI s) - ((((nI s).toUInt32 >>> ((nI 1).toUInt32 &&& Int32.toUInt32 31)).toInt32) &&& 1431655765)) &&& 858993459) + ((((((nI s) - ((((nI s).toUInt32 >>> ((nI 1).toUInt32 &&& Int32.toUInt32 31)).toInt32) &&& 1431655765))).toUInt32 >>> ((nI 2).toUInt32 &&& Int32.toUInt32 31)).toInt32) &&& 858993459))).toUInt32 >>> ((nI 4).toUInt32 &&& Int32.toUInt32 31)).toInt32)) &&& 252645135) + (((((((((nI s) - ((((nI s).toUInt32 >>> ((nI 1).toUInt32 &&& Int32.toUInt32 31)).toInt32) &&& 1431655765)) &&& 858993459) + ((((((nI s) - ((((nI s).toUInt32 >>> ((nI 1).toUInt32 &&& Int32.toUInt32 31)).toInt32) &&& 1431655765))).toUInt32 >>> ((nI 2).toUInt32 &&& Int32.toUInt32 31)).toInt32) &&& 858993459)) + (((((((nI s) - ((((nI s).toUInt32 >>> ((nI 1).toUInt32 &&& Int32.toUInt32 31)).toInt32) &&& 1431655765)) &&& 858993459) + ((((((nI s) - ((((nI s).toUInt32 >>> ((nI 1).toUInt32 &&& Int32.toUInt32 31)).toInt32) &&& 1431655765))).toUInt32 >>> ((nI 2).toUInt32 &&& Int32.toUInt32 31)).toInt32) &&& 858993459))).toUInt32 >>> ((nI 4).toUInt32 &&& Int32.toUInt32 31)).toInt32)) &&& 252645135)).toUInt32 >>> ((nI 8).toUInt32 &&& Int32.toUInt32 31)).toInt32)))]) dJ6_bitCount_0f7a4_40 (by decide) rfl ?_
  refine wc_iload_n X 41 0 dJ6_bitCount_0f7a4_41 rfl ?_
  refine wc_iload_n X 42 0 dJ6_bitCount_0f7a4_42 rfl ?_
  refine wc_bipush X 43 (nI 16) dJ6_bitCount_0f7a4_43 (by decide) ?_
  refine wc_iushr X 45 dJ6_bitCount_0f7a4_45 ?_
  refine wc_iadd X 46 dJ6_bitCount_0f7a4_46 ?_
  refine wc_istore_n X 47 (L' := [(0, .int ((((((((nI s) - ((((nI s).toUInt32 >>> ((nI 1).toUInt32 &&& Int32.toUInt32 31)).toInt32) &&& 1431655765)) &&& 858993459) + ((((((nI s) - ((((nI s).toUInt32 >>> ((nI 1).toUInt32 &&& Int32.toUInt32 31)).toInt32) &&& 1431655765))).toUInt32 >>> ((nI 2).toUInt32 &&& Int32.toUInt32 31)).toInt32) &&& 858993459)) + (((((((nI s) - ((((nI s).toUInt32 >>> ((nI 1).toUInt32 &&& Int32.toUInt32 31)).toInt32) &&& 1431655765)) &&& 858993459) + ((((((nI s) - ((((nI s).toUInt32 >>> ((nI 1).toUInt32 &&& Int32.toUInt32 31)).toInt32) &&& 1431655765))).toUInt32 >>> ((nI 2).toUInt32 &&& Int32.toUInt32 31)).toInt32) &&& 858993459))).toUInt32 >>> ((nI 4).toUInt32 &&& Int32.toUInt32 31)).toInt32)) &&& 252645135) + (((((((((nI s) - ((((nI s).toUInt32 >>> ((nI 1).toUInt32 &&& Int32.toUInt32 31)).toInt32) &&& 1431655765)) &&& 858993459) + ((((((nI s) - ((((nI s).toUInt32 >>> ((nI 1).toUInt32 &&& Int32.toUInt32 31)).toInt32) &&& 1431655765))).toUInt32 >>> ((nI 2).toUInt32 &&& Int32.toUInt32 31)).toInt32) &&& 858993459)) + (((((((nI s) - ((((nI s).toUInt32 >>> ((nI 1).toUInt32 &&& Int32.toUInt32 31)).toInt32) &&& 1431655765)) &&& 858993459) + ((((((nI s) - ((((nI s).toUInt32 >>> ((nI 1).toUInt32 &&& Int32.toUInt32 31)).toInt32) &&& 1431655765))).toUInt32 >>> ((nI 2).toUInt32 &&& Int32.toUInt32 31)).toInt32) &&& 858993459))).toUInt32 >>> ((nI 4).toUInt32 &&& Int32.toUInt32 31)).toInt32)) &&& 252645135)).toUInt32 >>> ((nI 8).toUInt32 &&& Int32.toUInt32 31)).toInt32)) + ((((((((((nI s) - ((((nI s).toUInt32 >>> ((nI 1).toUInt32 &&& Int32.toUInt32 31)).toInt32) &&& 1431655765)) &&& 858993459) + ((((((nI s) - ((((nI s).toUInt32 >>> ((nI 1).toUInt32 &&& Int32.toUInt32 31)).toInt32) &&& 1431655765))).toUInt32 >>> ((nI 2).toUInt32 &&& Int32.toUInt32 31)).toInt32) &&& 858993459)) + (((((((nI s) - ((((nI s).toUInt32 >>> ((nI 1).toUInt32 &&& Int32.toUInt32 31)).toInt32) &&& 1431655765)) &&& 858993459) + ((((((nI s) - ((((nI s).toUInt32 >>> ((nI 1).toUInt32 &&& Int32.toUInt32 31)).toInt32) &&& 1431655765))).toUInt32 >>> ((nI 2).toUInt32 &&& Int32.toUInt32 31)).toInt32) &&& 858993459))).toUInt32 >>> ((nI 4).toUInt32 &&& Int32.toUInt32 31)).toInt32)) &&& 252645135) + (((((((((nI s) - ((((nI s).toUInt32 >>> ((nI 1).toUInt32 &&& Int32.toUInt32 31)).toInt32) &&& 1431655765)) &&& 858993459) + ((((((nI s) - ((((nI s).toUInt32 >>> ((nI 1).toUInt32 &&& Int32.toUInt32 31)).toInt32) &&& 1431655765))).toUInt32 >>> ((nI 2).toUInt32 &&& Int32.toUInt32 31)).toInt32) &&& 858993459)) + (((((((nI s) - ((((nI s).toUInt32 >>> ((nI 1).toUInt32 &&& Int32.toUInt32 31)).toInt32) &&& 1431655765)) &&& 858993459) + ((((((nI s) - ((((nI s).toUInt32 >>> ((nI 1).toUInt32 &&& Int32.toUInt32 31)).toInt32) &&& 1431655765))).toUInt32 >>> ((nI 2).toUInt32 &&& Int32.toUInt32 31)).toInt32) &&& 858993459))).toUInt32 >>> ((nI 4).toUInt32 &&& Int32.toUInt32 31)).toInt32)) &&& 252645135)).toUInt32 >>> ((nI 8).toUInt32 &&& Int32.toUInt32 31)).toInt32))).toUInt32 >>> ((nI 16).toUInt32 &&& Int32.toUInt32 31)).toInt32)))]) dJ6_bitCount_0f7a4_47 (by decide) rfl ?_
  refine wc_iload_n X 48 0 dJ6_bitCount_0f7a4_48 rfl ?_
  refine wc_bipush X 49 (nI 63) dJ6_bitCount_0f7a4_49 (by decide) ?_
  refine wc_iand X 51 dJ6_bitCount_0f7a4_51 ?_
  exact ret 52 _ (((((((((nI s) - ((((nI s).toUInt32 >>> ((nI 1).toUInt32 &&& Int32.toUInt32 31)).toInt32) &&& 1431655765)) &&& 858993459) + ((((((nI s) - ((((nI s).toUInt32 >>> ((nI 1).toUInt32 &&& Int32.toUInt32 31)).toInt32) &&& 1431655765))).toUInt32 >>> ((nI 2).toUInt32 &&& Int32.toUInt32 31)).toInt32) &&& 858993459)) + (((((((nI s) - ((((nI s).toUInt32 >>> ((nI 1).toUInt32 &&& Int32.toUInt32 31)).toInt32) &&& 1431655765)) &&& 858993459) + ((((((nI s) - ((((nI s).toUInt32 >>> ((nI 1).toUInt32 &&& Int32.toUInt32 31)).toInt32) &&& 1431655765))).toUInt32 >>> ((nI 2).toUInt32 &&& Int32.toUInt32 31)).toInt32) &&& 858993459))).toUInt32 >>> ((nI 4).toUInt32 &&& Int32.toUInt32 31)).toInt32)) &&& 252645135) + (((((((((nI s) - ((((nI s).toUInt32 >>> ((nI 1).toUInt32 &&& Int32.toUInt32 31)).toInt32) &&& 1431655765)) &&& 858993459) + ((((((nI s) - ((((nI s).toUInt32 >>> ((nI 1).toUInt32 &&& Int32.toUInt32 31)).toInt32) &&& 1431655765))).toUInt32 >>> ((nI 2).toUInt32 &&& Int32.toUInt32 31)).toInt32) &&& 858993459)) + (((((((nI s) - ((((nI s).toUInt32 >>> ((nI 1).toUInt32 &&& Int32.toUInt32 31)).toInt32) &&& 1431655765)) &&& 858993459) + ((((((nI s) - ((((nI s).toUInt32 >>> ((nI 1).toUInt32 &&& Int32.toUInt32 31)).toInt32) &&& 1431655765))).toUInt32 >>> ((nI 2).toUInt32 &&& Int32.toUInt32 31)).toInt32) &&& 858993459))).toUInt32 >>> ((nI 4).toUInt32 &&& Int32.toUInt32 31)).toInt32)) &&& 252645135)).toUInt32 >>> ((nI 8).toUInt32 &&& Int32.toUInt32 31)).toInt32)) + ((((((((((nI s) - ((((nI s).toUInt32 >>> ((nI 1).toUInt32 &&& Int32.toUInt32 31)).toInt32) &&& 1431655765)) &&& 858993459) + ((((((nI s) - ((((nI s).toUInt32 >>> ((nI 1).toUInt32 &&& Int32.toUInt32 31)).toInt32) &&& 1431655765))).toUInt32 >>> ((nI 2).toUInt32 &&& Int32.toUInt32 31)).toInt32) &&& 858993459)) + (((((((nI s) - ((((nI s).toUInt32 >>> ((nI 1).toUInt32 &&& Int32.toUInt32 31)).toInt32) &&& 1431655765)) &&& 858993459) + ((((((nI s) - ((((nI s).toUInt32 >>> ((nI 1).toUInt32 &&& Int32.toUInt32 31)).toInt32) &&& 1431655765))).toUInt32 >>> ((nI 2).toUInt32 &&& Int32.toUInt32 31)).toInt32) &&& 858993459))).toUInt32 >>> ((nI 4).toUInt32 &&& Int32.toUInt32 31)).toInt32)) &&& 252645135) + (((((((((nI s) - ((((nI s).toUInt32 >>> ((nI 1).toUInt32 &&& Int32.toUInt32 31)).toInt32) &&& 1431655765)) &&& 858993459) + ((((((nI s) - ((((nI s).toUInt32 >>> ((nI 1).toUInt32 &&& Int32.toUInt32 31)).toInt32) &&& 1431655765))).toUInt32 >>> ((nI 2).toUInt32 &&& Int32.toUInt32 31)).toInt32) &&& 858993459)) + (((((((nI s) - ((((nI s).toUInt32 >>> ((nI 1).toUInt32 &&& Int32.toUInt32 31)).toInt32) &&& 1431655765)) &&& 858993459) + ((((((nI s) - ((((nI s).toUInt32 >>> ((nI 1).toUInt32 &&& Int32.toUInt32 31)).toInt32) &&& 1431655765))).toUInt32 >>> ((nI 2).toUInt32 &&& Int32.toUInt32 31)).toInt32) &&& 858993459))).toUInt32 >>> ((nI 4).toUInt32 &&& Int32.toUInt32 31)).toInt32)) &&& 252645135)).toUInt32 >>> ((nI 8).toUInt32 &&& Int32.toUInt32 31)).toInt32))).toUInt32 >>> ((nI 16).toUInt32 &&& Int32.toUInt32 31)).toInt32)) &&& (nI 63)) dJ6_bitCount_0f7a4_52 (by clear ret; revert s; decide +kernel)

set_option maxHeartbeats 4000000 in
set_option maxRecDepth 100000 in
theorem c_X6_edgesFrom (l : Launch) (G : GG) (q lq n e : Nat) (g : Nat → Nat) (i : Nat) (hi : i < 5) (hg : ∀ j, g j < 32) : RM l G yX6_edgesFrom (Cond.code yX6_edgesFrom cX6_edgesFrom 2 (some .int)) { frames := 1, cells := 0, slots := 0, locals := 23 } [.ref q, .int (nI i)] [ob q 6 [.int (nI n), .int (nI e), .ref lq], aI G lq 10 (nF g)] (.int (nI (ones (g (i * 2 + 1 - 1)) + ones (g (i * 2 + 2 - 1))))) := by
  refine RM.ofI (by decide) rfl (fun Γ X ret => ?_)
  show Wc Γ 0 0 0 [(0, .ref q), (1, .int (nI i))] [] [ob q 6 [.int (nI n), .int (nI e), .ref lq], aI G lq 10 (nF g)]
  refine wc_aload_n X 0 0 dX6_edgesFrom_0 rfl ?_
  refine wc_iload_n X 1 1 dX6_edgesFrom_1 rfl ?_
  refine wc_iconstN X 2 1 dX6_edgesFrom_2 ?_
  refine wc_callV X 3 [0, 1] 0 (c_X6_targets l G q lq n e g i 1 (by first | assumption | omega) (by first | assumption | omega) (by first | assumption | omega)) yv_X6_targets kd6 rfl rfl q_332 ⟨rfl, rfl⟩ ⟨rfl, rfl⟩ ⟨rfl, rfl⟩ rfl rfl rfl dX6_edgesFrom_3 ?_
  refine wc_callS X 6 [] (c_J6_bitCount_0f7a4 l G (g (i * 2 + 1 - 1)) (hg _)) ys_J6_bitCount_0f7a4 rfl q_336 ⟨rfl, rfl⟩ ⟨rfl, rfl⟩ ⟨rfl, rfl⟩ rfl rfl rfl dX6_edgesFrom_6 ?_
  refine wc_aload_n X 9 0 dX6_edgesFrom_9 rfl ?_
  refine wc_iload_n X 10 1 dX6_edgesFrom_10 rfl ?_
  refine wc_iconstN X 11 2 dX6_edgesFrom_11 ?_
  refine wc_callV X 12 [0, 1] 0 (c_X6_targets l G q lq n e g i 2 (by first | assumption | omega) (by first | assumption | omega) (by first | assumption | omega)) yv_X6_targets kd6 rfl rfl q_332 ⟨rfl, rfl⟩ ⟨rfl, rfl⟩ ⟨rfl, rfl⟩ rfl rfl rfl dX6_edgesFrom_12 ?_
  refine wc_callS X 15 [] (c_J6_bitCount_0f7a4 l G (g (i * 2 + 2 - 1)) (hg _)) ys_J6_bitCount_0f7a4 rfl q_336 ⟨rfl, rfl⟩ ⟨rfl, rfl⟩ ⟨rfl, rfl⟩ rfl rfl rfl dX6_edgesFrom_15 ?_
  refine wc_iaddN X 18 dX6_edgesFrom_18 ?_
  exact ret 19 _ (nI ((ones (g (i * 2 + 1 - 1))) + (ones (g (i * 2 + 2 - 1))))) dX6_edgesFrom_19 (rfl)

set_option maxHeartbeats 4000000 in
set_option maxRecDepth 100000 in
theorem c_X6_edgeTotal (l : Launch) (G : GG) (q lq n e : Nat) (g : Nat → Nat) (hn : n ≤ 5) (hg : ∀ j, g j < 32) : RM l G yX6_edgeTotal (Cond.code yX6_edgeTotal cX6_edgeTotal 3 (some .int)) { frames := 2, cells := 0, slots := 0, locals := 44 } [.ref q] [ob q 6 [.int (nI n), .int (nI e), .ref lq], aI G lq 10 (nF g)] (.int (nI (edgN g n))) := by
  refine RM.ofI (by decide) rfl (fun Γ X ret => ?_)
  show Wc Γ 0 0 0 [(0, .ref q)] [] [ob q 6 [.int (nI n), .int (nI e), .ref lq], aI G lq 10 (nF g)]
  refine wc_iconstN X 0 0 dX6_edgeTotal_0 ?_
  refine wc_istore_n X 1 (L' := [(0, .ref q), (1, .int (nI 0))]) dX6_edgeTotal_1 (by decide) rfl ?_
  refine wc_iconstN X 2 0 dX6_edgeTotal_2 ?_
  refine wc_istore_n X 3 (L' := [(0, .ref q), (1, .int (nI 0)), (2, .int (nI 0))]) dX6_edgeTotal_3 (by decide) rfl ?_
  have LP_2 : ∀ (fuel_1 : Nat) (i : Nat), (i ≤ n) → n - i < fuel_1 → Wc Γ 0 0 4 [(0, .ref q), (1, .int (nI (edgN g i))), (2, .int (nI i))] [] [ob q 6 [.int (nI n), .int (nI e), .ref lq], aI G lq 10 (nF g)] := by
    intro fuel_1
    induction fuel_1 with
    | zero => intro i hi hm; exact absurd hm (Nat.not_lt_zero _)
    | succ fuel_1 ih_3 =>
      intro i hi hm_4
      refine wc_iload_n X 4 2 dX6_edgeTotal_4 rfl ?_
      refine wc_aload_n X 5 0 dX6_edgeTotal_5 rfl ?_
      refine wc_get X 6 0 0 kd6 rfl (by decide) q_51 rfl dX6_edgeTotal_6 ?_
      refine wc_icmp_geN X 9 26 dX6_edgeTotal_9 (by decide) (by omega) (by omega) (fun c9_5 => ?_) (fun c9_5 => ?_)
      ·
        refine wc_iload_n X 26 1 dX6_edgeTotal_26 rfl ?_
        exact ret 27 _ (nI (edgN g i)) dX6_edgeTotal_27 (by rw [show i = n by omega])
      ·
        refine wc_iload_n X 12 1 dX6_edgeTotal_12 rfl ?_
        refine wc_aload_n X 13 0 dX6_edgeTotal_13 rfl ?_
        refine wc_iload_n X 14 2 dX6_edgeTotal_14 rfl ?_
        refine wc_callV X 15 [0, 1] 0 (c_X6_edgesFrom l G q lq n e g i (by first | assumption | omega) (by first | assumption | omega)) yv_X6_edgesFrom kd6 rfl rfl q_328 ⟨rfl, rfl⟩ ⟨rfl, rfl⟩ ⟨rfl, rfl⟩ rfl rfl rfl dX6_edgeTotal_15 ?_
        refine wc_iaddN X 18 dX6_edgeTotal_18 ?_
        refine wc_istore_n X 19 (L' := [(0, .ref q), (1, .int (nI ((edgN g i) + (ones (g (i * 2 + 1 - 1)) + ones (g (i * 2 + 2 - 1)))))), (2, .int (nI i))]) dX6_edgeTotal_19 (by decide) rfl ?_
        refine wc_iincN X 20 2 (L' := [(0, .ref q), (1, .int (nI ((edgN g i) + (ones (g (i * 2 + 1 - 1)) + ones (g (i * 2 + 2 - 1)))))), (2, .int (nI (i + 1)))]) dX6_edgeTotal_20 rfl (by decide) rfl ?_
        refine wc_goto X 23 4 dX6_edgeTotal_23 (by decide) ?_
        refine wc_L (L' := [(0, .ref q), (1, .int (nI (edgN g (i + 1)))), (2, .int (nI (i + 1)))]) (by rfl) ?_
        exact ih_3 (i + 1) (by omega) (by omega)
  refine wc_L (L' := [(0, .ref q), (1, .int (nI (edgN g 0))), (2, .int (nI 0))]) (by rfl) ?_
  exact LP_2 (n - 0 + 1) 0 (by omega) (Nat.lt_succ_self _)

set_option maxHeartbeats 4000000 in
set_option maxRecDepth 100000 in
theorem c_X6_step (l : Launch) (G : GG) (q lq n e : Nat) (g : Nat → Nat) (S c : Nat) (hn : n ≤ 5) (hS : S < 32) (h1 : 1 ≤ c) (h2 : c ≤ 2) : RM l G yX6_step (Cond.code yX6_step cX6_step 5 (some .int)) { frames := 1, cells := 0, slots := 0, locals := 23 } [.ref q, .int (nI S), .int (nI c)] [ob q 6 [.int (nI n), .int (nI e), .ref lq], aI G lq 10 (nF g)] (.int (nI (stepN g S c n))) := by
  refine RM.ofI (by decide) rfl (fun Γ X ret => ?_)
  show Wc Γ 0 0 0 [(0, .ref q), (1, .int (nI S)), (2, .int (nI c))] [] [ob q 6 [.int (nI n), .int (nI e), .ref lq], aI G lq 10 (nF g)]
  refine wc_iconstN X 0 0 dX6_step_0 ?_
  refine wc_istore_n X 1 (L' := [(0, .ref q), (1, .int (nI S)), (2, .int (nI c)), (3, .int (nI 0))]) dX6_step_1 (by decide) rfl ?_
  refine wc_iconstN X 2 0 dX6_step_2 ?_
  refine wc_istore X 3 (L' := [(0, .ref q), (1, .int (nI S)), (2, .int (nI c)), (3, .int (nI 0)), (4, .int (nI 0))]) dX6_step_3 (by decide) rfl ?_
  have LP_2 : ∀ (fuel_1 : Nat) (i : Nat), (i ≤ n) → n - i < fuel_1 → Wc Γ 0 0 5 [(0, .ref q), (1, .int (nI S)), (2, .int (nI c)), (3, .int (nI (stepN g S c i))), (4, .int (nI i))] [] [ob q 6 [.int (nI n), .int (nI e), .ref lq], aI G lq 10 (nF g)] := by
    intro fuel_1
    induction fuel_1 with
    | zero => intro i hi hm; exact absurd hm (Nat.not_lt_zero _)
    | succ fuel_1 ih_3 =>
      intro i hi hm_4
      refine wc_iload X 5 4 dX6_step_5 rfl ?_
      refine wc_aload_n X 7 0 dX6_step_7 rfl ?_
      refine wc_get X 8 0 0 kd6 rfl (by decide) q_51 rfl dX6_step_8 ?_
      refine wc_icmp_geN X 11 39 dX6_step_11 (by decide) (by omega) (by omega) (fun c11_5 => ?_) (fun c11_5 => ?_)
      ·
        refine wc_iload_n X 39 3 dX6_step_39 rfl ?_
        exact ret 40 _ (nI (stepN g S c i)) dX6_step_40 (by rw [show i = n by omega])
      ·
        refine wc_iload_n X 14 1 dX6_step_14 rfl ?_
        refine wc_iload X 15 4 dX6_step_15 rfl ?_
        refine wc_ishrN X 17 dX6_step_17 (by omega) (by omega) ?_
        refine wc_iconstN X 18 1 dX6_step_18 ?_
        refine wc_iandN X 19 dX6_step_19 ?_
        refine wc_topi (b2i (Nat.testBit S i)) (nI_bit _ _) ?_
        refine wc_if_eqB X 20 33 dX6_step_20 (by decide) (fun c20_6 => ?_) (fun c20_6 => ?_)
        ·
          refine wc_iincN X 33 4 (L' := [(0, .ref q), (1, .int (nI S)), (2, .int (nI c)), (3, .int (nI (stepN g S c i))), (4, .int (nI (i + 1)))]) dX6_step_33 rfl (by decide) rfl ?_
          refine wc_goto X 36 5 dX6_step_36 (by decide) ?_
          have e_7 : stepN g S c i = stepN g S c (i + 1) := by rw [stepN]; simp [c20_6]
          refine wc_L (L' := [(0, .ref q), (1, .int (nI S)), (2, .int (nI c)), (3, .int (nI (stepN g S c (i + 1)))), (4, .int (nI (i + 1)))]) (by first | rfl | rw [e_7] | (rw [e_7]; rfl)) ?_
          exact ih_3 (i + 1) (by omega) (by omega)
        ·
          refine wc_iload_n X 23 3 dX6_step_23 rfl ?_
          refine wc_aload_n X 24 0 dX6_step_24 rfl ?_
          refine wc_iload X 25 4 dX6_step_25 rfl ?_
          refine wc_iload_n X 27 2 dX6_step_27 rfl ?_
          refine wc_callV X 28 [0, 1] 0 (c_X6_targets l G q lq n e g i c (by first | assumption | omega) (by first | assumption | omega) (by first | assumption | omega)) yv_X6_targets kd6 rfl rfl q_332 ⟨rfl, rfl⟩ ⟨rfl, rfl⟩ ⟨rfl, rfl⟩ rfl rfl rfl dX6_step_28 ?_
          refine wc_iorN X 31 dX6_step_31 ?_
          refine wc_istore_n X 32 (L' := [(0, .ref q), (1, .int (nI S)), (2, .int (nI c)), (3, .int (nI ((stepN g S c i) ||| (g (i * 2 + c - 1))))), (4, .int (nI i))]) dX6_step_32 (by decide) rfl ?_
          refine wc_iincN X 33 4 (L' := [(0, .ref q), (1, .int (nI S)), (2, .int (nI c)), (3, .int (nI ((stepN g S c i) ||| (g (i * 2 + c - 1))))), (4, .int (nI (i + 1)))]) dX6_step_33 rfl (by decide) rfl ?_
          refine wc_goto X 36 5 dX6_step_36 (by decide) ?_
          have e_8 : (stepN g S c i) ||| (g (i * 2 + c - 1)) = stepN g S c (i + 1) := by rw [stepN]; simp [c20_6]
          refine wc_L (L' := [(0, .ref q), (1, .int (nI S)), (2, .int (nI c)), (3, .int (nI (stepN g S c (i + 1)))), (4, .int (nI (i + 1)))]) (by first | rfl | rw [e_8] | (rw [e_8]; rfl)) ?_
          exact ih_3 (i + 1) (by omega) (by omega)
  refine wc_L (L' := [(0, .ref q), (1, .int (nI S)), (2, .int (nI c)), (3, .int (nI (stepN g S c 0))), (4, .int (nI 0))]) (by rfl) ?_
  exact LP_2 (n - 0 + 1) 0 (by omega) (Nat.lt_succ_self _)

set_option maxHeartbeats 4000000 in
set_option maxRecDepth 100000 in
theorem c_X10_isLetter (l : Launch) (G : GG) (x : Int32)  : RM l G yX10_isLetter (Cond.code yX10_isLetter cX10_isLetter 1 (some .boolean)) { frames := 0, cells := 0, slots := 0, locals := 0 } [.int x] [] (.int (b2i (decide (x = nI 1) || decide (x = nI 2)))) := by
  refine RM.ofZ (by decide) rfl (fun Γ X ret => ?_)
  show Wc Γ 0 0 0 [(0, .int x)] [] []
  refine wc_iload_n X 0 0 dX10_isLetter_0 rfl ?_
  refine wc_iconstN X 1 1 dX10_isLetter_1 ?_
  refine wc_icmp_eq X 2 10 dX10_isLetter_2 (by decide) (fun c2_1 => ?_) (fun c2_1 => ?_)
  ·
    refine wc_iconstN X 10 1 dX10_isLetter_10 ?_
    refine wc_goto X 11 15 dX10_isLetter_11 (by decide) ?_
    refine wc_st (st' := [.int (b2i true)]) rfl ?_
    exact ret 15 _ true dX10_isLetter_15 (by first | rfl | (simp [c2_1]; done) | (simp [c2_1] <;> omega))
  ·
    refine wc_iload_n X 5 0 dX10_isLetter_5 rfl ?_
    refine wc_iconstN X 6 2 dX10_isLetter_6 ?_
    refine wc_icmp_ne X 7 14 dX10_isLetter_7 (by decide) (fun c7_2 => ?_) (fun c7_2 => ?_)
    ·
      refine wc_iconstN X 14 0 dX10_isLetter_14 ?_
      refine wc_st (st' := [.int (b2i false)]) rfl ?_
      exact ret 15 _ false dX10_isLetter_15 (by first | rfl | (simp [c2_1, c7_2]; done) | (simp [c2_1, c7_2] <;> omega))
    ·
      refine wc_iconstN X 10 1 dX10_isLetter_10 ?_
      refine wc_goto X 11 15 dX10_isLetter_11 (by decide) ?_
      refine wc_st (st' := [.int (b2i true)]) rfl ?_
      exact ret 15 _ true dX10_isLetter_15 (by first | rfl | (simp [c2_1, c7_2]; done) | (simp [c2_1, c7_2] <;> omega))

set_option maxHeartbeats 4000000 in
set_option maxRecDepth 100000 in
theorem c_X10_isLetterN (l : Launch) (G : GG) (i : Nat) (hi : i < 1000) : RM l G yX10_isLetter (Cond.code yX10_isLetter cX10_isLetter 1 (some .boolean)) { frames := 0, cells := 0, slots := 0, locals := 0 } [.int (nI i)] [] (.int (b2i (isLet i))) := by
  refine RM.ofZ (by decide) rfl (fun Γ X ret => ?_)
  show Wc Γ 0 0 0 [(0, .int (nI i))] [] []
  refine wc_iload_n X 0 0 dX10_isLetter_0 rfl ?_
  refine wc_iconstN X 1 1 dX10_isLetter_1 ?_
  refine wc_icmp_eqN X 2 10 dX10_isLetter_2 (by decide) (by omega) (by decide) (fun c2_1 => ?_) (fun c2_1 => ?_)
  ·
    refine wc_iconstN X 10 1 dX10_isLetter_10 ?_
    refine wc_goto X 11 15 dX10_isLetter_11 (by decide) ?_
    refine wc_st (st' := [.int (b2i true)]) rfl ?_
    exact ret 15 _ true dX10_isLetter_15 (by simp [isLet, c2_1])
  ·
    refine wc_iload_n X 5 0 dX10_isLetter_5 rfl ?_
    refine wc_iconstN X 6 2 dX10_isLetter_6 ?_
    refine wc_icmp_neN X 7 14 dX10_isLetter_7 (by decide) (by omega) (by decide) (fun c7_2 => ?_) (fun c7_2 => ?_)
    ·
      refine wc_iconstN X 14 0 dX10_isLetter_14 ?_
      refine wc_st (st' := [.int (b2i false)]) rfl ?_
      exact ret 15 _ false dX10_isLetter_15 (by simp [isLet, c2_1, c7_2])
    ·
      refine wc_iconstN X 10 1 dX10_isLetter_10 ?_
      refine wc_goto X 11 15 dX10_isLetter_11 (by decide) ?_
      refine wc_st (st' := [.int (b2i true)]) rfl ?_
      exact ret 15 _ true dX10_isLetter_15 (by simp [isLet, c2_1, c7_2])

set_option maxHeartbeats 4000000 in
set_option maxRecDepth 100000 in
theorem c_X6_walk (l : Launch) (G : GG) (q lq n e : Nat) (g : Nat → Nat) (S w : Nat) (hn : n ≤ 5) (hS : S < 32) (hw : w < 2147483648) (hg : ∀ j, g j < 32) : RM l G yX6_walk (Cond.code yX6_walk cX6_walk 6 (some .int)) { frames := 2, cells := 0, slots := 0, locals := 47 } [.ref q, .int (nI S), .int (nI w)] [ob q 6 [.int (nI n), .int (nI e), .ref lq], aI G lq 10 (nF g)] (.int (nI (walkD g n w S 9))) := by
  refine RM.ofI (by decide) rfl (fun Γ X ret => ?_)
  show Wc Γ 0 0 0 [(0, .ref q), (1, .int (nI S)), (2, .int (nI w))] [] [ob q 6 [.int (nI n), .int (nI e), .ref lq], aI G lq 10 (nF g)]
  refine wc_iload_n X 0 1 dX6_walk_0 rfl ?_
  refine wc_istore_n X 1 (L' := [(0, .ref q), (1, .int (nI S)), (2, .int (nI w)), (3, .int (nI S))]) dX6_walk_1 (by decide) rfl ?_
  refine wc_getTENS X 2 dX6_walk_2 ?_
  refine wc_tensLen X 5 dX6_walk_5 ?_
  refine wc_iconstN X 6 1 dX6_walk_6 ?_
  refine wc_isubN X 7 dX6_walk_7 (by omega) ?_
  refine wc_istore X 8 (L' := [(0, .ref q), (1, .int (nI S)), (2, .int (nI w)), (3, .int (nI S)), (4, .int (nI (9 - 1)))]) dX6_walk_8 (by decide) rfl ?_
  have LP_2 : ∀ (fuel_1 : Nat) (j : Nat), (j ≤ 9) → j < fuel_1 → Wc Γ 0 0 10 [(0, .ref q), (1, .int (nI S)), (2, .int (nI w)), (3, .int (nI (walkD g n w S (9 - j)))), (4, .int (nI j - 1))] [] [ob q 6 [.int (nI n), .int (nI e), .ref lq], aI G lq 10 (nF g)] := by
    intro fuel_1
    induction fuel_1 with
    | zero => intro j hj hm; exact absurd hm (Nat.not_lt_zero _)
    | succ fuel_1 ih_3 =>
      intro j hj hm_4
      refine wc_iload X 10 4 dX6_walk_10 rfl ?_
      refine wc_if_lt X 12 50 dX6_walk_12 (by decide) (fun c12_5 => ?_) (fun c12_5 => ?_)
      ·
        have hj0 := nI_m1_0 (by omega) c12_5
        refine wc_iload_n X 50 3 dX6_walk_50 rfl ?_
        exact ret 51 _ (nI (walkD g n w S (9 - j))) dX6_walk_51 (by rw [hj0])
      ·
        obtain ⟨j1, rfl⟩ := nI_m1_s c12_5
        refine wc_L (L' := [(0, .ref q), (1, .int (nI S)), (2, .int (nI w)), (3, .int (nI (walkD g n w S (9 - (j1 + 1))))), (4, .int (nI j1))]) (by rw [nI_pred]) ?_
        refine wc_iload_n X 15 2 dX6_walk_15 rfl ?_
        refine wc_getTENS X 16 dX6_walk_16 ?_
        refine wc_iload X 19 4 dX6_walk_19 rfl ?_
        refine wc_tensAt X 21 (by omega) dX6_walk_21 ?_
        refine wc_idivN X 22 dX6_walk_22 (by omega) (Nat.pow_pos (by decide)) (Nat.lt_of_le_of_lt (Nat.pow_le_pow_right (by decide) (show j1 ≤ 8 by omega)) (by decide)) ?_
        refine wc_bipush X 23 (nI 10) dX6_walk_23 (by decide) ?_
        refine wc_iremN X 25 dX6_walk_25 (Nat.lt_of_le_of_lt (Nat.div_le_self _ _) hw) (by decide) (by decide) ?_
        refine wc_istore X 26 (L' := [(0, .ref q), (1, .int (nI S)), (2, .int (nI w)), (3, .int (nI (walkD g n w S (9 - (j1 + 1))))), (4, .int (nI j1)), (5, .int (nI ((w / (10 ^ j1)) % 10)))]) dX6_walk_26 (by decide) rfl ?_
        refine wc_iload X 28 5 dX6_walk_28 rfl ?_
        refine wc_callSN X 30 (c_X10_isLetterN l G ((w / (10 ^ j1)) % 10) (Nat.lt_trans (Nat.mod_lt _ (by decide)) (by decide))) ys_X10_isLetter X.zn.2.2.2.2.2.1 ⟨rfl, rfl⟩ ⟨rfl, rfl⟩ ⟨rfl, rfl⟩ rfl rfl rfl dX6_walk_30 ?_
        refine wc_if_eqB X 33 44 dX6_walk_33 (by decide) (fun c33_6 => ?_) (fun c33_6 => ?_)
        ·
          refine wc_iinc X 44 4 (L' := [(0, .ref q), (1, .int (nI S)), (2, .int (nI w)), (3, .int (nI (walkD g n w S (9 - (j1 + 1))))), (4, .int (nI j1 + (-1))), (5, .int (nI ((w / (10 ^ j1)) % 10)))]) dX6_walk_44 rfl rfl (by decide) rfl ?_
          refine wc_goto X 47 10 dX6_walk_47 (by decide) ?_
          refine wc_loc [0, 1, 2, 3, 4] (L' := [(0, .ref q), (1, .int (nI S)), (2, .int (nI w)), (3, .int (nI (walkD g n w S (9 - (j1 + 1))))), (4, .int (nI j1 + (-1)))]) rfl ?_
          have e_7 : walkD g n w S (9 - (j1 + 1)) = walkD g n w S (9 - j1) := by rw [show 9 - j1 = (9 - (j1 + 1)) + 1 by omega, walkD, show 8 - (9 - (j1 + 1)) = j1 by omega]; simp [c33_6]
          have e_8 : (nI j1 + (-1)) = nI j1 - 1 := by rw [Int32.sub_eq_add_neg]
          refine wc_L (L' := [(0, .ref q), (1, .int (nI S)), (2, .int (nI w)), (3, .int (nI (walkD g n w S (9 - j1)))), (4, .int (nI j1 - 1))]) (by first | rfl | rw [e_7, e_8] | (rw [e_7, e_8]; rfl)) ?_
          exact ih_3 j1 (by omega) (by omega)
        ·
          refine wc_aload_n X 36 0 dX6_walk_36 rfl ?_
          refine wc_iload_n X 37 3 dX6_walk_37 rfl ?_
          refine wc_iload X 38 5 dX6_walk_38 rfl ?_
          refine wc_callV X 40 [0, 1] 0 (c_X6_step l G q lq n e g (walkD g n w S (9 - (j1 + 1))) ((w / (10 ^ j1)) % 10) (by first | assumption | omega) (walkD_lt hg hS _ _ _) (isLet_1 c33_6) (isLet_2 c33_6)) yv_X6_step kd6 rfl rfl q_463 ⟨rfl, rfl⟩ ⟨rfl, rfl⟩ ⟨rfl, rfl⟩ rfl rfl rfl dX6_walk_40 ?_
          refine wc_istore_n X 43 (L' := [(0, .ref q), (1, .int (nI S)), (2, .int (nI w)), (3, .int (nI (stepN g (walkD g n w S (9 - (j1 + 1))) ((w / (10 ^ j1)) % 10) n))), (4, .int (nI j1)), (5, .int (nI ((w / (10 ^ j1)) % 10)))]) dX6_walk_43 (by decide) rfl ?_
          refine wc_iinc X 44 4 (L' := [(0, .ref q), (1, .int (nI S)), (2, .int (nI w)), (3, .int (nI (stepN g (walkD g n w S (9 - (j1 + 1))) ((w / (10 ^ j1)) % 10) n))), (4, .int (nI j1 + (-1))), (5, .int (nI ((w / (10 ^ j1)) % 10)))]) dX6_walk_44 rfl rfl (by decide) rfl ?_
          refine wc_goto X 47 10 dX6_walk_47 (by decide) ?_
          refine wc_loc [0, 1, 2, 3, 4] (L' := [(0, .ref q), (1, .int (nI S)), (2, .int (nI w)), (3, .int (nI (stepN g (walkD g n w S (9 - (j1 + 1))) ((w / (10 ^ j1)) % 10) n))), (4, .int (nI j1 + (-1)))]) rfl ?_
          have e_9 : stepN g (walkD g n w S (9 - (j1 + 1))) ((w / (10 ^ j1)) % 10) n = walkD g n w S (9 - j1) := by rw [show 9 - j1 = (9 - (j1 + 1)) + 1 by omega, walkD, show 8 - (9 - (j1 + 1)) = j1 by omega]; simp [c33_6]
          have e_10 : (nI j1 + (-1)) = nI j1 - 1 := by rw [Int32.sub_eq_add_neg]
          refine wc_L (L' := [(0, .ref q), (1, .int (nI S)), (2, .int (nI w)), (3, .int (nI (walkD g n w S (9 - j1)))), (4, .int (nI j1 - 1))]) (by first | rfl | rw [e_9, e_10] | (rw [e_9, e_10]; rfl)) ?_
          exact ih_3 j1 (by omega) (by omega)
  have e_11 : (.int (nI (9 - 1)) : Value) = .int (nI 9 - 1) := rfl
  refine wc_L (L' := [(0, .ref q), (1, .int (nI S)), (2, .int (nI w)), (3, .int (nI (walkD g n w S (9 - 9)))), (4, .int (nI 9 - 1))]) (by first | rfl | rw [e_11] | (rw [e_11]; rfl)) ?_
  exact LP_2 (9 + 1) 9 (by omega) (Nat.lt_succ_self _)

set_option maxHeartbeats 4000000 in
set_option maxRecDepth 100000 in
theorem c_X6_accepts (l : Launch) (G : GG) (q lq n e : Nat) (g : Nat → Nat) (S w : Nat) (hn : n ≤ 5) (hS : S < 32) (hw : w < 2147483648) (hg : ∀ j, g j < 32) : RM l G yX6_accepts (Cond.code yX6_accepts cX6_accepts 3 (some .boolean)) { frames := 3, cells := 0, slots := 0, locals := 72 } [.ref q, .int (nI S), .int (nI w)] [ob q 6 [.int (nI n), .int (nI e), .ref lq], aI G lq 10 (nF g)] (.int (b2i (walkD g n w S 9 &&& e != 0))) := by
  refine RM.ofZ (by decide) rfl (fun Γ X ret => ?_)
  show Wc Γ 0 0 0 [(0, .ref q), (1, .int (nI S)), (2, .int (nI w))] [] [ob q 6 [.int (nI n), .int (nI e), .ref lq], aI G lq 10 (nF g)]
  refine wc_aload_n X 0 0 dX6_accepts_0 rfl ?_
  refine wc_aload_n X 1 0 dX6_accepts_1 rfl ?_
  refine wc_iload_n X 2 1 dX6_accepts_2 rfl ?_
  refine wc_iload_n X 3 2 dX6_accepts_3 rfl ?_
  refine wc_callV X 4 [0, 1] 0 (c_X6_walk l G q lq n e g S w (by first | assumption | omega) (by first | assumption | omega) (by first | assumption | omega) (by first | assumption | omega)) yv_X6_walk kd6 rfl rfl q_456 ⟨rfl, rfl⟩ ⟨rfl, rfl⟩ ⟨rfl, rfl⟩ rfl rfl rfl dX6_accepts_4 ?_
  refine wc_callV X 7 [0] 0 (c_X6_hasEndIn l G q lq n e (walkD g n w S 9) (walkD_lt hg hS _ _ _)) yv_X6_hasEndIn kd6 rfl rfl q_467 ⟨rfl, rfl⟩ ⟨rfl, rfl⟩ ⟨rfl, rfl⟩ rfl rfl rfl dX6_accepts_7 ?_
  exact ret 10 _ ((walkD g n w S 9) &&& e != 0) dX6_accepts_10 (by first | rfl | (simp []; done) | (simp [] <;> omega))

set_option maxHeartbeats 4000000 in
set_option maxRecDepth 100000 in
theorem c_J7_fill_53178 (l : Launch) (G : GG) (q K : Nat) (f : Nat → Int32) (x : Int32) (hK : K < 2147483648) : MM l G yJ7_fill_53178 (Cond.code yJ7_fill_53178 cJ7_fill_53178 4 none) { frames := 0, cells := 0, slots := 0, locals := 0 } [.ref q, .int x] [aI G q K f] (fun (v : Option Value) (w : va_W) => v = none ∧ w = [aI G q K (fillF f x K)]) 0 0 := by
  refine MM.ofV (by decide) rfl (fun Γ X Y hnm ret => ?_)
  show Wc Γ 0 0 0 [(0, .ref q), (1, .int x)] [] [aI G q K f]
  refine wc_iconstN X 0 0 dJ7_fill_53178_0 ?_
  refine wc_istore_n X 1 (L' := [(0, .ref q), (1, .int x), (2, .int (nI 0))]) dJ7_fill_53178_1 (by decide) rfl ?_
  refine wc_aload_n X 2 0 dJ7_fill_53178_2 rfl ?_
  refine wc_alenI X 3 0 rfl dJ7_fill_53178_3 ?_
  refine wc_istore_n X 4 (L' := [(0, .ref q), (1, .int x), (2, .int (nI 0)), (3, .int (nI K))]) dJ7_fill_53178_4 (by decide) rfl ?_
  have LP_2 : ∀ (fuel_1 : Nat) (i : Nat), (i ≤ K) → K - i < fuel_1 → Wc Γ 0 0 5 [(0, .ref q), (1, .int x), (2, .int (nI i)), (3, .int (nI K))] [] [aI G q K (fillF f x i)] := by
    intro fuel_1
    induction fuel_1 with
    | zero => intro i hi hm; exact absurd hm (Nat.not_lt_zero _)
    | succ fuel_1 ih_3 =>
      intro i hi hm_4
      refine wc_iload_n X 5 2 dJ7_fill_53178_5 rfl ?_
      refine wc_iload_n X 6 3 dJ7_fill_53178_6 rfl ?_
      refine wc_icmp_geN X 7 20 dJ7_fill_53178_7 (by decide) (by omega) (by omega) (fun c7_5 => ?_) (fun c7_5 => ?_)
      ·
        exact ret 20 _ _ dJ7_fill_53178_20 (⟨rfl, by rw [show i = K by omega]⟩)
      ·
        refine wc_aload_n X 10 0 dJ7_fill_53178_10 rfl ?_
        refine wc_iload_n X 11 2 dJ7_fill_53178_11 rfl ?_
        refine wc_iload_n X 12 1 dJ7_fill_53178_12 rfl ?_
        refine wc_iastN X Y 13 0 rfl (by omega) (by omega) (ws' := [aI G q K (upd (fillF f x i) i x)]) rfl dJ7_fill_53178_13 ?_
        refine wc_iincN X 14 2 (L' := [(0, .ref q), (1, .int x), (2, .int (nI (i + 1))), (3, .int (nI K))]) dJ7_fill_53178_14 rfl (by decide) rfl ?_
        refine wc_goto X 17 5 dJ7_fill_53178_17 (by decide) ?_
        refine wc_L (L' := [(0, .ref q), (1, .int x), (2, .int (nI (i + 1))), (3, .int (nI K))]) (by rfl) ?_
        refine wc_ws (ws' := [aI G q K (fillF f x (i + 1))]) (by rw [fillF_s]) ?_
        exact ih_3 (i + 1) (by omega) (by omega)
  refine wc_ws (ws' := [aI G q K (fillF f x 0)]) (by rw [fillF_0]) ?_
  exact LP_2 (K - 0 + 1) 0 (by omega) (Nat.lt_succ_self _)

set_option maxHeartbeats 4000000 in
set_option maxRecDepth 100000 in
theorem c_X6_reset (l : Launch) (G : GG) (q lq n e : Nat) (g : Nat → Nat) (k : Nat)  : MM l G yX6_reset (Cond.code yX6_reset cX6_reset 2 none) { frames := 1, cells := 0, slots := 0, locals := 23 } [.ref q, .int (nI k)] [ob q 6 [.int (nI n), .int (nI e), .ref lq], aI G lq 10 (nF g)] (fun (v : Option Value) (w : va_W) => v = none ∧ w = [ob q 6 [.int (nI k), .int (nI 0), .ref lq], aI G lq 10 (nF (fun _ => 0))]) 0 0 := by
  refine MM.ofV (by decide) rfl (fun Γ X Y hnm ret => ?_)
  show Wc Γ 0 0 0 [(0, .ref q), (1, .int (nI k))] [] [ob q 6 [.int (nI n), .int (nI e), .ref lq], aI G lq 10 (nF g)]
  refine wc_aload_n X 0 0 dX6_reset_0 rfl ?_
  refine wc_iload_n X 1 1 dX6_reset_1 rfl ?_
  refine wc_put X Y 2 0 0 kd6 rfl (by decide) q_51 rfl rfl rfl (Nat.le_of_ble_eq_true rfl) (ws' := [ob q 6 [.int (nI k), .int (nI e), .ref lq], aI G lq 10 (nF g)]) rfl dX6_reset_2 ?_
  refine wc_aload_n X 5 0 dX6_reset_5 rfl ?_
  refine wc_iconstN X 6 0 dX6_reset_6 ?_
  refine wc_put X Y 7 0 1 kd6 rfl (by decide) q_54 rfl rfl rfl (Nat.le_of_ble_eq_true rfl) (ws' := [ob q 6 [.int (nI k), .int (nI 0), .ref lq], aI G lq 10 (nF g)]) rfl dX6_reset_7 ?_
  refine wc_aload_n X 10 0 dX6_reset_10 rfl ?_
  refine wc_get X 11 0 2 kd6 rfl (by decide) q_59 rfl dX6_reset_11 ?_
  refine wc_iconstN X 14 0 dX6_reset_14 ?_
  refine wc_mutS X Y 15 [1] [0] (c_J7_fill_53178 l G lq 10 (nF g) (nI 0) (by decide)) ys_J7_fill_53178 rfl (wr := [ob q 6 [.int (nI k), .int (nI 0), .ref lq]]) rfl ⟨rfl, rfl, rfl⟩ q_317 ⟨rfl, rfl⟩ ⟨rfl, rfl⟩ ⟨rfl, rfl⟩ rfl rfl rfl dX6_reset_15 (fun v w hp_1 => ?_)
  obtain ⟨rfl, rfl⟩ := hp_1
  refine wc_perm Y [0, 1] [ob q 6 [.int (nI k), .int (nI 0), .ref lq], aI G lq 10 (fillF (nF g) (nI 0) 10)] rfl rfl ?_
  show Wc Γ 0 0 18 [(0, .ref q), (1, .int (nI k))] [] [ob q 6 [.int (nI k), .int (nI 0), .ref lq], aI G lq 10 (fillF (nF g) (nI 0) 10)]
  refine wc_ext X Y 1 (f' := nF (fun _ => 0)) rfl (fun j hj => by unfold fillF; rw [if_pos hj]; rfl) (ws' := [ob q 6 [.int (nI k), .int (nI 0), .ref lq], aI G lq 10 (nF (fun _ => 0))]) rfl ?_
  exact ret 18 _ _ dX6_reset_18 (⟨rfl, rfl⟩)

set_option maxHeartbeats 4000000 in
set_option maxRecDepth 100000 in
theorem c_X6_copyFrom (l : Launch) (G : GG) (q lq n e : Nat) (g : Nat → Nat) (q2 lq2 n2 e2 : Nat) (g2 : Nat → Nat)  : MM l G yX6_copyFrom (Cond.code yX6_copyFrom cX6_copyFrom 2 none) { frames := 1, cells := 0, slots := 0, locals := 18 } [.ref q, .ref q2] [ob q 6 [.int (nI n), .int (nI e), .ref lq], aI G lq 10 (nF g), ob q2 6 [.int (nI n2), .int (nI e2), .ref lq2], aI G lq2 10 (nF g2)] (fun (v : Option Value) (w : va_W) => v = none ∧ w = [ob q 6 [.int (nI n2), .int (nI e2), .ref lq], aI G lq 10 (nF g2), ob q2 6 [.int (nI n2), .int (nI e2), .ref lq2], aI G lq2 10 (nF g2)]) 0 0 := by
  refine MM.ofV (by decide) rfl (fun Γ X Y hnm ret => ?_)
  show Wc Γ 0 0 0 [(0, .ref q), (1, .ref q2)] [] [ob q 6 [.int (nI n), .int (nI e), .ref lq], aI G lq 10 (nF g), ob q2 6 [.int (nI n2), .int (nI e2), .ref lq2], aI G lq2 10 (nF g2)]
  refine wc_aload_n X 0 0 dX6_copyFrom_0 rfl ?_
  refine wc_aload_n X 1 1 dX6_copyFrom_1 rfl ?_
  refine wc_get X 2 2 0 kd6 rfl (by decide) q_51 rfl dX6_copyFrom_2 ?_
  refine wc_put X Y 5 0 0 kd6 rfl (by decide) q_51 rfl rfl rfl (Nat.le_of_ble_eq_true rfl) (ws' := [ob q 6 [.int (nI n2), .int (nI e), .ref lq], aI G lq 10 (nF g), ob q2 6 [.int (nI n2), .int (nI e2), .ref lq2], aI G lq2 10 (nF g2)]) rfl dX6_copyFrom_5 ?_
  refine wc_aload_n X 8 0 dX6_copyFrom_8 rfl ?_
  refine wc_aload_n X 9 1 dX6_copyFrom_9 rfl ?_
  refine wc_get X 10 2 1 kd6 rfl (by decide) q_54 rfl dX6_copyFrom_10 ?_
  refine wc_put X Y 13 0 1 kd6 rfl (by decide) q_54 rfl rfl rfl (Nat.le_of_ble_eq_true rfl) (ws' := [ob q 6 [.int (nI n2), .int (nI e2), .ref lq], aI G lq 10 (nF g), ob q2 6 [.int (nI n2), .int (nI e2), .ref lq2], aI G lq2 10 (nF g2)]) rfl dX6_copyFrom_13 ?_
  refine wc_aload_n X 16 1 dX6_copyFrom_16 rfl ?_
  refine wc_get X 17 2 2 kd6 rfl (by decide) q_59 rfl dX6_copyFrom_17 ?_
  refine wc_iconstN X 20 0 dX6_copyFrom_20 ?_
  refine wc_aload_n X 21 0 dX6_copyFrom_21 rfl ?_
  refine wc_get X 22 0 2 kd6 rfl (by decide) q_59 rfl dX6_copyFrom_22 ?_
  refine wc_iconstN X 25 0 dX6_copyFrom_25 ?_
  refine wc_bipush X 26 (nI 10) dX6_copyFrom_26 (by decide) ?_
  refine wc_copyI X Y 28 3 1 rfl rfl (by decide) (by decide) (by decide) (by decide) (by decide) (ws' := [ob q 6 [.int (nI n2), .int (nI e2), .ref lq], aI G lq 10 (va_cpy (nF g2) (nF g) 0 0 10), ob q2 6 [.int (nI n2), .int (nI e2), .ref lq2], aI G lq2 10 (nF g2)]) rfl q_382 q_384 q_383 q_15 rfl rfl dX6_copyFrom_28 ?_
  refine wc_ext X Y 1 (f' := nF g2) rfl (fun j hj => by rw [pk_cpy_in (Nat.zero_le j) (show j < 0 + 10 by omega), Nat.sub_zero, Nat.zero_add]) (ws' := [ob q 6 [.int (nI n2), .int (nI e2), .ref lq], aI G lq 10 (nF g2), ob q2 6 [.int (nI n2), .int (nI e2), .ref lq2], aI G lq2 10 (nF g2)]) rfl ?_
  exact ret 31 _ _ dX6_copyFrom_31 (⟨rfl, rfl⟩)

set_option maxHeartbeats 4000000 in
set_option maxRecDepth 100000 in
theorem c_X1_of0 (l : Launch) (G : GG) (q qa qb : Nat)  : RM l G yX1_of (Cond.code yX1_of cX1_of 2 (some (.object "WordsWithin$Machine"))) { frames := 0, cells := 0, slots := 0, locals := 0 } [.ref q, .int (nI 0)] [ob q 1 [.ref qa, .ref qb]] (.ref qa) := by
  refine RM.ofA (by decide) rfl (fun Γ X ret => ?_)
  show Wc Γ 0 0 0 [(0, .ref q), (1, .int (nI 0))] [] [ob q 1 [.ref qa, .ref qb]]
  refine wc_iload_n X 0 1 dX1_of_0 rfl ?_
  refine wc_if_neN X 1 11 dX1_of_1 (by decide) (by decide) (fun c1_1 => ?_) (fun c1_1 => ?_)
  ·
    exact absurd rfl c1_1
  ·
    refine wc_aload_n X 4 0 dX1_of_4 rfl ?_
    refine wc_get X 5 0 0 kd1 rfl (by decide) q_67 rfl dX1_of_5 ?_
    refine wc_goto X 8 15 dX1_of_8 (by decide) ?_
    exact ret 15 _ qa dX1_of_15 (rfl)

set_option maxHeartbeats 4000000 in
set_option maxRecDepth 100000 in
theorem c_X1_of1 (l : Launch) (G : GG) (q qa qb : Nat) (x : Int32) (hx : ¬ x = 0) : RM l G yX1_of (Cond.code yX1_of cX1_of 2 (some (.object "WordsWithin$Machine"))) { frames := 0, cells := 0, slots := 0, locals := 0 } [.ref q, .int x] [ob q 1 [.ref qa, .ref qb]] (.ref qb) := by
  refine RM.ofA (by decide) rfl (fun Γ X ret => ?_)
  show Wc Γ 0 0 0 [(0, .ref q), (1, .int x)] [] [ob q 1 [.ref qa, .ref qb]]
  refine wc_iload_n X 0 1 dX1_of_0 rfl ?_
  refine wc_if_ne X 1 11 dX1_of_1 (by decide) (fun c1_1 => ?_) (fun c1_1 => ?_)
  ·
    refine wc_aload_n X 11 0 dX1_of_11 rfl ?_
    refine wc_get X 12 0 1 kd1 rfl (by decide) q_74 rfl dX1_of_12 ?_
    exact ret 15 _ qb dX1_of_15 (rfl)
  ·
    exact absurd c1_1 hx

set_option maxHeartbeats 4000000 in
set_option maxRecDepth 100000 in
theorem c_X1_copyFrom (l : Launch) (G : GG) (q qa la n0 e0 : Nat) (g0 : Nat → Nat) (qb lb n1 e1 : Nat) (g1 : Nat → Nat) (r ra ka m0 d0 : Nat) (f0 : Nat → Nat) (rb kb m1 d1 : Nat) (f1 : Nat → Nat)  : MM l G yX1_copyFrom (Cond.code yX1_copyFrom cX1_copyFrom 2 none) { frames := 2, cells := 0, slots := 0, locals := 39 } [.ref q, .ref r] [ob q 1 [.ref qa, .ref qb], ob qa 6 [.int (nI n0), .int (nI e0), .ref la], aI G la 10 (nF g0), ob qb 6 [.int (nI n1), .int (nI e1), .ref lb], aI G lb 10 (nF g1), ob r 1 [.ref ra, .ref rb], ob ra 6 [.int (nI m0), .int (nI d0), .ref ka], aI G ka 10 (nF f0), ob rb 6 [.int (nI m1), .int (nI d1), .ref kb], aI G kb 10 (nF f1)] (fun (v : Option Value) (w : va_W) => v = none ∧ w = [ob q 1 [.ref qa, .ref qb], ob qa 6 [.int (nI m0), .int (nI d0), .ref la], aI G la 10 (nF f0), ob qb 6 [.int (nI m1), .int (nI d1), .ref lb], aI G lb 10 (nF f1), ob r 1 [.ref ra, .ref rb], ob ra 6 [.int (nI m0), .int (nI d0), .ref ka], aI G ka 10 (nF f0), ob rb 6 [.int (nI m1), .int (nI d1), .ref kb], aI G kb 10 (nF f1)]) 0 0 := by
  refine MM.ofV (by decide) rfl (fun Γ X Y hnm ret => ?_)
  show Wc Γ 0 0 0 [(0, .ref q), (1, .ref r)] [] [ob q 1 [.ref qa, .ref qb], ob qa 6 [.int (nI n0), .int (nI e0), .ref la], aI G la 10 (nF g0), ob qb 6 [.int (nI n1), .int (nI e1), .ref lb], aI G lb 10 (nF g1), ob r 1 [.ref ra, .ref rb], ob ra 6 [.int (nI m0), .int (nI d0), .ref ka], aI G ka 10 (nF f0), ob rb 6 [.int (nI m1), .int (nI d1), .ref kb], aI G kb 10 (nF f1)]
  refine wc_aload_n X 0 0 dX1_copyFrom_0 rfl ?_
  refine wc_get X 1 0 0 kd1 rfl (by decide) q_67 rfl dX1_copyFrom_1 ?_
  refine wc_aload_n X 4 1 dX1_copyFrom_4 rfl ?_
  refine wc_get X 5 5 0 kd1 rfl (by decide) q_67 rfl dX1_copyFrom_5 ?_
  refine wc_mutV X Y 8 [1, 2, 6, 7] [0, 3, 4, 5, 8, 9] 1 (c_X6_copyFrom l G qa la n0 e0 g0 ra ka m0 d0 f0 ) yv_X6_copyFrom kd6 rfl rfl (wr := [ob q 1 [.ref qa, .ref qb], ob qb 6 [.int (nI n1), .int (nI e1), .ref lb], aI G lb 10 (nF g1), ob r 1 [.ref ra, .ref rb], ob rb 6 [.int (nI m1), .int (nI d1), .ref kb], aI G kb 10 (nF f1)]) rfl ⟨rfl, rfl, rfl⟩ q_378 ⟨rfl, rfl⟩ ⟨rfl, rfl⟩ ⟨rfl, rfl⟩ rfl rfl rfl dX1_copyFrom_8 (fun v w hp_1 => ?_)
  obtain ⟨rfl, rfl⟩ := hp_1
  refine wc_perm Y [0, 6, 7, 1, 2, 3, 8, 9, 4, 5] [ob q 1 [.ref qa, .ref qb], ob qa 6 [.int (nI m0), .int (nI d0), .ref la], aI G la 10 (nF f0), ob qb 6 [.int (nI n1), .int (nI e1), .ref lb], aI G lb 10 (nF g1), ob r 1 [.ref ra, .ref rb], ob ra 6 [.int (nI m0), .int (nI d0), .ref ka], aI G ka 10 (nF f0), ob rb 6 [.int (nI m1), .int (nI d1), .ref kb], aI G kb 10 (nF f1)] rfl rfl ?_
  show Wc Γ 0 0 11 [(0, .ref q), (1, .ref r)] [] [ob q 1 [.ref qa, .ref qb], ob qa 6 [.int (nI m0), .int (nI d0), .ref la], aI G la 10 (nF f0), ob qb 6 [.int (nI n1), .int (nI e1), .ref lb], aI G lb 10 (nF g1), ob r 1 [.ref ra, .ref rb], ob ra 6 [.int (nI m0), .int (nI d0), .ref ka], aI G ka 10 (nF f0), ob rb 6 [.int (nI m1), .int (nI d1), .ref kb], aI G kb 10 (nF f1)]
  refine wc_aload_n X 11 0 dX1_copyFrom_11 rfl ?_
  refine wc_get X 12 0 1 kd1 rfl (by decide) q_74 rfl dX1_copyFrom_12 ?_
  refine wc_aload_n X 15 1 dX1_copyFrom_15 rfl ?_
  refine wc_get X 16 5 1 kd1 rfl (by decide) q_74 rfl dX1_copyFrom_16 ?_
  refine wc_mutV X Y 19 [3, 4, 8, 9] [0, 1, 2, 5, 6, 7] 3 (c_X6_copyFrom l G qb lb n1 e1 g1 rb kb m1 d1 f1 ) yv_X6_copyFrom kd6 rfl rfl (wr := [ob q 1 [.ref qa, .ref qb], ob qa 6 [.int (nI m0), .int (nI d0), .ref la], aI G la 10 (nF f0), ob r 1 [.ref ra, .ref rb], ob ra 6 [.int (nI m0), .int (nI d0), .ref ka], aI G ka 10 (nF f0)]) rfl ⟨rfl, rfl, rfl⟩ q_378 ⟨rfl, rfl⟩ ⟨rfl, rfl⟩ ⟨rfl, rfl⟩ rfl rfl rfl dX1_copyFrom_19 (fun v w hp_2 => ?_)
  obtain ⟨rfl, rfl⟩ := hp_2
  refine wc_perm Y [0, 1, 2, 6, 7, 3, 4, 5, 8, 9] [ob q 1 [.ref qa, .ref qb], ob qa 6 [.int (nI m0), .int (nI d0), .ref la], aI G la 10 (nF f0), ob qb 6 [.int (nI m1), .int (nI d1), .ref lb], aI G lb 10 (nF f1), ob r 1 [.ref ra, .ref rb], ob ra 6 [.int (nI m0), .int (nI d0), .ref ka], aI G ka 10 (nF f0), ob rb 6 [.int (nI m1), .int (nI d1), .ref kb], aI G kb 10 (nF f1)] rfl rfl ?_
  show Wc Γ 0 0 22 [(0, .ref q), (1, .ref r)] [] [ob q 1 [.ref qa, .ref qb], ob qa 6 [.int (nI m0), .int (nI d0), .ref la], aI G la 10 (nF f0), ob qb 6 [.int (nI m1), .int (nI d1), .ref lb], aI G lb 10 (nF f1), ob r 1 [.ref ra, .ref rb], ob ra 6 [.int (nI m0), .int (nI d0), .ref ka], aI G ka 10 (nF f0), ob rb 6 [.int (nI m1), .int (nI d1), .ref kb], aI G kb 10 (nF f1)]
  exact ret 22 _ _ dX1_copyFrom_22 (⟨rfl, rfl⟩)

set_option maxHeartbeats 4000000 in
set_option maxRecDepth 100000 in
theorem c_X1_edges (l : Launch) (G : GG) (q qa la n0 e0 : Nat) (g0 : Nat → Nat) (qb lb n1 e1 : Nat) (g1 : Nat → Nat) (hn0 : n0 ≤ 4) (he0 : e0 < 16) (hg0 : ∀ j, g0 j < 16) (hn1 : n1 ≤ 5) (he1 : e1 < 32) (hg1 : ∀ j, g1 j < 32) : RM l G yX1_edges (Cond.code yX1_edges cX1_edges 1 (some .int)) { frames := 3, cells := 0, slots := 0, locals := 66 } [.ref q] [ob q 1 [.ref qa, .ref qb], ob qa 6 [.int (nI n0), .int (nI e0), .ref la], aI G la 10 (nF g0), ob qb 6 [.int (nI n1), .int (nI e1), .ref lb], aI G lb 10 (nF g1)] (.int (nI (edgN g0 n0 + edgN g1 n1))) := by
  refine RM.ofI (by decide) rfl (fun Γ X ret => ?_)
  show Wc Γ 0 0 0 [(0, .ref q)] [] [ob q 1 [.ref qa, .ref qb], ob qa 6 [.int (nI n0), .int (nI e0), .ref la], aI G la 10 (nF g0), ob qb 6 [.int (nI n1), .int (nI e1), .ref lb], aI G lb 10 (nF g1)]
  refine wc_aload_n X 0 0 dX1_edges_0 rfl ?_
  refine wc_get X 1 0 0 kd1 rfl (by decide) q_67 rfl dX1_edges_1 ?_
  refine wc_callV X 4 [1, 2] 1 (c_X6_edgeTotal l G qa la n0 e0 g0 (by first | assumption | omega) (fun j => Nat.lt_trans (hg0 j) (by decide))) yv_X6_edgeTotal kd6 rfl rfl q_389 ⟨rfl, rfl⟩ ⟨rfl, rfl⟩ ⟨rfl, rfl⟩ rfl rfl rfl dX1_edges_4 ?_
  refine wc_aload_n X 7 0 dX1_edges_7 rfl ?_
  refine wc_get X 8 0 1 kd1 rfl (by decide) q_74 rfl dX1_edges_8 ?_
  refine wc_callV X 11 [3, 4] 3 (c_X6_edgeTotal l G qb lb n1 e1 g1 (by first | assumption | omega) (by first | assumption | omega)) yv_X6_edgeTotal kd6 rfl rfl q_389 ⟨rfl, rfl⟩ ⟨rfl, rfl⟩ ⟨rfl, rfl⟩ rfl rfl rfl dX1_edges_11 ?_
  refine wc_iaddN X 14 dX1_edges_14 ?_
  exact ret 15 _ (nI ((edgN g0 n0) + (edgN g1 n1))) dX1_edges_15 (rfl)

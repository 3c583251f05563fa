set_option maxHeartbeats 4000000 in
set_option maxRecDepth 100000 in
theorem c_X7_append (l : Launch) (G : GG) (s lt ts : Nat) (t : Nat → Nat) (c : Nat) (hts : ts < 80) : MM l G yX7_append (Cond.code yX7_append cX7_append 2 none) { frames := 0, cells := 0, slots := 0, locals := 0 } [.ref s, .int (nI c)] [ob s 7 [.int (nI ts), .ref lt], aI G lt 80 (nF t)] (fun (v : Option Value) (w : va_W) => v = none ∧ w = [ob s 7 [.int (nI (ts + 1)), .ref lt], aI G lt 80 (nF (up t ts c))]) 0 0 := by
  refine MM.ofV (by decide) rfl (fun Γ X Y hnm ret => ?_)
  show Wc Γ 0 0 0 [(0, .ref s), (1, .int (nI c))] [] [ob s 7 [.int (nI ts), .ref lt], aI G lt 80 (nF t)]
  refine wc_aload_n X 0 0 dX7_append_0 rfl ?_
  refine wc_get X 1 0 0 kd7 rfl (by decide) q_30 rfl dX7_append_1 ?_
  refine wc_bipush X 4 (nI 80) dX7_append_4 (by decide) ?_
  refine wc_icmp_geN X 6 29 dX7_append_6 (by decide) (by omega) (by decide) (fun c6_1 => ?_) (fun c6_1 => ?_)
  ·
    exact absurd c6_1 (by omega)
  ·
    refine wc_aload_n X 9 0 dX7_append_9 rfl ?_
    refine wc_get X 10 0 1 kd7 rfl (by decide) q_32 rfl dX7_append_10 ?_
    refine wc_aload_n X 13 0 dX7_append_13 rfl ?_
    refine wc_get X 14 0 0 kd7 rfl (by decide) q_30 rfl dX7_append_14 ?_
    refine wc_iload_n X 17 1 dX7_append_17 rfl ?_
    refine wc_iastG X Y 18 1 rfl (by omega) (by decide) (ws' := [ob s 7 [.int (nI ts), .ref lt], aI G lt 80 (nF (up t ts c))]) rfl dX7_append_18 ?_
    refine wc_aload_n X 19 0 dX7_append_19 rfl ?_
    refine wc_dup X 20 dX7_append_20 rfl ?_
    refine wc_get X 21 0 0 kd7 rfl (by decide) q_30 rfl dX7_append_21 ?_
    refine wc_iconstN X 24 1 dX7_append_24 ?_
    refine wc_iaddN X 25 dX7_append_25 ?_
    refine wc_put X Y 26 0 0 kd7 rfl (by decide) q_30 rfl rfl rfl (Nat.le_of_ble_eq_true rfl) (ws' := [ob s 7 [.int (nI (ts + 1)), .ref lt], aI G lt 80 (nF (up t ts c))]) rfl dX7_append_26 ?_
    exact ret 29 _ _ dX7_append_29 (⟨rfl, rfl⟩)

set_option maxHeartbeats 4000000 in
set_option maxRecDepth 100000 in
theorem c_X7_letterAtS (l : Launch) (G : GG) (s lt ts : Nat) (t : Nat → Nat) (a : Nat) (hts : ts ≤ 80) (ha : a < ts) : RM l G yX7_letterAt (Cond.code yX7_letterAt cX7_letterAt 2 (some .int)) { frames := 0, cells := 0, slots := 0, locals := 0 } [.ref s, .int (nI a)] [ob s 7 [.int (nI ts), .ref lt], aI G lt 80 (nF t)] (.int (nI (t a))) := by
  refine RM.ofI (by decide) rfl (fun Γ X ret => ?_)
  show Wc Γ 0 0 0 [(0, .ref s), (1, .int (nI a))] [] [ob s 7 [.int (nI ts), .ref lt], aI G lt 80 (nF t)]
  refine wc_iload_n X 0 1 dX7_letterAt_0 rfl ?_
  refine wc_ifltF X 1 (tgt := 27) dX7_letterAt_1 (by decide) (by omega) ?_
  refine wc_iload_n X 4 1 dX7_letterAt_4 rfl ?_
  refine wc_aload_n X 5 0 dX7_letterAt_5 rfl ?_
  refine wc_get X 6 0 0 kd7 rfl (by decide) q_30 rfl dX7_letterAt_6 ?_
  refine wc_icmp_geN X 9 27 dX7_letterAt_9 (by decide) (by omega) (by omega) (fun c9_2 => ?_) (fun c9_2 => ?_)
  ·
    exact absurd c9_2 (by omega)
  ·
    refine wc_iload_n X 12 1 dX7_letterAt_12 rfl ?_
    refine wc_bipush X 13 (nI 80) dX7_letterAt_13 (by decide) ?_
    refine wc_icmp_geN X 15 27 dX7_letterAt_15 (by decide) (by omega) (by decide) (fun c15_3 => ?_) (fun c15_3 => ?_)
    ·
      exact absurd c15_3 (by omega)
    ·
      refine wc_aload_n X 18 0 dX7_letterAt_18 rfl ?_
      refine wc_get X 19 0 1 kd7 rfl (by decide) q_32 rfl dX7_letterAt_19 ?_
      refine wc_iload_n X 22 1 dX7_letterAt_22 rfl ?_
      refine wc_ialdG X 23 1 rfl (by omega) (by decide) dX7_letterAt_23 ?_
      refine wc_goto X 24 29 dX7_letterAt_24 (by decide) ?_
      exact ret 29 _ (nI (t a)) dX7_letterAt_29 (rfl)

set_option maxHeartbeats 4000000 in
set_option maxRecDepth 100000 in
theorem c_X7_letterAtN (l : Launch) (G : GG) (s lt ts : Nat) (t : Nat → Nat) (a : Nat) (hts : ts ≤ 80) (ha : ts ≤ a) (hb : a < 1000) : RM l G yX7_letterAt (Cond.code yX7_letterAt cX7_letterAt 2 (some .int)) { frames := 0, cells := 0, slots := 0, locals := 0 } [.ref s, .int (nI a)] [ob s 7 [.int (nI ts), .ref lt], aI G lt 80 (nF t)] (.int (-9)) := by
  refine RM.ofI (by decide) rfl (fun Γ X ret => ?_)
  show Wc Γ 0 0 0 [(0, .ref s), (1, .int (nI a))] [] [ob s 7 [.int (nI ts), .ref lt], aI G lt 80 (nF t)]
  refine wc_iload_n X 0 1 dX7_letterAt_0 rfl ?_
  refine wc_ifltF X 1 (tgt := 27) dX7_letterAt_1 (by decide) (by omega) ?_
  refine wc_iload_n X 4 1 dX7_letterAt_4 rfl ?_
  refine wc_aload_n X 5 0 dX7_letterAt_5 rfl ?_
  refine wc_get X 6 0 0 kd7 rfl (by decide) q_30 rfl dX7_letterAt_6 ?_
  refine wc_icmp_geN X 9 27 dX7_letterAt_9 (by decide) (by omega) (by omega) (fun c9_2 => ?_) (fun c9_2 => ?_)
  ·
    refine wc_bipush X 27 (-9) dX7_letterAt_27 (by decide) ?_
    exact ret 29 _ (-9) dX7_letterAt_29 (rfl)
  ·
    exact absurd c9_2 (by omega)

set_option maxHeartbeats 4000000 in
set_option maxRecDepth 100000 in
theorem c_X7_figureAtN (l : Launch) (G : GG) (s lt ts : Nat) (t : Nat → Nat) (a : Nat) (hts : ts ≤ 80) (ht : ∀ j, t j < 256) (ha : a < 1000) (hf : figP t ts a 0 9 = none) : RM l G yX7_figureAt (Cond.code yX7_figureAt cX7_figureAt 3 (some .int)) { frames := 1, cells := 0, slots := 0, locals := 21 } [.ref s, .int (nI a)] [ob s 7 [.int (nI ts), .ref lt], aI G lt 80 (nF t)] (.int (-9)) := by
  refine RM.ofI (by decide) rfl (fun Γ X ret => ?_)
  show Wc Γ 0 0 0 [(0, .ref s), (1, .int (nI a))] [] [ob s 7 [.int (nI ts), .ref lt], aI G lt 80 (nF t)]
  rcases Nat.lt_or_ge a ts with hlt | hlt
  rotate_left
  ·
    refine wc_aload_n X 0 0 dX7_figureAt_0 rfl ?_
    refine wc_iload_n X 1 1 dX7_figureAt_1 rfl ?_
    refine wc_callV X 2 [0, 1] 0 (c_X7_letterAtN l G s lt ts t a (by first | assumption | omega) (by first | assumption | omega) (by first | assumption | omega)) yv_X7_letterAt kd7 rfl rfl q_305 ⟨rfl, rfl⟩ ⟨rfl, rfl⟩ ⟨rfl, rfl⟩ rfl rfl rfl dX7_figureAt_2 ?_
    refine wc_istore_n X 5 (L' := [(0, .ref s), (1, .int (nI a)), (2, .int (-9))]) dX7_figureAt_5 (by decide) rfl ?_
    refine wc_iload_n X 6 2 dX7_figureAt_6 rfl ?_
    refine wc_bipush X 7 (nI 48) dX7_figureAt_7 (by decide) ?_
    refine wc_icmp_lt X 9 25 dX7_figureAt_9 (by decide) (fun c9_1 => ?_) (fun c9_1 => ?_)
    ·
      refine wc_bipush X 25 (-9) dX7_figureAt_25 (by decide) ?_
      exact ret 27 _ (-9) dX7_figureAt_27 (rfl)
    ·
      exact absurd (by decide) c9_1
  ·
    refine wc_aload_n X 0 0 dX7_figureAt_0 rfl ?_
    refine wc_iload_n X 1 1 dX7_figureAt_1 rfl ?_
    refine wc_callV X 2 [0, 1] 0 (c_X7_letterAtS l G s lt ts t a (by first | assumption | omega) (by first | assumption | omega)) yv_X7_letterAt kd7 rfl rfl q_305 ⟨rfl, rfl⟩ ⟨rfl, rfl⟩ ⟨rfl, rfl⟩ rfl rfl rfl dX7_figureAt_2 ?_
    refine wc_istore_n X 5 (L' := [(0, .ref s), (1, .int (nI a)), (2, .int (nI (t a)))]) dX7_figureAt_5 (by decide) rfl ?_
    refine wc_iload_n X 6 2 dX7_figureAt_6 rfl ?_
    refine wc_bipush X 7 (nI 48) dX7_figureAt_7 (by decide) ?_
    refine wc_icmp_ltN X 9 25 dX7_figureAt_9 (by decide) (Nat.lt_trans (ht _) (by decide)) (by decide) (fun c9_2 => ?_) (fun c9_2 => ?_)
    ·
      refine wc_bipush X 25 (-9) dX7_figureAt_25 (by decide) ?_
      exact ret 27 _ (-9) dX7_figureAt_27 (rfl)
    ·
      refine wc_iload_n X 12 2 dX7_figureAt_12 rfl ?_
      refine wc_bipush X 13 (nI 57) dX7_figureAt_13 (by decide) ?_
      refine wc_icmp_gtN X 15 25 dX7_figureAt_15 (by decide) (Nat.lt_trans (ht _) (by decide)) (by decide) (fun c15_3 => ?_) (fun c15_3 => ?_)
      ·
        refine wc_bipush X 25 (-9) dX7_figureAt_25 (by decide) ?_
        exact ret 27 _ (-9) dX7_figureAt_27 (rfl)
      ·
        exact absurd ⟨by omega, c15_3⟩ (figP_none hf hlt)

set_option maxHeartbeats 4000000 in
set_option maxRecDepth 100000 in
theorem c_X7_figureAtS (l : Launch) (G : GG) (s lt ts : Nat) (t : Nat → Nat) (a d : Nat) (hts : ts ≤ 80) (ht : ∀ j, t j < 256) (ha : a < 1000) (hf : figP t ts a 0 9 = some d) : RM l G yX7_figureAt (Cond.code yX7_figureAt cX7_figureAt 3 (some .int)) { frames := 1, cells := 0, slots := 0, locals := 21 } [.ref s, .int (nI a)] [ob s 7 [.int (nI ts), .ref lt], aI G lt 80 (nF t)] (.int (nI d)) := by
  refine RM.ofI (by decide) rfl (fun Γ X ret => ?_)
  show Wc Γ 0 0 0 [(0, .ref s), (1, .int (nI a))] [] [ob s 7 [.int (nI ts), .ref lt], aI G lt 80 (nF t)]
  have hd := figP_some hf
  refine wc_aload_n X 0 0 dX7_figureAt_0 rfl ?_
  refine wc_iload_n X 1 1 dX7_figureAt_1 rfl ?_
  refine wc_callV X 2 [0, 1] 0 (c_X7_letterAtS l G s lt ts t a (by first | assumption | omega) (by first | assumption | omega)) yv_X7_letterAt kd7 rfl rfl q_305 ⟨rfl, rfl⟩ ⟨rfl, rfl⟩ ⟨rfl, rfl⟩ rfl rfl rfl dX7_figureAt_2 ?_
  refine wc_istore_n X 5 (L' := [(0, .ref s), (1, .int (nI a)), (2, .int (nI (t a)))]) dX7_figureAt_5 (by decide) rfl ?_
  refine wc_iload_n X 6 2 dX7_figureAt_6 rfl ?_
  refine wc_bipush X 7 (nI 48) dX7_figureAt_7 (by decide) ?_
  refine wc_icmp_ltN X 9 25 dX7_figureAt_9 (by decide) (Nat.lt_trans (ht _) (by decide)) (by decide) (fun c9_1 => ?_) (fun c9_1 => ?_)
  ·
    exact absurd c9_1 (by omega)
  ·
    refine wc_iload_n X 12 2 dX7_figureAt_12 rfl ?_
    refine wc_bipush X 13 (nI 57) dX7_figureAt_13 (by decide) ?_
    refine wc_icmp_gtN X 15 25 dX7_figureAt_15 (by decide) (Nat.lt_trans (ht _) (by decide)) (by decide) (fun c15_2 => ?_) (fun c15_2 => ?_)
    ·
      exact absurd c15_2 (by omega)
    ·
      refine wc_iload_n X 18 2 dX7_figureAt_18 rfl ?_
      refine wc_bipush X 19 (nI 48) dX7_figureAt_19 (by decide) ?_
      refine wc_isubN X 21 dX7_figureAt_21 (by omega) ?_
      refine wc_goto X 22 27 dX7_figureAt_22 (by decide) ?_
      exact ret 27 _ (nI ((t a) - 48)) dX7_figureAt_27 (by rw [hd.2.1, Nat.add_sub_cancel_left])

set_option maxHeartbeats 4000000 in
set_option maxRecDepth 100000 in
theorem c_X7_readEdge (l : Launch) (G : GG) (s lt ts : Nat) (t : Nat → Nat) (q lq : Nat) (r : Nat → Nat) (m a : Nat) (hts : ts ≤ 80) (ht : ∀ j, t j < 256) (hr : pgOk r) (hm : m < 2) (ha : a < ts) : MM l G yX7_readEdge (Cond.code yX7_readEdge cX7_readEdge 7 (some .int)) { frames := 3, cells := 0, slots := 0, locals := 66 } [.ref s, .ref q, .int (nI a)] [ob s 7 [.int (nI ts), .ref lt], aI G lt 80 (nF t), ob q 6 [.int (nI (r m)), .int (nI (r (2 + m))), .ref lq], aI G lq 10 (nF (mG r m))] (fun (v : Option Value) (w : va_W) => v = some (.int (optI (edgeQ t ts r m a).1)) ∧ w = [ob s 7 [.int (nI ts), .ref lt], aI G lt 80 (nF t), ob q 6 [.int (nI (r m)), .int (nI (r (2 + m))), .ref lq], aI G lq 10 (nF (mG (edgeQ t ts r m a).2 m))]) 0 0 := by
  refine MM.ofI (by decide) rfl (fun Γ X Y hnm ret => ?_)
  show Wc Γ 0 0 0 [(0, .ref s), (1, .ref q), (2, .int (nI a))] [] [ob s 7 [.int (nI ts), .ref lt], aI G lt 80 (nF t), ob q 6 [.int (nI (r m)), .int (nI (r (2 + m))), .ref lq], aI G lq 10 (nF (mG r m))]
  have hb := pgOk_m hr hm
  have hg := mG_lt hr.2.2.2.2.1 m
  refine wc_aload_n X 0 1 dX7_readEdge_0 rfl ?_
  refine wc_get X 1 2 0 kd6 rfl (by decide) q_52 rfl dX7_readEdge_1 ?_
  refine wc_istore_n X 4 (L' := [(0, .ref s), (1, .ref q), (2, .int (nI a)), (3, .int (nI (r m)))]) dX7_readEdge_4 (by decide) rfl ?_
  refine wc_aload_n X 5 1 dX7_readEdge_5 rfl ?_
  refine wc_callV X 6 [2, 3] 2 (c_X6_edgeTotal l G q lq (r m) (r (2 + m)) (mG r m) (by first | assumption | omega) hg) yv_X6_edgeTotal kd6 rfl rfl q_324 ⟨rfl, rfl⟩ ⟨rfl, rfl⟩ ⟨rfl, rfl⟩ rfl rfl rfl dX7_readEdge_6 ?_
  refine wc_iload_n X 9 3 dX7_readEdge_9 rfl ?_
  refine wc_iconstN X 10 2 dX7_readEdge_10 ?_
  refine wc_imulN X 11 dX7_readEdge_11 ?_
  refine wc_iload_n X 12 3 dX7_readEdge_12 rfl ?_
  refine wc_imulN X 13 dX7_readEdge_13 ?_
  refine wc_topi (nI (2 * r m * r m)) (congrArg nI (by rw [Nat.mul_comm (r m) 2])) ?_
  refine wc_icmp_neN X 14 19 dX7_readEdge_14 (by decide) (Nat.lt_of_le_of_lt (edgN_le _ _) (by omega)) (sq_lt hb.2) (fun c14_1 => ?_) (fun c14_1 => ?_)
  ·
    have hQ := c14_1
    refine wc_aload_n X 19 0 dX7_readEdge_19 rfl ?_
    refine wc_iload_n X 20 2 dX7_readEdge_20 rfl ?_
    refine wc_iconstN X 21 1 dX7_readEdge_21 ?_
    refine wc_iaddN X 22 dX7_readEdge_22 ?_
    rcases hf1 : figP t ts (a + 1) 0 9 with _ | d
    ·
      refine wc_callV X 23 [0, 1] 0 (c_X7_figureAtN l G s lt ts t (a + 1) (by first | assumption | omega) (by first | assumption | omega) (by first | assumption | omega) hf1) yv_X7_figureAt kd7 rfl rfl q_309 ⟨rfl, rfl⟩ ⟨rfl, rfl⟩ ⟨rfl, rfl⟩ rfl rfl rfl dX7_readEdge_23 ?_
      refine wc_istore X 26 (L' := [(0, .ref s), (1, .ref q), (2, .int (nI a)), (3, .int (nI (r m))), (4, .int (-9))]) dX7_readEdge_26 (by decide) rfl ?_
      refine wc_aload_n X 28 1 dX7_readEdge_28 rfl ?_
      refine wc_iload X 29 4 dX7_readEdge_29 rfl ?_
      refine wc_callV X 31 [2] 2 (c_X6_knows l G q lq (r m) (r (2 + m)) (-9) ) yv_X6_knows kd6 rfl rfl q_342 ⟨rfl, rfl⟩ ⟨rfl, rfl⟩ ⟨rfl, rfl⟩ rfl rfl rfl dX7_readEdge_31 ?_
      refine wc_topi (b2i false) (kn_neg _) ?_
      refine wc_if_eqB X 34 49 dX7_readEdge_34 (by decide) (fun c34_2 => ?_) (fun c34_2 => ?_)
      ·
        refine wc_iload_n X 49 2 dX7_readEdge_49 rfl ?_
        refine wc_iconstN X 50 1 dX7_readEdge_50 ?_
        refine wc_iaddN X 51 dX7_readEdge_51 ?_
        exact ret 52 _ (nI (a + 1)) _ dX7_readEdge_52 (⟨by unfold edgeQ; rw [if_neg hQ, eq1 hr hm hf1] <;> rfl, by unfold edgeQ; rw [if_neg hQ, eq1 hr hm hf1]⟩)
      ·
        exact absurd c34_2 (by decide)
    ·
      have hf1d := figP_some hf1
      refine wc_callV X 23 [0, 1] 0 (c_X7_figureAtS l G s lt ts t (a + 1) d (by first | assumption | omega) (by first | assumption | omega) (by first | assumption | omega) hf1) yv_X7_figureAt kd7 rfl rfl q_309 ⟨rfl, rfl⟩ ⟨rfl, rfl⟩ ⟨rfl, rfl⟩ rfl rfl rfl dX7_readEdge_23 ?_
      refine wc_istore X 26 (L' := [(0, .ref s), (1, .ref q), (2, .int (nI a)), (3, .int (nI (r m))), (4, .int (nI d))]) dX7_readEdge_26 (by decide) rfl ?_
      refine wc_aload_n X 28 1 dX7_readEdge_28 rfl ?_
      refine wc_iload X 29 4 dX7_readEdge_29 rfl ?_
      refine wc_callV X 31 [2] 2 (c_X6_knowsN l G q lq (r m) (r (2 + m)) d (by first | assumption | omega) (by first | assumption | omega)) yv_X6_knows kd6 rfl rfl q_342 ⟨rfl, rfl⟩ ⟨rfl, rfl⟩ ⟨rfl, rfl⟩ rfl rfl rfl dX7_readEdge_31 ?_
      refine wc_if_eqB X 34 49 dX7_readEdge_34 (by decide) (fun c34_3 => ?_) (fun c34_3 => ?_)
      ·
        refine wc_iload_n X 49 2 dX7_readEdge_49 rfl ?_
        refine wc_iconstN X 50 1 dX7_readEdge_50 ?_
        refine wc_iaddN X 51 dX7_readEdge_51 ?_
        exact ret 52 _ (nI (a + 1)) _ dX7_readEdge_52 (⟨by unfold edgeQ; rw [if_neg hQ, eq2 hr hm hf1 (Nat.le_of_not_lt (of_decide_eq_false c34_3))] <;> rfl, by unfold edgeQ; rw [if_neg hQ, eq2 hr hm hf1 (Nat.le_of_not_lt (of_decide_eq_false c34_3))]⟩)
      ·
        have hk1 := of_decide_eq_true c34_3
        refine wc_aload_n X 37 1 dX7_readEdge_37 rfl ?_
        refine wc_iload X 38 4 dX7_readEdge_38 rfl ?_
        refine wc_callV X 40 [2, 3] 2 (c_X6_edgesFrom l G q lq (r m) (r (2 + m)) (mG r m) d (by first | assumption | omega) hg) yv_X6_edgesFrom kd6 rfl rfl q_346 ⟨rfl, rfl⟩ ⟨rfl, rfl⟩ ⟨rfl, rfl⟩ rfl rfl rfl dX7_readEdge_40 ?_
        refine wc_iconstN X 43 2 dX7_readEdge_43 ?_
        refine wc_iload_n X 44 3 dX7_readEdge_44 rfl ?_
        refine wc_imulN X 45 dX7_readEdge_45 ?_
        refine wc_icmp_neN X 46 53 dX7_readEdge_46 (by decide) (by have := ones_le (mG r m (d * 2 + 1 - 1)); have := ones_le (mG r m (d * 2 + 2 - 1)); omega) (by omega) (fun c46_4 => ?_) (fun c46_4 => ?_)
        ·
          refine wc_aload_n X 53 0 dX7_readEdge_53 rfl ?_
          refine wc_iload_n X 54 2 dX7_readEdge_54 rfl ?_
          refine wc_iconstN X 55 2 dX7_readEdge_55 ?_
          refine wc_iaddN X 56 dX7_readEdge_56 ?_
          rcases Nat.lt_or_ge (a + 2) ts with hlt | hlt
          rotate_left
          ·
            refine wc_callV X 57 [0, 1] 0 (c_X7_letterAtN l G s lt ts t (a + 2) (by first | assumption | omega) (by first | assumption | omega) (by first | assumption | omega)) yv_X7_letterAt kd7 rfl rfl q_305 ⟨rfl, rfl⟩ ⟨rfl, rfl⟩ ⟨rfl, rfl⟩ rfl rfl rfl dX7_readEdge_57 ?_
            refine wc_bipush X 60 (nI 97) dX7_readEdge_60 (by decide) ?_
            refine wc_isub X 62 dX7_readEdge_62 ?_
            refine wc_iconstN X 63 1 dX7_readEdge_63 ?_
            refine wc_iadd X 64 dX7_readEdge_64 ?_
            refine wc_istore X 65 (L' := [(0, .ref s), (1, .ref q), (2, .int (nI a)), (3, .int (nI (r m))), (4, .int (nI d)), (5, .int (((-9) - (nI 97)) + (nI 1)))]) dX7_readEdge_65 (by decide) rfl ?_
            refine wc_iload X 67 5 dX7_readEdge_67 rfl ?_
            refine wc_callSN X 69 (c_X10_isLetter l G (((-9) - (nI 97)) + (nI 1))) ys_X10_isLetter X.zn.2.2.2.2.2.2.1 ⟨rfl, rfl⟩ ⟨rfl, rfl⟩ ⟨rfl, rfl⟩ rfl rfl rfl dX7_readEdge_69 ?_
            refine wc_topi (b2i false) (by decide) ?_
            refine wc_if_eqB X 72 90 dX7_readEdge_72 (by decide) (fun c72_5 => ?_) (fun c72_5 => ?_)
            ·
              refine wc_iload_n X 90 2 dX7_readEdge_90 rfl ?_
              refine wc_iconstN X 91 2 dX7_readEdge_91 ?_
              refine wc_iaddN X 92 dX7_readEdge_92 ?_
              exact ret 93 _ (nI (a + 2)) _ dX7_readEdge_93 (⟨by unfold edgeQ; rw [if_neg hQ, eq4 hr hm hf1 (of_decide_eq_true c34_3) c46_4 (by omega)] <;> rfl, by unfold edgeQ; rw [if_neg hQ, eq4 hr hm hf1 (of_decide_eq_true c34_3) c46_4 (by omega)]⟩)
            ·
              exact absurd c72_5 (by decide)
          ·
            refine wc_callV X 57 [0, 1] 0 (c_X7_letterAtS l G s lt ts t (a + 2) (by first | assumption | omega) (by first | assumption | omega)) yv_X7_letterAt kd7 rfl rfl q_305 ⟨rfl, rfl⟩ ⟨rfl, rfl⟩ ⟨rfl, rfl⟩ rfl rfl rfl dX7_readEdge_57 ?_
            rcases ab_cases (t (a + 2)) with hl | hl | hl
            ·
              refine wc_topi (nI 97) (congrArg nI (hl)) ?_
              refine wc_bipush X 60 (nI 97) dX7_readEdge_60 (by decide) ?_
              refine wc_isubN X 62 dX7_readEdge_62 (by omega) ?_
              refine wc_iconstN X 63 1 dX7_readEdge_63 ?_
              refine wc_iaddN X 64 dX7_readEdge_64 ?_
              refine wc_topi (nI 1) (by rfl) ?_
              refine wc_istore X 65 (L' := [(0, .ref s), (1, .ref q), (2, .int (nI a)), (3, .int (nI (r m))), (4, .int (nI d)), (5, .int (nI 1))]) dX7_readEdge_65 (by decide) rfl ?_
              refine wc_iload X 67 5 dX7_readEdge_67 rfl ?_
              refine wc_callSN X 69 (c_X10_isLetterN l G 1 (by decide)) ys_X10_isLetter X.zn.2.2.2.2.2.2.1 ⟨rfl, rfl⟩ ⟨rfl, rfl⟩ ⟨rfl, rfl⟩ rfl rfl rfl dX7_readEdge_69 ?_
              refine wc_topi (b2i true) (by rfl) ?_
              refine wc_if_eqB X 72 90 dX7_readEdge_72 (by decide) (fun c72_6 => ?_) (fun c72_6 => ?_)
              ·
                exact absurd c72_6 (by decide)
              ·
                refine wc_aload_n X 75 1 dX7_readEdge_75 rfl ?_
                refine wc_iload X 76 4 dX7_readEdge_76 rfl ?_
                refine wc_iload X 78 5 dX7_readEdge_78 rfl ?_
                refine wc_callV X 80 [2, 3] 2 (c_X6_targets l G q lq (r m) (r (2 + m)) (mG r m) d 1 (by first | assumption | omega) (by first | assumption | omega) (by first | assumption | omega)) yv_X6_targets kd6 rfl rfl q_350 ⟨rfl, rfl⟩ ⟨rfl, rfl⟩ ⟨rfl, rfl⟩ rfl rfl rfl dX7_readEdge_80 ?_
                refine wc_aload_n X 83 1 dX7_readEdge_83 rfl ?_
                refine wc_callV X 84 [2] 2 (c_X6_allStates l G q lq (r m) (r (2 + m)) (by first | assumption | omega)) yv_X6_allStates kd6 rfl rfl q_351 ⟨rfl, rfl⟩ ⟨rfl, rfl⟩ ⟨rfl, rfl⟩ rfl rfl rfl dX7_readEdge_84 ?_
                refine wc_icmp_neN X 87 94 dX7_readEdge_87 (by decide) (Nat.lt_trans (hg _) (by decide)) (Nat.lt_of_le_of_lt (Nat.sub_le _ _) (Nat.lt_of_le_of_lt (Nat.pow_le_pow_right (by decide) hb.2) (by decide))) (fun c87_7 => ?_) (fun c87_7 => ?_)
                ·
                  refine wc_aload_n X 94 0 dX7_readEdge_94 rfl ?_
                  refine wc_iload_n X 95 2 dX7_readEdge_95 rfl ?_
                  refine wc_iconstN X 96 3 dX7_readEdge_96 ?_
                  refine wc_iaddN X 97 dX7_readEdge_97 ?_
                  rcases hf3 : figP t ts (a + 3) 0 9 with _ | j
                  ·
                    refine wc_callV X 98 [0, 1] 0 (c_X7_figureAtN l G s lt ts t (a + 3) (by first | assumption | omega) (by first | assumption | omega) (by first | assumption | omega) hf3) yv_X7_figureAt kd7 rfl rfl q_309 ⟨rfl, rfl⟩ ⟨rfl, rfl⟩ ⟨rfl, rfl⟩ rfl rfl rfl dX7_readEdge_98 ?_
                    refine wc_istore X 101 (L' := [(0, .ref s), (1, .ref q), (2, .int (nI a)), (3, .int (nI (r m))), (4, .int (nI d)), (5, .int (nI 1)), (6, .int (-9))]) dX7_readEdge_101 (by decide) rfl ?_
                    refine wc_aload_n X 103 1 dX7_readEdge_103 rfl ?_
                    refine wc_iload X 104 6 dX7_readEdge_104 rfl ?_
                    refine wc_callV X 106 [2] 2 (c_X6_knows l G q lq (r m) (r (2 + m)) (-9) ) yv_X6_knows kd6 rfl rfl q_342 ⟨rfl, rfl⟩ ⟨rfl, rfl⟩ ⟨rfl, rfl⟩ rfl rfl rfl dX7_readEdge_106 ?_
                    refine wc_topi (b2i false) (kn_neg _) ?_
                    refine wc_if_eqB X 109 125 dX7_readEdge_109 (by decide) (fun c109_8 => ?_) (fun c109_8 => ?_)
                    ·
                      refine wc_iload_n X 125 2 dX7_readEdge_125 rfl ?_
                      refine wc_iconstN X 126 3 dX7_readEdge_126 ?_
                      refine wc_iaddN X 127 dX7_readEdge_127 ?_
                      exact ret 128 _ (nI (a + 3)) _ dX7_readEdge_128 (⟨by unfold edgeQ; rw [if_neg hQ, eq6 (c := 1) hr hm hf1 (of_decide_eq_true c34_3) c46_4 hlt (by decide) (by decide) hl c87_7, eq7 hr hm hf3] <;> rfl, by unfold edgeQ; rw [if_neg hQ, eq6 (c := 1) hr hm hf1 (of_decide_eq_true c34_3) c46_4 hlt (by decide) (by decide) hl c87_7, eq7 hr hm hf3]⟩)
                    ·
                      exact absurd c109_8 (by decide)
                  ·
                    have hf3d := figP_some hf3
                    refine wc_callV X 98 [0, 1] 0 (c_X7_figureAtS l G s lt ts t (a + 3) j (by first | assumption | omega) (by first | assumption | omega) (by first | assumption | omega) hf3) yv_X7_figureAt kd7 rfl rfl q_309 ⟨rfl, rfl⟩ ⟨rfl, rfl⟩ ⟨rfl, rfl⟩ rfl rfl rfl dX7_readEdge_98 ?_
                    refine wc_istore X 101 (L' := [(0, .ref s), (1, .ref q), (2, .int (nI a)), (3, .int (nI (r m))), (4, .int (nI d)), (5, .int (nI 1)), (6, .int (nI j))]) dX7_readEdge_101 (by decide) rfl ?_
                    refine wc_aload_n X 103 1 dX7_readEdge_103 rfl ?_
                    refine wc_iload X 104 6 dX7_readEdge_104 rfl ?_
                    refine wc_callV X 106 [2] 2 (c_X6_knowsN l G q lq (r m) (r (2 + m)) j (by first | assumption | omega) (by first | assumption | omega)) yv_X6_knows kd6 rfl rfl q_342 ⟨rfl, rfl⟩ ⟨rfl, rfl⟩ ⟨rfl, rfl⟩ rfl rfl rfl dX7_readEdge_106 ?_
                    refine wc_if_eqB X 109 125 dX7_readEdge_109 (by decide) (fun c109_9 => ?_) (fun c109_9 => ?_)
                    ·
                      refine wc_iload_n X 125 2 dX7_readEdge_125 rfl ?_
                      refine wc_iconstN X 126 3 dX7_readEdge_126 ?_
                      refine wc_iaddN X 127 dX7_readEdge_127 ?_
                      exact ret 128 _ (nI (a + 3)) _ dX7_readEdge_128 (⟨by unfold edgeQ; rw [if_neg hQ, eq6 (c := 1) hr hm hf1 (of_decide_eq_true c34_3) c46_4 hlt (by decide) (by decide) hl c87_7, eq8 hr hm hf3 (Nat.le_of_not_lt (of_decide_eq_false c109_9))] <;> rfl, by unfold edgeQ; rw [if_neg hQ, eq6 (c := 1) hr hm hf1 (of_decide_eq_true c34_3) c46_4 hlt (by decide) (by decide) hl c87_7, eq8 hr hm hf3 (Nat.le_of_not_lt (of_decide_eq_false c109_9))]⟩)
                    ·
                      have hk3 := of_decide_eq_true c109_9
                      refine wc_aload_n X 112 1 dX7_readEdge_112 rfl ?_
                      refine wc_iload X 113 4 dX7_readEdge_113 rfl ?_
                      refine wc_iload X 115 5 dX7_readEdge_115 rfl ?_
                      refine wc_iload X 117 6 dX7_readEdge_117 rfl ?_
                      refine wc_callV X 119 [2, 3] 2 (c_X6_joins l G q lq (r m) (r (2 + m)) (mG r m) d 1 j (by first | assumption | omega) (by first | assumption | omega) (by first | assumption | omega) (by first | assumption | omega) hg) yv_X6_joins kd6 rfl rfl q_355 ⟨rfl, rfl⟩ ⟨rfl, rfl⟩ ⟨rfl, rfl⟩ rfl rfl rfl dX7_readEdge_119 ?_
                      refine wc_if_eqB X 122 129 dX7_readEdge_122 (by decide) (fun c122_10 => ?_) (fun c122_10 => ?_)
                      ·
                        refine wc_aload_n X 129 1 dX7_readEdge_129 rfl ?_
                        refine wc_iload X 130 4 dX7_readEdge_130 rfl ?_
                        refine wc_iload X 132 5 dX7_readEdge_132 rfl ?_
                        refine wc_iload X 134 6 dX7_readEdge_134 rfl ?_
                        refine wc_mutV X Y 136 [2, 3] [0, 1] 2 (c_X6_flipEdge l G q lq (r m) (r (2 + m)) (mG r m) d 1 j (by first | assumption | omega) (by first | assumption | omega) (by first | assumption | omega) (by first | assumption | omega)) yv_X6_flipEdge kd6 rfl rfl (wr := [ob s 7 [.int (nI ts), .ref lt], aI G lt 80 (nF t)]) rfl ⟨rfl, rfl, rfl⟩ q_359 ⟨rfl, rfl⟩ ⟨rfl, rfl⟩ ⟨rfl, rfl⟩ rfl rfl rfl dX7_readEdge_136 (fun v w hp_11 => ?_)
                        obtain ⟨rfl, rfl⟩ := hp_11
                        refine wc_perm Y [0, 1, 2, 3] [ob s 7 [.int (nI ts), .ref lt], aI G lt 80 (nF t), ob q 6 [.int (nI (r m)), .int (nI (r (2 + m))), .ref lq], aI G lq 10 (nF (up (mG r m) (d * 2 + 1 - 1) ((mG r m) (d * 2 + 1 - 1) ^^^ 2 ^ j)))] rfl rfl ?_
                        show Wc Γ 0 0 139 [(0, .ref s), (1, .ref q), (2, .int (nI a)), (3, .int (nI (r m))), (4, .int (nI d)), (5, .int (nI 1)), (6, .int (nI j))] [] [ob s 7 [.int (nI ts), .ref lt], aI G lt 80 (nF t), ob q 6 [.int (nI (r m)), .int (nI (r (2 + m))), .ref lq], aI G lq 10 (nF (up (mG r m) (d * 2 + 1 - 1) ((mG r m) (d * 2 + 1 - 1) ^^^ 2 ^ j)))]
                        refine wc_bipush X 139 (-9) dX7_readEdge_139 (by decide) ?_
                        exact ret 141 _ (-9) _ dX7_readEdge_141 (⟨by unfold edgeQ; rw [if_neg hQ, eq6 (c := 1) hr hm hf1 (of_decide_eq_true c34_3) c46_4 hlt (by decide) (by decide) hl c87_7, eq9 hr hm hf3 (of_decide_eq_true c109_9)]; simp only [c122_10]; rfl, by unfold edgeQ; rw [if_neg hQ, eq6 (c := 1) hr hm hf1 (of_decide_eq_true c34_3) c46_4 hlt (by decide) (by decide) hl c87_7, eq9 hr hm hf3 (of_decide_eq_true c109_9)]; simp only [c122_10]; rw [if_neg (by decide), mG_same hm (pg_lt4 hr hk1) (by decide) (by decide), xor_or c122_10]⟩)
                      ·
                        refine wc_iload_n X 125 2 dX7_readEdge_125 rfl ?_
                        refine wc_iconstN X 126 3 dX7_readEdge_126 ?_
                        refine wc_iaddN X 127 dX7_readEdge_127 ?_
                        exact ret 128 _ (nI (a + 3)) _ dX7_readEdge_128 (⟨by unfold edgeQ; rw [if_neg hQ, eq6 (c := 1) hr hm hf1 (of_decide_eq_true c34_3) c46_4 hlt (by decide) (by decide) hl c87_7, eq9 hr hm hf3 (of_decide_eq_true c109_9)]; simp only [c122_10]; rfl, by unfold edgeQ; rw [if_neg hQ, eq6 (c := 1) hr hm hf1 (of_decide_eq_true c34_3) c46_4 hlt (by decide) (by decide) hl c87_7, eq9 hr hm hf3 (of_decide_eq_true c109_9)]; simp only [c122_10]; rfl⟩)
                ·
                  refine wc_iload_n X 90 2 dX7_readEdge_90 rfl ?_
                  refine wc_iconstN X 91 2 dX7_readEdge_91 ?_
                  refine wc_iaddN X 92 dX7_readEdge_92 ?_
                  exact ret 93 _ (nI (a + 2)) _ dX7_readEdge_93 (⟨by unfold edgeQ; rw [if_neg hQ, eq5 (c := 1) hr hm hf1 (of_decide_eq_true c34_3) c46_4 hlt (by decide) (by decide) hl c87_7] <;> rfl, by unfold edgeQ; rw [if_neg hQ, eq5 (c := 1) hr hm hf1 (of_decide_eq_true c34_3) c46_4 hlt (by decide) (by decide) hl c87_7]⟩)
            ·
              refine wc_topi (nI 98) (congrArg nI (hl)) ?_
              refine wc_bipush X 60 (nI 97) dX7_readEdge_60 (by decide) ?_
              refine wc_isubN X 62 dX7_readEdge_62 (by omega) ?_
              refine wc_iconstN X 63 1 dX7_readEdge_63 ?_
              refine wc_iaddN X 64 dX7_readEdge_64 ?_
              refine wc_topi (nI 2) (by rfl) ?_
              refine wc_istore X 65 (L' := [(0, .ref s), (1, .ref q), (2, .int (nI a)), (3, .int (nI (r m))), (4, .int (nI d)), (5, .int (nI 2))]) dX7_readEdge_65 (by decide) rfl ?_
              refine wc_iload X 67 5 dX7_readEdge_67 rfl ?_
              refine wc_callSN X 69 (c_X10_isLetterN l G 2 (by decide)) ys_X10_isLetter X.zn.2.2.2.2.2.2.1 ⟨rfl, rfl⟩ ⟨rfl, rfl⟩ ⟨rfl, rfl⟩ rfl rfl rfl dX7_readEdge_69 ?_
              refine wc_topi (b2i true) (by rfl) ?_
              refine wc_if_eqB X 72 90 dX7_readEdge_72 (by decide) (fun c72_12 => ?_) (fun c72_12 => ?_)
              ·
                exact absurd c72_12 (by decide)
              ·
                refine wc_aload_n X 75 1 dX7_readEdge_75 rfl ?_
                refine wc_iload X 76 4 dX7_readEdge_76 rfl ?_
                refine wc_iload X 78 5 dX7_readEdge_78 rfl ?_
                refine wc_callV X 80 [2, 3] 2 (c_X6_targets l G q lq (r m) (r (2 + m)) (mG r m) d 2 (by first | assumption | omega) (by first | assumption | omega) (by first | assumption | omega)) yv_X6_targets kd6 rfl rfl q_350 ⟨rfl, rfl⟩ ⟨rfl, rfl⟩ ⟨rfl, rfl⟩ rfl rfl rfl dX7_readEdge_80 ?_
                refine wc_aload_n X 83 1 dX7_readEdge_83 rfl ?_
                refine wc_callV X 84 [2] 2 (c_X6_allStates l G q lq (r m) (r (2 + m)) (by first | assumption | omega)) yv_X6_allStates kd6 rfl rfl q_351 ⟨rfl, rfl⟩ ⟨rfl, rfl⟩ ⟨rfl, rfl⟩ rfl rfl rfl dX7_readEdge_84 ?_
                refine wc_icmp_neN X 87 94 dX7_readEdge_87 (by decide) (Nat.lt_trans (hg _) (by decide)) (Nat.lt_of_le_of_lt (Nat.sub_le _ _) (Nat.lt_of_le_of_lt (Nat.pow_le_pow_right (by decide) hb.2) (by decide))) (fun c87_13 => ?_) (fun c87_13 => ?_)
                ·
                  refine wc_aload_n X 94 0 dX7_readEdge_94 rfl ?_
                  refine wc_iload_n X 95 2 dX7_readEdge_95 rfl ?_
                  refine wc_iconstN X 96 3 dX7_readEdge_96 ?_
                  refine wc_iaddN X 97 dX7_readEdge_97 ?_
                  rcases hf3 : figP t ts (a + 3) 0 9 with _ | j
                  ·
                    refine wc_callV X 98 [0, 1] 0 (c_X7_figureAtN l G s lt ts t (a + 3) (by first | assumption | omega) (by first | assumption | omega) (by first | assumption | omega) hf3) yv_X7_figureAt kd7 rfl rfl q_309 ⟨rfl, rfl⟩ ⟨rfl, rfl⟩ ⟨rfl, rfl⟩ rfl rfl rfl dX7_readEdge_98 ?_
                    refine wc_istore X 101 (L' := [(0, .ref s), (1, .ref q), (2, .int (nI a)), (3, .int (nI (r m))), (4, .int (nI d)), (5, .int (nI 2)), (6, .int (-9))]) dX7_readEdge_101 (by decide) rfl ?_
                    refine wc_aload_n X 103 1 dX7_readEdge_103 rfl ?_
                    refine wc_iload X 104 6 dX7_readEdge_104 rfl ?_
                    refine wc_callV X 106 [2] 2 (c_X6_knows l G q lq (r m) (r (2 + m)) (-9) ) yv_X6_knows kd6 rfl rfl q_342 ⟨rfl, rfl⟩ ⟨rfl, rfl⟩ ⟨rfl, rfl⟩ rfl rfl rfl dX7_readEdge_106 ?_
                    refine wc_topi (b2i false) (kn_neg _) ?_
                    refine wc_if_eqB X 109 125 dX7_readEdge_109 (by decide) (fun c109_14 => ?_) (fun c109_14 => ?_)
                    ·
                      refine wc_iload_n X 125 2 dX7_readEdge_125 rfl ?_
                      refine wc_iconstN X 126 3 dX7_readEdge_126 ?_
                      refine wc_iaddN X 127 dX7_readEdge_127 ?_
                      exact ret 128 _ (nI (a + 3)) _ dX7_readEdge_128 (⟨by unfold edgeQ; rw [if_neg hQ, eq6 (c := 2) hr hm hf1 (of_decide_eq_true c34_3) c46_4 hlt (by decide) (by decide) hl c87_13, eq7 hr hm hf3] <;> rfl, by unfold edgeQ; rw [if_neg hQ, eq6 (c := 2) hr hm hf1 (of_decide_eq_true c34_3) c46_4 hlt (by decide) (by decide) hl c87_13, eq7 hr hm hf3]⟩)
                    ·
                      exact absurd c109_14 (by decide)
                  ·
                    have hf3d := figP_some hf3
                    refine wc_callV X 98 [0, 1] 0 (c_X7_figureAtS l G s lt ts t (a + 3) j (by first | assumption | omega) (by first | assumption | omega) (by first | assumption | omega) hf3) yv_X7_figureAt kd7 rfl rfl q_309 ⟨rfl, rfl⟩ ⟨rfl, rfl⟩ ⟨rfl, rfl⟩ rfl rfl rfl dX7_readEdge_98 ?_
                    refine wc_istore X 101 (L' := [(0, .ref s), (1, .ref q), (2, .int (nI a)), (3, .int (nI (r m))), (4, .int (nI d)), (5, .int (nI 2)), (6, .int (nI j))]) dX7_readEdge_101 (by decide) rfl ?_
                    refine wc_aload_n X 103 1 dX7_readEdge_103 rfl ?_
                    refine wc_iload X 104 6 dX7_readEdge_104 rfl ?_
                    refine wc_callV X 106 [2] 2 (c_X6_knowsN l G q lq (r m) (r (2 + m)) j (by first | assumption | omega) (by first | assumption | omega)) yv_X6_knows kd6 rfl rfl q_342 ⟨rfl, rfl⟩ ⟨rfl, rfl⟩ ⟨rfl, rfl⟩ rfl rfl rfl dX7_readEdge_106 ?_
                    refine wc_if_eqB X 109 125 dX7_readEdge_109 (by decide) (fun c109_15 => ?_) (fun c109_15 => ?_)
                    ·
                      refine wc_iload_n X 125 2 dX7_readEdge_125 rfl ?_
                      refine wc_iconstN X 126 3 dX7_readEdge_126 ?_
                      refine wc_iaddN X 127 dX7_readEdge_127 ?_
                      exact ret 128 _ (nI (a + 3)) _ dX7_readEdge_128 (⟨by unfold edgeQ; rw [if_neg hQ, eq6 (c := 2) hr hm hf1 (of_decide_eq_true c34_3) c46_4 hlt (by decide) (by decide) hl c87_13, eq8 hr hm hf3 (Nat.le_of_not_lt (of_decide_eq_false c109_15))] <;> rfl, by unfold edgeQ; rw [if_neg hQ, eq6 (c := 2) hr hm hf1 (of_decide_eq_true c34_3) c46_4 hlt (by decide) (by decide) hl c87_13, eq8 hr hm hf3 (Nat.le_of_not_lt (of_decide_eq_false c109_15))]⟩)
                    ·
                      have hk3 := of_decide_eq_true c109_15
                      refine wc_aload_n X 112 1 dX7_readEdge_112 rfl ?_
                      refine wc_iload X 113 4 dX7_readEdge_113 rfl ?_
                      refine wc_iload X 115 5 dX7_readEdge_115 rfl ?_
                      refine wc_iload X 117 6 dX7_readEdge_117 rfl ?_
                      refine wc_callV X 119 [2, 3] 2 (c_X6_joins l G q lq (r m) (r (2 + m)) (mG r m) d 2 j (by first | assumption | omega) (by first | assumption | omega) (by first | assumption | omega) (by first | assumption | omega) hg) yv_X6_joins kd6 rfl rfl q_355 ⟨rfl, rfl⟩ ⟨rfl, rfl⟩ ⟨rfl, rfl⟩ rfl rfl rfl dX7_readEdge_119 ?_
                      refine wc_if_eqB X 122 129 dX7_readEdge_122 (by decide) (fun c122_16 => ?_) (fun c122_16 => ?_)
                      ·
                        refine wc_aload_n X 129 1 dX7_readEdge_129 rfl ?_
                        refine wc_iload X 130 4 dX7_readEdge_130 rfl ?_
                        refine wc_iload X 132 5 dX7_readEdge_132 rfl ?_
                        refine wc_iload X 134 6 dX7_readEdge_134 rfl ?_
                        refine wc_mutV X Y 136 [2, 3] [0, 1] 2 (c_X6_flipEdge l G q lq (r m) (r (2 + m)) (mG r m) d 2 j (by first | assumption | omega) (by first | assumption | omega) (by first | assumption | omega) (by first | assumption | omega)) yv_X6_flipEdge kd6 rfl rfl (wr := [ob s 7 [.int (nI ts), .ref lt], aI G lt 80 (nF t)]) rfl ⟨rfl, rfl, rfl⟩ q_359 ⟨rfl, rfl⟩ ⟨rfl, rfl⟩ ⟨rfl, rfl⟩ rfl rfl rfl dX7_readEdge_136 (fun v w hp_17 => ?_)
                        obtain ⟨rfl, rfl⟩ := hp_17
                        refine wc_perm Y [0, 1, 2, 3] [ob s 7 [.int (nI ts), .ref lt], aI G lt 80 (nF t), ob q 6 [.int (nI (r m)), .int (nI (r (2 + m))), .ref lq], aI G lq 10 (nF (up (mG r m) (d * 2 + 2 - 1) ((mG r m) (d * 2 + 2 - 1) ^^^ 2 ^ j)))] rfl rfl ?_
                        show Wc Γ 0 0 139 [(0, .ref s), (1, .ref q), (2, .int (nI a)), (3, .int (nI (r m))), (4, .int (nI d)), (5, .int (nI 2)), (6, .int (nI j))] [] [ob s 7 [.int (nI ts), .ref lt], aI G lt 80 (nF t), ob q 6 [.int (nI (r m)), .int (nI (r (2 + m))), .ref lq], aI G lq 10 (nF (up (mG r m) (d * 2 + 2 - 1) ((mG r m) (d * 2 + 2 - 1) ^^^ 2 ^ j)))]
                        refine wc_bipush X 139 (-9) dX7_readEdge_139 (by decide) ?_
                        exact ret 141 _ (-9) _ dX7_readEdge_141 (⟨by unfold edgeQ; rw [if_neg hQ, eq6 (c := 2) hr hm hf1 (of_decide_eq_true c34_3) c46_4 hlt (by decide) (by decide) hl c87_13, eq9 hr hm hf3 (of_decide_eq_true c109_15)]; simp only [c122_16]; rfl, by unfold edgeQ; rw [if_neg hQ, eq6 (c := 2) hr hm hf1 (of_decide_eq_true c34_3) c46_4 hlt (by decide) (by decide) hl c87_13, eq9 hr hm hf3 (of_decide_eq_true c109_15)]; simp only [c122_16]; rw [if_neg (by decide), mG_same hm (pg_lt4 hr hk1) (by decide) (by decide), xor_or c122_16]⟩)
                      ·
                        refine wc_iload_n X 125 2 dX7_readEdge_125 rfl ?_
                        refine wc_iconstN X 126 3 dX7_readEdge_126 ?_
                        refine wc_iaddN X 127 dX7_readEdge_127 ?_
                        exact ret 128 _ (nI (a + 3)) _ dX7_readEdge_128 (⟨by unfold edgeQ; rw [if_neg hQ, eq6 (c := 2) hr hm hf1 (of_decide_eq_true c34_3) c46_4 hlt (by decide) (by decide) hl c87_13, eq9 hr hm hf3 (of_decide_eq_true c109_15)]; simp only [c122_16]; rfl, by unfold edgeQ; rw [if_neg hQ, eq6 (c := 2) hr hm hf1 (of_decide_eq_true c34_3) c46_4 hlt (by decide) (by decide) hl c87_13, eq9 hr hm hf3 (of_decide_eq_true c109_15)]; simp only [c122_16]; rfl⟩)
                ·
                  refine wc_iload_n X 90 2 dX7_readEdge_90 rfl ?_
                  refine wc_iconstN X 91 2 dX7_readEdge_91 ?_
                  refine wc_iaddN X 92 dX7_readEdge_92 ?_
                  exact ret 93 _ (nI (a + 2)) _ dX7_readEdge_93 (⟨by unfold edgeQ; rw [if_neg hQ, eq5 (c := 2) hr hm hf1 (of_decide_eq_true c34_3) c46_4 hlt (by decide) (by decide) hl c87_13] <;> rfl, by unfold edgeQ; rw [if_neg hQ, eq5 (c := 2) hr hm hf1 (of_decide_eq_true c34_3) c46_4 hlt (by decide) (by decide) hl c87_13]⟩)
            ·
              refine wc_top (v' := .int (nI (t (a + 2)))) (rfl) ?_
              refine wc_bipush X 60 (nI 97) dX7_readEdge_60 (by decide) ?_
              refine wc_isub X 62 dX7_readEdge_62 ?_
              refine wc_iconstN X 63 1 dX7_readEdge_63 ?_
              refine wc_iadd X 64 dX7_readEdge_64 ?_
              refine wc_istore X 65 (L' := [(0, .ref s), (1, .ref q), (2, .int (nI a)), (3, .int (nI (r m))), (4, .int (nI d)), (5, .int (((nI (t (a + 2))) - (nI 97)) + (nI 1)))]) dX7_readEdge_65 (by decide) rfl ?_
              refine wc_iload X 67 5 dX7_readEdge_67 rfl ?_
              refine wc_callSN X 69 (c_X10_isLetter l G (((nI (t (a + 2))) - (nI 97)) + (nI 1))) ys_X10_isLetter X.zn.2.2.2.2.2.2.1 ⟨rfl, rfl⟩ ⟨rfl, rfl⟩ ⟨rfl, rfl⟩ rfl rfl rfl dX7_readEdge_69 ?_
              refine wc_topi (b2i false) (congrArg b2i (let_other _ (ht _) hl)) ?_
              refine wc_if_eqB X 72 90 dX7_readEdge_72 (by decide) (fun c72_18 => ?_) (fun c72_18 => ?_)
              ·
                refine wc_iload_n X 90 2 dX7_readEdge_90 rfl ?_
                refine wc_iconstN X 91 2 dX7_readEdge_91 ?_
                refine wc_iaddN X 92 dX7_readEdge_92 ?_
                exact ret 93 _ (nI (a + 2)) _ dX7_readEdge_93 (⟨by unfold edgeQ; rw [if_neg hQ, eq4 hr hm hf1 (of_decide_eq_true c34_3) c46_4 (by omega)] <;> rfl, by unfold edgeQ; rw [if_neg hQ, eq4 hr hm hf1 (of_decide_eq_true c34_3) c46_4 (by omega)]⟩)
              ·
                exact absurd c72_18 (by decide)
        ·
          refine wc_iload_n X 49 2 dX7_readEdge_49 rfl ?_
          refine wc_iconstN X 50 1 dX7_readEdge_50 ?_
          refine wc_iaddN X 51 dX7_readEdge_51 ?_
          exact ret 52 _ (nI (a + 1)) _ dX7_readEdge_52 (⟨by unfold edgeQ; rw [if_neg hQ, eq3 hr hm hf1 (of_decide_eq_true c34_3) c46_4] <;> rfl, by unfold edgeQ; rw [if_neg hQ, eq3 hr hm hf1 (of_decide_eq_true c34_3) c46_4]⟩)
  ·
    refine wc_iload_n X 17 2 dX7_readEdge_17 rfl ?_
    exact ret 18 _ (nI a) _ dX7_readEdge_18 (⟨by unfold edgeQ; rw [if_pos c14_1]; rfl, by unfold edgeQ; rw [if_pos c14_1]⟩)

set_option maxHeartbeats 4000000 in
set_option maxRecDepth 100000 in
theorem c_X7_readEnd (l : Launch) (G : GG) (s lt ts : Nat) (t : Nat → Nat) (q lq : Nat) (r : Nat → Nat) (m a : Nat) (hts : ts ≤ 80) (ht : ∀ j, t j < 256) (hr : pgOk r) (hm : m < 2) (ha : a < ts) : MM l G yX7_readEnd (Cond.code yX7_readEnd cX7_readEnd 5 (some .int)) { frames := 2, cells := 0, slots := 0, locals := 43 } [.ref s, .ref q, .int (nI a)] [ob s 7 [.int (nI ts), .ref lt], aI G lt 80 (nF t), ob q 6 [.int (nI (r m)), .int (nI (r (2 + m))), .ref lq], aI G lq 10 (nF (mG r m))] (fun (v : Option Value) (w : va_W) => v = some (.int (optI (endQ t ts r m a).1)) ∧ w = [ob s 7 [.int (nI ts), .ref lt], aI G lt 80 (nF t), ob q 6 [.int (nI (r m)), .int (nI ((endQ t ts r m a).2 (2 + m))), .ref lq], aI G lq 10 (nF (mG r m))]) 0 0 := by
  refine MM.ofI (by decide) rfl (fun Γ X Y hnm ret => ?_)
  show Wc Γ 0 0 0 [(0, .ref s), (1, .ref q), (2, .int (nI a))] [] [ob s 7 [.int (nI ts), .ref lt], aI G lt 80 (nF t), ob q 6 [.int (nI (r m)), .int (nI (r (2 + m))), .ref lq], aI G lq 10 (nF (mG r m))]
  have hb := pgOk_m hr hm
  have he := hr.2.2.2.2.1 (2 + m)
  refine wc_aload_n X 0 0 dX7_readEnd_0 rfl ?_
  refine wc_iload_n X 1 2 dX7_readEnd_1 rfl ?_
  refine wc_callV X 2 [0, 1] 0 (c_X7_letterAtS l G s lt ts t a (by first | assumption | omega) (by first | assumption | omega)) yv_X7_letterAt kd7 rfl rfl q_305 ⟨rfl, rfl⟩ ⟨rfl, rfl⟩ ⟨rfl, rfl⟩ rfl rfl rfl dX7_readEnd_2 ?_
  refine wc_istore_n X 5 (L' := [(0, .ref s), (1, .ref q), (2, .int (nI a)), (3, .int (nI (t a)))]) dX7_readEnd_5 (by decide) rfl ?_
  refine wc_iload_n X 6 3 dX7_readEnd_6 rfl ?_
  refine wc_bipush X 7 (nI 80) dX7_readEnd_7 (by decide) ?_
  refine wc_icmp_eqN X 9 18 dX7_readEnd_9 (by decide) (Nat.lt_trans (ht _) (by decide)) (by decide) (fun c9_1 => ?_) (fun c9_1 => ?_)
  ·
    refine wc_aload_n X 18 1 dX7_readEnd_18 rfl ?_
    refine wc_get X 19 2 1 kd6 rfl (by decide) q_57 rfl dX7_readEnd_19 ?_
    refine wc_aload_n X 22 1 dX7_readEnd_22 rfl ?_
    refine wc_callV X 23 [2] 2 (c_X6_allStates l G q lq (r m) (r (2 + m)) (by first | assumption | omega)) yv_X6_allStates kd6 rfl rfl q_351 ⟨rfl, rfl⟩ ⟨rfl, rfl⟩ ⟨rfl, rfl⟩ rfl rfl rfl dX7_readEnd_23 ?_
    refine wc_icmp_neN X 26 31 dX7_readEnd_26 (by decide) (by omega) (Nat.lt_of_le_of_lt (Nat.sub_le _ _) (Nat.lt_of_le_of_lt (Nat.pow_le_pow_right (by decide) hb.2) (by decide))) (fun c26_2 => ?_) (fun c26_2 => ?_)
    ·
      refine wc_aload_n X 31 0 dX7_readEnd_31 rfl ?_
      refine wc_iload_n X 32 2 dX7_readEnd_32 rfl ?_
      refine wc_iconstN X 33 1 dX7_readEnd_33 ?_
      refine wc_iaddN X 34 dX7_readEnd_34 ?_
      rcases hf1 : figP t ts (a + 1) 0 9 with _ | d
      ·
        refine wc_callV X 35 [0, 1] 0 (c_X7_figureAtN l G s lt ts t (a + 1) (by first | assumption | omega) (by first | assumption | omega) (by first | assumption | omega) hf1) yv_X7_figureAt kd7 rfl rfl q_309 ⟨rfl, rfl⟩ ⟨rfl, rfl⟩ ⟨rfl, rfl⟩ rfl rfl rfl dX7_readEnd_35 ?_
        refine wc_istore X 38 (L' := [(0, .ref s), (1, .ref q), (2, .int (nI a)), (3, .int (nI (t a))), (4, .int (-9))]) dX7_readEnd_38 (by decide) rfl ?_
        refine wc_aload_n X 40 1 dX7_readEnd_40 rfl ?_
        refine wc_iload X 41 4 dX7_readEnd_41 rfl ?_
        refine wc_callV X 43 [2] 2 (c_X6_knows l G q lq (r m) (r (2 + m)) (-9) ) yv_X6_knows kd6 rfl rfl q_342 ⟨rfl, rfl⟩ ⟨rfl, rfl⟩ ⟨rfl, rfl⟩ rfl rfl rfl dX7_readEnd_43 ?_
        refine wc_topi (b2i false) (kn_neg _) ?_
        refine wc_if_eqB X 46 58 dX7_readEnd_46 (by decide) (fun c46_3 => ?_) (fun c46_3 => ?_)
        ·
          refine wc_iload_n X 58 2 dX7_readEnd_58 rfl ?_
          refine wc_iconstN X 59 1 dX7_readEnd_59 ?_
          refine wc_iaddN X 60 dX7_readEnd_60 ?_
          exact ret 61 _ (nI (a + 1)) _ dX7_readEnd_61 (⟨by rw [enp (Or.inl c9_1) c26_2, en1 hr hm hf1] <;> rfl, by rw [enp (Or.inl c9_1) c26_2, en1 hr hm hf1]⟩)
        ·
          exact absurd c46_3 (by decide)
      ·
        have hf1d := figP_some hf1
        refine wc_callV X 35 [0, 1] 0 (c_X7_figureAtS l G s lt ts t (a + 1) d (by first | assumption | omega) (by first | assumption | omega) (by first | assumption | omega) hf1) yv_X7_figureAt kd7 rfl rfl q_309 ⟨rfl, rfl⟩ ⟨rfl, rfl⟩ ⟨rfl, rfl⟩ rfl rfl rfl dX7_readEnd_35 ?_
        refine wc_istore X 38 (L' := [(0, .ref s), (1, .ref q), (2, .int (nI a)), (3, .int (nI (t a))), (4, .int (nI d))]) dX7_readEnd_38 (by decide) rfl ?_
        refine wc_aload_n X 40 1 dX7_readEnd_40 rfl ?_
        refine wc_iload X 41 4 dX7_readEnd_41 rfl ?_
        refine wc_callV X 43 [2] 2 (c_X6_knowsN l G q lq (r m) (r (2 + m)) d (by first | assumption | omega) (by first | assumption | omega)) yv_X6_knows kd6 rfl rfl q_342 ⟨rfl, rfl⟩ ⟨rfl, rfl⟩ ⟨rfl, rfl⟩ rfl rfl rfl dX7_readEnd_43 ?_
        refine wc_if_eqB X 46 58 dX7_readEnd_46 (by decide) (fun c46_4 => ?_) (fun c46_4 => ?_)
        ·
          refine wc_iload_n X 58 2 dX7_readEnd_58 rfl ?_
          refine wc_iconstN X 59 1 dX7_readEnd_59 ?_
          refine wc_iaddN X 60 dX7_readEnd_60 ?_
          exact ret 61 _ (nI (a + 1)) _ dX7_readEnd_61 (⟨by rw [enp (Or.inl c9_1) c26_2, en2 hr hm hf1 (Nat.le_of_not_lt (of_decide_eq_false c46_4))] <;> rfl, by rw [enp (Or.inl c9_1) c26_2, en2 hr hm hf1 (Nat.le_of_not_lt (of_decide_eq_false c46_4))]⟩)
        ·
          have hk1 := of_decide_eq_true c46_4
          refine wc_aload_n X 49 1 dX7_readEnd_49 rfl ?_
          refine wc_iload X 50 4 dX7_readEnd_50 rfl ?_
          refine wc_callV X 52 [2] 2 (c_X6_isEnd l G q lq (r m) (r (2 + m)) d (by first | assumption | omega) (by first | assumption | omega) (by first | assumption | omega)) yv_X6_isEnd kd6 rfl rfl q_364 ⟨rfl, rfl⟩ ⟨rfl, rfl⟩ ⟨rfl, rfl⟩ rfl rfl rfl dX7_readEnd_52 ?_
          refine wc_if_eqB X 55 62 dX7_readEnd_55 (by decide) (fun c55_5 => ?_) (fun c55_5 => ?_)
          ·
            refine wc_aload_n X 62 1 dX7_readEnd_62 rfl ?_
            refine wc_iload X 63 4 dX7_readEnd_63 rfl ?_
            refine wc_mutV X Y 65 [2] [0, 1, 3] 2 (c_X6_flipEnd l G q lq (r m) (r (2 + m)) d (by first | assumption | omega)) yv_X6_flipEnd kd6 rfl rfl (wr := [ob s 7 [.int (nI ts), .ref lt], aI G lt 80 (nF t), aI G lq 10 (nF (mG r m))]) rfl ⟨rfl, rfl, rfl⟩ q_369 ⟨rfl, rfl⟩ ⟨rfl, rfl⟩ ⟨rfl, rfl⟩ rfl rfl rfl dX7_readEnd_65 (fun v w hp_6 => ?_)
            obtain ⟨rfl, rfl⟩ := hp_6
            refine wc_perm Y [0, 1, 3, 2] [ob s 7 [.int (nI ts), .ref lt], aI G lt 80 (nF t), ob q 6 [.int (nI (r m)), .int (nI ((r (2 + m)) ^^^ 2 ^ d)), .ref lq], aI G lq 10 (nF (mG r m))] rfl rfl ?_
            show Wc Γ 0 0 68 [(0, .ref s), (1, .ref q), (2, .int (nI a)), (3, .int (nI (t a))), (4, .int (nI d))] [] [ob s 7 [.int (nI ts), .ref lt], aI G lt 80 (nF t), ob q 6 [.int (nI (r m)), .int (nI ((r (2 + m)) ^^^ 2 ^ d)), .ref lq], aI G lq 10 (nF (mG r m))]
            refine wc_bipush X 68 (-9) dX7_readEnd_68 (by decide) ?_
            exact ret 70 _ (-9) _ dX7_readEnd_70 (⟨by rw [enp (Or.inl c9_1) c26_2, en4 hr hm hf1 hk1 (by simpa [hk1] using c55_5)] <;> rfl, by rw [enp (Or.inl c9_1) c26_2, en4 hr hm hf1 hk1 (by simpa [hk1] using c55_5)]; simp only [up_s, xor_or (by simpa [hk1] using c55_5)]⟩)
          ·
            refine wc_iload_n X 58 2 dX7_readEnd_58 rfl ?_
            refine wc_iconstN X 59 1 dX7_readEnd_59 ?_
            refine wc_iaddN X 60 dX7_readEnd_60 ?_
            exact ret 61 _ (nI (a + 1)) _ dX7_readEnd_61 (⟨by rw [enp (Or.inl c9_1) c26_2, en3 hr hm hf1 hk1 (by simpa [hk1] using c55_5)] <;> rfl, by rw [enp (Or.inl c9_1) c26_2, en3 hr hm hf1 hk1 (by simpa [hk1] using c55_5)]⟩)
    ·
      refine wc_iload_n X 29 2 dX7_readEnd_29 rfl ?_
      exact ret 30 _ (nI a) _ dX7_readEnd_30 (⟨by rw [enf c26_2] <;> rfl, by rw [enf c26_2]⟩)
  ·
    refine wc_iload_n X 12 3 dX7_readEnd_12 rfl ?_
    refine wc_bipush X 13 (nI 81) dX7_readEnd_13 (by decide) ?_
    refine wc_icmp_neN X 15 29 dX7_readEnd_15 (by decide) (Nat.lt_trans (ht _) (by decide)) (by decide) (fun c15_7 => ?_) (fun c15_7 => ?_)
    ·
      refine wc_iload_n X 29 2 dX7_readEnd_29 rfl ?_
      exact ret 30 _ (nI a) _ dX7_readEnd_30 (⟨by rw [enx c9_1 c15_7] <;> rfl, by rw [enx c9_1 c15_7]⟩)
    ·
      refine wc_aload_n X 18 1 dX7_readEnd_18 rfl ?_
      refine wc_get X 19 2 1 kd6 rfl (by decide) q_57 rfl dX7_readEnd_19 ?_
      refine wc_aload_n X 22 1 dX7_readEnd_22 rfl ?_
      refine wc_callV X 23 [2] 2 (c_X6_allStates l G q lq (r m) (r (2 + m)) (by first | assumption | omega)) yv_X6_allStates kd6 rfl rfl q_351 ⟨rfl, rfl⟩ ⟨rfl, rfl⟩ ⟨rfl, rfl⟩ rfl rfl rfl dX7_readEnd_23 ?_
      refine wc_icmp_neN X 26 31 dX7_readEnd_26 (by decide) (by omega) (Nat.lt_of_le_of_lt (Nat.sub_le _ _) (Nat.lt_of_le_of_lt (Nat.pow_le_pow_right (by decide) hb.2) (by decide))) (fun c26_8 => ?_) (fun c26_8 => ?_)
      ·
        refine wc_aload_n X 31 0 dX7_readEnd_31 rfl ?_
        refine wc_iload_n X 32 2 dX7_readEnd_32 rfl ?_
        refine wc_iconstN X 33 1 dX7_readEnd_33 ?_
        refine wc_iaddN X 34 dX7_readEnd_34 ?_
        rcases hf1 : figP t ts (a + 1) 0 9 with _ | d
        ·
          refine wc_callV X 35 [0, 1] 0 (c_X7_figureAtN l G s lt ts t (a + 1) (by first | assumption | omega) (by first | assumption | omega) (by first | assumption | omega) hf1) yv_X7_figureAt kd7 rfl rfl q_309 ⟨rfl, rfl⟩ ⟨rfl, rfl⟩ ⟨rfl, rfl⟩ rfl rfl rfl dX7_readEnd_35 ?_
          refine wc_istore X 38 (L' := [(0, .ref s), (1, .ref q), (2, .int (nI a)), (3, .int (nI (t a))), (4, .int (-9))]) dX7_readEnd_38 (by decide) rfl ?_
          refine wc_aload_n X 40 1 dX7_readEnd_40 rfl ?_
          refine wc_iload X 41 4 dX7_readEnd_41 rfl ?_
          refine wc_callV X 43 [2] 2 (c_X6_knows l G q lq (r m) (r (2 + m)) (-9) ) yv_X6_knows kd6 rfl rfl q_342 ⟨rfl, rfl⟩ ⟨rfl, rfl⟩ ⟨rfl, rfl⟩ rfl rfl rfl dX7_readEnd_43 ?_
          refine wc_topi (b2i false) (kn_neg _) ?_
          refine wc_if_eqB X 46 58 dX7_readEnd_46 (by decide) (fun c46_9 => ?_) (fun c46_9 => ?_)
          ·
            refine wc_iload_n X 58 2 dX7_readEnd_58 rfl ?_
            refine wc_iconstN X 59 1 dX7_readEnd_59 ?_
            refine wc_iaddN X 60 dX7_readEnd_60 ?_
            exact ret 61 _ (nI (a + 1)) _ dX7_readEnd_61 (⟨by rw [enp (Or.inr c15_7) c26_8, en1 hr hm hf1] <;> rfl, by rw [enp (Or.inr c15_7) c26_8, en1 hr hm hf1]⟩)
          ·
            exact absurd c46_9 (by decide)
        ·
          have hf1d := figP_some hf1
          refine wc_callV X 35 [0, 1] 0 (c_X7_figureAtS l G s lt ts t (a + 1) d (by first | assumption | omega) (by first | assumption | omega) (by first | assumption | omega) hf1) yv_X7_figureAt kd7 rfl rfl q_309 ⟨rfl, rfl⟩ ⟨rfl, rfl⟩ ⟨rfl, rfl⟩ rfl rfl rfl dX7_readEnd_35 ?_
          refine wc_istore X 38 (L' := [(0, .ref s), (1, .ref q), (2, .int (nI a)), (3, .int (nI (t a))), (4, .int (nI d))]) dX7_readEnd_38 (by decide) rfl ?_
          refine wc_aload_n X 40 1 dX7_readEnd_40 rfl ?_
          refine wc_iload X 41 4 dX7_readEnd_41 rfl ?_
          refine wc_callV X 43 [2] 2 (c_X6_knowsN l G q lq (r m) (r (2 + m)) d (by first | assumption | omega) (by first | assumption | omega)) yv_X6_knows kd6 rfl rfl q_342 ⟨rfl, rfl⟩ ⟨rfl, rfl⟩ ⟨rfl, rfl⟩ rfl rfl rfl dX7_readEnd_43 ?_
          refine wc_if_eqB X 46 58 dX7_readEnd_46 (by decide) (fun c46_10 => ?_) (fun c46_10 => ?_)
          ·
            refine wc_iload_n X 58 2 dX7_readEnd_58 rfl ?_
            refine wc_iconstN X 59 1 dX7_readEnd_59 ?_
            refine wc_iaddN X 60 dX7_readEnd_60 ?_
            exact ret 61 _ (nI (a + 1)) _ dX7_readEnd_61 (⟨by rw [enp (Or.inr c15_7) c26_8, en2 hr hm hf1 (Nat.le_of_not_lt (of_decide_eq_false c46_10))] <;> rfl, by rw [enp (Or.inr c15_7) c26_8, en2 hr hm hf1 (Nat.le_of_not_lt (of_decide_eq_false c46_10))]⟩)
          ·
            have hk1 := of_decide_eq_true c46_10
            refine wc_aload_n X 49 1 dX7_readEnd_49 rfl ?_
            refine wc_iload X 50 4 dX7_readEnd_50 rfl ?_
            refine wc_callV X 52 [2] 2 (c_X6_isEnd l G q lq (r m) (r (2 + m)) d (by first | assumption | omega) (by first | assumption | omega) (by first | assumption | omega)) yv_X6_isEnd kd6 rfl rfl q_364 ⟨rfl, rfl⟩ ⟨rfl, rfl⟩ ⟨rfl, rfl⟩ rfl rfl rfl dX7_readEnd_52 ?_
            refine wc_if_eqB X 55 62 dX7_readEnd_55 (by decide) (fun c55_11 => ?_) (fun c55_11 => ?_)
            ·
              refine wc_aload_n X 62 1 dX7_readEnd_62 rfl ?_
              refine wc_iload X 63 4 dX7_readEnd_63 rfl ?_
              refine wc_mutV X Y 65 [2] [0, 1, 3] 2 (c_X6_flipEnd l G q lq (r m) (r (2 + m)) d (by first | assumption | omega)) yv_X6_flipEnd kd6 rfl rfl (wr := [ob s 7 [.int (nI ts), .ref lt], aI G lt 80 (nF t), aI G lq 10 (nF (mG r m))]) rfl ⟨rfl, rfl, rfl⟩ q_369 ⟨rfl, rfl⟩ ⟨rfl, rfl⟩ ⟨rfl, rfl⟩ rfl rfl rfl dX7_readEnd_65 (fun v w hp_12 => ?_)
              obtain ⟨rfl, rfl⟩ := hp_12
              refine wc_perm Y [0, 1, 3, 2] [ob s 7 [.int (nI ts), .ref lt], aI G lt 80 (nF t), ob q 6 [.int (nI (r m)), .int (nI ((r (2 + m)) ^^^ 2 ^ d)), .ref lq], aI G lq 10 (nF (mG r m))] rfl rfl ?_
              show Wc Γ 0 0 68 [(0, .ref s), (1, .ref q), (2, .int (nI a)), (3, .int (nI (t a))), (4, .int (nI d))] [] [ob s 7 [.int (nI ts), .ref lt], aI G lt 80 (nF t), ob q 6 [.int (nI (r m)), .int (nI ((r (2 + m)) ^^^ 2 ^ d)), .ref lq], aI G lq 10 (nF (mG r m))]
              refine wc_bipush X 68 (-9) dX7_readEnd_68 (by decide) ?_
              exact ret 70 _ (-9) _ dX7_readEnd_70 (⟨by rw [enp (Or.inr c15_7) c26_8, en4 hr hm hf1 hk1 (by simpa [hk1] using c55_11)] <;> rfl, by rw [enp (Or.inr c15_7) c26_8, en4 hr hm hf1 hk1 (by simpa [hk1] using c55_11)]; simp only [up_s, xor_or (by simpa [hk1] using c55_11)]⟩)
            ·
              refine wc_iload_n X 58 2 dX7_readEnd_58 rfl ?_
              refine wc_iconstN X 59 1 dX7_readEnd_59 ?_
              refine wc_iaddN X 60 dX7_readEnd_60 ?_
              exact ret 61 _ (nI (a + 1)) _ dX7_readEnd_61 (⟨by rw [enp (Or.inr c15_7) c26_8, en3 hr hm hf1 hk1 (by simpa [hk1] using c55_11)] <;> rfl, by rw [enp (Or.inr c15_7) c26_8, en3 hr hm hf1 hk1 (by simpa [hk1] using c55_11)]⟩)
      ·
        refine wc_iload_n X 29 2 dX7_readEnd_29 rfl ?_
        exact ret 30 _ (nI a) _ dX7_readEnd_30 (⟨by rw [enf c26_8] <;> rfl, by rw [enf c26_8]⟩)

set_option maxHeartbeats 4000000 in
set_option maxRecDepth 100000 in
theorem c_X7_read (l : Launch) (G : GG) (s lt ts : Nat) (t : Nat → Nat) (z qa la n0 e0 : Nat) (g0 : Nat → Nat) (qb lb n1 e1 : Nat) (g1 : Nat → Nat) (hts : ts ≤ 80) (ht : ∀ j, t j < 256) : MM l G yX7_read (Cond.code yX7_read cX7_read 9 (some .int)) { frames := 4, cells := 0, slots := 0, locals := 92 } [.ref s, .ref z] [ob s 7 [.int (nI ts), .ref lt], aI G lt 80 (nF t), ob z 1 [.ref qa, .ref qb], ob qa 6 [.int (nI n0), .int (nI e0), .ref la], aI G la 10 (nF g0), ob qb 6 [.int (nI n1), .int (nI e1), .ref lb], aI G lb 10 (nF g1)] (fun (v : Option Value) (w : va_W) => ∃ (m0 d0 : Nat) (f0 : Nat → Nat) (m1 d1 : Nat) (f1 : Nat → Nat), v = some (.int (optI (parseP t ts).1)) ∧ w = [ob s 7 [.int (nI ts), .ref lt], aI G lt 80 (nF t), ob z 1 [.ref qa, .ref qb], ob qa 6 [.int (nI m0), .int (nI d0), .ref la], aI G la 10 (nF f0), ob qb 6 [.int (nI m1), .int (nI d1), .ref lb], aI G lb 10 (nF f1)] ∧ ((parseP t ts).1 = none → m0 = (parseP t ts).2 0 ∧ d0 = (parseP t ts).2 2 ∧ f0 = gz (parseP t ts).2 ∧ m1 = (parseP t ts).2 1 ∧ d1 = (parseP t ts).2 3 ∧ f1 = go (parseP t ts).2)) 0 0 := by
  refine MM.ofI (by decide) rfl (fun Γ X Y hnm ret => ?_)
  show Wc Γ 0 0 0 [(0, .ref s), (1, .ref z)] [] [ob s 7 [.int (nI ts), .ref lt], aI G lt 80 (nF t), ob z 1 [.ref qa, .ref qb], ob qa 6 [.int (nI n0), .int (nI e0), .ref la], aI G la 10 (nF g0), ob qb 6 [.int (nI n1), .int (nI e1), .ref lb], aI G lb 10 (nF g1)]
  rcases Nat.lt_or_ge 0 ts with hlt | hlt
  rotate_left
  ·
    refine wc_aload_n X 0 0 dX7_read_0 rfl ?_
    refine wc_iconstN X 1 0 dX7_read_1 ?_
    refine wc_callV X 2 [0, 1] 0 (c_X7_letterAtN l G s lt ts t 0 (by first | assumption | omega) (by first | assumption | omega) (by first | assumption | omega)) yv_X7_letterAt kd7 rfl rfl q_305 ⟨rfl, rfl⟩ ⟨rfl, rfl⟩ ⟨rfl, rfl⟩ rfl rfl rfl dX7_read_2 ?_
    refine wc_bipush X 5 (nI 87) dX7_read_5 (by decide) ?_
    refine wc_icmp_eq X 7 12 dX7_read_7 (by decide) (fun c7_1 => ?_) (fun c7_1 => ?_)
    ·
      exact absurd c7_1 (by decide)
    ·
      refine wc_iconstN X 10 0 dX7_read_10 ?_
      exact ret 11 _ (nI 0) _ dX7_read_11 (⟨_, _, _, _, _, _, by rw [show parseP t ts = (some 0, fun _ => 0) by unfold parseP; rw [if_pos (by omega)]]; rfl, rfl, fun z => by rw [show parseP t ts = (some 0, fun _ => 0) by unfold parseP; rw [if_pos (by omega)]] at z; cases z⟩)
  ·
    refine wc_aload_n X 0 0 dX7_read_0 rfl ?_
    refine wc_iconstN X 1 0 dX7_read_1 ?_
    refine wc_callV X 2 [0, 1] 0 (c_X7_letterAtS l G s lt ts t 0 (by first | assumption | omega) (by first | assumption | omega)) yv_X7_letterAt kd7 rfl rfl q_305 ⟨rfl, rfl⟩ ⟨rfl, rfl⟩ ⟨rfl, rfl⟩ rfl rfl rfl dX7_read_2 ?_
    refine wc_bipush X 5 (nI 87) dX7_read_5 (by decide) ?_
    refine wc_icmp_eqN X 7 12 dX7_read_7 (by decide) (Nat.lt_trans (ht _) (by decide)) (by decide) (fun c7_2 => ?_) (fun c7_2 => ?_)
    ·
      refine wc_aload_n X 12 0 dX7_read_12 rfl ?_
      refine wc_iconstN X 13 1 dX7_read_13 ?_
      rcases hf1 : figP t ts 1 0 9 with _ | c0
      ·
        refine wc_callV X 14 [0, 1] 0 (c_X7_figureAtN l G s lt ts t 1 (by first | assumption | omega) (by first | assumption | omega) (by first | assumption | omega) hf1) yv_X7_figureAt kd7 rfl rfl q_309 ⟨rfl, rfl⟩ ⟨rfl, rfl⟩ ⟨rfl, rfl⟩ rfl rfl rfl dX7_read_14 ?_
        refine wc_istore_n X 17 (L' := [(0, .ref s), (1, .ref z), (2, .int (-9))]) dX7_read_17 (by decide) rfl ?_
        refine wc_iload_n X 18 2 dX7_read_18 rfl ?_
        refine wc_iconstN X 19 1 dX7_read_19 ?_
        refine wc_icmp_lt X 20 28 dX7_read_20 (by decide) (fun c20_3 => ?_) (fun c20_3 => ?_)
        ·
          refine wc_iconstN X 28 1 dX7_read_28 ?_
          exact ret 29 _ (nI 1) _ dX7_read_29 (⟨_, _, _, _, _, _, by rw [show parseP t ts = (some 1, fun _ => 0) by unfold parseP; rw [if_neg (by omega), figP_ofN hf1 1 4 (by decide)]]; rfl, rfl, fun z => by rw [show parseP t ts = (some 1, fun _ => 0) by unfold parseP; rw [if_neg (by omega), figP_ofN hf1 1 4 (by decide)]] at z; cases z⟩)
        ·
          exact absurd (by decide) c20_3
      ·
        have hf1d := figP_some hf1
        refine wc_callV X 14 [0, 1] 0 (c_X7_figureAtS l G s lt ts t 1 c0 (by first | assumption | omega) (by first | assumption | omega) (by first | assumption | omega) hf1) yv_X7_figureAt kd7 rfl rfl q_309 ⟨rfl, rfl⟩ ⟨rfl, rfl⟩ ⟨rfl, rfl⟩ rfl rfl rfl dX7_read_14 ?_
        refine wc_istore_n X 17 (L' := [(0, .ref s), (1, .ref z), (2, .int (nI c0))]) dX7_read_17 (by decide) rfl ?_
        refine wc_iload_n X 18 2 dX7_read_18 rfl ?_
        refine wc_iconstN X 19 1 dX7_read_19 ?_
        refine wc_icmp_ltN X 20 28 dX7_read_20 (by decide) (by omega) (by decide) (fun c20_4 => ?_) (fun c20_4 => ?_)
        ·
          refine wc_iconstN X 28 1 dX7_read_28 ?_
          exact ret 29 _ (nI 1) _ dX7_read_29 (⟨_, _, _, _, _, _, by rw [show parseP t ts = (some 1, fun _ => 0) by unfold parseP; rw [if_neg (by omega), figP_of hf1 1 4 (by decide), if_neg (by omega)]]; rfl, rfl, fun z => by rw [show parseP t ts = (some 1, fun _ => 0) by unfold parseP; rw [if_neg (by omega), figP_of hf1 1 4 (by decide), if_neg (by omega)]] at z; cases z⟩)
        ·
          refine wc_iload_n X 23 2 dX7_read_23 rfl ?_
          refine wc_iconstN X 24 4 dX7_read_24 ?_
          refine wc_icmp_leN X 25 30 dX7_read_25 (by decide) (by omega) (by decide) (fun c25_5 => ?_) (fun c25_5 => ?_)
          ·
            refine wc_aload_n X 30 0 dX7_read_30 rfl ?_
            refine wc_iconstN X 31 2 dX7_read_31 ?_
            rcases hf2 : figP t ts 2 0 9 with _ | c1
            ·
              refine wc_callV X 32 [0, 1] 0 (c_X7_figureAtN l G s lt ts t 2 (by first | assumption | omega) (by first | assumption | omega) (by first | assumption | omega) hf2) yv_X7_figureAt kd7 rfl rfl q_309 ⟨rfl, rfl⟩ ⟨rfl, rfl⟩ ⟨rfl, rfl⟩ rfl rfl rfl dX7_read_32 ?_
              refine wc_istore_n X 35 (L' := [(0, .ref s), (1, .ref z), (2, .int (nI c0)), (3, .int (-9))]) dX7_read_35 (by decide) rfl ?_
              refine wc_iload_n X 36 3 dX7_read_36 rfl ?_
              refine wc_iconstN X 37 1 dX7_read_37 ?_
              refine wc_icmp_lt X 38 46 dX7_read_38 (by decide) (fun c38_6 => ?_) (fun c38_6 => ?_)
              ·
                refine wc_iconstN X 46 2 dX7_read_46 ?_
                exact ret 47 _ (nI 2) _ dX7_read_47 (⟨_, _, _, _, _, _, by rw [show parseP t ts = (some 2, fun _ => 0) by unfold parseP; rw [if_neg (by omega), figP_of hf1 1 4 (by decide), if_pos (by omega)]; simp only; rw [figP_ofN hf2 1 5 (by decide)]]; rfl, rfl, fun z => by rw [show parseP t ts = (some 2, fun _ => 0) by unfold parseP; rw [if_neg (by omega), figP_of hf1 1 4 (by decide), if_pos (by omega)]; simp only; rw [figP_ofN hf2 1 5 (by decide)]] at z; cases z⟩)
              ·
                exact absurd (by decide) c38_6
            ·
              have hf2d := figP_some hf2
              refine wc_callV X 32 [0, 1] 0 (c_X7_figureAtS l G s lt ts t 2 c1 (by first | assumption | omega) (by first | assumption | omega) (by first | assumption | omega) hf2) yv_X7_figureAt kd7 rfl rfl q_309 ⟨rfl, rfl⟩ ⟨rfl, rfl⟩ ⟨rfl, rfl⟩ rfl rfl rfl dX7_read_32 ?_
              refine wc_istore_n X 35 (L' := [(0, .ref s), (1, .ref z), (2, .int (nI c0)), (3, .int (nI c1))]) dX7_read_35 (by decide) rfl ?_
              refine wc_iload_n X 36 3 dX7_read_36 rfl ?_
              refine wc_iconstN X 37 1 dX7_read_37 ?_
              refine wc_icmp_ltN X 38 46 dX7_read_38 (by decide) (by omega) (by decide) (fun c38_7 => ?_) (fun c38_7 => ?_)
              ·
                refine wc_iconstN X 46 2 dX7_read_46 ?_
                exact ret 47 _ (nI 2) _ dX7_read_47 (⟨_, _, _, _, _, _, by rw [show parseP t ts = (some 2, fun _ => 0) by unfold parseP; rw [if_neg (by omega), figP_of hf1 1 4 (by decide), if_pos (by omega)]; simp only; rw [figP_of hf2 1 5 (by decide), if_neg (by omega)]]; rfl, rfl, fun z => by rw [show parseP t ts = (some 2, fun _ => 0) by unfold parseP; rw [if_neg (by omega), figP_of hf1 1 4 (by decide), if_pos (by omega)]; simp only; rw [figP_of hf2 1 5 (by decide), if_neg (by omega)]] at z; cases z⟩)
              ·
                refine wc_iload_n X 41 3 dX7_read_41 rfl ?_
                refine wc_iconstN X 42 5 dX7_read_42 ?_
                refine wc_icmp_leN X 43 48 dX7_read_43 (by decide) (by omega) (by decide) (fun c43_8 => ?_) (fun c43_8 => ?_)
                ·
                  refine wc_aload_n X 48 1 dX7_read_48 rfl ?_
                  refine wc_get X 49 2 0 kd1 rfl (by decide) q_71 rfl dX7_read_49 ?_
                  refine wc_iload_n X 52 2 dX7_read_52 rfl ?_
                  refine wc_mutV X Y 53 [3, 4] [0, 1, 2, 5, 6] 3 (c_X6_reset l G qa la n0 e0 g0 c0 ) yv_X6_reset kd6 rfl rfl (wr := [ob s 7 [.int (nI ts), .ref lt], aI G lt 80 (nF t), ob z 1 [.ref qa, .ref qb], ob qb 6 [.int (nI n1), .int (nI e1), .ref lb], aI G lb 10 (nF g1)]) rfl ⟨rfl, rfl, rfl⟩ q_313 ⟨rfl, rfl⟩ ⟨rfl, rfl⟩ ⟨rfl, rfl⟩ rfl rfl rfl dX7_read_53 (fun v w hp_9 => ?_)
                  obtain ⟨rfl, rfl⟩ := hp_9
                  refine wc_perm Y [0, 1, 2, 5, 6, 3, 4] [ob s 7 [.int (nI ts), .ref lt], aI G lt 80 (nF t), ob z 1 [.ref qa, .ref qb], ob qa 6 [.int (nI c0), .int (nI 0), .ref la], aI G la 10 (nF (fun _ => 0)), ob qb 6 [.int (nI n1), .int (nI e1), .ref lb], aI G lb 10 (nF g1)] rfl rfl ?_
                  show Wc Γ 0 0 56 [(0, .ref s), (1, .ref z), (2, .int (nI c0)), (3, .int (nI c1))] [] [ob s 7 [.int (nI ts), .ref lt], aI G lt 80 (nF t), ob z 1 [.ref qa, .ref qb], ob qa 6 [.int (nI c0), .int (nI 0), .ref la], aI G la 10 (nF (fun _ => 0)), ob qb 6 [.int (nI n1), .int (nI e1), .ref lb], aI G lb 10 (nF g1)]
                  refine wc_aload_n X 56 1 dX7_read_56 rfl ?_
                  refine wc_get X 57 2 1 kd1 rfl (by decide) q_79 rfl dX7_read_57 ?_
                  refine wc_iload_n X 60 3 dX7_read_60 rfl ?_
                  refine wc_mutV X Y 61 [5, 6] [0, 1, 2, 3, 4] 5 (c_X6_reset l G qb lb n1 e1 g1 c1 ) yv_X6_reset kd6 rfl rfl (wr := [ob s 7 [.int (nI ts), .ref lt], aI G lt 80 (nF t), ob z 1 [.ref qa, .ref qb], ob qa 6 [.int (nI c0), .int (nI 0), .ref la], aI G la 10 (nF (fun _ => 0))]) rfl ⟨rfl, rfl, rfl⟩ q_313 ⟨rfl, rfl⟩ ⟨rfl, rfl⟩ ⟨rfl, rfl⟩ rfl rfl rfl dX7_read_61 (fun v w hp_10 => ?_)
                  obtain ⟨rfl, rfl⟩ := hp_10
                  refine wc_perm Y [0, 1, 2, 3, 4, 5, 6] [ob s 7 [.int (nI ts), .ref lt], aI G lt 80 (nF t), ob z 1 [.ref qa, .ref qb], ob qa 6 [.int (nI c0), .int (nI 0), .ref la], aI G la 10 (nF (fun _ => 0)), ob qb 6 [.int (nI c1), .int (nI 0), .ref lb], aI G lb 10 (nF (fun _ => 0))] rfl rfl ?_
                  show Wc Γ 0 0 64 [(0, .ref s), (1, .ref z), (2, .int (nI c0)), (3, .int (nI c1))] [] [ob s 7 [.int (nI ts), .ref lt], aI G lt 80 (nF t), ob z 1 [.ref qa, .ref qb], ob qa 6 [.int (nI c0), .int (nI 0), .ref la], aI G la 10 (nF (fun _ => 0)), ob qb 6 [.int (nI c1), .int (nI 0), .ref lb], aI G lb 10 (nF (fun _ => 0))]
                  refine wc_iconstN X 64 3 dX7_read_64 ?_
                  refine wc_istore X 65 (L' := [(0, .ref s), (1, .ref z), (2, .int (nI c0)), (3, .int (nI c1)), (4, .int (nI 3))]) dX7_read_65 (by decide) rfl ?_
                  have LP_12 : ∀ (fuel_11 : Nat) (a : Nat) (r : Nat → Nat) (f : Nat), (pgOk r) → (partsP t ts f a r = parseP t ts) → (ts ≤ a + f) → (a ≤ ts) → ts - a < fuel_11 → Wc Γ 0 0 67 [(0, .ref s), (1, .ref z), (4, .int (nI a))] [] [ob s 7 [.int (nI ts), .ref lt], aI G lt 80 (nF t), ob z 1 [.ref qa, .ref qb], ob qa 6 [.int (nI (r 0)), .int (nI (r 2)), .ref la], aI G la 10 (nF (gz r)), ob qb 6 [.int (nI (r 1)), .int (nI (r 3)), .ref lb], aI G lb 10 (nF (go r))] := by
                    intro fuel_11
                    induction fuel_11 with
                    | zero => intro a r f hr he hf ha hm; exact absurd hm (Nat.not_lt_zero _)
                    | succ fuel_11 ih_13 =>
                      intro a r f hr he hf ha hm_14
                      refine wc_iload X 67 2 dX7_read_67 rfl ?_
                      refine wc_aload_n X 69 0 dX7_read_69 rfl ?_
                      refine wc_get X 70 0 0 kd7 rfl (by decide) q_30 rfl dX7_read_70 ?_
                      refine wc_icmp_geN X 73 186 dX7_read_73 (by decide) (by omega) (by omega) (fun c73_15 => ?_) (fun c73_15 => ?_)
                      ·
                        refine wc_bipush X 186 (-9) dX7_read_186 (by decide) ?_
                        exact ret 188 _ (-9) _ dX7_read_188 (⟨_, _, _, _, _, _, by rw [← he, partsP_e (by omega)]; rfl, rfl, fun _ => by rw [← he, partsP_e (by omega)]; exact ⟨rfl, rfl, rfl, rfl, rfl, rfl⟩⟩)
                      ·
                        refine wc_aload_n X 76 0 dX7_read_76 rfl ?_
                        refine wc_iload X 77 2 dX7_read_77 rfl ?_
                        refine wc_callV X 79 [0, 1] 0 (c_X7_letterAtS l G s lt ts t a (by first | assumption | omega) (by first | assumption | omega)) yv_X7_letterAt kd7 rfl rfl q_305 ⟨rfl, rfl⟩ ⟨rfl, rfl⟩ ⟨rfl, rfl⟩ rfl rfl rfl dX7_read_79 ?_
                        refine wc_istore X 82 (L' := [(0, .ref s), (1, .ref z), (4, .int (nI a)), (5, .int (nI (t a)))]) dX7_read_82 (by decide) rfl ?_
                        rcases sg_cases (t a) with hl | hl | hl | hl | hl
                        ·
                          refine wc_L (L' := [(0, .ref s), (1, .ref z), (4, .int (nI a)), (5, .int (nI 112))]) (by rw [hl]) ?_
                          refine wc_iload X 84 3 dX7_read_84 rfl ?_
                          refine wc_bipush X 86 (nI 112) dX7_read_86 (by decide) ?_
                          refine wc_icmp_eqN X 88 98 dX7_read_88 (by decide) (by decide) (by decide) (fun c88_16 => ?_) (fun c88_16 => ?_)
                          ·
                            refine wc_iconstN X 98 1 dX7_read_98 ?_
                            refine wc_goto X 99 103 dX7_read_99 (by decide) ?_
                            refine wc_istore X 103 (L' := [(0, .ref s), (1, .ref z), (4, .int (nI a)), (5, .int (nI 112)), (6, .int (nI 1))]) dX7_read_103 (by decide) rfl ?_
                            refine wc_iload X 105 3 dX7_read_105 rfl ?_
                            refine wc_bipush X 107 (nI 112) dX7_read_107 (by decide) ?_
                            refine wc_icmp_eqN X 109 119 dX7_read_109 (by decide) (by decide) (by decide) (fun c109_17 => ?_) (fun c109_17 => ?_)
                            ·
                              refine wc_aload_n X 119 1 dX7_read_119 rfl ?_
                              refine wc_get X 120 2 0 kd1 rfl (by decide) q_71 rfl dX7_read_120 ?_
                              refine wc_goto X 123 130 dX7_read_123 (by decide) ?_
                              refine wc_astore X 130 (L' := [(0, .ref s), (1, .ref z), (4, .int (nI a)), (5, .int (nI 112)), (6, .int (nI 1)), (7, .ref qa)]) dX7_read_130 (by decide) rfl ?_
                              refine wc_iload X 132 4 dX7_read_132 rfl ?_
                              refine wc_if_eqN X 134 148 dX7_read_134 (by decide) (by decide) (fun c134_18 => ?_) (fun c134_18 => ?_)
                              ·
                                exact absurd c134_18 (by decide)
                              ·
                                refine wc_aload_n X 137 0 dX7_read_137 rfl ?_
                                refine wc_aload X 138 5 dX7_read_138 rfl ?_
                                refine wc_iload X 140 2 dX7_read_140 rfl ?_
                                refine wc_mutV X Y 142 [0, 1, 3, 4] [2, 5, 6] 0 (c_X7_readEdge l G s lt ts t qa la r 0 a (by first | assumption | omega) (by first | assumption | omega) (by first | assumption | omega) (by decide) (by first | assumption | omega)) yv_X7_readEdge kd7 rfl rfl (wr := [ob z 1 [.ref qa, .ref qb], ob qb 6 [.int (nI (r 1)), .int (nI (r 3)), .ref lb], aI G lb 10 (nF (go r))]) rfl ⟨rfl, rfl, rfl⟩ q_320 ⟨rfl, rfl⟩ ⟨rfl, rfl⟩ ⟨rfl, rfl⟩ rfl rfl rfl dX7_read_142 (fun v w hp_19 => ?_)
                                obtain ⟨rfl, rfl⟩ := hp_19
                                refine wc_perm Y [3, 4, 0, 5, 6, 1, 2] [ob s 7 [.int (nI ts), .ref lt], aI G lt 80 (nF t), ob z 1 [.ref qa, .ref qb], ob qa 6 [.int (nI (r 0)), .int (nI (r (2 + 0))), .ref la], aI G la 10 (nF (mG (edgeQ t ts r 0 a).2 0)), ob qb 6 [.int (nI (r 1)), .int (nI (r 3)), .ref lb], aI G lb 10 (nF (go r))] rfl rfl ?_
                                show Wc Γ 0 0 145 [(0, .ref s), (1, .ref z), (4, .int (nI a)), (5, .int (nI 112)), (6, .int (nI 1)), (7, .ref qa)] [.int (optI (edgeQ t ts r 0 a).1)] [ob s 7 [.int (nI ts), .ref lt], aI G lt 80 (nF t), ob z 1 [.ref qa, .ref qb], ob qa 6 [.int (nI (r 0)), .int (nI (r (2 + 0))), .ref la], aI G la 10 (nF (mG (edgeQ t ts r 0 a).2 0)), ob qb 6 [.int (nI (r 1)), .int (nI (r 3)), .ref lb], aI G lb 10 (nF (go r))]
                                refine wc_goto X 145 156 dX7_read_145 (by decide) ?_
                                rcases hq : (edgeQ t ts r 0 a).1 with _ | x
                                ·
                                  refine wc_top (v' := .int (-9)) (by first | rfl | (rw [hq]; rfl)) ?_
                                  refine wc_istore X 156 (L' := [(0, .ref s), (1, .ref z), (4, .int (nI a)), (5, .int (nI 112)), (6, .int (nI 1)), (7, .ref qa), (8, .int (-9))]) dX7_read_156 (by decide) rfl ?_
                                  refine wc_iload X 158 6 dX7_read_158 rfl ?_
                                  refine wc_bipush X 160 (-9) dX7_read_160 (by decide) ?_
                                  refine wc_icmp_eq X 162 168 dX7_read_162 (by decide) (fun c162_20 => ?_) (fun c162_20 => ?_)
                                  ·
                                    refine wc_iload X 168 2 dX7_read_168 rfl ?_
                                    refine wc_iload X 170 4 dX7_read_170 rfl ?_
                                    refine wc_if_eqN X 172 179 dX7_read_172 (by decide) (by decide) (fun c172_21 => ?_) (fun c172_21 => ?_)
                                    ·
                                      exact absurd c172_21 (by decide)
                                    ·
                                      refine wc_iconstN X 175 4 dX7_read_175 ?_
                                      refine wc_goto X 176 180 dX7_read_176 (by decide) ?_
                                      refine wc_iaddN X 180 dX7_read_180 ?_
                                      refine wc_istore X 181 (L' := [(0, .ref s), (1, .ref z), (4, .int (nI (a + 4))), (5, .int (nI 112)), (6, .int (nI 1)), (7, .ref qa), (8, .int (-9))]) dX7_read_181 (by decide) rfl ?_
                                      refine wc_goto X 183 67 dX7_read_183 (by decide) ?_
                                      have hpe := peN (by rw [hl]; rfl) (by rw [hl]; rfl) (by rw [hl]; rfl) hq
                                      have hpn : (partP t ts r a).1.isNone = true := by rw [hpe]; rfl
                                      have hpo := partP_ok hr c73_15 hpn
                                      have hps := partsP_s (f := f) c73_15 hpn (by omega)
                                      rw [hpe] at hpo hps
                                      simp only at hpo hps
                                      refine wc_loc [0, 1, 2] (L' := [(0, .ref s), (1, .ref z), (4, .int (nI (a + 4)))]) rfl ?_
                                      refine wc_L (L' := [(0, .ref s), (1, .ref z), (4, .int (nI (a + 4)))]) (by rfl) ?_
                                      refine wc_ws (ws' := [ob s 7 [.int (nI ts), .ref lt], aI G lt 80 (nF t), ob z 1 [.ref qa, .ref qb], ob qa 6 [.int (nI (((edgeQ t ts r 0 a).2) 0)), .int (nI (((edgeQ t ts r 0 a).2) 2)), .ref la], aI G la 10 (nF (gz ((edgeQ t ts r 0 a).2))), ob qb 6 [.int (nI (((edgeQ t ts r 0 a).2) 1)), .int (nI (((edgeQ t ts r 0 a).2) 3)), .ref lb], aI G lb 10 (nF (go ((edgeQ t ts r 0 a).2)))]) (by rw [edgeQ_low hr (show 0 < 2 by decide) (show 0 < 4 by decide), edgeQ_low hr (show 0 < 2 by decide) (show 1 < 4 by decide), edgeQ_low hr (show 0 < 2 by decide) (show 2 < 4 by decide), edgeQ_low hr (show 0 < 2 by decide) (show 3 < 4 by decide), ← mG_0 (edgeQ t ts r 0 a).2, ← mG_1 (edgeQ t ts r 0 a).2, edgeQ_mG hr (show 0 < 2 by decide) (show 1 < 2 by decide) (by decide)]; rfl) ?_
                                      exact ih_13 (a + 4) ((edgeQ t ts r 0 a).2) (f - 1) hpo.1 (by rw [← he]; exact hps.symm) (by omega) hpo.2.2 (by omega)
                                  ·
                                    exact absurd rfl c162_20
                                ·
                                  refine wc_top (v' := .int (nI x)) (by first | rfl | (rw [hq]; rfl)) ?_
                                  have hx := edgeQ_bd hq
                                  refine wc_istore X 156 (L' := [(0, .ref s), (1, .ref z), (4, .int (nI a)), (5, .int (nI 112)), (6, .int (nI 1)), (7, .ref qa), (8, .int (nI x))]) dX7_read_156 (by decide) rfl ?_
                                  refine wc_iload X 158 6 dX7_read_158 rfl ?_
                                  refine wc_bipush X 160 (-9) dX7_read_160 (by decide) ?_
                                  refine wc_icmp_eq X 162 168 dX7_read_162 (by decide) (fun c162_22 => ?_) (fun c162_22 => ?_)
                                  ·
                                    exact absurd c162_22 (nI_ne_neg (by omega) (by decide))
                                  ·
                                    refine wc_iload X 165 6 dX7_read_165 rfl ?_
                                    exact ret 167 _ (nI x) _ dX7_read_167 (⟨_, _, _, _, _, _, by rw [← he, partsP_f c73_15 (show (partP t ts r a).1.isNone = false by rw [peS (by rw [hl]; rfl) (by rw [hl]; rfl) (by rw [hl]; rfl) hq]; rfl) (by omega), peS (by rw [hl]; rfl) (by rw [hl]; rfl) (by rw [hl]; rfl) hq]; rfl, rfl, fun z => by rw [← he, partsP_f c73_15 (show (partP t ts r a).1.isNone = false by rw [peS (by rw [hl]; rfl) (by rw [hl]; rfl) (by rw [hl]; rfl) hq]; rfl) (by omega), peS (by rw [hl]; rfl) (by rw [hl]; rfl) (by rw [hl]; rfl) hq] at z; cases z⟩)
                            ·
                              exact absurd c109_17 (by decide)
                          ·
                            exact absurd c88_16 (by decide)
                        ·
                          refine wc_L (L' := [(0, .ref s), (1, .ref z), (4, .int (nI a)), (5, .int (nI 113))]) (by rw [hl]) ?_
                          refine wc_iload X 84 3 dX7_read_84 rfl ?_
                          refine wc_bipush X 86 (nI 112) dX7_read_86 (by decide) ?_
                          refine wc_icmp_eqN X 88 98 dX7_read_88 (by decide) (by decide) (by decide) (fun c88_23 => ?_) (fun c88_23 => ?_)
                          ·
                            exact absurd c88_23 (by decide)
                          ·
                            refine wc_iload X 91 3 dX7_read_91 rfl ?_
                            refine wc_bipush X 93 (nI 113) dX7_read_93 (by decide) ?_
                            refine wc_icmp_neN X 95 102 dX7_read_95 (by decide) (by decide) (by decide) (fun c95_24 => ?_) (fun c95_24 => ?_)
                            ·
                              exact absurd c95_24 (by decide)
                            ·
                              refine wc_iconstN X 98 1 dX7_read_98 ?_
                              refine wc_goto X 99 103 dX7_read_99 (by decide) ?_
                              refine wc_istore X 103 (L' := [(0, .ref s), (1, .ref z), (4, .int (nI a)), (5, .int (nI 113)), (6, .int (nI 1))]) dX7_read_103 (by decide) rfl ?_
                              refine wc_iload X 105 3 dX7_read_105 rfl ?_
                              refine wc_bipush X 107 (nI 112) dX7_read_107 (by decide) ?_
                              refine wc_icmp_eqN X 109 119 dX7_read_109 (by decide) (by decide) (by decide) (fun c109_25 => ?_) (fun c109_25 => ?_)
                              ·
                                exact absurd c109_25 (by decide)
                              ·
                                refine wc_iload X 112 3 dX7_read_112 rfl ?_
                                refine wc_bipush X 114 (nI 80) dX7_read_114 (by decide) ?_
                                refine wc_icmp_neN X 116 126 dX7_read_116 (by decide) (by decide) (by decide) (fun c116_26 => ?_) (fun c116_26 => ?_)
                                ·
                                  refine wc_aload_n X 126 1 dX7_read_126 rfl ?_
                                  refine wc_get X 127 2 1 kd1 rfl (by decide) q_79 rfl dX7_read_127 ?_
                                  refine wc_astore X 130 (L' := [(0, .ref s), (1, .ref z), (4, .int (nI a)), (5, .int (nI 113)), (6, .int (nI 1)), (7, .ref qb)]) dX7_read_130 (by decide) rfl ?_
                                  refine wc_iload X 132 4 dX7_read_132 rfl ?_
                                  refine wc_if_eqN X 134 148 dX7_read_134 (by decide) (by decide) (fun c134_27 => ?_) (fun c134_27 => ?_)
                                  ·
                                    exact absurd c134_27 (by decide)
                                  ·
                                    refine wc_aload_n X 137 0 dX7_read_137 rfl ?_
                                    refine wc_aload X 138 5 dX7_read_138 rfl ?_
                                    refine wc_iload X 140 2 dX7_read_140 rfl ?_
                                    refine wc_mutV X Y 142 [0, 1, 5, 6] [2, 3, 4] 0 (c_X7_readEdge l G s lt ts t qb lb r 1 a (by first | assumption | omega) (by first | assumption | omega) (by first | assumption | omega) (by decide) (by first | assumption | omega)) yv_X7_readEdge kd7 rfl rfl (wr := [ob z 1 [.ref qa, .ref qb], ob qa 6 [.int (nI (r 0)), .int (nI (r 2)), .ref la], aI G la 10 (nF (gz r))]) rfl ⟨rfl, rfl, rfl⟩ q_320 ⟨rfl, rfl⟩ ⟨rfl, rfl⟩ ⟨rfl, rfl⟩ rfl rfl rfl dX7_read_142 (fun v w hp_28 => ?_)
                                    obtain ⟨rfl, rfl⟩ := hp_28
                                    refine wc_perm Y [3, 4, 0, 1, 2, 5, 6] [ob s 7 [.int (nI ts), .ref lt], aI G lt 80 (nF t), ob z 1 [.ref qa, .ref qb], ob qa 6 [.int (nI (r 0)), .int (nI (r 2)), .ref la], aI G la 10 (nF (gz r)), ob qb 6 [.int (nI (r 1)), .int (nI (r (2 + 1))), .ref lb], aI G lb 10 (nF (mG (edgeQ t ts r 1 a).2 1))] rfl rfl ?_
                                    show Wc Γ 0 0 145 [(0, .ref s), (1, .ref z), (4, .int (nI a)), (5, .int (nI 113)), (6, .int (nI 1)), (7, .ref qb)] [.int (optI (edgeQ t ts r 1 a).1)] [ob s 7 [.int (nI ts), .ref lt], aI G lt 80 (nF t), ob z 1 [.ref qa, .ref qb], ob qa 6 [.int (nI (r 0)), .int (nI (r 2)), .ref la], aI G la 10 (nF (gz r)), ob qb 6 [.int (nI (r 1)), .int (nI (r (2 + 1))), .ref lb], aI G lb 10 (nF (mG (edgeQ t ts r 1 a).2 1))]
                                    refine wc_goto X 145 156 dX7_read_145 (by decide) ?_
                                    rcases hq : (edgeQ t ts r 1 a).1 with _ | x
                                    ·
                                      refine wc_top (v' := .int (-9)) (by first | rfl | (rw [hq]; rfl)) ?_
                                      refine wc_istore X 156 (L' := [(0, .ref s), (1, .ref z), (4, .int (nI a)), (5, .int (nI 113)), (6, .int (nI 1)), (7, .ref qb), (8, .int (-9))]) dX7_read_156 (by decide) rfl ?_
                                      refine wc_iload X 158 6 dX7_read_158 rfl ?_
                                      refine wc_bipush X 160 (-9) dX7_read_160 (by decide) ?_
                                      refine wc_icmp_eq X 162 168 dX7_read_162 (by decide) (fun c162_29 => ?_) (fun c162_29 => ?_)
                                      ·
                                        refine wc_iload X 168 2 dX7_read_168 rfl ?_
                                        refine wc_iload X 170 4 dX7_read_170 rfl ?_
                                        refine wc_if_eqN X 172 179 dX7_read_172 (by decide) (by decide) (fun c172_30 => ?_) (fun c172_30 => ?_)
                                        ·
                                          exact absurd c172_30 (by decide)
                                        ·
                                          refine wc_iconstN X 175 4 dX7_read_175 ?_
                                          refine wc_goto X 176 180 dX7_read_176 (by decide) ?_
                                          refine wc_iaddN X 180 dX7_read_180 ?_
                                          refine wc_istore X 181 (L' := [(0, .ref s), (1, .ref z), (4, .int (nI (a + 4))), (5, .int (nI 113)), (6, .int (nI 1)), (7, .ref qb), (8, .int (-9))]) dX7_read_181 (by decide) rfl ?_
                                          refine wc_goto X 183 67 dX7_read_183 (by decide) ?_
                                          have hpe := peN (by rw [hl]; rfl) (by rw [hl]; rfl) (by rw [hl]; rfl) hq
                                          have hpn : (partP t ts r a).1.isNone = true := by rw [hpe]; rfl
                                          have hpo := partP_ok hr c73_15 hpn
                                          have hps := partsP_s (f := f) c73_15 hpn (by omega)
                                          rw [hpe] at hpo hps
                                          simp only at hpo hps
                                          refine wc_loc [0, 1, 2] (L' := [(0, .ref s), (1, .ref z), (4, .int (nI (a + 4)))]) rfl ?_
                                          refine wc_L (L' := [(0, .ref s), (1, .ref z), (4, .int (nI (a + 4)))]) (by rfl) ?_
                                          refine wc_ws (ws' := [ob s 7 [.int (nI ts), .ref lt], aI G lt 80 (nF t), ob z 1 [.ref qa, .ref qb], ob qa 6 [.int (nI (((edgeQ t ts r 1 a).2) 0)), .int (nI (((edgeQ t ts r 1 a).2) 2)), .ref la], aI G la 10 (nF (gz ((edgeQ t ts r 1 a).2))), ob qb 6 [.int (nI (((edgeQ t ts r 1 a).2) 1)), .int (nI (((edgeQ t ts r 1 a).2) 3)), .ref lb], aI G lb 10 (nF (go ((edgeQ t ts r 1 a).2)))]) (by rw [edgeQ_low hr (show 1 < 2 by decide) (show 0 < 4 by decide), edgeQ_low hr (show 1 < 2 by decide) (show 1 < 4 by decide), edgeQ_low hr (show 1 < 2 by decide) (show 2 < 4 by decide), edgeQ_low hr (show 1 < 2 by decide) (show 3 < 4 by decide), ← mG_0 (edgeQ t ts r 1 a).2, ← mG_1 (edgeQ t ts r 1 a).2, edgeQ_mG hr (show 1 < 2 by decide) (show 0 < 2 by decide) (by decide)]; rfl) ?_
                                          exact ih_13 (a + 4) ((edgeQ t ts r 1 a).2) (f - 1) hpo.1 (by rw [← he]; exact hps.symm) (by omega) hpo.2.2 (by omega)
                                      ·
                                        exact absurd rfl c162_29
                                    ·
                                      refine wc_top (v' := .int (nI x)) (by first | rfl | (rw [hq]; rfl)) ?_
                                      have hx := edgeQ_bd hq
                                      refine wc_istore X 156 (L' := [(0, .ref s), (1, .ref z), (4, .int (nI a)), (5, .int (nI 113)), (6, .int (nI 1)), (7, .ref qb), (8, .int (nI x))]) dX7_read_156 (by decide) rfl ?_
                                      refine wc_iload X 158 6 dX7_read_158 rfl ?_
                                      refine wc_bipush X 160 (-9) dX7_read_160 (by decide) ?_
                                      refine wc_icmp_eq X 162 168 dX7_read_162 (by decide) (fun c162_31 => ?_) (fun c162_31 => ?_)
                                      ·
                                        exact absurd c162_31 (nI_ne_neg (by omega) (by decide))
                                      ·
                                        refine wc_iload X 165 6 dX7_read_165 rfl ?_
                                        exact ret 167 _ (nI x) _ dX7_read_167 (⟨_, _, _, _, _, _, by rw [← he, partsP_f c73_15 (show (partP t ts r a).1.isNone = false by rw [peS (by rw [hl]; rfl) (by rw [hl]; rfl) (by rw [hl]; rfl) hq]; rfl) (by omega), peS (by rw [hl]; rfl) (by rw [hl]; rfl) (by rw [hl]; rfl) hq]; rfl, rfl, fun z => by rw [← he, partsP_f c73_15 (show (partP t ts r a).1.isNone = false by rw [peS (by rw [hl]; rfl) (by rw [hl]; rfl) (by rw [hl]; rfl) hq]; rfl) (by omega), peS (by rw [hl]; rfl) (by rw [hl]; rfl) (by rw [hl]; rfl) hq] at z; cases z⟩)
                                ·
                                  exact absurd c116_26 (by decide)
                        ·
                          refine wc_L (L' := [(0, .ref s), (1, .ref z), (4, .int (nI a)), (5, .int (nI 80))]) (by rw [hl]) ?_
                          refine wc_iload X 84 3 dX7_read_84 rfl ?_
                          refine wc_bipush X 86 (nI 112) dX7_read_86 (by decide) ?_
                          refine wc_icmp_eqN X 88 98 dX7_read_88 (by decide) (by decide) (by decide) (fun c88_32 => ?_) (fun c88_32 => ?_)
                          ·
                            exact absurd c88_32 (by decide)
                          ·
                            refine wc_iload X 91 3 dX7_read_91 rfl ?_
                            refine wc_bipush X 93 (nI 113) dX7_read_93 (by decide) ?_
                            refine wc_icmp_neN X 95 102 dX7_read_95 (by decide) (by decide) (by decide) (fun c95_33 => ?_) (fun c95_33 => ?_)
                            ·
                              refine wc_iconstN X 102 0 dX7_read_102 ?_
                              refine wc_istore X 103 (L' := [(0, .ref s), (1, .ref z), (4, .int (nI a)), (5, .int (nI 80)), (6, .int (nI 0))]) dX7_read_103 (by decide) rfl ?_
                              refine wc_iload X 105 3 dX7_read_105 rfl ?_
                              refine wc_bipush X 107 (nI 112) dX7_read_107 (by decide) ?_
                              refine wc_icmp_eqN X 109 119 dX7_read_109 (by decide) (by decide) (by decide) (fun c109_34 => ?_) (fun c109_34 => ?_)
                              ·
                                exact absurd c109_34 (by decide)
                              ·
                                refine wc_iload X 112 3 dX7_read_112 rfl ?_
                                refine wc_bipush X 114 (nI 80) dX7_read_114 (by decide) ?_
                                refine wc_icmp_neN X 116 126 dX7_read_116 (by decide) (by decide) (by decide) (fun c116_35 => ?_) (fun c116_35 => ?_)
                                ·
                                  exact absurd c116_35 (by decide)
                                ·
                                  refine wc_aload_n X 119 1 dX7_read_119 rfl ?_
                                  refine wc_get X 120 2 0 kd1 rfl (by decide) q_71 rfl dX7_read_120 ?_
                                  refine wc_goto X 123 130 dX7_read_123 (by decide) ?_
                                  refine wc_astore X 130 (L' := [(0, .ref s), (1, .ref z), (4, .int (nI a)), (5, .int (nI 80)), (6, .int (nI 0)), (7, .ref qa)]) dX7_read_130 (by decide) rfl ?_
                                  refine wc_iload X 132 4 dX7_read_132 rfl ?_
                                  refine wc_if_eqN X 134 148 dX7_read_134 (by decide) (by decide) (fun c134_36 => ?_) (fun c134_36 => ?_)
                                  ·
                                    refine wc_aload_n X 148 0 dX7_read_148 rfl ?_
                                    refine wc_aload X 149 5 dX7_read_149 rfl ?_
                                    refine wc_iload X 151 2 dX7_read_151 rfl ?_
                                    refine wc_mutV X Y 153 [0, 1, 3, 4] [2, 5, 6] 0 (c_X7_readEnd l G s lt ts t qa la r 0 a (by first | assumption | omega) (by first | assumption | omega) (by first | assumption | omega) (by decide) (by first | assumption | omega)) yv_X7_readEnd kd7 rfl rfl (wr := [ob z 1 [.ref qa, .ref qb], ob qb 6 [.int (nI (r 1)), .int (nI (r 3)), .ref lb], aI G lb 10 (nF (go r))]) rfl ⟨rfl, rfl, rfl⟩ q_360 ⟨rfl, rfl⟩ ⟨rfl, rfl⟩ ⟨rfl, rfl⟩ rfl rfl rfl dX7_read_153 (fun v w hp_37 => ?_)
                                    obtain ⟨rfl, rfl⟩ := hp_37
                                    refine wc_perm Y [3, 4, 0, 5, 6, 1, 2] [ob s 7 [.int (nI ts), .ref lt], aI G lt 80 (nF t), ob z 1 [.ref qa, .ref qb], ob qa 6 [.int (nI (r 0)), .int (nI ((endQ t ts r 0 a).2 (2 + 0))), .ref la], aI G la 10 (nF (mG r 0)), ob qb 6 [.int (nI (r 1)), .int (nI (r 3)), .ref lb], aI G lb 10 (nF (go r))] rfl rfl ?_
                                    show Wc Γ 0 0 156 [(0, .ref s), (1, .ref z), (4, .int (nI a)), (5, .int (nI 80)), (6, .int (nI 0)), (7, .ref qa)] [.int (optI (endQ t ts r 0 a).1)] [ob s 7 [.int (nI ts), .ref lt], aI G lt 80 (nF t), ob z 1 [.ref qa, .ref qb], ob qa 6 [.int (nI (r 0)), .int (nI ((endQ t ts r 0 a).2 (2 + 0))), .ref la], aI G la 10 (nF (mG r 0)), ob qb 6 [.int (nI (r 1)), .int (nI (r 3)), .ref lb], aI G lb 10 (nF (go r))]
                                    rcases hq : (endQ t ts r 0 a).1 with _ | x
                                    ·
                                      refine wc_top (v' := .int (-9)) (by first | rfl | (rw [hq]; rfl)) ?_
                                      refine wc_istore X 156 (L' := [(0, .ref s), (1, .ref z), (4, .int (nI a)), (5, .int (nI 80)), (6, .int (nI 0)), (7, .ref qa), (8, .int (-9))]) dX7_read_156 (by decide) rfl ?_
                                      refine wc_iload X 158 6 dX7_read_158 rfl ?_
                                      refine wc_bipush X 160 (-9) dX7_read_160 (by decide) ?_
                                      refine wc_icmp_eq X 162 168 dX7_read_162 (by decide) (fun c162_38 => ?_) (fun c162_38 => ?_)
                                      ·
                                        refine wc_iload X 168 2 dX7_read_168 rfl ?_
                                        refine wc_iload X 170 4 dX7_read_170 rfl ?_
                                        refine wc_if_eqN X 172 179 dX7_read_172 (by decide) (by decide) (fun c172_39 => ?_) (fun c172_39 => ?_)
                                        ·
                                          refine wc_iconstN X 179 2 dX7_read_179 ?_
                                          refine wc_iaddN X 180 dX7_read_180 ?_
                                          refine wc_istore X 181 (L' := [(0, .ref s), (1, .ref z), (4, .int (nI (a + 2))), (5, .int (nI 80)), (6, .int (nI 0)), (7, .ref qa), (8, .int (-9))]) dX7_read_181 (by decide) rfl ?_
                                          refine wc_goto X 183 67 dX7_read_183 (by decide) ?_
                                          have hpe := pnN (by rw [hl]; rfl) (fun _ => by rw [hl]; rfl) hq
                                          have hpn : (partP t ts r a).1.isNone = true := by rw [hpe]; rfl
                                          have hpo := partP_ok hr c73_15 hpn
                                          have hps := partsP_s (f := f) c73_15 hpn (by omega)
                                          rw [hpe] at hpo hps
                                          simp only at hpo hps
                                          refine wc_loc [0, 1, 2] (L' := [(0, .ref s), (1, .ref z), (4, .int (nI (a + 2)))]) rfl ?_
                                          refine wc_L (L' := [(0, .ref s), (1, .ref z), (4, .int (nI (a + 2)))]) (by rfl) ?_
                                          refine wc_ws (ws' := [ob s 7 [.int (nI ts), .ref lt], aI G lt 80 (nF t), ob z 1 [.ref qa, .ref qb], ob qa 6 [.int (nI (((endQ t ts r 0 a).2) 0)), .int (nI (((endQ t ts r 0 a).2) 2)), .ref la], aI G la 10 (nF (gz ((endQ t ts r 0 a).2))), ob qb 6 [.int (nI (((endQ t ts r 0 a).2) 1)), .int (nI (((endQ t ts r 0 a).2) 3)), .ref lb], aI G lb 10 (nF (go ((endQ t ts r 0 a).2)))]) (by rw [endQ_low (t := t) (ts := ts) (r := r) (m := 0) (a := a) (show 0 ≠ 2 + 0 by decide), endQ_low (t := t) (ts := ts) (r := r) (m := 0) (a := a) (show 1 ≠ 2 + 0 by decide), endQ_low (t := t) (ts := ts) (r := r) (m := 0) (a := a) (show 3 ≠ 2 + 0 by decide), ← mG_0 (endQ t ts r 0 a).2, ← mG_1 (endQ t ts r 0 a).2, endQ_mG (show 0 < 2 by decide), endQ_mG (show 0 < 2 by decide)]; rfl) ?_
                                          exact ih_13 (a + 2) ((endQ t ts r 0 a).2) (f - 1) hpo.1 (by rw [← he]; exact hps.symm) (by omega) hpo.2.2 (by omega)
                                        ·
                                          exact absurd c172_39 (by decide)
                                      ·
                                        exact absurd rfl c162_38
                                    ·
                                      refine wc_top (v' := .int (nI x)) (by first | rfl | (rw [hq]; rfl)) ?_
                                      have hx := endQ_bd hq
                                      refine wc_istore X 156 (L' := [(0, .ref s), (1, .ref z), (4, .int (nI a)), (5, .int (nI 80)), (6, .int (nI 0)), (7, .ref qa), (8, .int (nI x))]) dX7_read_156 (by decide) rfl ?_
                                      refine wc_iload X 158 6 dX7_read_158 rfl ?_
                                      refine wc_bipush X 160 (-9) dX7_read_160 (by decide) ?_
                                      refine wc_icmp_eq X 162 168 dX7_read_162 (by decide) (fun c162_40 => ?_) (fun c162_40 => ?_)
                                      ·
                                        exact absurd c162_40 (nI_ne_neg (by omega) (by decide))
                                      ·
                                        refine wc_iload X 165 6 dX7_read_165 rfl ?_
                                        exact ret 167 _ (nI x) _ dX7_read_167 (⟨_, _, _, _, _, _, by rw [← he, partsP_f c73_15 (show (partP t ts r a).1.isNone = false by rw [pnS (by rw [hl]; rfl) (fun _ => by rw [hl]; rfl) hq]; rfl) (by omega), pnS (by rw [hl]; rfl) (fun _ => by rw [hl]; rfl) hq]; rfl, rfl, fun z => by rw [← he, partsP_f c73_15 (show (partP t ts r a).1.isNone = false by rw [pnS (by rw [hl]; rfl) (fun _ => by rw [hl]; rfl) hq]; rfl) (by omega), pnS (by rw [hl]; rfl) (fun _ => by rw [hl]; rfl) hq] at z; cases z⟩)
                                  ·
                                    exact absurd c134_36 (by decide)
                            ·
                              exact absurd c95_33 (by decide)
                        ·
                          refine wc_L (L' := [(0, .ref s), (1, .ref z), (4, .int (nI a)), (5, .int (nI 81))]) (by rw [hl]) ?_
                          refine wc_iload X 84 3 dX7_read_84 rfl ?_
                          refine wc_bipush X 86 (nI 112) dX7_read_86 (by decide) ?_
                          refine wc_icmp_eqN X 88 98 dX7_read_88 (by decide) (by decide) (by decide) (fun c88_41 => ?_) (fun c88_41 => ?_)
                          ·
                            exact absurd c88_41 (by decide)
                          ·
                            refine wc_iload X 91 3 dX7_read_91 rfl ?_
                            refine wc_bipush X 93 (nI 113) dX7_read_93 (by decide) ?_
                            refine wc_icmp_neN X 95 102 dX7_read_95 (by decide) (by decide) (by decide) (fun c95_42 => ?_) (fun c95_42 => ?_)
                            ·
                              refine wc_iconstN X 102 0 dX7_read_102 ?_
                              refine wc_istore X 103 (L' := [(0, .ref s), (1, .ref z), (4, .int (nI a)), (5, .int (nI 81)), (6, .int (nI 0))]) dX7_read_103 (by decide) rfl ?_
                              refine wc_iload X 105 3 dX7_read_105 rfl ?_
                              refine wc_bipush X 107 (nI 112) dX7_read_107 (by decide) ?_
                              refine wc_icmp_eqN X 109 119 dX7_read_109 (by decide) (by decide) (by decide) (fun c109_43 => ?_) (fun c109_43 => ?_)
                              ·
                                exact absurd c109_43 (by decide)
                              ·
                                refine wc_iload X 112 3 dX7_read_112 rfl ?_
                                refine wc_bipush X 114 (nI 80) dX7_read_114 (by decide) ?_
                                refine wc_icmp_neN X 116 126 dX7_read_116 (by decide) (by decide) (by decide) (fun c116_44 => ?_) (fun c116_44 => ?_)
                                ·
                                  refine wc_aload_n X 126 1 dX7_read_126 rfl ?_
                                  refine wc_get X 127 2 1 kd1 rfl (by decide) q_79 rfl dX7_read_127 ?_
                                  refine wc_astore X 130 (L' := [(0, .ref s), (1, .ref z), (4, .int (nI a)), (5, .int (nI 81)), (6, .int (nI 0)), (7, .ref qb)]) dX7_read_130 (by decide) rfl ?_
                                  refine wc_iload X 132 4 dX7_read_132 rfl ?_
                                  refine wc_if_eqN X 134 148 dX7_read_134 (by decide) (by decide) (fun c134_45 => ?_) (fun c134_45 => ?_)
                                  ·
                                    refine wc_aload_n X 148 0 dX7_read_148 rfl ?_
                                    refine wc_aload X 149 5 dX7_read_149 rfl ?_
                                    refine wc_iload X 151 2 dX7_read_151 rfl ?_
                                    refine wc_mutV X Y 153 [0, 1, 5, 6] [2, 3, 4] 0 (c_X7_readEnd l G s lt ts t qb lb r 1 a (by first | assumption | omega) (by first | assumption | omega) (by first | assumption | omega) (by decide) (by first | assumption | omega)) yv_X7_readEnd kd7 rfl rfl (wr := [ob z 1 [.ref qa, .ref qb], ob qa 6 [.int (nI (r 0)), .int (nI (r 2)), .ref la], aI G la 10 (nF (gz r))]) rfl ⟨rfl, rfl, rfl⟩ q_360 ⟨rfl, rfl⟩ ⟨rfl, rfl⟩ ⟨rfl, rfl⟩ rfl rfl rfl dX7_read_153 (fun v w hp_46 => ?_)
                                    obtain ⟨rfl, rfl⟩ := hp_46
                                    refine wc_perm Y [3, 4, 0, 1, 2, 5, 6] [ob s 7 [.int (nI ts), .ref lt], aI G lt 80 (nF t), ob z 1 [.ref qa, .ref qb], ob qa 6 [.int (nI (r 0)), .int (nI (r 2)), .ref la], aI G la 10 (nF (gz r)), ob qb 6 [.int (nI (r 1)), .int (nI ((endQ t ts r 1 a).2 (2 + 1))), .ref lb], aI G lb 10 (nF (mG r 1))] rfl rfl ?_
                                    show Wc Γ 0 0 156 [(0, .ref s), (1, .ref z), (4, .int (nI a)), (5, .int (nI 81)), (6, .int (nI 0)), (7, .ref qb)] [.int (optI (endQ t ts r 1 a).1)] [ob s 7 [.int (nI ts), .ref lt], aI G lt 80 (nF t), ob z 1 [.ref qa, .ref qb], ob qa 6 [.int (nI (r 0)), .int (nI (r 2)), .ref la], aI G la 10 (nF (gz r)), ob qb 6 [.int (nI (r 1)), .int (nI ((endQ t ts r 1 a).2 (2 + 1))), .ref lb], aI G lb 10 (nF (mG r 1))]
                                    rcases hq : (endQ t ts r 1 a).1 with _ | x
                                    ·
                                      refine wc_top (v' := .int (-9)) (by first | rfl | (rw [hq]; rfl)) ?_
                                      refine wc_istore X 156 (L' := [(0, .ref s), (1, .ref z), (4, .int (nI a)), (5, .int (nI 81)), (6, .int (nI 0)), (7, .ref qb), (8, .int (-9))]) dX7_read_156 (by decide) rfl ?_
                                      refine wc_iload X 158 6 dX7_read_158 rfl ?_
                                      refine wc_bipush X 160 (-9) dX7_read_160 (by decide) ?_
                                      refine wc_icmp_eq X 162 168 dX7_read_162 (by decide) (fun c162_47 => ?_) (fun c162_47 => ?_)
                                      ·
                                        refine wc_iload X 168 2 dX7_read_168 rfl ?_
                                        refine wc_iload X 170 4 dX7_read_170 rfl ?_
                                        refine wc_if_eqN X 172 179 dX7_read_172 (by decide) (by decide) (fun c172_48 => ?_) (fun c172_48 => ?_)
                                        ·
                                          refine wc_iconstN X 179 2 dX7_read_179 ?_
                                          refine wc_iaddN X 180 dX7_read_180 ?_
                                          refine wc_istore X 181 (L' := [(0, .ref s), (1, .ref z), (4, .int (nI (a + 2))), (5, .int (nI 81)), (6, .int (nI 0)), (7, .ref qb), (8, .int (-9))]) dX7_read_181 (by decide) rfl ?_
                                          refine wc_goto X 183 67 dX7_read_183 (by decide) ?_
                                          have hpe := pnN (by rw [hl]; rfl) (fun _ => by rw [hl]; rfl) hq
                                          have hpn : (partP t ts r a).1.isNone = true := by rw [hpe]; rfl
                                          have hpo := partP_ok hr c73_15 hpn
                                          have hps := partsP_s (f := f) c73_15 hpn (by omega)
                                          rw [hpe] at hpo hps
                                          simp only at hpo hps
                                          refine wc_loc [0, 1, 2] (L' := [(0, .ref s), (1, .ref z), (4, .int (nI (a + 2)))]) rfl ?_
                                          refine wc_L (L' := [(0, .ref s), (1, .ref z), (4, .int (nI (a + 2)))]) (by rfl) ?_
                                          refine wc_ws (ws' := [ob s 7 [.int (nI ts), .ref lt], aI G lt 80 (nF t), ob z 1 [.ref qa, .ref qb], ob qa 6 [.int (nI (((endQ t ts r 1 a).2) 0)), .int (nI (((endQ t ts r 1 a).2) 2)), .ref la], aI G la 10 (nF (gz ((endQ t ts r 1 a).2))), ob qb 6 [.int (nI (((endQ t ts r 1 a).2) 1)), .int (nI (((endQ t ts r 1 a).2) 3)), .ref lb], aI G lb 10 (nF (go ((endQ t ts r 1 a).2)))]) (by rw [endQ_low (t := t) (ts := ts) (r := r) (m := 1) (a := a) (show 0 ≠ 2 + 1 by decide), endQ_low (t := t) (ts := ts) (r := r) (m := 1) (a := a) (show 1 ≠ 2 + 1 by decide), endQ_low (t := t) (ts := ts) (r := r) (m := 1) (a := a) (show 2 ≠ 2 + 1 by decide), ← mG_0 (endQ t ts r 1 a).2, ← mG_1 (endQ t ts r 1 a).2, endQ_mG (show 1 < 2 by decide), endQ_mG (show 1 < 2 by decide)]; rfl) ?_
                                          exact ih_13 (a + 2) ((endQ t ts r 1 a).2) (f - 1) hpo.1 (by rw [← he]; exact hps.symm) (by omega) hpo.2.2 (by omega)
                                        ·
                                          exact absurd c172_48 (by decide)
                                      ·
                                        exact absurd rfl c162_47
                                    ·
                                      refine wc_top (v' := .int (nI x)) (by first | rfl | (rw [hq]; rfl)) ?_
                                      have hx := endQ_bd hq
                                      refine wc_istore X 156 (L' := [(0, .ref s), (1, .ref z), (4, .int (nI a)), (5, .int (nI 81)), (6, .int (nI 0)), (7, .ref qb), (8, .int (nI x))]) dX7_read_156 (by decide) rfl ?_
                                      refine wc_iload X 158 6 dX7_read_158 rfl ?_
                                      refine wc_bipush X 160 (-9) dX7_read_160 (by decide) ?_
                                      refine wc_icmp_eq X 162 168 dX7_read_162 (by decide) (fun c162_49 => ?_) (fun c162_49 => ?_)
                                      ·
                                        exact absurd c162_49 (nI_ne_neg (by omega) (by decide))
                                      ·
                                        refine wc_iload X 165 6 dX7_read_165 rfl ?_
                                        exact ret 167 _ (nI x) _ dX7_read_167 (⟨_, _, _, _, _, _, by rw [← he, partsP_f c73_15 (show (partP t ts r a).1.isNone = false by rw [pnS (by rw [hl]; rfl) (fun _ => by rw [hl]; rfl) hq]; rfl) (by omega), pnS (by rw [hl]; rfl) (fun _ => by rw [hl]; rfl) hq]; rfl, rfl, fun z => by rw [← he, partsP_f c73_15 (show (partP t ts r a).1.isNone = false by rw [pnS (by rw [hl]; rfl) (fun _ => by rw [hl]; rfl) hq]; rfl) (by omega), pnS (by rw [hl]; rfl) (fun _ => by rw [hl]; rfl) hq] at z; cases z⟩)
                                  ·
                                    exact absurd c134_45 (by decide)
                                ·
                                  exact absurd c116_44 (by decide)
                            ·
                              exact absurd c95_42 (by decide)
                        ·
                          refine wc_iload X 84 3 dX7_read_84 rfl ?_
                          refine wc_bipush X 86 (nI 112) dX7_read_86 (by decide) ?_
                          refine wc_icmp_eqN X 88 98 dX7_read_88 (by decide) (Nat.lt_trans (ht _) (by decide)) (by decide) (fun c88_50 => ?_) (fun c88_50 => ?_)
                          ·
                            exact absurd c88_50 (by omega)
                          ·
                            refine wc_iload X 91 3 dX7_read_91 rfl ?_
                            refine wc_bipush X 93 (nI 113) dX7_read_93 (by decide) ?_
                            refine wc_icmp_neN X 95 102 dX7_read_95 (by decide) (Nat.lt_trans (ht _) (by decide)) (by decide) (fun c95_51 => ?_) (fun c95_51 => ?_)
                            ·
                              refine wc_iconstN X 102 0 dX7_read_102 ?_
                              refine wc_istore X 103 (L' := [(0, .ref s), (1, .ref z), (4, .int (nI a)), (5, .int (nI (t a))), (6, .int (nI 0))]) dX7_read_103 (by decide) rfl ?_
                              refine wc_iload X 105 3 dX7_read_105 rfl ?_
                              refine wc_bipush X 107 (nI 112) dX7_read_107 (by decide) ?_
                              refine wc_icmp_eqN X 109 119 dX7_read_109 (by decide) (Nat.lt_trans (ht _) (by decide)) (by decide) (fun c109_52 => ?_) (fun c109_52 => ?_)
                              ·
                                exact absurd c109_52 (by omega)
                              ·
                                refine wc_iload X 112 3 dX7_read_112 rfl ?_
                                refine wc_bipush X 114 (nI 80) dX7_read_114 (by decide) ?_
                                refine wc_icmp_neN X 116 126 dX7_read_116 (by decide) (Nat.lt_trans (ht _) (by decide)) (by decide) (fun c116_53 => ?_) (fun c116_53 => ?_)
                                ·
                                  refine wc_aload_n X 126 1 dX7_read_126 rfl ?_
                                  refine wc_get X 127 2 1 kd1 rfl (by decide) q_79 rfl dX7_read_127 ?_
                                  refine wc_astore X 130 (L' := [(0, .ref s), (1, .ref z), (4, .int (nI a)), (5, .int (nI (t a))), (6, .int (nI 0)), (7, .ref qb)]) dX7_read_130 (by decide) rfl ?_
                                  refine wc_iload X 132 4 dX7_read_132 rfl ?_
                                  refine wc_if_eqN X 134 148 dX7_read_134 (by decide) (by decide) (fun c134_54 => ?_) (fun c134_54 => ?_)
                                  ·
                                    refine wc_aload_n X 148 0 dX7_read_148 rfl ?_
                                    refine wc_aload X 149 5 dX7_read_149 rfl ?_
                                    refine wc_iload X 151 2 dX7_read_151 rfl ?_
                                    refine wc_mutV X Y 153 [0, 1, 5, 6] [2, 3, 4] 0 (c_X7_readEnd l G s lt ts t qb lb r 1 a (by first | assumption | omega) (by first | assumption | omega) (by first | assumption | omega) (by decide) (by first | assumption | omega)) yv_X7_readEnd kd7 rfl rfl (wr := [ob z 1 [.ref qa, .ref qb], ob qa 6 [.int (nI (r 0)), .int (nI (r 2)), .ref la], aI G la 10 (nF (gz r))]) rfl ⟨rfl, rfl, rfl⟩ q_360 ⟨rfl, rfl⟩ ⟨rfl, rfl⟩ ⟨rfl, rfl⟩ rfl rfl rfl dX7_read_153 (fun v w hp_55 => ?_)
                                    obtain ⟨rfl, rfl⟩ := hp_55
                                    refine wc_perm Y [3, 4, 0, 1, 2, 5, 6] [ob s 7 [.int (nI ts), .ref lt], aI G lt 80 (nF t), ob z 1 [.ref qa, .ref qb], ob qa 6 [.int (nI (r 0)), .int (nI (r 2)), .ref la], aI G la 10 (nF (gz r)), ob qb 6 [.int (nI (r 1)), .int (nI ((endQ t ts r 1 a).2 (2 + 1))), .ref lb], aI G lb 10 (nF (mG r 1))] rfl rfl ?_
                                    show Wc Γ 0 0 156 [(0, .ref s), (1, .ref z), (4, .int (nI a)), (5, .int (nI (t a))), (6, .int (nI 0)), (7, .ref qb)] [.int (optI (endQ t ts r 1 a).1)] [ob s 7 [.int (nI ts), .ref lt], aI G lt 80 (nF t), ob z 1 [.ref qa, .ref qb], ob qa 6 [.int (nI (r 0)), .int (nI (r 2)), .ref la], aI G la 10 (nF (gz r)), ob qb 6 [.int (nI (r 1)), .int (nI ((endQ t ts r 1 a).2 (2 + 1))), .ref lb], aI G lb 10 (nF (mG r 1))]
                                    rcases hq : (endQ t ts r 1 a).1 with _ | x
                                    ·
                                      refine wc_top (v' := .int (-9)) (by first | rfl | (rw [hq]; rfl)) ?_
                                      refine wc_istore X 156 (L' := [(0, .ref s), (1, .ref z), (4, .int (nI a)), (5, .int (nI (t a))), (6, .int (nI 0)), (7, .ref qb), (8, .int (-9))]) dX7_read_156 (by decide) rfl ?_
                                      refine wc_iload X 158 6 dX7_read_158 rfl ?_
                                      refine wc_bipush X 160 (-9) dX7_read_160 (by decide) ?_
                                      refine wc_icmp_eq X 162 168 dX7_read_162 (by decide) (fun c162_56 => ?_) (fun c162_56 => ?_)
                                      ·
                                        refine wc_iload X 168 2 dX7_read_168 rfl ?_
                                        refine wc_iload X 170 4 dX7_read_170 rfl ?_
                                        refine wc_if_eqN X 172 179 dX7_read_172 (by decide) (by decide) (fun c172_57 => ?_) (fun c172_57 => ?_)
                                        ·
                                          refine wc_iconstN X 179 2 dX7_read_179 ?_
                                          refine wc_iaddN X 180 dX7_read_180 ?_
                                          refine wc_istore X 181 (L' := [(0, .ref s), (1, .ref z), (4, .int (nI (a + 2))), (5, .int (nI (t a))), (6, .int (nI 0)), (7, .ref qb), (8, .int (-9))]) dX7_read_181 (by decide) rfl ?_
                                          refine wc_goto X 183 67 dX7_read_183 (by decide) ?_
                                          have hpe := pnN (by rw [show sgE (t a) = false by unfold sgE; simp; omega]) (fun z => by rw [show sgN (t a) = false by unfold sgN; simp; omega] at z; cases z) hq
                                          have hpn : (partP t ts r a).1.isNone = true := by rw [hpe]; rfl
                                          have hpo := partP_ok hr c73_15 hpn
                                          have hps := partsP_s (f := f) c73_15 hpn (by omega)
                                          rw [hpe] at hpo hps
                                          simp only at hpo hps
                                          refine wc_loc [0, 1, 2] (L' := [(0, .ref s), (1, .ref z), (4, .int (nI (a + 2)))]) rfl ?_
                                          refine wc_L (L' := [(0, .ref s), (1, .ref z), (4, .int (nI (a + 2)))]) (by rfl) ?_
                                          refine wc_ws (ws' := [ob s 7 [.int (nI ts), .ref lt], aI G lt 80 (nF t), ob z 1 [.ref qa, .ref qb], ob qa 6 [.int (nI (((endQ t ts r 1 a).2) 0)), .int (nI (((endQ t ts r 1 a).2) 2)), .ref la], aI G la 10 (nF (gz ((endQ t ts r 1 a).2))), ob qb 6 [.int (nI (((endQ t ts r 1 a).2) 1)), .int (nI (((endQ t ts r 1 a).2) 3)), .ref lb], aI G lb 10 (nF (go ((endQ t ts r 1 a).2)))]) (by rw [endQ_low (t := t) (ts := ts) (r := r) (m := 1) (a := a) (show 0 ≠ 2 + 1 by decide), endQ_low (t := t) (ts := ts) (r := r) (m := 1) (a := a) (show 1 ≠ 2 + 1 by decide), endQ_low (t := t) (ts := ts) (r := r) (m := 1) (a := a) (show 2 ≠ 2 + 1 by decide), ← mG_0 (endQ t ts r 1 a).2, ← mG_1 (endQ t ts r 1 a).2, endQ_mG (show 1 < 2 by decide), endQ_mG (show 1 < 2 by decide)]; rfl) ?_
                                          exact ih_13 (a + 2) ((endQ t ts r 1 a).2) (f - 1) hpo.1 (by rw [← he]; exact hps.symm) (by omega) hpo.2.2 (by omega)
                                        ·
                                          exact absurd c172_57 (by decide)
                                      ·
                                        exact absurd rfl c162_56
                                    ·
                                      refine wc_top (v' := .int (nI x)) (by first | rfl | (rw [hq]; rfl)) ?_
                                      have hx := endQ_bd hq
                                      refine wc_istore X 156 (L' := [(0, .ref s), (1, .ref z), (4, .int (nI a)), (5, .int (nI (t a))), (6, .int (nI 0)), (7, .ref qb), (8, .int (nI x))]) dX7_read_156 (by decide) rfl ?_
                                      refine wc_iload X 158 6 dX7_read_158 rfl ?_
                                      refine wc_bipush X 160 (-9) dX7_read_160 (by decide) ?_
                                      refine wc_icmp_eq X 162 168 dX7_read_162 (by decide) (fun c162_58 => ?_) (fun c162_58 => ?_)
                                      ·
                                        exact absurd c162_58 (nI_ne_neg (by omega) (by decide))
                                      ·
                                        refine wc_iload X 165 6 dX7_read_165 rfl ?_
                                        exact ret 167 _ (nI x) _ dX7_read_167 (⟨_, _, _, _, _, _, by rw [← he, partsP_f c73_15 (show (partP t ts r a).1.isNone = false by rw [pnS (by rw [show sgE (t a) = false by unfold sgE; simp; omega]) (fun z => by rw [show sgN (t a) = false by unfold sgN; simp; omega] at z; cases z) hq]; rfl) (by omega), pnS (by rw [show sgE (t a) = false by unfold sgE; simp; omega]) (fun z => by rw [show sgN (t a) = false by unfold sgN; simp; omega] at z; cases z) hq]; rfl, rfl, fun z => by rw [← he, partsP_f c73_15 (show (partP t ts r a).1.isNone = false by rw [pnS (by rw [show sgE (t a) = false by unfold sgE; simp; omega]) (fun z => by rw [show sgN (t a) = false by unfold sgN; simp; omega] at z; cases z) hq]; rfl) (by omega), pnS (by rw [show sgE (t a) = false by unfold sgE; simp; omega]) (fun z => by rw [show sgN (t a) = false by unfold sgN; simp; omega] at z; cases z) hq] at z; cases z⟩)
                                  ·
                                    exact absurd c134_54 (by decide)
                                ·
                                  exact absurd c116_53 (by omega)
                            ·
                              exact absurd c95_51 (by omega)
                  refine wc_loc [0, 1, 4] (L' := [(0, .ref s), (1, .ref z), (4, .int (nI 3))]) rfl ?_
                  refine wc_ws (ws' := [ob s 7 [.int (nI ts), .ref lt], aI G lt 80 (nF t), ob z 1 [.ref qa, .ref qb], ob qa 6 [.int (nI ((page0 c0 c1) 0)), .int (nI ((page0 c0 c1) 2)), .ref la], aI G la 10 (nF (gz (page0 c0 c1))), ob qb 6 [.int (nI ((page0 c0 c1) 1)), .int (nI ((page0 c0 c1) 3)), .ref lb], aI G lb 10 (nF (go (page0 c0 c1)))]) (by rw [gz_page0, go_page0]; rfl) ?_
                  exact LP_12 (ts - 3 + 1) 3 (page0 c0 c1) 80 (page0_ok (by omega) (by omega) (by omega) (by omega)) (by unfold parseP; rw [if_neg (by omega), figP_of hf1 1 4 (by decide), if_pos (by omega)]; simp only; rw [figP_of hf2 1 5 (by decide), if_pos (by omega)]) (by omega) (by omega) (Nat.lt_succ_self _)
                ·
                  refine wc_iconstN X 46 2 dX7_read_46 ?_
                  exact ret 47 _ (nI 2) _ dX7_read_47 (⟨_, _, _, _, _, _, by rw [show parseP t ts = (some 2, fun _ => 0) by unfold parseP; rw [if_neg (by omega), figP_of hf1 1 4 (by decide), if_pos (by omega)]; simp only; rw [figP_of hf2 1 5 (by decide), if_neg (by omega)]]; rfl, rfl, fun z => by rw [show parseP t ts = (some 2, fun _ => 0) by unfold parseP; rw [if_neg (by omega), figP_of hf1 1 4 (by decide), if_pos (by omega)]; simp only; rw [figP_of hf2 1 5 (by decide), if_neg (by omega)]] at z; cases z⟩)
          ·
            refine wc_iconstN X 28 1 dX7_read_28 ?_
            exact ret 29 _ (nI 1) _ dX7_read_29 (⟨_, _, _, _, _, _, by rw [show parseP t ts = (some 1, fun _ => 0) by unfold parseP; rw [if_neg (by omega), figP_of hf1 1 4 (by decide), if_neg (by omega)]]; rfl, rfl, fun z => by rw [show parseP t ts = (some 1, fun _ => 0) by unfold parseP; rw [if_neg (by omega), figP_of hf1 1 4 (by decide), if_neg (by omega)]] at z; cases z⟩)
    ·
      refine wc_iconstN X 10 0 dX7_read_10 ?_
      exact ret 11 _ (nI 0) _ dX7_read_11 (⟨_, _, _, _, _, _, by rw [show parseP t ts = (some 0, fun _ => 0) by unfold parseP; rw [if_pos (by omega)]]; rfl, rfl, fun z => by rw [show parseP t ts = (some 0, fun _ => 0) by unfold parseP; rw [if_pos (by omega)]] at z; cases z⟩)

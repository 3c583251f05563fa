set_option maxHeartbeats 4000000 in
set_option maxRecDepth 100000 in
theorem c_X8_clear (l : Launch) (G : GG) (q lq len : Nat) (b d : Bool)  : MM l G yX8_clear (Cond.code yX8_clear cX8_clear 2 none) { frames := 0, cells := 0, slots := 0, locals := 0 } [.ref q, .int (b2i d)] [ob q 8 [.int (b2i b), .int (nI len), .ref lq]] (fun (v : Option Value) (w : va_W) => v = none ∧ w = [ob q 8 [.int (b2i d), .int (nI 0), .ref lq]]) 0 0 := by
  refine MM.ofV (by decide) rfl (fun Γ X Y hnm ret => ?_)
  show Wc Γ 0 0 0 [(0, .ref q), (1, .int (b2i d))] [] [ob q 8 [.int (b2i b), .int (nI len), .ref lq]]
  refine wc_aload_n X 0 0 dX8_clear_0 rfl ?_
  refine wc_iload_n X 1 1 dX8_clear_1 rfl ?_
  refine wc_put X Y 2 0 0 kd8 rfl (by decide) q_117 rfl (b2i_nar _) (b2i_fit _) (Nat.le_of_ble_eq_true rfl) (ws' := [ob q 8 [.int (b2i d), .int (nI len), .ref lq]]) rfl dX8_clear_2 ?_
  refine wc_aload_n X 5 0 dX8_clear_5 rfl ?_
  refine wc_iconstN X 6 0 dX8_clear_6 ?_
  refine wc_put X Y 7 0 1 kd8 rfl (by decide) q_118 rfl rfl rfl (Nat.le_of_ble_eq_true rfl) (ws' := [ob q 8 [.int (b2i d), .int (nI 0), .ref lq]]) rfl dX8_clear_7 ?_
  exact ret 10 _ _ dX8_clear_10 (⟨rfl, rfl⟩)

set_option maxHeartbeats 4000000 in
set_option maxRecDepth 100000 in
theorem c_X8_prepend (l : Launch) (G : GG) (q lq len : Nat) (b : Bool) (g : Nat → Nat) (c : Nat) (hl : len < 200) : MM l G yX8_prepend (Cond.code yX8_prepend cX8_prepend 2 none) { frames := 0, cells := 0, slots := 0, locals := 0 } [.ref q, .int (nI c)] [ob q 8 [.int (b2i b), .int (nI len), .ref lq], aI G lq 200 (nF g)] (fun (v : Option Value) (w : va_W) => v = none ∧ w = [ob q 8 [.int (b2i b), .int (nI (len + 1)), .ref lq], aI G lq 200 (nF (up g len c))]) 0 0 := by
  refine MM.ofV (by decide) rfl (fun Γ X Y hnm ret => ?_)
  show Wc Γ 0 0 0 [(0, .ref q), (1, .int (nI c))] [] [ob q 8 [.int (b2i b), .int (nI len), .ref lq], aI G lq 200 (nF g)]
  refine wc_aload_n X 0 0 dX8_prepend_0 rfl ?_
  refine wc_get X 1 0 1 kd8 rfl (by decide) q_118 rfl dX8_prepend_1 ?_
  refine wc_aload_n X 4 0 dX8_prepend_4 rfl ?_
  refine wc_get X 5 0 2 kd8 rfl (by decide) q_119 rfl dX8_prepend_5 ?_
  refine wc_alenI X 8 1 rfl dX8_prepend_8 ?_
  refine wc_icmp_geN X 9 32 dX8_prepend_9 (by decide) (by omega) (by decide) (fun c9_1 => ?_) (fun c9_1 => ?_)
  ·
    exact absurd c9_1 (by omega)
  ·
    refine wc_aload_n X 12 0 dX8_prepend_12 rfl ?_
    refine wc_get X 13 0 2 kd8 rfl (by decide) q_119 rfl dX8_prepend_13 ?_
    refine wc_aload_n X 16 0 dX8_prepend_16 rfl ?_
    refine wc_get X 17 0 1 kd8 rfl (by decide) q_118 rfl dX8_prepend_17 ?_
    refine wc_iload_n X 20 1 dX8_prepend_20 rfl ?_
    refine wc_iastG X Y 21 1 rfl (by omega) (by decide) (ws' := [ob q 8 [.int (b2i b), .int (nI len), .ref lq], aI G lq 200 (nF (up g len c))]) rfl dX8_prepend_21 ?_
    refine wc_aload_n X 22 0 dX8_prepend_22 rfl ?_
    refine wc_dup X 23 dX8_prepend_23 rfl ?_
    refine wc_get X 24 0 1 kd8 rfl (by decide) q_118 rfl dX8_prepend_24 ?_
    refine wc_iconstN X 27 1 dX8_prepend_27 ?_
    refine wc_iaddN X 28 dX8_prepend_28 ?_
    refine wc_put X Y 29 0 1 kd8 rfl (by decide) q_118 rfl rfl rfl (Nat.le_of_ble_eq_true rfl) (ws' := [ob q 8 [.int (b2i b), .int (nI (len + 1)), .ref lq], aI G lq 200 (nF (up g len c))]) rfl dX8_prepend_29 ?_
    exact ret 32 _ _ dX8_prepend_32 (⟨rfl, rfl⟩)

set_option maxHeartbeats 4000000 in
set_option maxRecDepth 100000 in
theorem c_X8_tell (l : Launch) (G : GG) (q lq len : Nat) (b : Bool) (g : Nat → Nat) (k : Nat) (hl : len ≤ 200) (hk : k ≤ 200) : RM l G yX8_tell (Cond.code yX8_tell cX8_tell 2 (some .int)) { frames := 0, cells := 0, slots := 0, locals := 0 } [.ref q, .int (nI k)] [ob q 8 [.int (b2i b), .int (nI len), .ref lq], aI G lq 200 (nF g)] (.int (spTell b len g k)) := by
  refine RM.ofI (by decide) rfl (fun Γ X ret => ?_)
  show Wc Γ 0 0 0 [(0, .ref q), (1, .int (nI k))] [] [ob q 8 [.int (b2i b), .int (nI len), .ref lq], aI G lq 200 (nF g)]
  refine wc_aload_n X 0 0 dX8_tell_0 rfl ?_
  refine wc_get X 1 0 0 kd8 rfl (by decide) q_117 rfl dX8_tell_1 ?_
  refine wc_if_eqB X 4 19 dX8_tell_4 (by decide) (fun c4_1 => ?_) (fun c4_1 => ?_)
  ·
    refine wc_bipush X 19 (-9) dX8_tell_19 (by decide) ?_
    exact ret 21 _ (-9) dX8_tell_21 (by unfold spTell; rw [c4_1]; rfl)
  ·
    refine wc_iload_n X 7 1 dX8_tell_7 rfl ?_
    refine wc_ifltF X 8 (tgt := 19) dX8_tell_8 (by decide) (by omega) ?_
    refine wc_iload_n X 11 1 dX8_tell_11 rfl ?_
    refine wc_aload_n X 12 0 dX8_tell_12 rfl ?_
    refine wc_get X 13 0 1 kd8 rfl (by decide) q_118 rfl dX8_tell_13 ?_
    refine wc_icmp_leN X 16 22 dX8_tell_16 (by decide) (by omega) (by omega) (fun c16_3 => ?_) (fun c16_3 => ?_)
    ·
      refine wc_iload_n X 22 1 dX8_tell_22 rfl ?_
      refine wc_if_neN X 23 33 dX8_tell_23 (by decide) (by omega) (fun c23_4 => ?_) (fun c23_4 => ?_)
      ·
        refine wc_aload_n X 33 0 dX8_tell_33 rfl ?_
        refine wc_get X 34 0 2 kd8 rfl (by decide) q_119 rfl dX8_tell_34 ?_
        refine wc_aload_n X 37 0 dX8_tell_37 rfl ?_
        refine wc_get X 38 0 1 kd8 rfl (by decide) q_118 rfl dX8_tell_38 ?_
        refine wc_iload_n X 41 1 dX8_tell_41 rfl ?_
        refine wc_isubN X 42 dX8_tell_42 (by omega) ?_
        refine wc_ialdG X 43 1 rfl (by omega) (by decide) dX8_tell_43 ?_
        exact ret 44 _ (nI (g (len - k))) dX8_tell_44 (by unfold spTell; rw [c4_1, decide_eq_true (by omega), if_pos (show (true && true) = true from rfl), if_neg c23_4])
      ·
        refine wc_aload_n X 26 0 dX8_tell_26 rfl ?_
        refine wc_get X 27 0 1 kd8 rfl (by decide) q_118 rfl dX8_tell_27 ?_
        refine wc_goto X 30 44 dX8_tell_30 (by decide) ?_
        exact ret 44 _ (nI len) dX8_tell_44 (by unfold spTell; rw [c4_1, decide_eq_true (by omega), if_pos (show (true && true) = true from rfl), if_pos c23_4])
    ·
      refine wc_bipush X 19 (-9) dX8_tell_19 (by decide) ?_
      exact ret 21 _ (-9) dX8_tell_21 (by unfold spTell; rw [c4_1, decide_eq_false (by omega)]; rfl)

set_option maxHeartbeats 4000000 in
set_option maxRecDepth 100000 in
theorem c_X0_edgeAct (l : Launch) (G : GG) (m i c t : Nat)  : RM l G yX0_edgeAct (Cond.code yX0_edgeAct cX0_edgeAct 4 (some .int)) { frames := 0, cells := 0, slots := 0, locals := 0 } [.int (nI m), .int (nI i), .int (nI c), .int (nI t)] [] (.int (nI (m * 1000 + i * 100 + c * 10 + t))) := by
  refine RM.ofI (by decide) rfl (fun Γ X ret => ?_)
  show Wc Γ 0 0 0 [(0, .int (nI m)), (1, .int (nI i)), (2, .int (nI c)), (3, .int (nI t))] [] []
  refine wc_iload_n X 0 0 dX0_edgeAct_0 rfl ?_
  refine wc_sipush X 1 (nI 1000) dX0_edgeAct_1 (by decide) ?_
  refine wc_imulN X 4 dX0_edgeAct_4 ?_
  refine wc_iload_n X 5 1 dX0_edgeAct_5 rfl ?_
  refine wc_bipush X 6 (nI 100) dX0_edgeAct_6 (by decide) ?_
  refine wc_imulN X 8 dX0_edgeAct_8 ?_
  refine wc_iaddN X 9 dX0_edgeAct_9 ?_
  refine wc_iload_n X 10 2 dX0_edgeAct_10 rfl ?_
  refine wc_bipush X 11 (nI 10) dX0_edgeAct_11 (by decide) ?_
  refine wc_imulN X 13 dX0_edgeAct_13 ?_
  refine wc_iaddN X 14 dX0_edgeAct_14 ?_
  refine wc_iload_n X 15 3 dX0_edgeAct_15 rfl ?_
  refine wc_iaddN X 16 dX0_edgeAct_16 ?_
  exact ret 17 _ (nI ((((m * 1000) + (i * 100)) + (c * 10)) + t)) dX0_edgeAct_17 (rfl)

set_option maxHeartbeats 4000000 in
set_option maxRecDepth 100000 in
theorem c_X0_endAct (l : Launch) (G : GG) (m i : Nat)  : RM l G yX0_endAct (Cond.code yX0_endAct cX0_endAct 2 (some .int)) { frames := 1, cells := 0, slots := 0, locals := 23 } [.int (nI m), .int (nI i)] [] (.int (nI (m * 1000 + i * 100 + 0 * 10 + 0))) := by
  refine RM.ofI (by decide) rfl (fun Γ X ret => ?_)
  show Wc Γ 0 0 0 [(0, .int (nI m)), (1, .int (nI i))] [] []
  refine wc_iload_n X 0 0 dX0_endAct_0 rfl ?_
  refine wc_iload_n X 1 1 dX0_endAct_1 rfl ?_
  refine wc_iconstN X 2 0 dX0_endAct_2 ?_
  refine wc_iconstN X 3 0 dX0_endAct_3 ?_
  refine wc_callS X 4 [] (c_X0_edgeAct l G m i 0 0 ) ys_X0_edgeAct rfl q_432 ⟨rfl, rfl⟩ ⟨rfl, rfl⟩ ⟨rfl, rfl⟩ rfl rfl rfl dX0_endAct_4 ?_
  exact ret 7 _ (nI (m * 1000 + i * 100 + 0 * 10 + 0)) dX0_endAct_7 (rfl)

set_option maxHeartbeats 4000000 in
set_option maxRecDepth 100000 in
theorem c_X0_appendA (l : Launch) (G : GG) (q lq len : Nat) (r : Nat → Nat) (a : Nat) (hl : len < 14) : MM l G yX0_append (Cond.code yX0_append cX0_append 2 none) { frames := 0, cells := 0, slots := 0, locals := 0 } [.ref q, .int (nI a)] [ob q 0 [.int (nI len), .ref lq], aI G lq 14 (nF r)] (fun (v : Option Value) (w : va_W) => v = none ∧ w = [ob q 0 [.int (nI (len + 1)), .ref lq], aI G lq 14 (nF (up r len a))]) 0 0 := by
  refine MM.ofV (by decide) rfl (fun Γ X Y hnm ret => ?_)
  show Wc Γ 0 0 0 [(0, .ref q), (1, .int (nI a))] [] [ob q 0 [.int (nI len), .ref lq], aI G lq 14 (nF r)]
  refine wc_aload_n X 0 0 dX0_append_0 rfl ?_
  refine wc_get X 1 0 0 kd0 rfl (by decide) q_92 rfl dX0_append_1 ?_
  refine wc_bipush X 4 (nI 14) dX0_append_4 (by decide) ?_
  refine wc_icmp_ltN X 6 30 dX0_append_6 (by decide) (by omega) (by decide) (fun c6_1 => ?_) (fun c6_1 => ?_)
  ·
    refine wc_aload_n X 30 0 dX0_append_30 rfl ?_
    refine wc_get X 31 0 1 kd0 rfl (by decide) q_94 rfl dX0_append_31 ?_
    refine wc_aload_n X 34 0 dX0_append_34 rfl ?_
    refine wc_get X 35 0 0 kd0 rfl (by decide) q_92 rfl dX0_append_35 ?_
    refine wc_iload_n X 38 1 dX0_append_38 rfl ?_
    refine wc_iastG X Y 39 1 rfl (by omega) (by decide) (ws' := [ob q 0 [.int (nI len), .ref lq], aI G lq 14 (nF (up r len a))]) rfl dX0_append_39 ?_
    refine wc_aload_n X 40 0 dX0_append_40 rfl ?_
    refine wc_dup X 41 dX0_append_41 rfl ?_
    refine wc_get X 42 0 0 kd0 rfl (by decide) q_92 rfl dX0_append_42 ?_
    refine wc_iconstN X 45 1 dX0_append_45 ?_
    refine wc_iaddN X 46 dX0_append_46 ?_
    refine wc_put X Y 47 0 0 kd0 rfl (by decide) q_92 rfl rfl rfl (Nat.le_of_ble_eq_true rfl) (ws' := [ob q 0 [.int (nI (len + 1)), .ref lq], aI G lq 14 (nF (up r len a))]) rfl dX0_append_47 ?_
    exact ret 50 _ _ dX0_append_50 (⟨rfl, rfl⟩)
  ·
    exact absurd c6_1 (by omega)

set_option maxHeartbeats 4000000 in
set_option maxRecDepth 100000 in
theorem c_X0_appendB (l : Launch) (G : GG) (q lq : Nat) (r : Nat → Nat) (a : Nat)  : MM l G yX0_append (Cond.code yX0_append cX0_append 2 none) { frames := 1, cells := 0, slots := 0, locals := 18 } [.ref q, .int (nI a)] [ob q 0 [.int (nI 14), .ref lq], aI G lq 14 (nF r)] (fun (v : Option Value) (w : va_W) => v = none ∧ w = [ob q 0 [.int (nI 14), .ref lq], aI G lq 14 (nF (shAct r a))]) 0 0 := by
  refine MM.ofV (by decide) rfl (fun Γ X Y hnm ret => ?_)
  show Wc Γ 0 0 0 [(0, .ref q), (1, .int (nI a))] [] [ob q 0 [.int (nI 14), .ref lq], aI G lq 14 (nF r)]
  refine wc_aload_n X 0 0 dX0_append_0 rfl ?_
  refine wc_get X 1 0 0 kd0 rfl (by decide) q_92 rfl dX0_append_1 ?_
  refine wc_bipush X 4 (nI 14) dX0_append_4 (by decide) ?_
  refine wc_icmp_ltN X 6 30 dX0_append_6 (by decide) (by decide) (by decide) (fun c6_1 => ?_) (fun c6_1 => ?_)
  ·
    exact absurd c6_1 (by decide)
  ·
    refine wc_aload_n X 9 0 dX0_append_9 rfl ?_
    refine wc_get X 10 0 1 kd0 rfl (by decide) q_94 rfl dX0_append_10 ?_
    refine wc_iconstN X 13 1 dX0_append_13 ?_
    refine wc_aload_n X 14 0 dX0_append_14 rfl ?_
    refine wc_get X 15 0 1 kd0 rfl (by decide) q_94 rfl dX0_append_15 ?_
    refine wc_iconstN X 18 0 dX0_append_18 ?_
    refine wc_bipush X 19 (nI 13) dX0_append_19 (by decide) ?_
    refine wc_copyI X Y 21 1 1 rfl rfl (by decide) (by decide) (by decide) (by decide) (by decide) (ws' := [ob q 0 [.int (nI 14), .ref lq], aI G lq 14 (va_cpy (nF r) (nF r) 1 0 13)]) rfl q_424 q_384 q_383 q_15 rfl rfl dX0_append_21 ?_
    refine wc_aload_n X 24 0 dX0_append_24 rfl ?_
    refine wc_bipush X 25 (nI 13) dX0_append_25 (by decide) ?_
    refine wc_put X Y 27 0 0 kd0 rfl (by decide) q_92 rfl rfl rfl (Nat.le_of_ble_eq_true rfl) (ws' := [ob q 0 [.int (nI 13), .ref lq], aI G lq 14 (va_cpy (nF r) (nF r) 1 0 13)]) rfl dX0_append_27 ?_
    refine wc_aload_n X 30 0 dX0_append_30 rfl ?_
    refine wc_get X 31 0 1 kd0 rfl (by decide) q_94 rfl dX0_append_31 ?_
    refine wc_aload_n X 34 0 dX0_append_34 rfl ?_
    refine wc_get X 35 0 0 kd0 rfl (by decide) q_92 rfl dX0_append_35 ?_
    refine wc_iload_n X 38 1 dX0_append_38 rfl ?_
    refine wc_iastN X Y 39 1 rfl (by decide) (by decide) (ws' := [ob q 0 [.int (nI 13), .ref lq], aI G lq 14 (upd (va_cpy (nF r) (nF r) 1 0 13) 13 (nI a))]) rfl dX0_append_39 ?_
    refine wc_ext X Y 1 (f' := nF (shAct r a)) rfl (fun j hj => shAct_ext hj) (ws' := [ob q 0 [.int (nI 13), .ref lq], aI G lq 14 (nF (shAct r a))]) rfl ?_
    refine wc_aload_n X 40 0 dX0_append_40 rfl ?_
    refine wc_dup X 41 dX0_append_41 rfl ?_
    refine wc_get X 42 0 0 kd0 rfl (by decide) q_92 rfl dX0_append_42 ?_
    refine wc_iconstN X 45 1 dX0_append_45 ?_
    refine wc_iaddN X 46 dX0_append_46 ?_
    refine wc_put X Y 47 0 0 kd0 rfl (by decide) q_92 rfl rfl rfl (Nat.le_of_ble_eq_true rfl) (ws' := [ob q 0 [.int (nI (13 + 1)), .ref lq], aI G lq 14 (nF (shAct r a))]) rfl dX0_append_47 ?_
    exact ret 50 _ _ dX0_append_50 (⟨rfl, rfl⟩)

set_option maxHeartbeats 4000000 in
set_option maxRecDepth 100000 in
theorem c_X0_takeBackE0 (l : Launch) (G : GG) (q lq len : Nat) (r : Nat → Nat) (z qa la n0 e0 : Nat) (g0 : Nat → Nat) (qb lb n1 e1 : Nat) (g1 : Nat → Nat) (i c t : Nat) (hl : 1 ≤ len) (hl2 : len ≤ 14) (hi : i < 5) (h1 : 1 ≤ c) (h2 : c ≤ 2) (ht : t < 5) (ha : r (len - 1) = 0 + i * 100 + c * 10 + t) : MM l G yX0_takeBack (Cond.code yX0_takeBack cX0_takeBack 6 none) { frames := 1, cells := 0, slots := 0, locals := 24 } [.ref q, .ref z] [ob q 0 [.int (nI len), .ref lq], aI G lq 14 (nF r), ob z 1 [.ref qa, .ref qb], ob qa 6 [.int (nI n0), .int (nI e0), .ref la], aI G la 10 (nF g0), ob qb 6 [.int (nI n1), .int (nI e1), .ref lb], aI G lb 10 (nF g1)] (fun (v : Option Value) (w : va_W) => v = none ∧ w = [ob q 0 [.int (nI (len - 1)), .ref lq], aI G lq 14 (nF r), ob z 1 [.ref qa, .ref qb], ob qa 6 [.int (nI n0), .int (nI e0), .ref la], aI G la 10 (nF (up g0 (i * 2 + c - 1) (g0 (i * 2 + c - 1) ^^^ 2 ^ t))), ob qb 6 [.int (nI n1), .int (nI e1), .ref lb], aI G lb 10 (nF g1)]) 0 0 := by
  refine MM.ofV (by decide) rfl (fun Γ X Y hnm ret => ?_)
  show Wc Γ 0 0 0 [(0, .ref q), (1, .ref z)] [] [ob q 0 [.int (nI len), .ref lq], aI G lq 14 (nF r), ob z 1 [.ref qa, .ref qb], ob qa 6 [.int (nI n0), .int (nI e0), .ref la], aI G la 10 (nF g0), ob qb 6 [.int (nI n1), .int (nI e1), .ref lb], aI G lb 10 (nF g1)]
  refine wc_aload_n X 0 0 dX0_takeBack_0 rfl ?_
  refine wc_get X 1 0 0 kd0 rfl (by decide) q_92 rfl dX0_takeBack_1 ?_
  refine wc_iconstN X 4 1 dX0_takeBack_4 ?_
  refine wc_icmp_ltN X 5 17 dX0_takeBack_5 (by decide) (by omega) (by decide) (fun c5_1 => ?_) (fun c5_1 => ?_)
  ·
    exact absurd c5_1 (by omega)
  ·
    refine wc_aload_n X 8 0 dX0_takeBack_8 rfl ?_
    refine wc_get X 9 0 0 kd0 rfl (by decide) q_92 rfl dX0_takeBack_9 ?_
    refine wc_bipush X 12 (nI 14) dX0_takeBack_12 (by decide) ?_
    refine wc_icmp_leN X 14 18 dX0_takeBack_14 (by decide) (by omega) (by decide) (fun c14_2 => ?_) (fun c14_2 => ?_)
    ·
      refine wc_aload_n X 18 0 dX0_takeBack_18 rfl ?_
      refine wc_dup X 19 dX0_takeBack_19 rfl ?_
      refine wc_get X 20 0 0 kd0 rfl (by decide) q_92 rfl dX0_takeBack_20 ?_
      refine wc_iconstN X 23 1 dX0_takeBack_23 ?_
      refine wc_isubN X 24 dX0_takeBack_24 (by omega) ?_
      refine wc_put X Y 25 0 0 kd0 rfl (by decide) q_92 rfl rfl rfl (Nat.le_of_ble_eq_true rfl) (ws' := [ob q 0 [.int (nI (len - 1)), .ref lq], aI G lq 14 (nF r), ob z 1 [.ref qa, .ref qb], ob qa 6 [.int (nI n0), .int (nI e0), .ref la], aI G la 10 (nF g0), ob qb 6 [.int (nI n1), .int (nI e1), .ref lb], aI G lb 10 (nF g1)]) rfl dX0_takeBack_25 ?_
      refine wc_aload_n X 28 0 dX0_takeBack_28 rfl ?_
      refine wc_get X 29 0 1 kd0 rfl (by decide) q_94 rfl dX0_takeBack_29 ?_
      refine wc_aload_n X 32 0 dX0_takeBack_32 rfl ?_
      refine wc_get X 33 0 0 kd0 rfl (by decide) q_92 rfl dX0_takeBack_33 ?_
      refine wc_ialdG X 36 1 rfl (by omega) (by decide) dX0_takeBack_36 ?_
      refine wc_topi (nI (0 + i * 100 + c * 10 + t)) (congrArg nI (ha)) ?_
      refine wc_istore_n X 37 (L' := [(0, .ref q), (1, .ref z), (2, .int (nI (0 + i * 100 + c * 10 + t)))]) dX0_takeBack_37 (by decide) rfl ?_
      refine wc_aload_n X 38 1 dX0_takeBack_38 rfl ?_
      refine wc_iload_n X 39 2 dX0_takeBack_39 rfl ?_
      refine wc_sipush X 40 (nI 1000) dX0_takeBack_40 (by decide) ?_
      refine wc_idivN X 43 dX0_takeBack_43 (by omega) (by decide) (by decide) ?_
      refine wc_topi (nI 0) (congrArg nI (by omega)) ?_
      refine wc_callV X 44 [2] 2 (c_X1_of0 l G z qa qb ) yv_X1_of kd1 rfl rfl q_442 ⟨rfl, rfl⟩ ⟨rfl, rfl⟩ ⟨rfl, rfl⟩ rfl rfl rfl dX0_takeBack_44 ?_
      refine wc_astore_n X 47 (L' := [(0, .ref q), (1, .ref z), (2, .int (nI (0 + i * 100 + c * 10 + t))), (3, .ref qa)]) dX0_takeBack_47 (by decide) rfl ?_
      refine wc_iload_n X 48 2 dX0_takeBack_48 rfl ?_
      refine wc_bipush X 49 (nI 100) dX0_takeBack_49 (by decide) ?_
      refine wc_idivN X 51 dX0_takeBack_51 (by omega) (by decide) (by decide) ?_
      refine wc_bipush X 52 (nI 10) dX0_takeBack_52 (by decide) ?_
      refine wc_iremN X 54 dX0_takeBack_54 (by omega) (by decide) (by decide) ?_
      refine wc_topi (nI i) (congrArg nI (by omega)) ?_
      refine wc_istore X 55 (L' := [(0, .ref q), (1, .ref z), (2, .int (nI (0 + i * 100 + c * 10 + t))), (3, .ref qa), (4, .int (nI i))]) dX0_takeBack_55 (by decide) rfl ?_
      refine wc_iload_n X 57 2 dX0_takeBack_57 rfl ?_
      refine wc_bipush X 58 (nI 10) dX0_takeBack_58 (by decide) ?_
      refine wc_idivN X 60 dX0_takeBack_60 (by omega) (by decide) (by decide) ?_
      refine wc_bipush X 61 (nI 10) dX0_takeBack_61 (by decide) ?_
      refine wc_iremN X 63 dX0_takeBack_63 (by omega) (by decide) (by decide) ?_
      refine wc_topi (nI c) (congrArg nI (by omega)) ?_
      refine wc_istore X 64 (L' := [(0, .ref q), (1, .ref z), (2, .int (nI (0 + i * 100 + c * 10 + t))), (3, .ref qa), (4, .int (nI i)), (5, .int (nI c))]) dX0_takeBack_64 (by decide) rfl ?_
      refine wc_iload X 66 5 dX0_takeBack_66 rfl ?_
      refine wc_if_neN X 68 80 dX0_takeBack_68 (by decide) (by omega) (fun c68_3 => ?_) (fun c68_3 => ?_)
      ·
        refine wc_aload_n X 80 3 dX0_takeBack_80 rfl ?_
        refine wc_iload X 81 4 dX0_takeBack_81 rfl ?_
        refine wc_iload X 83 5 dX0_takeBack_83 rfl ?_
        refine wc_iload_n X 85 2 dX0_takeBack_85 rfl ?_
        refine wc_bipush X 86 (nI 10) dX0_takeBack_86 (by decide) ?_
        refine wc_iremN X 88 dX0_takeBack_88 (by omega) (by decide) (by decide) ?_
        refine wc_topi (nI t) (congrArg nI (by omega)) ?_
        refine wc_mutV X Y 89 [3, 4] [0, 1, 2, 5, 6] 3 (c_X6_flipEdge l G qa la n0 e0 g0 i c t (by first | assumption | omega) (by first | assumption | omega) (by first | assumption | omega) (by first | assumption | omega)) yv_X6_flipEdge kd6 rfl rfl (wr := [ob q 0 [.int (nI (len - 1)), .ref lq], aI G lq 14 (nF r), ob z 1 [.ref qa, .ref qb], ob qb 6 [.int (nI n1), .int (nI e1), .ref lb], aI G lb 10 (nF g1)]) rfl ⟨rfl, rfl, rfl⟩ q_444 ⟨rfl, rfl⟩ ⟨rfl, rfl⟩ ⟨rfl, rfl⟩ rfl rfl rfl dX0_takeBack_89 (fun v w hp_4 => ?_)
        obtain ⟨rfl, rfl⟩ := hp_4
        refine wc_perm Y [0, 1, 2, 5, 6, 3, 4] [ob q 0 [.int (nI (len - 1)), .ref lq], aI G lq 14 (nF r), ob z 1 [.ref qa, .ref qb], ob qa 6 [.int (nI n0), .int (nI e0), .ref la], aI G la 10 (nF (up g0 (i * 2 + c - 1) (g0 (i * 2 + c - 1) ^^^ 2 ^ t))), ob qb 6 [.int (nI n1), .int (nI e1), .ref lb], aI G lb 10 (nF g1)] rfl rfl ?_
        show Wc Γ 0 0 92 [(0, .ref q), (1, .ref z), (2, .int (nI (0 + i * 100 + c * 10 + t))), (3, .ref qa), (4, .int (nI i)), (5, .int (nI c))] [] [ob q 0 [.int (nI (len - 1)), .ref lq], aI G lq 14 (nF r), ob z 1 [.ref qa, .ref qb], ob qa 6 [.int (nI n0), .int (nI e0), .ref la], aI G la 10 (nF (up g0 (i * 2 + c - 1) (g0 (i * 2 + c - 1) ^^^ 2 ^ t))), ob qb 6 [.int (nI n1), .int (nI e1), .ref lb], aI G lb 10 (nF g1)]
        exact ret 92 _ _ dX0_takeBack_92 (⟨rfl, rfl⟩)
      ·
        exact absurd c68_3 (by omega)
    ·
      exact absurd c14_2 (by omega)

set_option maxHeartbeats 4000000 in
set_option maxRecDepth 100000 in
theorem c_X0_takeBackF0 (l : Launch) (G : GG) (q lq len : Nat) (r : Nat → Nat) (z qa la n0 e0 : Nat) (g0 : Nat → Nat) (qb lb n1 e1 : Nat) (g1 : Nat → Nat) (i : Nat) (hl : 1 ≤ len) (hl2 : len ≤ 14) (hi : i < 5) (ha : r (len - 1) = 0 + i * 100) : MM l G yX0_takeBack (Cond.code yX0_takeBack cX0_takeBack 6 none) { frames := 1, cells := 0, slots := 0, locals := 21 } [.ref q, .ref z] [ob q 0 [.int (nI len), .ref lq], aI G lq 14 (nF r), ob z 1 [.ref qa, .ref qb], ob qa 6 [.int (nI n0), .int (nI e0), .ref la], aI G la 10 (nF g0), ob qb 6 [.int (nI n1), .int (nI e1), .ref lb], aI G lb 10 (nF g1)] (fun (v : Option Value) (w : va_W) => v = none ∧ w = [ob q 0 [.int (nI (len - 1)), .ref lq], aI G lq 14 (nF r), ob z 1 [.ref qa, .ref qb], ob qa 6 [.int (nI n0), .int (nI (e0 ^^^ 2 ^ i)), .ref la], aI G la 10 (nF g0), ob qb 6 [.int (nI n1), .int (nI e1), .ref lb], aI G lb 10 (nF g1)]) 0 0 := by
  refine MM.ofV (by decide) rfl (fun Γ X Y hnm ret => ?_)
  show Wc Γ 0 0 0 [(0, .ref q), (1, .ref z)] [] [ob q 0 [.int (nI len), .ref lq], aI G lq 14 (nF r), ob z 1 [.ref qa, .ref qb], ob qa 6 [.int (nI n0), .int (nI e0), .ref la], aI G la 10 (nF g0), ob qb 6 [.int (nI n1), .int (nI e1), .ref lb], aI G lb 10 (nF g1)]
  refine wc_aload_n X 0 0 dX0_takeBack_0 rfl ?_
  refine wc_get X 1 0 0 kd0 rfl (by decide) q_92 rfl dX0_takeBack_1 ?_
  refine wc_iconstN X 4 1 dX0_takeBack_4 ?_
  refine wc_icmp_ltN X 5 17 dX0_takeBack_5 (by decide) (by omega) (by decide) (fun c5_1 => ?_) (fun c5_1 => ?_)
  ·
    exact absurd c5_1 (by omega)
  ·
    refine wc_aload_n X 8 0 dX0_takeBack_8 rfl ?_
    refine wc_get X 9 0 0 kd0 rfl (by decide) q_92 rfl dX0_takeBack_9 ?_
    refine wc_bipush X 12 (nI 14) dX0_takeBack_12 (by decide) ?_
    refine wc_icmp_leN X 14 18 dX0_takeBack_14 (by decide) (by omega) (by decide) (fun c14_2 => ?_) (fun c14_2 => ?_)
    ·
      refine wc_aload_n X 18 0 dX0_takeBack_18 rfl ?_
      refine wc_dup X 19 dX0_takeBack_19 rfl ?_
      refine wc_get X 20 0 0 kd0 rfl (by decide) q_92 rfl dX0_takeBack_20 ?_
      refine wc_iconstN X 23 1 dX0_takeBack_23 ?_
      refine wc_isubN X 24 dX0_takeBack_24 (by omega) ?_
      refine wc_put X Y 25 0 0 kd0 rfl (by decide) q_92 rfl rfl rfl (Nat.le_of_ble_eq_true rfl) (ws' := [ob q 0 [.int (nI (len - 1)), .ref lq], aI G lq 14 (nF r), ob z 1 [.ref qa, .ref qb], ob qa 6 [.int (nI n0), .int (nI e0), .ref la], aI G la 10 (nF g0), ob qb 6 [.int (nI n1), .int (nI e1), .ref lb], aI G lb 10 (nF g1)]) rfl dX0_takeBack_25 ?_
      refine wc_aload_n X 28 0 dX0_takeBack_28 rfl ?_
      refine wc_get X 29 0 1 kd0 rfl (by decide) q_94 rfl dX0_takeBack_29 ?_
      refine wc_aload_n X 32 0 dX0_takeBack_32 rfl ?_
      refine wc_get X 33 0 0 kd0 rfl (by decide) q_92 rfl dX0_takeBack_33 ?_
      refine wc_ialdG X 36 1 rfl (by omega) (by decide) dX0_takeBack_36 ?_
      refine wc_topi (nI (0 + i * 100)) (congrArg nI (ha)) ?_
      refine wc_istore_n X 37 (L' := [(0, .ref q), (1, .ref z), (2, .int (nI (0 + i * 100)))]) dX0_takeBack_37 (by decide) rfl ?_
      refine wc_aload_n X 38 1 dX0_takeBack_38 rfl ?_
      refine wc_iload_n X 39 2 dX0_takeBack_39 rfl ?_
      refine wc_sipush X 40 (nI 1000) dX0_takeBack_40 (by decide) ?_
      refine wc_idivN X 43 dX0_takeBack_43 (by omega) (by decide) (by decide) ?_
      refine wc_topi (nI 0) (congrArg nI (by omega)) ?_
      refine wc_callV X 44 [2] 2 (c_X1_of0 l G z qa qb ) yv_X1_of kd1 rfl rfl q_442 ⟨rfl, rfl⟩ ⟨rfl, rfl⟩ ⟨rfl, rfl⟩ rfl rfl rfl dX0_takeBack_44 ?_
      refine wc_astore_n X 47 (L' := [(0, .ref q), (1, .ref z), (2, .int (nI (0 + i * 100))), (3, .ref qa)]) dX0_takeBack_47 (by decide) rfl ?_
      refine wc_iload_n X 48 2 dX0_takeBack_48 rfl ?_
      refine wc_bipush X 49 (nI 100) dX0_takeBack_49 (by decide) ?_
      refine wc_idivN X 51 dX0_takeBack_51 (by omega) (by decide) (by decide) ?_
      refine wc_bipush X 52 (nI 10) dX0_takeBack_52 (by decide) ?_
      refine wc_iremN X 54 dX0_takeBack_54 (by omega) (by decide) (by decide) ?_
      refine wc_topi (nI i) (congrArg nI (by omega)) ?_
      refine wc_istore X 55 (L' := [(0, .ref q), (1, .ref z), (2, .int (nI (0 + i * 100))), (3, .ref qa), (4, .int (nI i))]) dX0_takeBack_55 (by decide) rfl ?_
      refine wc_iload_n X 57 2 dX0_takeBack_57 rfl ?_
      refine wc_bipush X 58 (nI 10) dX0_takeBack_58 (by decide) ?_
      refine wc_idivN X 60 dX0_takeBack_60 (by omega) (by decide) (by decide) ?_
      refine wc_bipush X 61 (nI 10) dX0_takeBack_61 (by decide) ?_
      refine wc_iremN X 63 dX0_takeBack_63 (by omega) (by decide) (by decide) ?_
      refine wc_topi (nI 0) (congrArg nI (by omega)) ?_
      refine wc_istore X 64 (L' := [(0, .ref q), (1, .ref z), (2, .int (nI (0 + i * 100))), (3, .ref qa), (4, .int (nI i)), (5, .int (nI 0))]) dX0_takeBack_64 (by decide) rfl ?_
      refine wc_iload X 66 5 dX0_takeBack_66 rfl ?_
      refine wc_if_neN X 68 80 dX0_takeBack_68 (by decide) (by decide) (fun c68_3 => ?_) (fun c68_3 => ?_)
      ·
        exact absurd c68_3 (by decide)
      ·
        refine wc_aload_n X 71 3 dX0_takeBack_71 rfl ?_
        refine wc_iload X 72 4 dX0_takeBack_72 rfl ?_
        refine wc_mutV X Y 74 [3] [0, 1, 2, 4, 5, 6] 3 (c_X6_flipEnd l G qa la n0 e0 i (by first | assumption | omega)) yv_X6_flipEnd kd6 rfl rfl (wr := [ob q 0 [.int (nI (len - 1)), .ref lq], aI G lq 14 (nF r), ob z 1 [.ref qa, .ref qb], aI G la 10 (nF g0), ob qb 6 [.int (nI n1), .int (nI e1), .ref lb], aI G lb 10 (nF g1)]) rfl ⟨rfl, rfl, rfl⟩ q_443 ⟨rfl, rfl⟩ ⟨rfl, rfl⟩ ⟨rfl, rfl⟩ rfl rfl rfl dX0_takeBack_74 (fun v w hp_4 => ?_)
        obtain ⟨rfl, rfl⟩ := hp_4
        refine wc_perm Y [0, 1, 2, 6, 3, 4, 5] [ob q 0 [.int (nI (len - 1)), .ref lq], aI G lq 14 (nF r), ob z 1 [.ref qa, .ref qb], ob qa 6 [.int (nI n0), .int (nI (e0 ^^^ 2 ^ i)), .ref la], aI G la 10 (nF g0), ob qb 6 [.int (nI n1), .int (nI e1), .ref lb], aI G lb 10 (nF g1)] rfl rfl ?_
        show Wc Γ 0 0 77 [(0, .ref q), (1, .ref z), (2, .int (nI (0 + i * 100))), (3, .ref qa), (4, .int (nI i)), (5, .int (nI 0))] [] [ob q 0 [.int (nI (len - 1)), .ref lq], aI G lq 14 (nF r), ob z 1 [.ref qa, .ref qb], ob qa 6 [.int (nI n0), .int (nI (e0 ^^^ 2 ^ i)), .ref la], aI G la 10 (nF g0), ob qb 6 [.int (nI n1), .int (nI e1), .ref lb], aI G lb 10 (nF g1)]
        refine wc_goto X 77 92 dX0_takeBack_77 (by decide) ?_
        exact ret 92 _ _ dX0_takeBack_92 (⟨rfl, rfl⟩)
    ·
      exact absurd c14_2 (by omega)

set_option maxHeartbeats 4000000 in
set_option maxRecDepth 100000 in
theorem c_X0_takeBackE1 (l : Launch) (G : GG) (q lq len : Nat) (r : Nat → Nat) (z qa la n0 e0 : Nat) (g0 : Nat → Nat) (qb lb n1 e1 : Nat) (g1 : Nat → Nat) (i c t : Nat) (hl : 1 ≤ len) (hl2 : len ≤ 14) (hi : i < 5) (h1 : 1 ≤ c) (h2 : c ≤ 2) (ht : t < 5) (ha : r (len - 1) = 1000 + i * 100 + c * 10 + t) : MM l G yX0_takeBack (Cond.code yX0_takeBack cX0_takeBack 6 none) { frames := 1, cells := 0, slots := 0, locals := 24 } [.ref q, .ref z] [ob q 0 [.int (nI len), .ref lq], aI G lq 14 (nF r), ob z 1 [.ref qa, .ref qb], ob qa 6 [.int (nI n0), .int (nI e0), .ref la], aI G la 10 (nF g0), ob qb 6 [.int (nI n1), .int (nI e1), .ref lb], aI G lb 10 (nF g1)] (fun (v : Option Value) (w : va_W) => v = none ∧ w = [ob q 0 [.int (nI (len - 1)), .ref lq], aI G lq 14 (nF r), ob z 1 [.ref qa, .ref qb], ob qa 6 [.int (nI n0), .int (nI e0), .ref la], aI G la 10 (nF g0), ob qb 6 [.int (nI n1), .int (nI e1), .ref lb], aI G lb 10 (nF (up g1 (i * 2 + c - 1) (g1 (i * 2 + c - 1) ^^^ 2 ^ t)))]) 0 0 := by
  refine MM.ofV (by decide) rfl (fun Γ X Y hnm ret => ?_)
  show Wc Γ 0 0 0 [(0, .ref q), (1, .ref z)] [] [ob q 0 [.int (nI len), .ref lq], aI G lq 14 (nF r), ob z 1 [.ref qa, .ref qb], ob qa 6 [.int (nI n0), .int (nI e0), .ref la], aI G la 10 (nF g0), ob qb 6 [.int (nI n1), .int (nI e1), .ref lb], aI G lb 10 (nF g1)]
  refine wc_aload_n X 0 0 dX0_takeBack_0 rfl ?_
  refine wc_get X 1 0 0 kd0 rfl (by decide) q_92 rfl dX0_takeBack_1 ?_
  refine wc_iconstN X 4 1 dX0_takeBack_4 ?_
  refine wc_icmp_ltN X 5 17 dX0_takeBack_5 (by decide) (by omega) (by decide) (fun c5_1 => ?_) (fun c5_1 => ?_)
  ·
    exact absurd c5_1 (by omega)
  ·
    refine wc_aload_n X 8 0 dX0_takeBack_8 rfl ?_
    refine wc_get X 9 0 0 kd0 rfl (by decide) q_92 rfl dX0_takeBack_9 ?_
    refine wc_bipush X 12 (nI 14) dX0_takeBack_12 (by decide) ?_
    refine wc_icmp_leN X 14 18 dX0_takeBack_14 (by decide) (by omega) (by decide) (fun c14_2 => ?_) (fun c14_2 => ?_)
    ·
      refine wc_aload_n X 18 0 dX0_takeBack_18 rfl ?_
      refine wc_dup X 19 dX0_takeBack_19 rfl ?_
      refine wc_get X 20 0 0 kd0 rfl (by decide) q_92 rfl dX0_takeBack_20 ?_
      refine wc_iconstN X 23 1 dX0_takeBack_23 ?_
      refine wc_isubN X 24 dX0_takeBack_24 (by omega) ?_
      refine wc_put X Y 25 0 0 kd0 rfl (by decide) q_92 rfl rfl rfl (Nat.le_of_ble_eq_true rfl) (ws' := [ob q 0 [.int (nI (len - 1)), .ref lq], aI G lq 14 (nF r), ob z 1 [.ref qa, .ref qb], ob qa 6 [.int (nI n0), .int (nI e0), .ref la], aI G la 10 (nF g0), ob qb 6 [.int (nI n1), .int (nI e1), .ref lb], aI G lb 10 (nF g1)]) rfl dX0_takeBack_25 ?_
      refine wc_aload_n X 28 0 dX0_takeBack_28 rfl ?_
      refine wc_get X 29 0 1 kd0 rfl (by decide) q_94 rfl dX0_takeBack_29 ?_
      refine wc_aload_n X 32 0 dX0_takeBack_32 rfl ?_
      refine wc_get X 33 0 0 kd0 rfl (by decide) q_92 rfl dX0_takeBack_33 ?_
      refine wc_ialdG X 36 1 rfl (by omega) (by decide) dX0_takeBack_36 ?_
      refine wc_topi (nI (1000 + i * 100 + c * 10 + t)) (congrArg nI (ha)) ?_
      refine wc_istore_n X 37 (L' := [(0, .ref q), (1, .ref z), (2, .int (nI (1000 + i * 100 + c * 10 + t)))]) dX0_takeBack_37 (by decide) rfl ?_
      refine wc_aload_n X 38 1 dX0_takeBack_38 rfl ?_
      refine wc_iload_n X 39 2 dX0_takeBack_39 rfl ?_
      refine wc_sipush X 40 (nI 1000) dX0_takeBack_40 (by decide) ?_
      refine wc_idivN X 43 dX0_takeBack_43 (by omega) (by decide) (by decide) ?_
      refine wc_topi (nI 1) (congrArg nI (by omega)) ?_
      refine wc_callV X 44 [2] 2 (c_X1_of1 l G z qa qb (nI 1) (by decide)) yv_X1_of kd1 rfl rfl q_442 ⟨rfl, rfl⟩ ⟨rfl, rfl⟩ ⟨rfl, rfl⟩ rfl rfl rfl dX0_takeBack_44 ?_
      refine wc_astore_n X 47 (L' := [(0, .ref q), (1, .ref z), (2, .int (nI (1000 + i * 100 + c * 10 + t))), (3, .ref qb)]) dX0_takeBack_47 (by decide) rfl ?_
      refine wc_iload_n X 48 2 dX0_takeBack_48 rfl ?_
      refine wc_bipush X 49 (nI 100) dX0_takeBack_49 (by decide) ?_
      refine wc_idivN X 51 dX0_takeBack_51 (by omega) (by decide) (by decide) ?_
      refine wc_bipush X 52 (nI 10) dX0_takeBack_52 (by decide) ?_
      refine wc_iremN X 54 dX0_takeBack_54 (by omega) (by decide) (by decide) ?_
      refine wc_topi (nI i) (congrArg nI (by omega)) ?_
      refine wc_istore X 55 (L' := [(0, .ref q), (1, .ref z), (2, .int (nI (1000 + i * 100 + c * 10 + t))), (3, .ref qb), (4, .int (nI i))]) dX0_takeBack_55 (by decide) rfl ?_
      refine wc_iload_n X 57 2 dX0_takeBack_57 rfl ?_
      refine wc_bipush X 58 (nI 10) dX0_takeBack_58 (by decide) ?_
      refine wc_idivN X 60 dX0_takeBack_60 (by omega) (by decide) (by decide) ?_
      refine wc_bipush X 61 (nI 10) dX0_takeBack_61 (by decide) ?_
      refine wc_iremN X 63 dX0_takeBack_63 (by omega) (by decide) (by decide) ?_
      refine wc_topi (nI c) (congrArg nI (by omega)) ?_
      refine wc_istore X 64 (L' := [(0, .ref q), (1, .ref z), (2, .int (nI (1000 + i * 100 + c * 10 + t))), (3, .ref qb), (4, .int (nI i)), (5, .int (nI c))]) dX0_takeBack_64 (by decide) rfl ?_
      refine wc_iload X 66 5 dX0_takeBack_66 rfl ?_
      refine wc_if_neN X 68 80 dX0_takeBack_68 (by decide) (by omega) (fun c68_3 => ?_) (fun c68_3 => ?_)
      ·
        refine wc_aload_n X 80 3 dX0_takeBack_80 rfl ?_
        refine wc_iload X 81 4 dX0_takeBack_81 rfl ?_
        refine wc_iload X 83 5 dX0_takeBack_83 rfl ?_
        refine wc_iload_n X 85 2 dX0_takeBack_85 rfl ?_
        refine wc_bipush X 86 (nI 10) dX0_takeBack_86 (by decide) ?_
        refine wc_iremN X 88 dX0_takeBack_88 (by omega) (by decide) (by decide) ?_
        refine wc_topi (nI t) (congrArg nI (by omega)) ?_
        refine wc_mutV X Y 89 [5, 6] [0, 1, 2, 3, 4] 5 (c_X6_flipEdge l G qb lb n1 e1 g1 i c t (by first | assumption | omega) (by first | assumption | omega) (by first | assumption | omega) (by first | assumption | omega)) yv_X6_flipEdge kd6 rfl rfl (wr := [ob q 0 [.int (nI (len - 1)), .ref lq], aI G lq 14 (nF r), ob z 1 [.ref qa, .ref qb], ob qa 6 [.int (nI n0), .int (nI e0), .ref la], aI G la 10 (nF g0)]) rfl ⟨rfl, rfl, rfl⟩ q_444 ⟨rfl, rfl⟩ ⟨rfl, rfl⟩ ⟨rfl, rfl⟩ rfl rfl rfl dX0_takeBack_89 (fun v w hp_4 => ?_)
        obtain ⟨rfl, rfl⟩ := hp_4
        refine wc_perm Y [0, 1, 2, 3, 4, 5, 6] [ob q 0 [.int (nI (len - 1)), .ref lq], aI G lq 14 (nF r), ob z 1 [.ref qa, .ref qb], ob qa 6 [.int (nI n0), .int (nI e0), .ref la], aI G la 10 (nF g0), ob qb 6 [.int (nI n1), .int (nI e1), .ref lb], aI G lb 10 (nF (up g1 (i * 2 + c - 1) (g1 (i * 2 + c - 1) ^^^ 2 ^ t)))] rfl rfl ?_
        show Wc Γ 0 0 92 [(0, .ref q), (1, .ref z), (2, .int (nI (1000 + i * 100 + c * 10 + t))), (3, .ref qb), (4, .int (nI i)), (5, .int (nI c))] [] [ob q 0 [.int (nI (len - 1)), .ref lq], aI G lq 14 (nF r), ob z 1 [.ref qa, .ref qb], ob qa 6 [.int (nI n0), .int (nI e0), .ref la], aI G la 10 (nF g0), ob qb 6 [.int (nI n1), .int (nI e1), .ref lb], aI G lb 10 (nF (up g1 (i * 2 + c - 1) (g1 (i * 2 + c - 1) ^^^ 2 ^ t)))]
        exact ret 92 _ _ dX0_takeBack_92 (⟨rfl, rfl⟩)
      ·
        exact absurd c68_3 (by omega)
    ·
      exact absurd c14_2 (by omega)

set_option maxHeartbeats 4000000 in
set_option maxRecDepth 100000 in
theorem c_X0_takeBackF1 (l : Launch) (G : GG) (q lq len : Nat) (r : Nat → Nat) (z qa la n0 e0 : Nat) (g0 : Nat → Nat) (qb lb n1 e1 : Nat) (g1 : Nat → Nat) (i : Nat) (hl : 1 ≤ len) (hl2 : len ≤ 14) (hi : i < 5) (ha : r (len - 1) = 1000 + i * 100) : MM l G yX0_takeBack (Cond.code yX0_takeBack cX0_takeBack 6 none) { frames := 1, cells := 0, slots := 0, locals := 21 } [.ref q, .ref z] [ob q 0 [.int (nI len), .ref lq], aI G lq 14 (nF r), ob z 1 [.ref qa, .ref qb], ob qa 6 [.int (nI n0), .int (nI e0), .ref la], aI G la 10 (nF g0), ob qb 6 [.int (nI n1), .int (nI e1), .ref lb], aI G lb 10 (nF g1)] (fun (v : Option Value) (w : va_W) => v = none ∧ w = [ob q 0 [.int (nI (len - 1)), .ref lq], aI G lq 14 (nF r), ob z 1 [.ref qa, .ref qb], ob qa 6 [.int (nI n0), .int (nI e0), .ref la], aI G la 10 (nF g0), ob qb 6 [.int (nI n1), .int (nI (e1 ^^^ 2 ^ i)), .ref lb], aI G lb 10 (nF g1)]) 0 0 := by
  refine MM.ofV (by decide) rfl (fun Γ X Y hnm ret => ?_)
  show Wc Γ 0 0 0 [(0, .ref q), (1, .ref z)] [] [ob q 0 [.int (nI len), .ref lq], aI G lq 14 (nF r), ob z 1 [.ref qa, .ref qb], ob qa 6 [.int (nI n0), .int (nI e0), .ref la], aI G la 10 (nF g0), ob qb 6 [.int (nI n1), .int (nI e1), .ref lb], aI G lb 10 (nF g1)]
  refine wc_aload_n X 0 0 dX0_takeBack_0 rfl ?_
  refine wc_get X 1 0 0 kd0 rfl (by decide) q_92 rfl dX0_takeBack_1 ?_
  refine wc_iconstN X 4 1 dX0_takeBack_4 ?_
  refine wc_icmp_ltN X 5 17 dX0_takeBack_5 (by decide) (by omega) (by decide) (fun c5_1 => ?_) (fun c5_1 => ?_)
  ·
    exact absurd c5_1 (by omega)
  ·
    refine wc_aload_n X 8 0 dX0_takeBack_8 rfl ?_
    refine wc_get X 9 0 0 kd0 rfl (by decide) q_92 rfl dX0_takeBack_9 ?_
    refine wc_bipush X 12 (nI 14) dX0_takeBack_12 (by decide) ?_
    refine wc_icmp_leN X 14 18 dX0_takeBack_14 (by decide) (by omega) (by decide) (fun c14_2 => ?_) (fun c14_2 => ?_)
    ·
      refine wc_aload_n X 18 0 dX0_takeBack_18 rfl ?_
      refine wc_dup X 19 dX0_takeBack_19 rfl ?_
      refine wc_get X 20 0 0 kd0 rfl (by decide) q_92 rfl dX0_takeBack_20 ?_
      refine wc_iconstN X 23 1 dX0_takeBack_23 ?_
      refine wc_isubN X 24 dX0_takeBack_24 (by omega) ?_
      refine wc_put X Y 25 0 0 kd0 rfl (by decide) q_92 rfl rfl rfl (Nat.le_of_ble_eq_true rfl) (ws' := [ob q 0 [.int (nI (len - 1)), .ref lq], aI G lq 14 (nF r), ob z 1 [.ref qa, .ref qb], ob qa 6 [.int (nI n0), .int (nI e0), .ref la], aI G la 10 (nF g0), ob qb 6 [.int (nI n1), .int (nI e1), .ref lb], aI G lb 10 (nF g1)]) rfl dX0_takeBack_25 ?_
      refine wc_aload_n X 28 0 dX0_takeBack_28 rfl ?_
      refine wc_get X 29 0 1 kd0 rfl (by decide) q_94 rfl dX0_takeBack_29 ?_
      refine wc_aload_n X 32 0 dX0_takeBack_32 rfl ?_
      refine wc_get X 33 0 0 kd0 rfl (by decide) q_92 rfl dX0_takeBack_33 ?_
      refine wc_ialdG X 36 1 rfl (by omega) (by decide) dX0_takeBack_36 ?_
      refine wc_topi (nI (1000 + i * 100)) (congrArg nI (ha)) ?_
      refine wc_istore_n X 37 (L' := [(0, .ref q), (1, .ref z), (2, .int (nI (1000 + i * 100)))]) dX0_takeBack_37 (by decide) rfl ?_
      refine wc_aload_n X 38 1 dX0_takeBack_38 rfl ?_
      refine wc_iload_n X 39 2 dX0_takeBack_39 rfl ?_
      refine wc_sipush X 40 (nI 1000) dX0_takeBack_40 (by decide) ?_
      refine wc_idivN X 43 dX0_takeBack_43 (by omega) (by decide) (by decide) ?_
      refine wc_topi (nI 1) (congrArg nI (by omega)) ?_
      refine wc_callV X 44 [2] 2 (c_X1_of1 l G z qa qb (nI 1) (by decide)) yv_X1_of kd1 rfl rfl q_442 ⟨rfl, rfl⟩ ⟨rfl, rfl⟩ ⟨rfl, rfl⟩ rfl rfl rfl dX0_takeBack_44 ?_
      refine wc_astore_n X 47 (L' := [(0, .ref q), (1, .ref z), (2, .int (nI (1000 + i * 100))), (3, .ref qb)]) dX0_takeBack_47 (by decide) rfl ?_
      refine wc_iload_n X 48 2 dX0_takeBack_48 rfl ?_
      refine wc_bipush X 49 (nI 100) dX0_takeBack_49 (by decide) ?_
      refine wc_idivN X 51 dX0_takeBack_51 (by omega) (by decide) (by decide) ?_
      refine wc_bipush X 52 (nI 10) dX0_takeBack_52 (by decide) ?_
      refine wc_iremN X 54 dX0_takeBack_54 (by omega) (by decide) (by decide) ?_
      refine wc_topi (nI i) (congrArg nI (by omega)) ?_
      refine wc_istore X 55 (L' := [(0, .ref q), (1, .ref z), (2, .int (nI (1000 + i * 100))), (3, .ref qb), (4, .int (nI i))]) dX0_takeBack_55 (by decide) rfl ?_
      refine wc_iload_n X 57 2 dX0_takeBack_57 rfl ?_
      refine wc_bipush X 58 (nI 10) dX0_takeBack_58 (by decide) ?_
      refine wc_idivN X 60 dX0_takeBack_60 (by omega) (by decide) (by decide) ?_
      refine wc_bipush X 61 (nI 10) dX0_takeBack_61 (by decide) ?_
      refine wc_iremN X 63 dX0_takeBack_63 (by omega) (by decide) (by decide) ?_
      refine wc_topi (nI 0) (congrArg nI (by omega)) ?_
      refine wc_istore X 64 (L' := [(0, .ref q), (1, .ref z), (2, .int (nI (1000 + i * 100))), (3, .ref qb), (4, .int (nI i)), (5, .int (nI 0))]) dX0_takeBack_64 (by decide) rfl ?_
      refine wc_iload X 66 5 dX0_takeBack_66 rfl ?_
      refine wc_if_neN X 68 80 dX0_takeBack_68 (by decide) (by decide) (fun c68_3 => ?_) (fun c68_3 => ?_)
      ·
        exact absurd c68_3 (by decide)
      ·
        refine wc_aload_n X 71 3 dX0_takeBack_71 rfl ?_
        refine wc_iload X 72 4 dX0_takeBack_72 rfl ?_
        refine wc_mutV X Y 74 [5] [0, 1, 2, 3, 4, 6] 5 (c_X6_flipEnd l G qb lb n1 e1 i (by first | assumption | omega)) yv_X6_flipEnd kd6 rfl rfl (wr := [ob q 0 [.int (nI (len - 1)), .ref lq], aI G lq 14 (nF r), ob z 1 [.ref qa, .ref qb], ob qa 6 [.int (nI n0), .int (nI e0), .ref la], aI G la 10 (nF g0), aI G lb 10 (nF g1)]) rfl ⟨rfl, rfl, rfl⟩ q_443 ⟨rfl, rfl⟩ ⟨rfl, rfl⟩ ⟨rfl, rfl⟩ rfl rfl rfl dX0_takeBack_74 (fun v w hp_4 => ?_)
        obtain ⟨rfl, rfl⟩ := hp_4
        refine wc_perm Y [0, 1, 2, 3, 4, 6, 5] [ob q 0 [.int (nI (len - 1)), .ref lq], aI G lq 14 (nF r), ob z 1 [.ref qa, .ref qb], ob qa 6 [.int (nI n0), .int (nI e0), .ref la], aI G la 10 (nF g0), ob qb 6 [.int (nI n1), .int (nI (e1 ^^^ 2 ^ i)), .ref lb], aI G lb 10 (nF g1)] rfl rfl ?_
        show Wc Γ 0 0 77 [(0, .ref q), (1, .ref z), (2, .int (nI (1000 + i * 100))), (3, .ref qb), (4, .int (nI i)), (5, .int (nI 0))] [] [ob q 0 [.int (nI (len - 1)), .ref lq], aI G lq 14 (nF r), ob z 1 [.ref qa, .ref qb], ob qa 6 [.int (nI n0), .int (nI e0), .ref la], aI G la 10 (nF g0), ob qb 6 [.int (nI n1), .int (nI (e1 ^^^ 2 ^ i)), .ref lb], aI G lb 10 (nF g1)]
        refine wc_goto X 77 92 dX0_takeBack_77 (by decide) ?_
        exact ret 92 _ _ dX0_takeBack_92 (⟨rfl, rfl⟩)
    ·
      exact absurd c14_2 (by omega)

set_option maxHeartbeats 4000000 in
set_option maxRecDepth 100000 in
theorem c_X9_zeroSet (l : Launch) (G : GG) (q lq : Nat) (nd : Nat → Nat) (v : Nat) (hv : v < 1024) (hn : nd v < 512) : RM l G yX9_zeroSet (Cond.code yX9_zeroSet cX9_zeroSet 2 (some .int)) { frames := 0, cells := 0, slots := 0, locals := 0 } [.ref q, .int (nI v)] [ob q 9 [.ref lq], aI G lq 1024 (nF nd)] (.int (nI (nd v % 16))) := by
  refine RM.ofI (by decide) rfl (fun Γ X ret => ?_)
  show Wc Γ 0 0 0 [(0, .ref q), (1, .int (nI v))] [] [ob q 9 [.ref lq], aI G lq 1024 (nF nd)]
  refine wc_iload_n X 0 1 dX9_zeroSet_0 rfl ?_
  refine wc_ifltF X 1 (tgt := 25) dX9_zeroSet_1 (by decide) (by omega) ?_
  refine wc_iload_n X 4 1 dX9_zeroSet_4 rfl ?_
  refine wc_aload_n X 5 0 dX9_zeroSet_5 rfl ?_
  refine wc_get X 6 0 0 kd9 rfl (by decide) q_229 rfl dX9_zeroSet_6 ?_
  refine wc_alenI X 9 1 rfl dX9_zeroSet_9 ?_
  refine wc_icmp_geN X 10 25 dX9_zeroSet_10 (by decide) (by omega) (by decide) (fun c10_2 => ?_) (fun c10_2 => ?_)
  ·
    exact absurd c10_2 (by omega)
  ·
    refine wc_aload_n X 13 0 dX9_zeroSet_13 rfl ?_
    refine wc_get X 14 0 0 kd9 rfl (by decide) q_229 rfl dX9_zeroSet_14 ?_
    refine wc_iload_n X 17 1 dX9_zeroSet_17 rfl ?_
    refine wc_ialdG X 18 1 rfl (by omega) (by decide) dX9_zeroSet_18 ?_
    refine wc_bipush X 19 (nI 16) dX9_zeroSet_19 (by decide) ?_
    refine wc_iremN X 21 dX9_zeroSet_21 (by omega) (by decide) (by decide) ?_
    refine wc_goto X 22 26 dX9_zeroSet_22 (by decide) ?_
    exact ret 26 _ (nI ((nd v) % 16)) dX9_zeroSet_26 (rfl)

set_option maxHeartbeats 4000000 in
set_option maxRecDepth 100000 in
theorem c_X9_oneSet (l : Launch) (G : GG) (q lq : Nat) (nd : Nat → Nat) (v : Nat) (hv : v < 1024) (hn : nd v < 512) : RM l G yX9_oneSet (Cond.code yX9_oneSet cX9_oneSet 2 (some .int)) { frames := 0, cells := 0, slots := 0, locals := 0 } [.ref q, .int (nI v)] [ob q 9 [.ref lq], aI G lq 1024 (nF nd)] (.int (nI (nd v / 16))) := by
  refine RM.ofI (by decide) rfl (fun Γ X ret => ?_)
  show Wc Γ 0 0 0 [(0, .ref q), (1, .int (nI v))] [] [ob q 9 [.ref lq], aI G lq 1024 (nF nd)]
  refine wc_iload_n X 0 1 dX9_oneSet_0 rfl ?_
  refine wc_ifltF X 1 (tgt := 25) dX9_oneSet_1 (by decide) (by omega) ?_
  refine wc_iload_n X 4 1 dX9_oneSet_4 rfl ?_
  refine wc_aload_n X 5 0 dX9_oneSet_5 rfl ?_
  refine wc_get X 6 0 0 kd9 rfl (by decide) q_229 rfl dX9_oneSet_6 ?_
  refine wc_alenI X 9 1 rfl dX9_oneSet_9 ?_
  refine wc_icmp_geN X 10 25 dX9_oneSet_10 (by decide) (by omega) (by decide) (fun c10_2 => ?_) (fun c10_2 => ?_)
  ·
    exact absurd c10_2 (by omega)
  ·
    refine wc_aload_n X 13 0 dX9_oneSet_13 rfl ?_
    refine wc_get X 14 0 0 kd9 rfl (by decide) q_229 rfl dX9_oneSet_14 ?_
    refine wc_iload_n X 17 1 dX9_oneSet_17 rfl ?_
    refine wc_ialdG X 18 1 rfl (by omega) (by decide) dX9_oneSet_18 ?_
    refine wc_bipush X 19 (nI 16) dX9_oneSet_19 (by decide) ?_
    refine wc_idivN X 21 dX9_oneSet_21 (by omega) (by decide) (by decide) ?_
    refine wc_goto X 22 26 dX9_oneSet_22 (by decide) ?_
    exact ret 26 _ (nI ((nd v) / 16)) dX9_oneSet_26 (rfl)

set_option maxHeartbeats 4000000 in
set_option maxRecDepth 100000 in
theorem c_X9_grow (l : Launch) (G : GG) (q lq : Nat) (nd : Nat → Nat) (z qa la n0 e0 : Nat) (g0 : Nat → Nat) (qb lb n1 e1 : Nat) (g1 : Nat → Nat) (k : Nat) (hn0 : n0 ≤ 4) (he0 : e0 < 16) (hg0 : ∀ j, g0 j < 16) (hn1 : n1 ≤ 5) (he1 : e1 < 32) (hg1 : ∀ j, g1 j < 32) (hk : k ≤ 9) : MM l G yX9_grow (Cond.code yX9_grow cX9_grow 8 none) { frames := 2, cells := 0, slots := 0, locals := 47 } [.ref q, .ref z, .int (nI k)] [ob q 9 [.ref lq], aI G lq 1024 (nF nd), ob z 1 [.ref qa, .ref qb], ob qa 6 [.int (nI n0), .int (nI e0), .ref la], aI G la 10 (nF g0), ob qb 6 [.int (nI n1), .int (nI e1), .ref lb], aI G lb 10 (nF g1)] (fun (v : Option Value) (w : va_W) => ∃ (nd2 : Nat → Nat), v = none ∧ w = [ob q 9 [.ref lq], aI G lq 1024 (nF nd2), ob z 1 [.ref qa, .ref qb], ob qa 6 [.int (nI n0), .int (nI e0), .ref la], aI G la 10 (nF g0), ob qb 6 [.int (nI n1), .int (nI e1), .ref lb], aI G lb 10 (nF g1)] ∧ (∀ v, 1 ≤ v → v < 2 * 2 ^ k → nd2 v = trN g0 n0 g1 n1 v)) 0 0 := by
  refine MM.ofV (by decide) rfl (fun Γ X Y hnm ret => ?_)
  show Wc Γ 0 0 0 [(0, .ref q), (1, .ref z), (2, .int (nI k))] [] [ob q 9 [.ref lq], aI G lq 1024 (nF nd), ob z 1 [.ref qa, .ref qb], ob qa 6 [.int (nI n0), .int (nI e0), .ref la], aI G la 10 (nF g0), ob qb 6 [.int (nI n1), .int (nI e1), .ref lb], aI G lb 10 (nF g1)]
  have hpk := p9 hk
  have hp0 : 0 < 2 ^ k := Nat.two_pow_pos k
  refine wc_aload_n X 0 0 dX9_grow_0 rfl ?_
  refine wc_get X 1 0 0 kd9 rfl (by decide) q_229 rfl dX9_grow_1 ?_
  refine wc_iconstN X 4 1 dX9_grow_4 ?_
  refine wc_bipush X 5 (nI 17) dX9_grow_5 (by decide) ?_
  refine wc_iastG X Y 7 1 rfl (by decide) (by decide) (ws' := [ob q 9 [.ref lq], aI G lq 1024 (nF (up nd 1 17)), ob z 1 [.ref qa, .ref qb], ob qa 6 [.int (nI n0), .int (nI e0), .ref la], aI G la 10 (nF g0), ob qb 6 [.int (nI n1), .int (nI e1), .ref lb], aI G lb 10 (nF g1)]) rfl dX9_grow_7 ?_
  refine wc_iconstN X 8 2 dX9_grow_8 ?_
  refine wc_istore_n X 9 (L' := [(0, .ref q), (1, .ref z), (2, .int (nI k)), (3, .int (nI 2))]) dX9_grow_9 (by decide) rfl ?_
  have LP_2 : ∀ (fuel_1 : Nat) (v : Nat) (h : Nat → Nat), (2 ≤ v) → (v ≤ 2 * 2 ^ k) → (∀ u, 1 ≤ u → u < v → h u = trN g0 n0 g1 n1 u) → 2 * 2 ^ k - v < fuel_1 → Wc Γ 0 0 10 [(0, .ref q), (1, .ref z), (2, .int (nI k)), (3, .int (nI v))] [] [ob q 9 [.ref lq], aI G lq 1024 (nF h), ob z 1 [.ref qa, .ref qb], ob qa 6 [.int (nI n0), .int (nI e0), .ref la], aI G la 10 (nF g0), ob qb 6 [.int (nI n1), .int (nI e1), .ref lb], aI G lb 10 (nF g1)] := by
    intro fuel_1
    induction fuel_1 with
    | zero => intro v h hv hv2 hh hm; exact absurd hm (Nat.not_lt_zero _)
    | succ fuel_1 ih_3 =>
      intro v h hv hv2 hh hm_4
      refine wc_iload_n X 10 3 dX9_grow_10 rfl ?_
      refine wc_iconstN X 11 2 dX9_grow_11 ?_
      refine wc_iload_n X 12 2 dX9_grow_12 rfl ?_
      refine wc_ishlN X 13 dX9_grow_13 (by omega) (by omega) ?_
      refine wc_icmp_geN X 14 92 dX9_grow_14 (by decide) (by omega) (by omega) (fun c14_5 => ?_) (fun c14_5 => ?_)
      ·
        exact ret 92 _ _ dX9_grow_92 (⟨h, rfl, rfl, fun u h1 h2 => hh u h1 (by omega)⟩)
      ·
        refine wc_iload_n X 17 3 dX9_grow_17 rfl ?_
        refine wc_aload_n X 18 0 dX9_grow_18 rfl ?_
        refine wc_get X 19 0 0 kd9 rfl (by decide) q_229 rfl dX9_grow_19 ?_
        refine wc_alenI X 22 1 rfl dX9_grow_22 ?_
        refine wc_icmp_geN X 23 92 dX9_grow_23 (by decide) (by omega) (by decide) (fun c23_6 => ?_) (fun c23_6 => ?_)
        ·
          exact absurd c23_6 (by omega)
        ·
          refine wc_iload_n X 26 3 dX9_grow_26 rfl ?_
          refine wc_iconstN X 27 2 dX9_grow_27 ?_
          refine wc_idivN X 28 dX9_grow_28 (by omega) (by decide) (by decide) ?_
          refine wc_istore X 29 (L' := [(0, .ref q), (1, .ref z), (2, .int (nI k)), (3, .int (nI v)), (4, .int (nI (v / 2)))]) dX9_grow_29 (by decide) rfl ?_
          refine wc_iload_n X 31 3 dX9_grow_31 rfl ?_
          refine wc_iconstN X 32 2 dX9_grow_32 ?_
          refine wc_iremN X 33 dX9_grow_33 (by omega) (by decide) (by decide) ?_
          refine wc_iconstN X 34 1 dX9_grow_34 ?_
          refine wc_iaddN X 35 dX9_grow_35 ?_
          refine wc_istore X 36 (L' := [(0, .ref q), (1, .ref z), (2, .int (nI k)), (3, .int (nI v)), (4, .int (nI (v / 2))), (5, .int (nI ((v % 2) + 1)))]) dX9_grow_36 (by decide) rfl ?_
          refine wc_aload_n X 38 1 dX9_grow_38 rfl ?_
          refine wc_get X 39 2 0 kd1 rfl (by decide) q_68 rfl dX9_grow_39 ?_
          refine wc_aload_n X 42 0 dX9_grow_42 rfl ?_
          refine wc_iload X 43 4 dX9_grow_43 rfl ?_
          refine wc_callV X 45 [0, 1] 0 (c_X9_zeroSet l G q lq h (v / 2) (by first | assumption | omega) (by rw [hh (v / 2) (by omega) (by omega)]; unfold trN; have := (nodeS_lt (k := 4) (by decide) hg0 n0 (v / 2)); have := (nodeS_lt (k := 5) (by decide) hg1 n1 (v / 2)); omega)) yv_X9_zeroSet kd9 rfl rfl q_484 ⟨rfl, rfl⟩ ⟨rfl, rfl⟩ ⟨rfl, rfl⟩ rfl rfl rfl dX9_grow_45 ?_
          refine wc_topi (nI (nodeS g0 n0 (v / 2))) (congrArg nI (by rw [hh (v / 2) (by omega) (by omega)]; unfold trN; exact tr_z (nodeS_lt (k := 4) (by decide) hg0 _ _))) ?_
          refine wc_iload X 48 5 dX9_grow_48 rfl ?_
          refine wc_callV X 50 [3, 4] 3 (c_X6_step l G qa la n0 e0 g0 (nodeS g0 n0 (v / 2)) ((v % 2) + 1) (by first | assumption | omega) (Nat.lt_trans (nodeS_lt (k := 4) (by decide) hg0 _ _) (by decide)) (by first | assumption | omega) (by first | assumption | omega)) yv_X6_step kd6 rfl rfl q_488 ⟨rfl, rfl⟩ ⟨rfl, rfl⟩ ⟨rfl, rfl⟩ rfl rfl rfl dX9_grow_50 ?_
          refine wc_istore X 53 (L' := [(0, .ref q), (1, .ref z), (2, .int (nI k)), (3, .int (nI v)), (4, .int (nI (v / 2))), (5, .int (nI ((v % 2) + 1))), (6, .int (nI (stepN g0 (nodeS g0 n0 (v / 2)) ((v % 2) + 1) n0)))]) dX9_grow_53 (by decide) rfl ?_
          refine wc_aload_n X 55 1 dX9_grow_55 rfl ?_
          refine wc_get X 56 2 1 kd1 rfl (by decide) q_76 rfl dX9_grow_56 ?_
          refine wc_aload_n X 59 0 dX9_grow_59 rfl ?_
          refine wc_iload X 60 4 dX9_grow_60 rfl ?_
          refine wc_callV X 62 [0, 1] 0 (c_X9_oneSet l G q lq h (v / 2) (by first | assumption | omega) (by rw [hh (v / 2) (by omega) (by omega)]; unfold trN; have := (nodeS_lt (k := 4) (by decide) hg0 n0 (v / 2)); have := (nodeS_lt (k := 5) (by decide) hg1 n1 (v / 2)); omega)) yv_X9_oneSet kd9 rfl rfl q_489 ⟨rfl, rfl⟩ ⟨rfl, rfl⟩ ⟨rfl, rfl⟩ rfl rfl rfl dX9_grow_62 ?_
          refine wc_topi (nI (nodeS g1 n1 (v / 2))) (congrArg nI (by rw [hh (v / 2) (by omega) (by omega)]; unfold trN; exact tr_o (nodeS_lt (k := 4) (by decide) hg0 _ _))) ?_
          refine wc_iload X 65 5 dX9_grow_65 rfl ?_
          refine wc_callV X 67 [5, 6] 5 (c_X6_step l G qb lb n1 e1 g1 (nodeS g1 n1 (v / 2)) ((v % 2) + 1) (by first | assumption | omega) (nodeS_lt (k := 5) (by decide) hg1 _ _) (by first | assumption | omega) (by first | assumption | omega)) yv_X6_step kd6 rfl rfl q_488 ⟨rfl, rfl⟩ ⟨rfl, rfl⟩ ⟨rfl, rfl⟩ rfl rfl rfl dX9_grow_67 ?_
          refine wc_istore X 70 (L' := [(0, .ref q), (1, .ref z), (2, .int (nI k)), (3, .int (nI v)), (4, .int (nI (v / 2))), (5, .int (nI ((v % 2) + 1))), (6, .int (nI (stepN g0 (nodeS g0 n0 (v / 2)) ((v % 2) + 1) n0))), (7, .int (nI (stepN g1 (nodeS g1 n1 (v / 2)) ((v % 2) + 1) n1)))]) dX9_grow_70 (by decide) rfl ?_
          refine wc_aload_n X 72 0 dX9_grow_72 rfl ?_
          refine wc_get X 73 0 0 kd9 rfl (by decide) q_229 rfl dX9_grow_73 ?_
          refine wc_iload_n X 76 3 dX9_grow_76 rfl ?_
          refine wc_iload X 77 6 dX9_grow_77 rfl ?_
          refine wc_bipush X 79 (nI 16) dX9_grow_79 (by decide) ?_
          refine wc_iload X 81 7 dX9_grow_81 rfl ?_
          refine wc_imulN X 83 dX9_grow_83 ?_
          refine wc_iaddN X 84 dX9_grow_84 ?_
          refine wc_iastG X Y 85 1 rfl (by omega) (by decide) (ws' := [ob q 9 [.ref lq], aI G lq 1024 (nF (up h v ((stepN g0 (nodeS g0 n0 (v / 2)) ((v % 2) + 1) n0) + (16 * (stepN g1 (nodeS g1 n1 (v / 2)) ((v % 2) + 1) n1))))), ob z 1 [.ref qa, .ref qb], ob qa 6 [.int (nI n0), .int (nI e0), .ref la], aI G la 10 (nF g0), ob qb 6 [.int (nI n1), .int (nI e1), .ref lb], aI G lb 10 (nF g1)]) rfl dX9_grow_85 ?_
          refine wc_iincN X 86 3 (L' := [(0, .ref q), (1, .ref z), (2, .int (nI k)), (3, .int (nI (v + 1))), (4, .int (nI (v / 2))), (5, .int (nI ((v % 2) + 1))), (6, .int (nI (stepN g0 (nodeS g0 n0 (v / 2)) ((v % 2) + 1) n0))), (7, .int (nI (stepN g1 (nodeS g1 n1 (v / 2)) ((v % 2) + 1) n1)))]) dX9_grow_86 rfl (by decide) rfl ?_
          refine wc_goto X 89 10 dX9_grow_89 (by decide) ?_
          refine wc_loc [0, 1, 2, 3] (L' := [(0, .ref q), (1, .ref z), (2, .int (nI k)), (3, .int (nI (v + 1)))]) rfl ?_
          refine wc_L (L' := [(0, .ref q), (1, .ref z), (2, .int (nI k)), (3, .int (nI (v + 1)))]) (by rfl) ?_
          exact ih_3 (v + 1) (up h v ((stepN g0 (nodeS g0 n0 (v / 2)) ((v % 2) + 1) n0) + (16 * (stepN g1 (nodeS g1 n1 (v / 2)) ((v % 2) + 1) n1)))) (by omega) (by omega) (grow_bk hh (by unfold trN; rw [nodeS_s g0 n0 v hv (by omega), nodeS_s g1 n1 v hv (by omega)])) (by omega)
  exact LP_2 (2 * 2 ^ k - 2 + 1) 2 (up nd 1 17) (by decide) (by omega) (grow_1 _ _ _ _ _) (Nat.lt_succ_self _)

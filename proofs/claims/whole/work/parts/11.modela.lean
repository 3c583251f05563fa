set_option maxHeartbeats 4000000 in
set_option maxRecDepth 100000 in
theorem c_X11_in (l : Launch) (G : GG) (v a b : Int64)  : RM l G yX11_in (Cond.code yX11_in cX11_in 6 (some .boolean)) { frames := 0, cells := 0, slots := 0, locals := 0 } [.long v, .long a, .long b] [] (.int (b2i (inL v a b))) := by
  refine RM.ofZ (by decide) rfl (fun Γ X ret => ?_)
  show Wc Γ 0 0 0 [(0, .long v), (2, .long a), (4, .long b)] [] []
  refine wc_lload_n X 0 0 dX11_in_0 rfl ?_
  refine wc_lload_n X 1 1 dX11_in_1 rfl ?_
  refine wc_lcmp X 2 dX11_in_2 ?_
  refine wc_if_lt X 3 17 dX11_in_3 (by decide) (fun c3_1 => ?_) (fun c3_1 => ?_)
  ·
    refine wc_iconstN X 17 0 dX11_in_17 ?_
    refine wc_st (st' := [.int (b2i false)]) rfl ?_
    exact ret 18 _ false dX11_in_18 (inL_f1 c3_1)
  ·
    refine wc_lload_n X 6 0 dX11_in_6 rfl ?_
    refine wc_lload X 7 2 dX11_in_7 rfl ?_
    refine wc_lcmp X 9 dX11_in_9 ?_
    refine wc_if_gt X 10 17 dX11_in_10 (by decide) (fun c10_2 => ?_) (fun c10_2 => ?_)
    ·
      refine wc_iconstN X 17 0 dX11_in_17 ?_
      refine wc_st (st' := [.int (b2i false)]) rfl ?_
      exact ret 18 _ false dX11_in_18 (inL_f2 c10_2)
    ·
      refine wc_iconstN X 13 1 dX11_in_13 ?_
      refine wc_goto X 14 18 dX11_in_14 (by decide) ?_
      refine wc_st (st' := [.int (b2i true)]) rfl ?_
      exact ret 18 _ true dX11_in_18 (inL_t c3_1 c10_2)

set_option maxHeartbeats 4000000 in
set_option maxRecDepth 100000 in
theorem c_X11_has (l : Launch) (G : GG) (S k : Nat) (hS : S < 1024) (hk : k < 32) : RM l G yX11_has (Cond.code yX11_has cX11_has 2 (some .boolean)) { frames := 0, cells := 0, slots := 0, locals := 0 } [.int (nI S), .int (nI k)] [] (.int (b2i (Nat.testBit S k))) := by
  refine RM.ofZ (by decide) rfl (fun Γ X ret => ?_)
  show Wc Γ 0 0 0 [(0, .int (nI S)), (1, .int (nI k))] [] []
  refine wc_iload_n X 0 0 dX11_has_0 rfl ?_
  refine wc_iload_n X 1 1 dX11_has_1 rfl ?_
  refine wc_ishrN X 2 dX11_has_2 (by omega) (by omega) ?_
  refine wc_iconstN X 3 1 dX11_has_3 ?_
  refine wc_iandN X 4 dX11_has_4 ?_
  refine wc_topi (b2i (Nat.testBit S k)) (nI_bit _ _) ?_
  refine wc_iconstN X 5 1 dX11_has_5 ?_
  refine wc_st (st' := [.int (b2i true), .int (b2i (Nat.testBit S k))]) rfl ?_
  refine wc_icmp_neB X 6 13 dX11_has_6 (by decide) (fun c6_1 => ?_) (fun c6_1 => ?_)
  ·
    refine wc_iconstN X 13 0 dX11_has_13 ?_
    refine wc_st (st' := [.int (b2i false)]) rfl ?_
    exact ret 14 _ false dX11_has_14 (by first | rfl | (simp [c6_1]; done) | (simp [c6_1] <;> omega))
  ·
    refine wc_iconstN X 9 1 dX11_has_9 ?_
    refine wc_goto X 10 14 dX11_has_10 (by decide) ?_
    refine wc_st (st' := [.int (b2i true)]) rfl ?_
    exact ret 14 _ true dX11_has_14 (by first | rfl | (simp [c6_1]; done) | (simp [c6_1] <;> omega))

set_option maxHeartbeats 4000000 in
set_option maxRecDepth 100000 in
theorem c_X11_ones (l : Launch) (G : GG) (s : Nat) (hs : s < 1024) : RM l G yX11_ones (Cond.code yX11_ones cX11_ones 3 (some .int)) { frames := 0, cells := 0, slots := 0, locals := 0 } [.int (nI s)] [] (.int (nI (ones s))) := by
  refine RM.ofI (by decide) rfl (fun Γ X ret => ?_)
  show Wc Γ 0 0 0 [(0, .int (nI s))] [] []
  refine wc_iconstN X 0 0 dX11_ones_0 ?_
  refine wc_istore_n X 1 (L' := [(0, .int (nI s)), (1, .int (nI 0))]) dX11_ones_1 (by decide) rfl ?_
  refine wc_iconstN X 2 0 dX11_ones_2 ?_
  refine wc_istore_n X 3 (L' := [(0, .int (nI s)), (1, .int (nI 0)), (2, .int (nI 0))]) dX11_ones_3 (by decide) rfl ?_
  have LP_2 : ∀ (fuel_1 : Nat) (i : Nat), (i ≤ 10) → 10 - i < fuel_1 → Wc Γ 0 0 4 [(0, .int (nI s)), (1, .int (nI (onesN s i))), (2, .int (nI i))] [] [] := by
    intro fuel_1
    induction fuel_1 with
    | zero => intro i hi hm; exact absurd hm (Nat.not_lt_zero _)
    | succ fuel_1 ih_3 =>
      intro i hi hm_4
      refine wc_iload_n X 4 2 dX11_ones_4 rfl ?_
      refine wc_bipush X 5 (nI 10) dX11_ones_5 (by decide) ?_
      refine wc_icmp_geN X 7 24 dX11_ones_7 (by decide) (by omega) (by decide) (fun c7_5 => ?_) (fun c7_5 => ?_)
      ·
        refine wc_iload_n X 24 1 dX11_ones_24 rfl ?_
        exact ret 25 _ (nI (onesN s i)) dX11_ones_25 (by rw [show i = 10 by omega]; rfl)
      ·
        refine wc_iload_n X 10 1 dX11_ones_10 rfl ?_
        refine wc_iload_n X 11 0 dX11_ones_11 rfl ?_
        refine wc_iload_n X 12 2 dX11_ones_12 rfl ?_
        refine wc_ishrN X 13 dX11_ones_13 (by omega) (by omega) ?_
        refine wc_iconstN X 14 1 dX11_ones_14 ?_
        refine wc_iandN X 15 dX11_ones_15 ?_
        refine wc_topi (b2i (Nat.testBit s i)) (nI_bit _ _) ?_
        refine wc_st (st' := [.int (nI ((Nat.testBit s i).toNat)), .int (nI (onesN s i))]) (by simp only [b2i_toNat]) ?_
        refine wc_iaddN X 16 dX11_ones_16 ?_
        refine wc_istore_n X 17 (L' := [(0, .int (nI s)), (1, .int (nI ((onesN s i) + ((Nat.testBit s i).toNat)))), (2, .int (nI i))]) dX11_ones_17 (by decide) rfl ?_
        refine wc_iincN X 18 2 (L' := [(0, .int (nI s)), (1, .int (nI ((onesN s i) + ((Nat.testBit s i).toNat)))), (2, .int (nI (i + 1)))]) dX11_ones_18 rfl (by decide) rfl ?_
        refine wc_goto X 21 4 dX11_ones_21 (by decide) ?_
        refine wc_L (L' := [(0, .int (nI s)), (1, .int (nI (onesN s (i + 1)))), (2, .int (nI (i + 1)))]) (by rfl) ?_
        exact ih_3 (i + 1) (by omega) (by omega)
  refine wc_L (L' := [(0, .int (nI s)), (1, .int (nI (onesN s 0))), (2, .int (nI 0))]) (by rfl) ?_
  exact LP_2 (10 - 0 + 1) 0 (by omega) (Nat.lt_succ_self _)

set_option maxHeartbeats 4000000 in
set_option maxRecDepth 100000 in
theorem c_X11_power (l : Launch) (G : GG) (a k : Nat) (hk : k < 1000) : RM l G yX11_power (Cond.code yX11_power cX11_power 4 (some .int)) { frames := 0, cells := 0, slots := 0, locals := 0 } [.int (nI a), .int (nI k)] [] (.int (nI (powN a k))) := by
  refine RM.ofI (by decide) rfl (fun Γ X ret => ?_)
  show Wc Γ 0 0 0 [(0, .int (nI a)), (1, .int (nI k))] [] []
  refine wc_iconstN X 0 1 dX11_power_0 ?_
  refine wc_istore_n X 1 (L' := [(0, .int (nI a)), (1, .int (nI k)), (2, .int (nI 1))]) dX11_power_1 (by decide) rfl ?_
  refine wc_iconstN X 2 0 dX11_power_2 ?_
  refine wc_istore_n X 3 (L' := [(0, .int (nI a)), (1, .int (nI k)), (2, .int (nI 1)), (3, .int (nI 0))]) dX11_power_3 (by decide) rfl ?_
  have LP_2 : ∀ (fuel_1 : Nat) (i : Nat), (i ≤ k) → k - i < fuel_1 → Wc Γ 0 0 4 [(0, .int (nI a)), (1, .int (nI k)), (2, .int (nI (powN a i))), (3, .int (nI i))] [] [] := by
    intro fuel_1
    induction fuel_1 with
    | zero => intro i hi hm; exact absurd hm (Nat.not_lt_zero _)
    | succ fuel_1 ih_3 =>
      intro i hi hm_4
      refine wc_iload_n X 4 3 dX11_power_4 rfl ?_
      refine wc_iload_n X 5 1 dX11_power_5 rfl ?_
      refine wc_icmp_geN X 6 19 dX11_power_6 (by decide) (by omega) (by omega) (fun c6_5 => ?_) (fun c6_5 => ?_)
      ·
        refine wc_iload_n X 19 2 dX11_power_19 rfl ?_
        exact ret 20 _ (nI (powN a i)) dX11_power_20 (by rw [show i = k by omega])
      ·
        refine wc_iload_n X 9 2 dX11_power_9 rfl ?_
        refine wc_iload_n X 10 0 dX11_power_10 rfl ?_
        refine wc_imulN X 11 dX11_power_11 ?_
        refine wc_istore_n X 12 (L' := [(0, .int (nI a)), (1, .int (nI k)), (2, .int (nI ((powN a i) * a))), (3, .int (nI i))]) dX11_power_12 (by decide) rfl ?_
        refine wc_iincN X 13 3 (L' := [(0, .int (nI a)), (1, .int (nI k)), (2, .int (nI ((powN a i) * a))), (3, .int (nI (i + 1)))]) dX11_power_13 rfl (by decide) rfl ?_
        refine wc_goto X 16 4 dX11_power_16 (by decide) ?_
        refine wc_L (L' := [(0, .int (nI a)), (1, .int (nI k)), (2, .int (nI (powN a (i + 1)))), (3, .int (nI (i + 1)))]) (by rfl) ?_
        exact ih_3 (i + 1) (by omega) (by omega)
  refine wc_L (L' := [(0, .int (nI a)), (1, .int (nI k)), (2, .int (nI (powN a 0))), (3, .int (nI 0))]) (by rfl) ?_
  exact LP_2 (k - 0 + 1) 0 (by omega) (Nat.lt_succ_self _)

set_option maxHeartbeats 4000000 in
set_option maxRecDepth 100000 in
theorem c_X11_at (l : Launch) (G : GG) (m i c : Nat) (hm : m < 2) (hi : i < 5) (h1 : 1 ≤ c) (h2 : c ≤ 2) : RM l G yX11_at (Cond.code yX11_at cX11_at 3 (some .int)) { frames := 0, cells := 0, slots := 0, locals := 0 } [.int (nI m), .int (nI i), .int (nI c)] [] (.int (nI (atN m i c))) := by
  refine RM.ofI (by decide) rfl (fun Γ X ret => ?_)
  show Wc Γ 0 0 0 [(0, .int (nI m)), (1, .int (nI i)), (2, .int (nI c))] [] []
  refine wc_iload_n X 0 0 dX11_at_0 rfl ?_
  refine wc_if_neN X 1 8 dX11_at_1 (by decide) (by omega) (fun c1_1 => ?_) (fun c1_1 => ?_)
  ·
    refine wc_bipush X 8 (nI 12) dX11_at_8 (by decide) ?_
    refine wc_iconstN X 10 2 dX11_at_10 ?_
    refine wc_iload_n X 11 1 dX11_at_11 rfl ?_
    refine wc_imulN X 12 dX11_at_12 ?_
    refine wc_iaddN X 13 dX11_at_13 ?_
    refine wc_iload_n X 14 2 dX11_at_14 rfl ?_
    refine wc_iaddN X 15 dX11_at_15 ?_
    refine wc_iconstN X 16 1 dX11_at_16 ?_
    refine wc_isubN X 17 dX11_at_17 (by omega) ?_
    exact ret 18 _ (nI (((12 + (2 * i)) + c) - 1)) dX11_at_18 (by unfold atN; rw [if_neg c1_1])
  ·
    refine wc_iconstN X 4 4 dX11_at_4 ?_
    refine wc_goto X 5 10 dX11_at_5 (by decide) ?_
    refine wc_iconstN X 10 2 dX11_at_10 ?_
    refine wc_iload_n X 11 1 dX11_at_11 rfl ?_
    refine wc_imulN X 12 dX11_at_12 ?_
    refine wc_iaddN X 13 dX11_at_13 ?_
    refine wc_iload_n X 14 2 dX11_at_14 rfl ?_
    refine wc_iaddN X 15 dX11_at_15 ?_
    refine wc_iconstN X 16 1 dX11_at_16 ?_
    refine wc_isubN X 17 dX11_at_17 (by omega) ?_
    exact ret 18 _ (nI (((4 + (2 * i)) + c) - 1)) dX11_at_18 (by unfold atN; rw [if_pos c1_1])

set_option maxHeartbeats 4000000 in
set_option maxRecDepth 100000 in
theorem c_X11_lead (l : Launch) (G : GG) (q : Nat) (p : Nat → Nat) (m S c : Nat) (hp0 : p 0 ≤ 4) (hp1 : p 1 ≤ 5) (hp : ∀ j, p j < 32) (hm : m < 2) (hS : S < 32) (h1 : 1 ≤ c) (h2 : c ≤ 2) : RM l G yX11_lead (Cond.code yX11_lead cX11_lead 6 (some .int)) { frames := 1, cells := 0, slots := 0, locals := 22 } [.ref q, .int (nI m), .int (nI S), .int (nI c)] [aI G q 22 (nF p)] (.int (nI (stepN (mG p m) S c (p m)))) := by
  refine RM.ofI (by decide) rfl (fun Γ X ret => ?_)
  show Wc Γ 0 0 0 [(0, .ref q), (1, .int (nI m)), (2, .int (nI S)), (3, .int (nI c))] [] [aI G q 22 (nF p)]
  have hpm : p m ≤ 5 := pm_le hm hp0 hp1
  refine wc_iconstN X 0 0 dX11_lead_0 ?_
  refine wc_istore X 1 (L' := [(0, .ref q), (1, .int (nI m)), (2, .int (nI S)), (3, .int (nI c)), (4, .int (nI 0))]) dX11_lead_1 (by decide) rfl ?_
  refine wc_iconstN X 3 0 dX11_lead_3 ?_
  refine wc_istore X 4 (L' := [(0, .ref q), (1, .int (nI m)), (2, .int (nI S)), (3, .int (nI c)), (4, .int (nI 0)), (5, .int (nI 0))]) dX11_lead_4 (by decide) rfl ?_
  have LP_2 : ∀ (fuel_1 : Nat) (i : Nat), (i ≤ p m) → p m - i < fuel_1 → Wc Γ 0 0 6 [(0, .ref q), (1, .int (nI m)), (2, .int (nI S)), (3, .int (nI c)), (4, .int (nI (stepN (mG p m) S c i))), (5, .int (nI i))] [] [aI G q 22 (nF p)] := by
    intro fuel_1
    induction fuel_1 with
    | zero => intro i hi hm; exact absurd hm (Nat.not_lt_zero _)
    | succ fuel_1 ih_3 =>
      intro i hi hm_4
      refine wc_iload X 6 5 dX11_lead_6 rfl ?_
      refine wc_aload_n X 8 0 dX11_lead_8 rfl ?_
      refine wc_iload_n X 9 1 dX11_lead_9 rfl ?_
      refine wc_ialdG X 10 0 rfl (by omega) (by decide) dX11_lead_10 ?_
      refine wc_icmp_geN X 11 47 dX11_lead_11 (by decide) (by omega) (by omega) (fun c11_5 => ?_) (fun c11_5 => ?_)
      ·
        refine wc_iload X 47 4 dX11_lead_47 rfl ?_
        exact ret 49 _ (nI (stepN (mG p m) S c i)) dX11_lead_49 (by rw [show i = p m by omega])
      ·
        refine wc_iload X 14 4 dX11_lead_14 rfl ?_
        refine wc_iload_n X 16 2 dX11_lead_16 rfl ?_
        refine wc_iload X 17 5 dX11_lead_17 rfl ?_
        refine wc_callS X 19 [] (c_X11_has l G S i (by first | assumption | omega) (by first | assumption | omega)) ys_X11_has rfl q_916 ⟨rfl, rfl⟩ ⟨rfl, rfl⟩ ⟨rfl, rfl⟩ rfl rfl rfl dX11_lead_19 ?_
        refine wc_if_eqB X 22 37 dX11_lead_22 (by decide) (fun c22_6 => ?_) (fun c22_6 => ?_)
        ·
          refine wc_iconstN X 37 0 dX11_lead_37 ?_
          refine wc_iorN X 38 dX11_lead_38 ?_
          refine wc_istore X 39 (L' := [(0, .ref q), (1, .int (nI m)), (2, .int (nI S)), (3, .int (nI c)), (4, .int (nI ((stepN (mG p m) S c i) ||| 0))), (5, .int (nI i))]) dX11_lead_39 (by decide) rfl ?_
          refine wc_iincN X 41 5 (L' := [(0, .ref q), (1, .int (nI m)), (2, .int (nI S)), (3, .int (nI c)), (4, .int (nI ((stepN (mG p m) S c i) ||| 0))), (5, .int (nI (i + 1)))]) dX11_lead_41 rfl (by decide) rfl ?_
          refine wc_goto X 44 6 dX11_lead_44 (by decide) ?_
          have e_7 : (stepN (mG p m) S c i) ||| 0 = stepN (mG p m) S c (i + 1) := by rw [stepN_s, c22_6]; simp
          refine wc_L (L' := [(0, .ref q), (1, .int (nI m)), (2, .int (nI S)), (3, .int (nI c)), (4, .int (nI (stepN (mG p m) S c (i + 1)))), (5, .int (nI (i + 1)))]) (by first | rfl | rw [e_7] | (rw [e_7]; rfl)) ?_
          exact ih_3 (i + 1) (by omega) (by omega)
        ·
          refine wc_aload_n X 25 0 dX11_lead_25 rfl ?_
          refine wc_iload_n X 26 1 dX11_lead_26 rfl ?_
          refine wc_iload X 27 5 dX11_lead_27 rfl ?_
          refine wc_iload_n X 29 3 dX11_lead_29 rfl ?_
          refine wc_callS X 30 [] (c_X11_at l G m i c (by first | assumption | omega) (by first | assumption | omega) (by first | assumption | omega) (by first | assumption | omega)) ys_X11_at rfl q_896 ⟨rfl, rfl⟩ ⟨rfl, rfl⟩ ⟨rfl, rfl⟩ rfl rfl rfl dX11_lead_30 ?_
          refine wc_ialdG X 33 0 rfl (atN_lt (by omega) h2) (by decide) dX11_lead_33 ?_
          refine wc_goto X 34 38 dX11_lead_34 (by decide) ?_
          refine wc_iorN X 38 dX11_lead_38 ?_
          refine wc_istore X 39 (L' := [(0, .ref q), (1, .int (nI m)), (2, .int (nI S)), (3, .int (nI c)), (4, .int (nI ((stepN (mG p m) S c i) ||| (p (atN m i c))))), (5, .int (nI i))]) dX11_lead_39 (by decide) rfl ?_
          refine wc_iincN X 41 5 (L' := [(0, .ref q), (1, .int (nI m)), (2, .int (nI S)), (3, .int (nI c)), (4, .int (nI ((stepN (mG p m) S c i) ||| (p (atN m i c))))), (5, .int (nI (i + 1)))]) dX11_lead_41 rfl (by decide) rfl ?_
          refine wc_goto X 44 6 dX11_lead_44 (by decide) ?_
          have e_8 : (stepN (mG p m) S c i) ||| (p (atN m i c)) = stepN (mG p m) S c (i + 1) := by rw [stepN_s, c22_6, atN_mG hm hp0 (by omega) h1 h2]; simp
          refine wc_L (L' := [(0, .ref q), (1, .int (nI m)), (2, .int (nI S)), (3, .int (nI c)), (4, .int (nI (stepN (mG p m) S c (i + 1)))), (5, .int (nI (i + 1)))]) (by first | rfl | rw [e_8] | (rw [e_8]; rfl)) ?_
          exact ih_3 (i + 1) (by omega) (by omega)
  refine wc_L (L' := [(0, .ref q), (1, .int (nI m)), (2, .int (nI S)), (3, .int (nI c)), (4, .int (nI (stepN (mG p m) S c 0))), (5, .int (nI 0))]) (by rfl) ?_
  exact LP_2 (p m - 0 + 1) 0 (by omega) (Nat.lt_succ_self _)

set_option maxHeartbeats 4000000 in
set_option maxRecDepth 100000 in
theorem c_X11_edges (l : Launch) (G : GG) (q : Nat) (p : Nat → Nat) (m : Nat) (hp0 : p 0 ≤ 4) (hp1 : p 1 ≤ 5) (hp : ∀ j, p j < 32) (hm : m < 2) : RM l G yX11_edges (Cond.code yX11_edges cX11_edges 4 (some .int)) { frames := 1, cells := 0, slots := 0, locals := 22 } [.ref q, .int (nI m)] [aI G q 22 (nF p)] (.int (nI (edgN (mG p m) (p m)))) := by
  refine RM.ofI (by decide) rfl (fun Γ X ret => ?_)
  show Wc Γ 0 0 0 [(0, .ref q), (1, .int (nI m))] [] [aI G q 22 (nF p)]
  have hpm : p m ≤ 5 := pm_le hm hp0 hp1
  refine wc_iconstN X 0 0 dX11_edges_0 ?_
  refine wc_istore_n X 1 (L' := [(0, .ref q), (1, .int (nI m)), (2, .int (nI 0))]) dX11_edges_1 (by decide) rfl ?_
  refine wc_iconstN X 2 0 dX11_edges_2 ?_
  refine wc_istore_n X 3 (L' := [(0, .ref q), (1, .int (nI m)), (2, .int (nI 0)), (3, .int (nI 0))]) dX11_edges_3 (by decide) rfl ?_
  have LP_2 : ∀ (fuel_1 : Nat) (i : Nat), (i ≤ p m) → p m - i < fuel_1 → Wc Γ 0 0 4 [(0, .ref q), (1, .int (nI m)), (2, .int (nI (edgN (mG p m) i))), (3, .int (nI i))] [] [aI G q 22 (nF p)] := by
    intro fuel_1
    induction fuel_1 with
    | zero => intro i hi hm; exact absurd hm (Nat.not_lt_zero _)
    | succ fuel_1 ih_3 =>
      intro i hi hm_4
      refine wc_iload_n X 4 3 dX11_edges_4 rfl ?_
      refine wc_aload_n X 5 0 dX11_edges_5 rfl ?_
      refine wc_iload_n X 6 1 dX11_edges_6 rfl ?_
      refine wc_ialdG X 7 0 rfl (by omega) (by decide) dX11_edges_7 ?_
      refine wc_icmp_geN X 8 43 dX11_edges_8 (by decide) (by omega) (by omega) (fun c8_5 => ?_) (fun c8_5 => ?_)
      ·
        refine wc_iload_n X 43 2 dX11_edges_43 rfl ?_
        exact ret 44 _ (nI (edgN (mG p m) i)) dX11_edges_44 (by rw [show i = p m by omega])
      ·
        refine wc_iload_n X 11 2 dX11_edges_11 rfl ?_
        refine wc_aload_n X 12 0 dX11_edges_12 rfl ?_
        refine wc_iload_n X 13 1 dX11_edges_13 rfl ?_
        refine wc_iload_n X 14 3 dX11_edges_14 rfl ?_
        refine wc_iconstN X 15 1 dX11_edges_15 ?_
        refine wc_callS X 16 [] (c_X11_at l G m i 1 (by first | assumption | omega) (by first | assumption | omega) (by first | assumption | omega) (by first | assumption | omega)) ys_X11_at rfl q_896 ⟨rfl, rfl⟩ ⟨rfl, rfl⟩ ⟨rfl, rfl⟩ rfl rfl rfl dX11_edges_16 ?_
        refine wc_ialdG X 19 0 rfl (atN_lt (by omega) (by decide)) (by decide) dX11_edges_19 ?_
        refine wc_callS X 20 [] (c_X11_ones l G (p (atN m i 1)) (Nat.lt_trans (hp _) (by decide))) ys_X11_ones rfl q_899 ⟨rfl, rfl⟩ ⟨rfl, rfl⟩ ⟨rfl, rfl⟩ rfl rfl rfl dX11_edges_20 ?_
        refine wc_aload_n X 23 0 dX11_edges_23 rfl ?_
        refine wc_iload_n X 24 1 dX11_edges_24 rfl ?_
        refine wc_iload_n X 25 3 dX11_edges_25 rfl ?_
        refine wc_iconstN X 26 2 dX11_edges_26 ?_
        refine wc_callS X 27 [] (c_X11_at l G m i 2 (by first | assumption | omega) (by first | assumption | omega) (by first | assumption | omega) (by first | assumption | omega)) ys_X11_at rfl q_896 ⟨rfl, rfl⟩ ⟨rfl, rfl⟩ ⟨rfl, rfl⟩ rfl rfl rfl dX11_edges_27 ?_
        refine wc_ialdG X 30 0 rfl (atN_lt (by omega) (by decide)) (by decide) dX11_edges_30 ?_
        refine wc_callS X 31 [] (c_X11_ones l G (p (atN m i 2)) (Nat.lt_trans (hp _) (by decide))) ys_X11_ones rfl q_899 ⟨rfl, rfl⟩ ⟨rfl, rfl⟩ ⟨rfl, rfl⟩ rfl rfl rfl dX11_edges_31 ?_
        refine wc_iaddN X 34 dX11_edges_34 ?_
        refine wc_iaddN X 35 dX11_edges_35 ?_
        refine wc_istore_n X 36 (L' := [(0, .ref q), (1, .int (nI m)), (2, .int (nI ((edgN (mG p m) i) + ((ones (p (atN m i 1))) + (ones (p (atN m i 2))))))), (3, .int (nI i))]) dX11_edges_36 (by decide) rfl ?_
        refine wc_iincN X 37 3 (L' := [(0, .ref q), (1, .int (nI m)), (2, .int (nI ((edgN (mG p m) i) + ((ones (p (atN m i 1))) + (ones (p (atN m i 2))))))), (3, .int (nI (i + 1)))]) dX11_edges_37 rfl (by decide) rfl ?_
        refine wc_goto X 40 4 dX11_edges_40 (by decide) ?_
        have e_6 : (edgN (mG p m) i) + ((ones (p (atN m i 1))) + (ones (p (atN m i 2)))) = edgN (mG p m) (i + 1) := by rw [edgN, atN_mG hm hp0 (by omega) (by decide) (by decide), atN_mG hm hp0 (by omega) (by decide) (by decide)]
        refine wc_L (L' := [(0, .ref q), (1, .int (nI m)), (2, .int (nI (edgN (mG p m) (i + 1)))), (3, .int (nI (i + 1)))]) (by first | rfl | rw [e_6] | (rw [e_6]; rfl)) ?_
        exact ih_3 (i + 1) (by omega) (by omega)
  refine wc_L (L' := [(0, .ref q), (1, .int (nI m)), (2, .int (nI (edgN (mG p m) 0))), (3, .int (nI 0))]) (by rfl) ?_
  exact LP_2 (p m - 0 + 1) 0 (by omega) (Nat.lt_succ_self _)

set_option maxHeartbeats 4000000 in
set_option maxRecDepth 100000 in
theorem c_X11_allEdges (l : Launch) (G : GG) (q : Nat) (p : Nat → Nat) (hp0 : p 0 ≤ 4) (hp1 : p 1 ≤ 5) (hp : ∀ j, p j < 32) : RM l G yX11_allEdges (Cond.code yX11_allEdges cX11_allEdges 1 (some .int)) { frames := 2, cells := 0, slots := 0, locals := 45 } [.ref q] [aI G q 22 (nF p)] (.int (nI (edgN (mG p 0) (p 0) + edgN (mG p 1) (p 1)))) := by
  refine RM.ofI (by decide) rfl (fun Γ X ret => ?_)
  show Wc Γ 0 0 0 [(0, .ref q)] [] [aI G q 22 (nF p)]
  refine wc_aload_n X 0 0 dX11_allEdges_0 rfl ?_
  refine wc_iconstN X 1 0 dX11_allEdges_1 ?_
  refine wc_callS X 2 [0] (c_X11_edges l G q p 0 (by first | assumption | omega) (by first | assumption | omega) (by first | assumption | omega) (by first | assumption | omega)) ys_X11_edges rfl q_893 ⟨rfl, rfl⟩ ⟨rfl, rfl⟩ ⟨rfl, rfl⟩ rfl rfl rfl dX11_allEdges_2 ?_
  refine wc_aload_n X 5 0 dX11_allEdges_5 rfl ?_
  refine wc_iconstN X 6 1 dX11_allEdges_6 ?_
  refine wc_callS X 7 [0] (c_X11_edges l G q p 1 (by first | assumption | omega) (by first | assumption | omega) (by first | assumption | omega) (by first | assumption | omega)) ys_X11_edges rfl q_893 ⟨rfl, rfl⟩ ⟨rfl, rfl⟩ ⟨rfl, rfl⟩ rfl rfl rfl dX11_allEdges_7 ?_
  refine wc_iaddN X 10 dX11_allEdges_10 ?_
  exact ret 11 _ (nI ((edgN (mG p 0) (p 0)) + (edgN (mG p 1) (p 1)))) dX11_allEdges_11 (rfl)

set_option maxHeartbeats 4000000 in
set_option maxRecDepth 100000 in
theorem c_X11_lay (l : Launch) (G : GG) (q : Nat) (p : Nat → Nat) (r : Nat) (f : Nat → Nat)  : MM l G yX11_lay (Cond.code yX11_lay cX11_lay 3 none) { frames := 0, cells := 0, slots := 0, locals := 0 } [.ref q, .ref r] [aI G q 22 (nF p), aI G r 22 (nF f)] (fun (v : Option Value) (w : va_W) => v = none ∧ w = [aI G q 22 (nF f), aI G r 22 (nF f)]) 0 0 := by
  refine MM.ofV (by decide) rfl (fun Γ X Y hnm ret => ?_)
  show Wc Γ 0 0 0 [(0, .ref q), (1, .ref r)] [] [aI G q 22 (nF p), aI G r 22 (nF f)]
  refine wc_iconstN X 0 0 dX11_lay_0 ?_
  refine wc_istore_n X 1 (L' := [(0, .ref q), (1, .ref r), (2, .int (nI 0))]) dX11_lay_1 (by decide) rfl ?_
  have LP_2 : ∀ (fuel_1 : Nat) (i : Nat) (h : Nat → Nat), (i ≤ 22) → (∀ j, j < i → h j = f j) → 22 - i < fuel_1 → Wc Γ 0 0 2 [(0, .ref q), (1, .ref r), (2, .int (nI i))] [] [aI G q 22 (nF h), aI G r 22 (nF f)] := by
    intro fuel_1
    induction fuel_1 with
    | zero => intro i h hi hh hm; exact absurd hm (Nat.not_lt_zero _)
    | succ fuel_1 ih_3 =>
      intro i h hi hh hm_4
      refine wc_iload_n X 2 2 dX11_lay_2 rfl ?_
      refine wc_bipush X 3 (nI 22) dX11_lay_3 (by decide) ?_
      refine wc_icmp_geN X 5 20 dX11_lay_5 (by decide) (by omega) (by decide) (fun c5_5 => ?_) (fun c5_5 => ?_)
      ·
        refine wc_ext X Y 0 (f' := nF f) rfl (fun j hj => congrArg nI (hh j (by omega))) (ws' := [aI G q 22 (nF f), aI G r 22 (nF f)]) rfl ?_
        exact ret 20 _ _ dX11_lay_20 (⟨rfl, rfl⟩)
      ·
        refine wc_aload_n X 8 0 dX11_lay_8 rfl ?_
        refine wc_iload_n X 9 2 dX11_lay_9 rfl ?_
        refine wc_aload_n X 10 1 dX11_lay_10 rfl ?_
        refine wc_iload_n X 11 2 dX11_lay_11 rfl ?_
        refine wc_ialdG X 12 1 rfl (by omega) (by decide) dX11_lay_12 ?_
        refine wc_iastG X Y 13 0 rfl (by omega) (by decide) (ws' := [aI G q 22 (nF (up h i (f i))), aI G r 22 (nF f)]) rfl dX11_lay_13 ?_
        refine wc_iincN X 14 2 (L' := [(0, .ref q), (1, .ref r), (2, .int (nI (i + 1)))]) dX11_lay_14 rfl (by decide) rfl ?_
        refine wc_goto X 17 2 dX11_lay_17 (by decide) ?_
        refine wc_L (L' := [(0, .ref q), (1, .ref r), (2, .int (nI (i + 1)))]) (by rfl) ?_
        exact ih_3 (i + 1) (up h i (f i)) (by omega) (up_lt hh) (by omega)
  exact LP_2 (22 - 0 + 1) 0 p (by omega) (fun j hj => absurd hj (Nat.not_lt_zero _)) (Nat.lt_succ_self _)

set_option maxHeartbeats 4000000 in
set_option maxRecDepth 100000 in
theorem c_X11_afterBits (l : Launch) (G : GG) (q : Nat) (p : Nat → Nat) (m b k : Nat) (hp0 : p 0 ≤ 4) (hp1 : p 1 ≤ 5) (hp : ∀ j, p j < 32) (hm : m < 2) (hb : b < 2147483648) (hk : k < 32) : RM l G yX11_afterBits (Cond.code yX11_afterBits cX11_afterBits 6 (some .int)) { frames := 2, cells := 0, slots := 0, locals := 47 } [.ref q, .int (nI m), .int (nI b), .int (nI k)] [aI G q 22 (nF p)] (.int (nI (afterB (mG p m) (p m) b k))) := by
  refine RM.ofI (by decide) rfl (fun Γ X ret => ?_)
  show Wc Γ 0 0 0 [(0, .ref q), (1, .int (nI m)), (2, .int (nI b)), (3, .int (nI k))] [] [aI G q 22 (nF p)]
  refine wc_iconstN X 0 1 dX11_afterBits_0 ?_
  refine wc_istore X 1 (L' := [(0, .ref q), (1, .int (nI m)), (2, .int (nI b)), (3, .int (nI k)), (4, .int (nI 1))]) dX11_afterBits_1 (by decide) rfl ?_
  refine wc_iconstN X 3 0 dX11_afterBits_3 ?_
  refine wc_istore X 4 (L' := [(0, .ref q), (1, .int (nI m)), (2, .int (nI b)), (3, .int (nI k)), (4, .int (nI 1)), (5, .int (nI 0))]) dX11_afterBits_4 (by decide) rfl ?_
  have LP_2 : ∀ (fuel_1 : Nat) (i : Nat), (i ≤ k) → k - i < fuel_1 → Wc Γ 0 0 6 [(0, .ref q), (1, .int (nI m)), (2, .int (nI b)), (3, .int (nI k)), (4, .int (nI (afterB (mG p m) (p m) b i))), (5, .int (nI i))] [] [aI G q 22 (nF p)] := by
    intro fuel_1
    induction fuel_1 with
    | zero => intro i hi hm; exact absurd hm (Nat.not_lt_zero _)
    | succ fuel_1 ih_3 =>
      intro i hi hm_4
      refine wc_iload X 6 5 dX11_afterBits_6 rfl ?_
      refine wc_iload_n X 8 3 dX11_afterBits_8 rfl ?_
      refine wc_icmp_geN X 9 35 dX11_afterBits_9 (by decide) (by omega) (by omega) (fun c9_5 => ?_) (fun c9_5 => ?_)
      ·
        refine wc_iload X 35 4 dX11_afterBits_35 rfl ?_
        exact ret 37 _ (nI (afterB (mG p m) (p m) b i)) dX11_afterBits_37 (by rw [show i = k by omega])
      ·
        refine wc_aload_n X 12 0 dX11_afterBits_12 rfl ?_
        refine wc_iload_n X 13 1 dX11_afterBits_13 rfl ?_
        refine wc_iload X 14 4 dX11_afterBits_14 rfl ?_
        refine wc_iconstN X 16 1 dX11_afterBits_16 ?_
        refine wc_iload_n X 17 2 dX11_afterBits_17 rfl ?_
        refine wc_iload X 18 5 dX11_afterBits_18 rfl ?_
        refine wc_ishrN X 20 dX11_afterBits_20 (by omega) (by omega) ?_
        refine wc_iconstN X 21 1 dX11_afterBits_21 ?_
        refine wc_iandN X 22 dX11_afterBits_22 ?_
        refine wc_topi (b2i (Nat.testBit b i)) (nI_bit _ _) ?_
        refine wc_st (st' := [.int (nI ((Nat.testBit b i).toNat)), .int (nI 1), .int (nI (afterB (mG p m) (p m) b i)), .int (nI m), .ref q]) (by simp only [b2i_toNat]) ?_
        refine wc_iaddN X 23 dX11_afterBits_23 ?_
        refine wc_callS X 24 [0] (c_X11_lead l G q p m (afterB (mG p m) (p m) b i) (1 + ((Nat.testBit b i).toNat)) (by first | assumption | omega) (by first | assumption | omega) (by first | assumption | omega) (by first | assumption | omega) (afterB_lt (mG_lt hp m) _ _ _) (by first | assumption | omega) (toNat_le _)) ys_X11_lead rfl q_985 ⟨rfl, rfl⟩ ⟨rfl, rfl⟩ ⟨rfl, rfl⟩ rfl rfl rfl dX11_afterBits_24 ?_
        refine wc_istore X 27 (L' := [(0, .ref q), (1, .int (nI m)), (2, .int (nI b)), (3, .int (nI k)), (4, .int (nI (stepN (mG p m) (afterB (mG p m) (p m) b i) (1 + ((Nat.testBit b i).toNat)) (p m)))), (5, .int (nI i))]) dX11_afterBits_27 (by decide) rfl ?_
        refine wc_iincN X 29 5 (L' := [(0, .ref q), (1, .int (nI m)), (2, .int (nI b)), (3, .int (nI k)), (4, .int (nI (stepN (mG p m) (afterB (mG p m) (p m) b i) (1 + ((Nat.testBit b i).toNat)) (p m)))), (5, .int (nI (i + 1)))]) dX11_afterBits_29 rfl (by decide) rfl ?_
        refine wc_goto X 32 6 dX11_afterBits_32 (by decide) ?_
        refine wc_L (L' := [(0, .ref q), (1, .int (nI m)), (2, .int (nI b)), (3, .int (nI k)), (4, .int (nI (afterB (mG p m) (p m) b (i + 1)))), (5, .int (nI (i + 1)))]) (by rfl) ?_
        exact ih_3 (i + 1) (by omega) (by omega)
  refine wc_L (L' := [(0, .ref q), (1, .int (nI m)), (2, .int (nI b)), (3, .int (nI k)), (4, .int (nI (afterB (mG p m) (p m) b 0))), (5, .int (nI 0))]) (by rfl) ?_
  exact LP_2 (k - 0 + 1) 0 (by omega) (Nat.lt_succ_self _)

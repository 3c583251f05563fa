set_option maxHeartbeats 4000000 in
set_option maxRecDepth 100000 in
theorem c_X11_isWordF (l : Launch) (G : GG) (x : Int32) (hx : x < 0) : RM l G yX11_isWord (Cond.code yX11_isWord cX11_isWord 3 (some .boolean)) { frames := 1, cells := 0, slots := 0, locals := 25 } [.int x] [] (.int (b2i false)) := by
  refine RM.ofZ (by decide) rfl (fun Γ X ret => ?_)
  show Wc Γ 0 0 0 [(0, .int x)] [] []
  refine wc_iload_n X 0 0 dX11_isWord_0 rfl ?_
  refine wc_i2l X 1 dX11_isWord_1 ?_
  refine wc_lconst X 2 0 dX11_isWord_2 (by decide) ?_
  refine wc_ldc2 X 3 158 (222222222) q_969 dX11_isWord_3 ?_
  refine wc_callS X 6 [] (c_X11_in l G ((x).toInt64) 0 222222222 ) ys_X11_in rfl q_870 ⟨rfl, rfl⟩ ⟨rfl, rfl⟩ ⟨rfl, rfl⟩ rfl rfl rfl dX11_isWord_6 ?_
  refine wc_istore_n X 9 (L' := [(0, .int x), (1, .int (b2i (inL ((x).toInt64) 0 222222222)))]) dX11_isWord_9 (by decide) rfl ?_
  refine wc_iload_n X 10 0 dX11_isWord_10 rfl ?_
  refine wc_istore_n X 11 (L' := [(0, .int x), (1, .int (b2i (inL ((x).toInt64) 0 222222222))), (2, .int x)]) dX11_isWord_11 (by decide) rfl ?_
  have LP_2 : ∀ (fuel_1 : Nat) (b : Bool), (b = false) → 0 < fuel_1 → Wc Γ 0 0 12 [(0, .int x), (1, .int (b2i b)), (2, .int x)] [] [] := by
    intro fuel_1
    induction fuel_1 with
    | zero => intro b hb hm; exact absurd hm (Nat.not_lt_zero _)
    | succ fuel_1 ih_3 =>
      intro b hb hm_4
      refine wc_iload_n X 12 2 dX11_isWord_12 rfl ?_
      refine wc_if_le X 13 49 dX11_isWord_13 (by decide) (fun c13_5 => ?_) (fun c13_5 => ?_)
      ·
        refine wc_iload_n X 49 1 dX11_isWord_49 rfl ?_
        exact ret 50 _ b dX11_isWord_50 (hb)
      ·
        exact absurd (Int32.le_of_lt hx) c13_5
  refine wc_L (L' := [(0, .int x), (1, .int (b2i (inL (x).toInt64 0 222222222))), (2, .int x)]) (by rfl) ?_
  exact LP_2 (0 + 1) (inL (x).toInt64 0 222222222) (inL_neg hx) (Nat.lt_succ_self _)

set_option maxHeartbeats 4000000 in
set_option maxRecDepth 100000 in
theorem c_X11_isWordN (l : Launch) (G : GG) (w : Nat) (hw : w < 2147483648) : RM l G yX11_isWord (Cond.code yX11_isWord cX11_isWord 3 (some .boolean)) { frames := 1, cells := 0, slots := 0, locals := 25 } [.int (nI w)] [] (.int (b2i (wordOk w))) := by
  refine RM.ofZ (by decide) rfl (fun Γ X ret => ?_)
  show Wc Γ 0 0 0 [(0, .int (nI w))] [] []
  refine wc_iload_n X 0 0 dX11_isWord_0 rfl ?_
  refine wc_i2l X 1 dX11_isWord_1 ?_
  refine wc_lconst X 2 0 dX11_isWord_2 (by decide) ?_
  refine wc_ldc2 X 3 158 (222222222) q_969 dX11_isWord_3 ?_
  refine wc_callS X 6 [] (c_X11_in l G ((nI w).toInt64) 0 222222222 ) ys_X11_in rfl q_870 ⟨rfl, rfl⟩ ⟨rfl, rfl⟩ ⟨rfl, rfl⟩ rfl rfl rfl dX11_isWord_6 ?_
  refine wc_istore_n X 9 (L' := [(0, .int (nI w)), (1, .int (b2i (inL ((nI w).toInt64) 0 222222222)))]) dX11_isWord_9 (by decide) rfl ?_
  refine wc_iload_n X 10 0 dX11_isWord_10 rfl ?_
  refine wc_istore_n X 11 (L' := [(0, .int (nI w)), (1, .int (b2i (inL ((nI w).toInt64) 0 222222222))), (2, .int (nI w))]) dX11_isWord_11 (by decide) rfl ?_
  have LP_2 : ∀ (fuel_1 : Nat) (v : Nat) (b : Bool) (fu : Nat), (v < 10 ^ fu) → ((b && letsF fu v) = (inL (nI w).toInt64 0 222222222 && letsF 10 w)) → (v < 2147483648) → v < fuel_1 → Wc Γ 0 0 12 [(0, .int (nI w)), (1, .int (b2i b)), (2, .int (nI v))] [] [] := by
    intro fuel_1
    induction fuel_1 with
    | zero => intro v b fu hv he hv2 hm; exact absurd hm (Nat.not_lt_zero _)
    | succ fuel_1 ih_3 =>
      intro v b fu hv he hv2 hm_4
      refine wc_iload_n X 12 2 dX11_isWord_12 rfl ?_
      refine wc_if_leN X 13 49 dX11_isWord_13 (by decide) (by omega) (fun c13_5 => ?_) (fun c13_5 => ?_)
      ·
        refine wc_iload_n X 49 1 dX11_isWord_49 rfl ?_
        exact ret 50 _ b dX11_isWord_50 (lets_end hw c13_5 he)
      ·
        refine wc_iload_n X 16 1 dX11_isWord_16 rfl ?_
        refine wc_if_eqB X 17 39 dX11_isWord_17 (by decide) (fun c17_6 => ?_) (fun c17_6 => ?_)
        ·
          refine wc_iconstN X 39 0 dX11_isWord_39 ?_
          refine wc_istore_n X 40 (L' := [(0, .int (nI w)), (1, .int (nI 0)), (2, .int (nI v))]) dX11_isWord_40 (by decide) rfl ?_
          refine wc_iload_n X 41 2 dX11_isWord_41 rfl ?_
          refine wc_bipush X 42 (nI 10) dX11_isWord_42 (by decide) ?_
          refine wc_idivN X 44 dX11_isWord_44 (by omega) (by decide) (by decide) ?_
          refine wc_istore_n X 45 (L' := [(0, .int (nI w)), (1, .int (nI 0)), (2, .int (nI (v / 10)))]) dX11_isWord_45 (by decide) rfl ?_
          refine wc_goto X 46 12 dX11_isWord_46 (by decide) ?_
          have e_7 : (.int (nI 0) : Value) = .int (b2i false) := rfl
          refine wc_L (L' := [(0, .int (nI w)), (1, .int (b2i false)), (2, .int (nI (v / 10)))]) (by first | rfl | rw [e_7] | (rw [e_7]; rfl)) ?_
          exact ih_3 (v / 10) false (fu - 1) (lenF_d hv c13_5) (lets_bk1 c17_6 he) (by omega) (by omega)
        ·
          refine wc_iload_n X 20 2 dX11_isWord_20 rfl ?_
          refine wc_bipush X 21 (nI 10) dX11_isWord_21 (by decide) ?_
          refine wc_iremN X 23 dX11_isWord_23 (by omega) (by decide) (by decide) ?_
          refine wc_i2l X 24 dX11_isWord_24 ?_
          refine wc_lconst X 25 1 dX11_isWord_25 (by decide) ?_
          refine wc_ldc2 X 26 149 (2) q_945 dX11_isWord_26 ?_
          refine wc_callS X 29 [] (c_X11_in l G ((nI (v % 10)).toInt64) 1 2 ) ys_X11_in rfl q_870 ⟨rfl, rfl⟩ ⟨rfl, rfl⟩ ⟨rfl, rfl⟩ rfl rfl rfl dX11_isWord_29 ?_
          refine wc_if_eqB X 32 39 dX11_isWord_32 (by decide) (fun c32_8 => ?_) (fun c32_8 => ?_)
          ·
            refine wc_iconstN X 39 0 dX11_isWord_39 ?_
            refine wc_istore_n X 40 (L' := [(0, .int (nI w)), (1, .int (nI 0)), (2, .int (nI v))]) dX11_isWord_40 (by decide) rfl ?_
            refine wc_iload_n X 41 2 dX11_isWord_41 rfl ?_
            refine wc_bipush X 42 (nI 10) dX11_isWord_42 (by decide) ?_
            refine wc_idivN X 44 dX11_isWord_44 (by omega) (by decide) (by decide) ?_
            refine wc_istore_n X 45 (L' := [(0, .int (nI w)), (1, .int (nI 0)), (2, .int (nI (v / 10)))]) dX11_isWord_45 (by decide) rfl ?_
            refine wc_goto X 46 12 dX11_isWord_46 (by decide) ?_
            have e_9 : (.int (nI 0) : Value) = .int (b2i false) := rfl
            refine wc_L (L' := [(0, .int (nI w)), (1, .int (b2i false)), (2, .int (nI (v / 10)))]) (by first | rfl | rw [e_9] | (rw [e_9]; rfl)) ?_
            exact ih_3 (v / 10) false (fu - 1) (lenF_d hv c13_5) (lets_bk2 hv c13_5 c32_8 he) (by omega) (by omega)
          ·
            refine wc_iconstN X 35 1 dX11_isWord_35 ?_
            refine wc_goto X 36 40 dX11_isWord_36 (by decide) ?_
            refine wc_istore_n X 40 (L' := [(0, .int (nI w)), (1, .int (nI 1)), (2, .int (nI v))]) dX11_isWord_40 (by decide) rfl ?_
            refine wc_iload_n X 41 2 dX11_isWord_41 rfl ?_
            refine wc_bipush X 42 (nI 10) dX11_isWord_42 (by decide) ?_
            refine wc_idivN X 44 dX11_isWord_44 (by omega) (by decide) (by decide) ?_
            refine wc_istore_n X 45 (L' := [(0, .int (nI w)), (1, .int (nI 1)), (2, .int (nI (v / 10)))]) dX11_isWord_45 (by decide) rfl ?_
            refine wc_goto X 46 12 dX11_isWord_46 (by decide) ?_
            have e_10 : (.int (nI 1) : Value) = .int (b2i true) := rfl
            refine wc_L (L' := [(0, .int (nI w)), (1, .int (b2i true)), (2, .int (nI (v / 10)))]) (by first | rfl | rw [e_10] | (rw [e_10]; rfl)) ?_
            exact ih_3 (v / 10) true (fu - 1) (lenF_d hv c13_5) (lets_bk3 hv c13_5 c17_6 c32_8 he) (by omega) (by omega)
  refine wc_L (L' := [(0, .int (nI w)), (1, .int (b2i (inL (nI w).toInt64 0 222222222))), (2, .int (nI w))]) (by rfl) ?_
  exact LP_2 (w + 1) w (inL (nI w).toInt64 0 222222222) 10 (Nat.lt_trans hw (by decide)) rfl hw (Nat.lt_succ_self _)

set_option maxHeartbeats 4000000 in
set_option maxRecDepth 100000 in
theorem c_X11_next (l : Launch) (G : GG) (q : Nat) (p : Nat → Nat) (v c : Nat) (hp0 : p 0 ≤ 4) (hp1 : p 1 ≤ 5) (hp : ∀ j, p j < 32) (hz : ∀ j, gz p j < 16) (hv : v < 512) (h1 : 1 ≤ c) (h2 : c ≤ 2) : RM l G yX11_next (Cond.code yX11_next cX11_next 3 (some .int)) { frames := 2, cells := 0, slots := 0, locals := 47 } [.ref q, .int (nI v), .int (nI c)] [aI G q 22 (nF p)] (.int (nI (stepN (mG p 0) (v &&& 15) c (p 0) ||| stepN (mG p 1) (v / 2 ^ 4) c (p 1) * 2 ^ 4))) := by
  refine RM.ofI (by decide) rfl (fun Γ X ret => ?_)
  show Wc Γ 0 0 0 [(0, .ref q), (1, .int (nI v)), (2, .int (nI c))] [] [aI G q 22 (nF p)]
  refine wc_aload_n X 0 0 dX11_next_0 rfl ?_
  refine wc_iconstN X 1 0 dX11_next_1 ?_
  refine wc_iload_n X 2 1 dX11_next_2 rfl ?_
  refine wc_bipush X 3 (nI 15) dX11_next_3 (by decide) ?_
  refine wc_iandN X 5 dX11_next_5 ?_
  refine wc_iload_n X 6 2 dX11_next_6 rfl ?_
  refine wc_callS X 7 [0] (c_X11_lead l G q p 0 (v &&& 15) c (by first | assumption | omega) (by first | assumption | omega) (by first | assumption | omega) (by first | assumption | omega) (Nat.lt_of_le_of_lt Nat.and_le_right (by decide)) (by first | assumption | omega) (by first | assumption | omega)) ys_X11_lead rfl q_985 ⟨rfl, rfl⟩ ⟨rfl, rfl⟩ ⟨rfl, rfl⟩ rfl rfl rfl dX11_next_7 ?_
  refine wc_aload_n X 10 0 dX11_next_10 rfl ?_
  refine wc_iconstN X 11 1 dX11_next_11 ?_
  refine wc_iload_n X 12 1 dX11_next_12 rfl ?_
  refine wc_iconstN X 13 4 dX11_next_13 ?_
  refine wc_ishrN X 14 dX11_next_14 (by decide) (by omega) ?_
  refine wc_iload_n X 15 2 dX11_next_15 rfl ?_
  refine wc_callS X 16 [0] (c_X11_lead l G q p 1 (v / 2 ^ 4) c (by first | assumption | omega) (by first | assumption | omega) (by first | assumption | omega) (by first | assumption | omega) (by omega) (by first | assumption | omega) (by first | assumption | omega)) ys_X11_lead rfl q_985 ⟨rfl, rfl⟩ ⟨rfl, rfl⟩ ⟨rfl, rfl⟩ rfl rfl rfl dX11_next_16 ?_
  refine wc_iconstN X 19 4 dX11_next_19 ?_
  refine wc_ishlN X 20 dX11_next_20 (by decide) (Nat.lt_of_lt_of_le (Nat.mul_lt_mul_of_pos_right (stepN_lt (mG_lt hp 1) _ _ _) (by decide)) (by decide)) ?_
  refine wc_iorN X 21 dX11_next_21 ?_
  exact ret 22 _ (nI ((stepN (mG p 0) (v &&& 15) c (p 0)) ||| ((stepN (mG p 1) (v / 2 ^ 4) c (p 1)) * 2 ^ 4))) dX11_next_22 (rfl)

set_option maxHeartbeats 4000000 in
set_option maxRecDepth 100000 in
theorem c_X11_isWanted (l : Launch) (G : GG) (q : Nat) (p : Nat → Nat) (k v : Nat) (hp0 : p 0 ≤ 4) (hp1 : p 1 ≤ 5) (hp : ∀ j, p j < 32) (hk : k < 3) (hv : v < 512) : RM l G yX11_isWanted (Cond.code yX11_isWanted cX11_isWanted 5 (some .boolean)) { frames := 0, cells := 0, slots := 0, locals := 0 } [.ref q, .int (nI k), .int (nI v)] [aI G q 22 (nF p)] (.int (b2i (if k = 0 then (v &&& 15 &&& p 2 != 0) && !(v / 2 ^ 4 &&& p 3 != 0) else if k = 1 then !(v &&& 15 &&& p 2 != 0) else !(v / 2 ^ 4 &&& p 3 != 0)))) := by
  refine RM.ofZ (by decide) rfl (fun Γ X ret => ?_)
  show Wc Γ 0 0 0 [(0, .ref q), (1, .int (nI k)), (2, .int (nI v))] [] [aI G q 22 (nF p)]
  refine wc_iload_n X 0 2 dX11_isWanted_0 rfl ?_
  refine wc_bipush X 1 (nI 15) dX11_isWanted_1 (by decide) ?_
  refine wc_iandN X 3 dX11_isWanted_3 ?_
  refine wc_aload_n X 4 0 dX11_isWanted_4 rfl ?_
  refine wc_iconstN X 5 2 dX11_isWanted_5 ?_
  refine wc_ialdG X 6 0 rfl (by decide) (by decide) dX11_isWanted_6 ?_
  refine wc_iandN X 7 dX11_isWanted_7 ?_
  refine wc_if_eqN X 8 15 dX11_isWanted_8 (by decide) (and_lt (and_lt (by omega))) (fun c8_1 => ?_) (fun c8_1 => ?_)
  ·
    refine wc_iconstN X 15 0 dX11_isWanted_15 ?_
    refine wc_istore_n X 16 (L' := [(0, .ref q), (1, .int (nI k)), (2, .int (nI v)), (3, .int (nI 0))]) dX11_isWanted_16 (by decide) rfl ?_
    refine wc_iload_n X 17 2 dX11_isWanted_17 rfl ?_
    refine wc_iconstN X 18 4 dX11_isWanted_18 ?_
    refine wc_ishrN X 19 dX11_isWanted_19 (by decide) (by omega) ?_
    refine wc_aload_n X 20 0 dX11_isWanted_20 rfl ?_
    refine wc_iconstN X 21 3 dX11_isWanted_21 ?_
    refine wc_ialdG X 22 0 rfl (by decide) (by decide) dX11_isWanted_22 ?_
    refine wc_iandN X 23 dX11_isWanted_23 ?_
    refine wc_if_eqN X 24 31 dX11_isWanted_24 (by decide) (and_lt (by omega)) (fun c24_2 => ?_) (fun c24_2 => ?_)
    ·
      refine wc_iconstN X 31 0 dX11_isWanted_31 ?_
      refine wc_istore X 32 (L' := [(0, .ref q), (1, .int (nI k)), (2, .int (nI v)), (3, .int (nI 0)), (4, .int (nI 0))]) dX11_isWanted_32 (by decide) rfl ?_
      refine wc_iload_n X 34 1 dX11_isWanted_34 rfl ?_
      refine wc_if_neN X 35 55 dX11_isWanted_35 (by decide) (by omega) (fun c35_3 => ?_) (fun c35_3 => ?_)
      ·
        refine wc_iload_n X 55 1 dX11_isWanted_55 rfl ?_
        refine wc_iconstN X 56 1 dX11_isWanted_56 ?_
        refine wc_icmp_neN X 57 72 dX11_isWanted_57 (by decide) (by omega) (by decide) (fun c57_4 => ?_) (fun c57_4 => ?_)
        ·
          refine wc_iload X 72 4 dX11_isWanted_72 rfl ?_
          refine wc_if_neN X 74 81 dX11_isWanted_74 (by decide) (by decide) (fun c74_5 => ?_) (fun c74_5 => ?_)
          ·
            exact absurd c74_5 (by decide)
          ·
            refine wc_iconstN X 77 1 dX11_isWanted_77 ?_
            refine wc_goto X 78 82 dX11_isWanted_78 (by decide) ?_
            refine wc_st (st' := [.int (b2i true)]) rfl ?_
            exact ret 82 _ true dX11_isWanted_82 (by simp [c8_1, c24_2, c35_3, c57_4, c74_5])
        ·
          refine wc_iload_n X 60 3 dX11_isWanted_60 rfl ?_
          refine wc_if_neN X 61 68 dX11_isWanted_61 (by decide) (by decide) (fun c61_6 => ?_) (fun c61_6 => ?_)
          ·
            exact absurd c61_6 (by decide)
          ·
            refine wc_iconstN X 64 1 dX11_isWanted_64 ?_
            refine wc_goto X 65 82 dX11_isWanted_65 (by decide) ?_
            refine wc_st (st' := [.int (b2i true)]) rfl ?_
            exact ret 82 _ true dX11_isWanted_82 (by simp [c8_1, c24_2, c35_3, c57_4, c61_6])
      ·
        refine wc_iload_n X 38 3 dX11_isWanted_38 rfl ?_
        refine wc_if_eqN X 39 51 dX11_isWanted_39 (by decide) (by decide) (fun c39_7 => ?_) (fun c39_7 => ?_)
        ·
          refine wc_iconstN X 51 0 dX11_isWanted_51 ?_
          refine wc_goto X 52 82 dX11_isWanted_52 (by decide) ?_
          refine wc_st (st' := [.int (b2i false)]) rfl ?_
          exact ret 82 _ false dX11_isWanted_82 (by simp [c8_1, c24_2, c35_3, c39_7])
        ·
          exact absurd c39_7 (by decide)
    ·
      refine wc_iconstN X 27 1 dX11_isWanted_27 ?_
      refine wc_goto X 28 32 dX11_isWanted_28 (by decide) ?_
      refine wc_istore X 32 (L' := [(0, .ref q), (1, .int (nI k)), (2, .int (nI v)), (3, .int (nI 0)), (4, .int (nI 1))]) dX11_isWanted_32 (by decide) rfl ?_
      refine wc_iload_n X 34 1 dX11_isWanted_34 rfl ?_
      refine wc_if_neN X 35 55 dX11_isWanted_35 (by decide) (by omega) (fun c35_8 => ?_) (fun c35_8 => ?_)
      ·
        refine wc_iload_n X 55 1 dX11_isWanted_55 rfl ?_
        refine wc_iconstN X 56 1 dX11_isWanted_56 ?_
        refine wc_icmp_neN X 57 72 dX11_isWanted_57 (by decide) (by omega) (by decide) (fun c57_9 => ?_) (fun c57_9 => ?_)
        ·
          refine wc_iload X 72 4 dX11_isWanted_72 rfl ?_
          refine wc_if_neN X 74 81 dX11_isWanted_74 (by decide) (by decide) (fun c74_10 => ?_) (fun c74_10 => ?_)
          ·
            refine wc_iconstN X 81 0 dX11_isWanted_81 ?_
            refine wc_st (st' := [.int (b2i false)]) rfl ?_
            exact ret 82 _ false dX11_isWanted_82 (by simp [c8_1, c24_2, c35_8, c57_9, c74_10])
          ·
            exact absurd c74_10 (by decide)
        ·
          refine wc_iload_n X 60 3 dX11_isWanted_60 rfl ?_
          refine wc_if_neN X 61 68 dX11_isWanted_61 (by decide) (by decide) (fun c61_11 => ?_) (fun c61_11 => ?_)
          ·
            exact absurd c61_11 (by decide)
          ·
            refine wc_iconstN X 64 1 dX11_isWanted_64 ?_
            refine wc_goto X 65 82 dX11_isWanted_65 (by decide) ?_
            refine wc_st (st' := [.int (b2i true)]) rfl ?_
            exact ret 82 _ true dX11_isWanted_82 (by simp [c8_1, c24_2, c35_8, c57_9, c61_11])
      ·
        refine wc_iload_n X 38 3 dX11_isWanted_38 rfl ?_
        refine wc_if_eqN X 39 51 dX11_isWanted_39 (by decide) (by decide) (fun c39_12 => ?_) (fun c39_12 => ?_)
        ·
          refine wc_iconstN X 51 0 dX11_isWanted_51 ?_
          refine wc_goto X 52 82 dX11_isWanted_52 (by decide) ?_
          refine wc_st (st' := [.int (b2i false)]) rfl ?_
          exact ret 82 _ false dX11_isWanted_82 (by simp [c8_1, c24_2, c35_8, c39_12])
        ·
          exact absurd c39_12 (by decide)
  ·
    refine wc_iconstN X 11 1 dX11_isWanted_11 ?_
    refine wc_goto X 12 16 dX11_isWanted_12 (by decide) ?_
    refine wc_istore_n X 16 (L' := [(0, .ref q), (1, .int (nI k)), (2, .int (nI v)), (3, .int (nI 1))]) dX11_isWanted_16 (by decide) rfl ?_
    refine wc_iload_n X 17 2 dX11_isWanted_17 rfl ?_
    refine wc_iconstN X 18 4 dX11_isWanted_18 ?_
    refine wc_ishrN X 19 dX11_isWanted_19 (by decide) (by omega) ?_
    refine wc_aload_n X 20 0 dX11_isWanted_20 rfl ?_
    refine wc_iconstN X 21 3 dX11_isWanted_21 ?_
    refine wc_ialdG X 22 0 rfl (by decide) (by decide) dX11_isWanted_22 ?_
    refine wc_iandN X 23 dX11_isWanted_23 ?_
    refine wc_if_eqN X 24 31 dX11_isWanted_24 (by decide) (and_lt (by omega)) (fun c24_13 => ?_) (fun c24_13 => ?_)
    ·
      refine wc_iconstN X 31 0 dX11_isWanted_31 ?_
      refine wc_istore X 32 (L' := [(0, .ref q), (1, .int (nI k)), (2, .int (nI v)), (3, .int (nI 1)), (4, .int (nI 0))]) dX11_isWanted_32 (by decide) rfl ?_
      refine wc_iload_n X 34 1 dX11_isWanted_34 rfl ?_
      refine wc_if_neN X 35 55 dX11_isWanted_35 (by decide) (by omega) (fun c35_14 => ?_) (fun c35_14 => ?_)
      ·
        refine wc_iload_n X 55 1 dX11_isWanted_55 rfl ?_
        refine wc_iconstN X 56 1 dX11_isWanted_56 ?_
        refine wc_icmp_neN X 57 72 dX11_isWanted_57 (by decide) (by omega) (by decide) (fun c57_15 => ?_) (fun c57_15 => ?_)
        ·
          refine wc_iload X 72 4 dX11_isWanted_72 rfl ?_
          refine wc_if_neN X 74 81 dX11_isWanted_74 (by decide) (by decide) (fun c74_16 => ?_) (fun c74_16 => ?_)
          ·
            exact absurd c74_16 (by decide)
          ·
            refine wc_iconstN X 77 1 dX11_isWanted_77 ?_
            refine wc_goto X 78 82 dX11_isWanted_78 (by decide) ?_
            refine wc_st (st' := [.int (b2i true)]) rfl ?_
            exact ret 82 _ true dX11_isWanted_82 (by simp [c8_1, c24_13, c35_14, c57_15, c74_16])
        ·
          refine wc_iload_n X 60 3 dX11_isWanted_60 rfl ?_
          refine wc_if_neN X 61 68 dX11_isWanted_61 (by decide) (by decide) (fun c61_17 => ?_) (fun c61_17 => ?_)
          ·
            refine wc_iconstN X 68 0 dX11_isWanted_68 ?_
            refine wc_goto X 69 82 dX11_isWanted_69 (by decide) ?_
            refine wc_st (st' := [.int (b2i false)]) rfl ?_
            exact ret 82 _ false dX11_isWanted_82 (by simp [c8_1, c24_13, c35_14, c57_15, c61_17])
          ·
            exact absurd c61_17 (by decide)
      ·
        refine wc_iload_n X 38 3 dX11_isWanted_38 rfl ?_
        refine wc_if_eqN X 39 51 dX11_isWanted_39 (by decide) (by decide) (fun c39_18 => ?_) (fun c39_18 => ?_)
        ·
          exact absurd c39_18 (by decide)
        ·
          refine wc_iload X 42 4 dX11_isWanted_42 rfl ?_
          refine wc_if_neN X 44 51 dX11_isWanted_44 (by decide) (by decide) (fun c44_19 => ?_) (fun c44_19 => ?_)
          ·
            exact absurd c44_19 (by decide)
          ·
            refine wc_iconstN X 47 1 dX11_isWanted_47 ?_
            refine wc_goto X 48 82 dX11_isWanted_48 (by decide) ?_
            refine wc_st (st' := [.int (b2i true)]) rfl ?_
            exact ret 82 _ true dX11_isWanted_82 (by simp [c8_1, c24_13, c35_14, c39_18, c44_19])
    ·
      refine wc_iconstN X 27 1 dX11_isWanted_27 ?_
      refine wc_goto X 28 32 dX11_isWanted_28 (by decide) ?_
      refine wc_istore X 32 (L' := [(0, .ref q), (1, .int (nI k)), (2, .int (nI v)), (3, .int (nI 1)), (4, .int (nI 1))]) dX11_isWanted_32 (by decide) rfl ?_
      refine wc_iload_n X 34 1 dX11_isWanted_34 rfl ?_
      refine wc_if_neN X 35 55 dX11_isWanted_35 (by decide) (by omega) (fun c35_20 => ?_) (fun c35_20 => ?_)
      ·
        refine wc_iload_n X 55 1 dX11_isWanted_55 rfl ?_
        refine wc_iconstN X 56 1 dX11_isWanted_56 ?_
        refine wc_icmp_neN X 57 72 dX11_isWanted_57 (by decide) (by omega) (by decide) (fun c57_21 => ?_) (fun c57_21 => ?_)
        ·
          refine wc_iload X 72 4 dX11_isWanted_72 rfl ?_
          refine wc_if_neN X 74 81 dX11_isWanted_74 (by decide) (by decide) (fun c74_22 => ?_) (fun c74_22 => ?_)
          ·
            refine wc_iconstN X 81 0 dX11_isWanted_81 ?_
            refine wc_st (st' := [.int (b2i false)]) rfl ?_
            exact ret 82 _ false dX11_isWanted_82 (by simp [c8_1, c24_13, c35_20, c57_21, c74_22])
          ·
            exact absurd c74_22 (by decide)
        ·
          refine wc_iload_n X 60 3 dX11_isWanted_60 rfl ?_
          refine wc_if_neN X 61 68 dX11_isWanted_61 (by decide) (by decide) (fun c61_23 => ?_) (fun c61_23 => ?_)
          ·
            refine wc_iconstN X 68 0 dX11_isWanted_68 ?_
            refine wc_goto X 69 82 dX11_isWanted_69 (by decide) ?_
            refine wc_st (st' := [.int (b2i false)]) rfl ?_
            exact ret 82 _ false dX11_isWanted_82 (by simp [c8_1, c24_13, c35_20, c57_21, c61_23])
          ·
            exact absurd c61_23 (by decide)
      ·
        refine wc_iload_n X 38 3 dX11_isWanted_38 rfl ?_
        refine wc_if_eqN X 39 51 dX11_isWanted_39 (by decide) (by decide) (fun c39_24 => ?_) (fun c39_24 => ?_)
        ·
          exact absurd c39_24 (by decide)
        ·
          refine wc_iload X 42 4 dX11_isWanted_42 rfl ?_
          refine wc_if_neN X 44 51 dX11_isWanted_44 (by decide) (by decide) (fun c44_25 => ?_) (fun c44_25 => ?_)
          ·
            refine wc_iconstN X 51 0 dX11_isWanted_51 ?_
            refine wc_goto X 52 82 dX11_isWanted_52 (by decide) ?_
            refine wc_st (st' := [.int (b2i false)]) rfl ?_
            exact ret 82 _ false dX11_isWanted_82 (by simp [c8_1, c24_13, c35_20, c39_24, c44_25])
          ·
            exact absurd c44_25 (by decide)

set_option maxHeartbeats 4000000 in
set_option maxRecDepth 100000 in
theorem c_X11_isThere (l : Launch) (G : GG) (q : Nat) (p : Nat → Nat) (x : Nat) (hp0 : p 0 ≤ 4) (hp1 : p 1 ≤ 5) (hp : ∀ j, p j < 32) (hx : x < 9) : RM l G yX11_isThere (Cond.code yX11_isThere cX11_isThere 2 (some .boolean)) { frames := 0, cells := 0, slots := 0, locals := 0 } [.ref q, .int (nI x)] [aI G q 22 (nF p)] (.int (b2i (if x < 4 then decide (x < p 0) else decide (x - 4 < p 1)))) := by
  refine RM.ofZ (by decide) rfl (fun Γ X ret => ?_)
  show Wc Γ 0 0 0 [(0, .ref q), (1, .int (nI x))] [] [aI G q 22 (nF p)]
  refine wc_iload_n X 0 1 dX11_isThere_0 rfl ?_
  refine wc_iconstN X 1 4 dX11_isThere_1 ?_
  refine wc_icmp_geN X 2 20 dX11_isThere_2 (by decide) (by omega) (by decide) (fun c2_1 => ?_) (fun c2_1 => ?_)
  ·
    refine wc_iload_n X 20 1 dX11_isThere_20 rfl ?_
    refine wc_iconstN X 21 4 dX11_isThere_21 ?_
    refine wc_isubN X 22 dX11_isThere_22 (by omega) ?_
    refine wc_aload_n X 23 0 dX11_isThere_23 rfl ?_
    refine wc_iconstN X 24 1 dX11_isThere_24 ?_
    refine wc_ialdG X 25 0 rfl (by decide) (by decide) dX11_isThere_25 ?_
    refine wc_icmp_geN X 26 33 dX11_isThere_26 (by decide) (by omega) (by omega) (fun c26_2 => ?_) (fun c26_2 => ?_)
    ·
      refine wc_iconstN X 33 0 dX11_isThere_33 ?_
      refine wc_st (st' := [.int (b2i false)]) rfl ?_
      exact ret 34 _ false dX11_isThere_34 (by rw [if_neg (by omega)]; simp; omega)
    ·
      refine wc_iconstN X 29 1 dX11_isThere_29 ?_
      refine wc_goto X 30 34 dX11_isThere_30 (by decide) ?_
      refine wc_st (st' := [.int (b2i true)]) rfl ?_
      exact ret 34 _ true dX11_isThere_34 (by rw [if_neg (by omega)]; simp; omega)
  ·
    refine wc_iload_n X 5 1 dX11_isThere_5 rfl ?_
    refine wc_aload_n X 6 0 dX11_isThere_6 rfl ?_
    refine wc_iconstN X 7 0 dX11_isThere_7 ?_
    refine wc_ialdG X 8 0 rfl (by decide) (by decide) dX11_isThere_8 ?_
    refine wc_icmp_geN X 9 16 dX11_isThere_9 (by decide) (by omega) (by omega) (fun c9_3 => ?_) (fun c9_3 => ?_)
    ·
      refine wc_iconstN X 16 0 dX11_isThere_16 ?_
      refine wc_goto X 17 34 dX11_isThere_17 (by decide) ?_
      refine wc_st (st' := [.int (b2i false)]) rfl ?_
      exact ret 34 _ false dX11_isThere_34 (by rw [if_pos (by omega)]; simp; omega)
    ·
      refine wc_iconstN X 12 1 dX11_isThere_12 ?_
      refine wc_goto X 13 34 dX11_isThere_13 (by decide) ?_
      refine wc_st (st' := [.int (b2i true)]) rfl ?_
      exact ret 34 _ true dX11_isThere_34 (by rw [if_pos (by omega)]; simp; omega)

set_option maxHeartbeats 4000000 in
set_option maxRecDepth 100000 in
theorem c_X11_isEnd (l : Launch) (G : GG) (q : Nat) (p : Nat → Nat) (x : Nat) (hp0 : p 0 ≤ 4) (hp1 : p 1 ≤ 5) (hp : ∀ j, p j < 32) (hx : x < 9) : RM l G yX11_isEnd (Cond.code yX11_isEnd cX11_isEnd 2 (some .boolean)) { frames := 1, cells := 0, slots := 0, locals := 21 } [.ref q, .int (nI x)] [aI G q 22 (nF p)] (.int (b2i (if x < 4 then Nat.testBit (p 2) x else Nat.testBit (p 3) (x - 4)))) := by
  refine RM.ofZ (by decide) rfl (fun Γ X ret => ?_)
  show Wc Γ 0 0 0 [(0, .ref q), (1, .int (nI x))] [] [aI G q 22 (nF p)]
  refine wc_iload_n X 0 1 dX11_isEnd_0 rfl ?_
  refine wc_iconstN X 1 4 dX11_isEnd_1 ?_
  refine wc_icmp_geN X 2 15 dX11_isEnd_2 (by decide) (by omega) (by decide) (fun c2_1 => ?_) (fun c2_1 => ?_)
  ·
    refine wc_aload_n X 15 0 dX11_isEnd_15 rfl ?_
    refine wc_iconstN X 16 3 dX11_isEnd_16 ?_
    refine wc_ialdG X 17 0 rfl (by decide) (by decide) dX11_isEnd_17 ?_
    refine wc_iload_n X 18 1 dX11_isEnd_18 rfl ?_
    refine wc_iconstN X 19 4 dX11_isEnd_19 ?_
    refine wc_isubN X 20 dX11_isEnd_20 (by omega) ?_
    refine wc_callS X 21 [] (c_X11_has l G (p 3) (x - 4) (Nat.lt_trans (hp _) (by decide)) (by first | assumption | omega)) ys_X11_has rfl q_916 ⟨rfl, rfl⟩ ⟨rfl, rfl⟩ ⟨rfl, rfl⟩ rfl rfl rfl dX11_isEnd_21 ?_
    exact ret 24 _ (Nat.testBit (p 3) (x - 4)) dX11_isEnd_24 (by rw [if_neg (by omega)])
  ·
    refine wc_aload_n X 5 0 dX11_isEnd_5 rfl ?_
    refine wc_iconstN X 6 2 dX11_isEnd_6 ?_
    refine wc_ialdG X 7 0 rfl (by decide) (by decide) dX11_isEnd_7 ?_
    refine wc_iload_n X 8 1 dX11_isEnd_8 rfl ?_
    refine wc_callS X 9 [] (c_X11_has l G (p 2) x (Nat.lt_trans (hp _) (by decide)) (by first | assumption | omega)) ys_X11_has rfl q_916 ⟨rfl, rfl⟩ ⟨rfl, rfl⟩ ⟨rfl, rfl⟩ rfl rfl rfl dX11_isEnd_9 ?_
    refine wc_goto X 12 24 dX11_isEnd_12 (by decide) ?_
    exact ret 24 _ (Nat.testBit (p 2) x) dX11_isEnd_24 (by rw [if_pos (by omega)])

set_option maxHeartbeats 4000000 in
set_option maxRecDepth 100000 in
theorem c_X11_leadsTo (l : Launch) (G : GG) (q : Nat) (p : Nat → Nat) (x c : Nat) (hp0 : p 0 ≤ 4) (hp1 : p 1 ≤ 5) (hp : ∀ j, p j < 32) (hx : x < 9) (h1 : 1 ≤ c) (h2 : c ≤ 2) : RM l G yX11_leadsTo (Cond.code yX11_leadsTo cX11_leadsTo 3 (some .int)) { frames := 1, cells := 0, slots := 0, locals := 22 } [.ref q, .int (nI x), .int (nI c)] [aI G q 22 (nF p)] (.int (nI (if x < 4 then p (atN 0 x c) else p (atN 1 (x - 4) c) * 2 ^ 4))) := by
  refine RM.ofI (by decide) rfl (fun Γ X ret => ?_)
  show Wc Γ 0 0 0 [(0, .ref q), (1, .int (nI x)), (2, .int (nI c))] [] [aI G q 22 (nF p)]
  refine wc_iload_n X 0 1 dX11_leadsTo_0 rfl ?_
  refine wc_iconstN X 1 4 dX11_leadsTo_1 ?_
  refine wc_icmp_geN X 2 16 dX11_leadsTo_2 (by decide) (by omega) (by decide) (fun c2_1 => ?_) (fun c2_1 => ?_)
  ·
    refine wc_aload_n X 16 0 dX11_leadsTo_16 rfl ?_
    refine wc_iconstN X 17 1 dX11_leadsTo_17 ?_
    refine wc_iload_n X 18 1 dX11_leadsTo_18 rfl ?_
    refine wc_iconstN X 19 4 dX11_leadsTo_19 ?_
    refine wc_isubN X 20 dX11_leadsTo_20 (by omega) ?_
    refine wc_iload_n X 21 2 dX11_leadsTo_21 rfl ?_
    refine wc_callS X 22 [] (c_X11_at l G 1 (x - 4) c (by first | assumption | omega) (by first | assumption | omega) (by first | assumption | omega) (by first | assumption | omega)) ys_X11_at rfl q_896 ⟨rfl, rfl⟩ ⟨rfl, rfl⟩ ⟨rfl, rfl⟩ rfl rfl rfl dX11_leadsTo_22 ?_
    refine wc_ialdG X 25 0 rfl (atN_lt (by omega) h2) (by decide) dX11_leadsTo_25 ?_
    refine wc_iconstN X 26 4 dX11_leadsTo_26 ?_
    refine wc_ishlN X 27 dX11_leadsTo_27 (by decide) (Nat.lt_of_lt_of_le (Nat.mul_lt_mul_of_pos_right (hp _) (by decide)) (by decide)) ?_
    exact ret 28 _ (nI ((p (atN 1 (x - 4) c)) * 2 ^ 4)) dX11_leadsTo_28 (by rw [if_neg (by omega)])
  ·
    refine wc_aload_n X 5 0 dX11_leadsTo_5 rfl ?_
    refine wc_iconstN X 6 0 dX11_leadsTo_6 ?_
    refine wc_iload_n X 7 1 dX11_leadsTo_7 rfl ?_
    refine wc_iload_n X 8 2 dX11_leadsTo_8 rfl ?_
    refine wc_callS X 9 [] (c_X11_at l G 0 x c (by first | assumption | omega) (by first | assumption | omega) (by first | assumption | omega) (by first | assumption | omega)) ys_X11_at rfl q_896 ⟨rfl, rfl⟩ ⟨rfl, rfl⟩ ⟨rfl, rfl⟩ rfl rfl rfl dX11_leadsTo_9 ?_
    refine wc_ialdG X 12 0 rfl (atN_lt (by omega) h2) (by decide) dX11_leadsTo_12 ?_
    refine wc_goto X 13 28 dX11_leadsTo_13 (by decide) ?_
    exact ret 28 _ (nI (p (atN 0 x c))) dX11_leadsTo_28 (by rw [if_pos (by omega)])

set_option maxHeartbeats 4000000 in
set_option maxRecDepth 100000 in
theorem c_X11_divisor (l : Launch) (G : GG) (a b : Nat) (ha : a < 2147483648) (hb : b < 2147483648) : RM l G yX11_divisor (Cond.code yX11_divisor cX11_divisor 5 (some .int)) { frames := 0, cells := 0, slots := 0, locals := 0 } [.int (nI a), .int (nI b)] [] (.int (nI (Nat.gcd a b))) := by
  refine RM.ofI (by decide) rfl (fun Γ X ret => ?_)
  show Wc Γ 0 0 0 [(0, .int (nI a)), (1, .int (nI b))] [] []
  refine wc_iload_n X 0 0 dX11_divisor_0 rfl ?_
  refine wc_istore_n X 1 (L' := [(0, .int (nI a)), (1, .int (nI b)), (2, .int (nI a))]) dX11_divisor_1 (by decide) rfl ?_
  refine wc_iload_n X 2 1 dX11_divisor_2 rfl ?_
  refine wc_istore_n X 3 (L' := [(0, .int (nI a)), (1, .int (nI b)), (2, .int (nI a)), (3, .int (nI b))]) dX11_divisor_3 (by decide) rfl ?_
  have LP_2 : ∀ (fuel_1 : Nat) (x : Nat) (y : Nat), (Nat.gcd x y = Nat.gcd a b) → (x < 2147483648) → (y < 2147483648) → y < fuel_1 → Wc Γ 0 0 4 [(0, .int (nI a)), (1, .int (nI b)), (2, .int (nI x)), (3, .int (nI y))] [] [] := by
    intro fuel_1
    induction fuel_1 with
    | zero => intro x y he hx hy hm; exact absurd hm (Nat.not_lt_zero _)
    | succ fuel_1 ih_3 =>
      intro x y he hx hy hm_4
      refine wc_iload_n X 4 3 dX11_divisor_4 rfl ?_
      refine wc_if_eqN X 5 21 dX11_divisor_5 (by decide) (by omega) (fun c5_5 => ?_) (fun c5_5 => ?_)
      ·
        refine wc_iload_n X 21 2 dX11_divisor_21 rfl ?_
        exact ret 22 _ (nI x) dX11_divisor_22 (by rw [← he, c5_5, Nat.gcd_zero_right])
      ·
        refine wc_iload_n X 8 2 dX11_divisor_8 rfl ?_
        refine wc_iload_n X 9 3 dX11_divisor_9 rfl ?_
        refine wc_iremN X 10 dX11_divisor_10 (by omega) (by omega) (by omega) ?_
        refine wc_istore X 11 (L' := [(0, .int (nI a)), (1, .int (nI b)), (2, .int (nI x)), (3, .int (nI y)), (4, .int (nI (x % y)))]) dX11_divisor_11 (by decide) rfl ?_
        refine wc_iload_n X 13 3 dX11_divisor_13 rfl ?_
        refine wc_istore_n X 14 (L' := [(0, .int (nI a)), (1, .int (nI b)), (2, .int (nI y)), (3, .int (nI y)), (4, .int (nI (x % y)))]) dX11_divisor_14 (by decide) rfl ?_
        refine wc_iload X 15 4 dX11_divisor_15 rfl ?_
        refine wc_istore_n X 17 (L' := [(0, .int (nI a)), (1, .int (nI b)), (2, .int (nI y)), (3, .int (nI (x % y))), (4, .int (nI (x % y)))]) dX11_divisor_17 (by decide) rfl ?_
        refine wc_goto X 18 4 dX11_divisor_18 (by decide) ?_
        refine wc_loc [0, 1, 2, 3] (L' := [(0, .int (nI a)), (1, .int (nI b)), (2, .int (nI y)), (3, .int (nI (x % y)))]) rfl ?_
        refine wc_L (L' := [(0, .int (nI a)), (1, .int (nI b)), (2, .int (nI y)), (3, .int (nI (x % y)))]) (by rfl) ?_
        exact ih_3 y (x % y) (by rw [← he, Nat.gcd_comm x y, Nat.gcd_rec y x, Nat.gcd_comm]) hy (Nat.lt_trans (Nat.mod_lt _ (Nat.pos_of_ne_zero c5_5)) hy) (Nat.lt_of_lt_of_le (Nat.mod_lt _ (by omega)) (by omega))
  exact LP_2 (b + 1) a b rfl ha hb (Nat.lt_succ_self _)

set_option maxHeartbeats 4000000 in
set_option maxRecDepth 100000 in
theorem c_X11_fraction (l : Launch) (G : GG) (a b : Nat) (u : Bool) (ha : a < 2147483648) (hb : b < 2147483648) (h0 : 0 < b) : RM l G yX11_fraction (Cond.code yX11_fraction cX11_fraction 4 (some .int)) { frames := 1, cells := 0, slots := 0, locals := 24 } [.int (nI a), .int (nI b), .int (b2i u)] [] (.int (nI (frac a b u))) := by
  refine RM.ofI (by decide) rfl (fun Γ X ret => ?_)
  show Wc Γ 0 0 0 [(0, .int (nI a)), (1, .int (nI b)), (2, .int (b2i u))] [] []
  refine wc_iload_n X 0 0 dX11_fraction_0 rfl ?_
  refine wc_iload_n X 1 1 dX11_fraction_1 rfl ?_
  refine wc_callS X 2 [] (c_X11_divisor l G a b (by first | assumption | omega) (by first | assumption | omega)) ys_X11_divisor rfl q_1152 ⟨rfl, rfl⟩ ⟨rfl, rfl⟩ ⟨rfl, rfl⟩ rfl rfl rfl dX11_fraction_2 ?_
  refine wc_istore_n X 5 (L' := [(0, .int (nI a)), (1, .int (nI b)), (2, .int (b2i u)), (3, .int (nI (Nat.gcd a b)))]) dX11_fraction_5 (by decide) rfl ?_
  refine wc_iload_n X 6 2 dX11_fraction_6 rfl ?_
  refine wc_if_eqB X 7 16 dX11_fraction_7 (by decide) (fun c7_1 => ?_) (fun c7_1 => ?_)
  ·
    refine wc_iload_n X 16 1 dX11_fraction_16 rfl ?_
    refine wc_iload_n X 17 3 dX11_fraction_17 rfl ?_
    refine wc_idivN X 18 dX11_fraction_18 (by omega) (Nat.gcd_pos_of_pos_right _ h0) (Nat.lt_of_le_of_lt (Nat.gcd_le_right _ h0) hb) ?_
    exact ret 19 _ (nI (b / (Nat.gcd a b))) dX11_fraction_19 (by unfold frac; rw [c7_1]; rfl)
  ·
    refine wc_iload_n X 10 0 dX11_fraction_10 rfl ?_
    refine wc_iload_n X 11 3 dX11_fraction_11 rfl ?_
    refine wc_idivN X 12 dX11_fraction_12 (by omega) (Nat.gcd_pos_of_pos_right _ h0) (Nat.lt_of_le_of_lt (Nat.gcd_le_right _ h0) hb) ?_
    refine wc_goto X 13 19 dX11_fraction_13 (by decide) ?_
    exact ret 19 _ (nI (a / (Nat.gcd a b))) dX11_fraction_19 (by unfold frac; rw [c7_1]; rfl)

set_option maxHeartbeats 4000000 in
set_option maxRecDepth 100000 in
theorem c_X11_factorial (l : Launch) (G : GG) (k : Nat) (hk : k < 1000) : RM l G yX11_factorial (Cond.code yX11_factorial cX11_factorial 3 (some .int)) { frames := 0, cells := 0, slots := 0, locals := 0 } [.int (nI k)] [] (.int (nI (factN k))) := by
  refine RM.ofI (by decide) rfl (fun Γ X ret => ?_)
  show Wc Γ 0 0 0 [(0, .int (nI k))] [] []
  refine wc_iconstN X 0 1 dX11_factorial_0 ?_
  refine wc_istore_n X 1 (L' := [(0, .int (nI k)), (1, .int (nI 1))]) dX11_factorial_1 (by decide) rfl ?_
  refine wc_iconstN X 2 2 dX11_factorial_2 ?_
  refine wc_istore_n X 3 (L' := [(0, .int (nI k)), (1, .int (nI 1)), (2, .int (nI 2))]) dX11_factorial_3 (by decide) rfl ?_
  have LP_2 : ∀ (fuel_1 : Nat) (i : Nat), ((i ≤ k ∧ 1 ≤ i) ∨ (k < 2 ∧ i = 1)) → (i < 1000) → k - i < fuel_1 → Wc Γ 0 0 4 [(0, .int (nI k)), (1, .int (nI (factN i))), (2, .int (nI (i + 1)))] [] [] := by
    intro fuel_1
    induction fuel_1 with
    | zero => intro i hi hi2 hm; exact absurd hm (Nat.not_lt_zero _)
    | succ fuel_1 ih_3 =>
      intro i hi hi2 hm_4
      refine wc_iload_n X 4 2 dX11_factorial_4 rfl ?_
      refine wc_iload_n X 5 0 dX11_factorial_5 rfl ?_
      refine wc_icmp_gtN X 6 19 dX11_factorial_6 (by decide) (by omega) (by omega) (fun c6_5 => ?_) (fun c6_5 => ?_)
      ·
        refine wc_iload_n X 19 1 dX11_factorial_19 rfl ?_
        exact ret 20 _ (nI (factN i)) dX11_factorial_20 (by
              rcases hi with h | ⟨h, rfl⟩
              · rw [show i = k by omega]
              · rcases (show k = 0 ∨ k = 1 by omega) with rfl | rfl <;> rfl)
      ·
        refine wc_iload_n X 9 1 dX11_factorial_9 rfl ?_
        refine wc_iload_n X 10 2 dX11_factorial_10 rfl ?_
        refine wc_imulN X 11 dX11_factorial_11 ?_
        refine wc_istore_n X 12 (L' := [(0, .int (nI k)), (1, .int (nI ((factN i) * (i + 1)))), (2, .int (nI (i + 1)))]) dX11_factorial_12 (by decide) rfl ?_
        refine wc_iincN X 13 2 (L' := [(0, .int (nI k)), (1, .int (nI ((factN i) * (i + 1)))), (2, .int (nI (i + 1 + 1)))]) dX11_factorial_13 rfl (by decide) rfl ?_
        refine wc_goto X 16 4 dX11_factorial_16 (by decide) ?_
        refine wc_L (L' := [(0, .int (nI k)), (1, .int (nI (factN (i + 1)))), (2, .int (nI ((i + 1) + 1)))]) (by rfl) ?_
        exact ih_3 (i + 1) (by omega) (by omega) (by omega)
  refine wc_L (L' := [(0, .int (nI k)), (1, .int (nI (factN 1))), (2, .int (nI (1 + 1)))]) (by rfl) ?_
  exact LP_2 (k - 1 + 1) 1 (by omega) (by omega) (Nat.lt_succ_self _)

set_option maxHeartbeats 4000000 in
set_option maxRecDepth 100000 in
theorem c_X10_isMachine (l : Launch) (G : GG) (x : Int32)  : RM l G yX10_isMachine (Cond.code yX10_isMachine cX10_isMachine 1 (some .boolean)) { frames := 0, cells := 0, slots := 0, locals := 0 } [.int x] [] (.int (b2i (decide (x = 0) || decide (x = nI 1)))) := by
  refine RM.ofZ (by decide) rfl (fun Γ X ret => ?_)
  show Wc Γ 0 0 0 [(0, .int x)] [] []
  refine wc_iload_n X 0 0 dX10_isMachine_0 rfl ?_
  refine wc_if_eq X 1 9 dX10_isMachine_1 (by decide) (fun c1_1 => ?_) (fun c1_1 => ?_)
  ·
    refine wc_iconstN X 9 1 dX10_isMachine_9 ?_
    refine wc_goto X 10 14 dX10_isMachine_10 (by decide) ?_
    refine wc_st (st' := [.int (b2i true)]) rfl ?_
    exact ret 14 _ true dX10_isMachine_14 (by first | rfl | (simp [c1_1]; done) | (simp [c1_1] <;> omega))
  ·
    refine wc_iload_n X 4 0 dX10_isMachine_4 rfl ?_
    refine wc_iconstN X 5 1 dX10_isMachine_5 ?_
    refine wc_icmp_ne X 6 13 dX10_isMachine_6 (by decide) (fun c6_2 => ?_) (fun c6_2 => ?_)
    ·
      refine wc_iconstN X 13 0 dX10_isMachine_13 ?_
      refine wc_st (st' := [.int (b2i false)]) rfl ?_
      exact ret 14 _ false dX10_isMachine_14 (by first | rfl | (simp [c1_1, c6_2]; done) | (simp [c1_1, c6_2] <;> omega))
    ·
      refine wc_iconstN X 9 1 dX10_isMachine_9 ?_
      refine wc_goto X 10 14 dX10_isMachine_10 (by decide) ?_
      refine wc_st (st' := [.int (b2i true)]) rfl ?_
      exact ret 14 _ true dX10_isMachine_14 (by first | rfl | (simp [c1_1, c6_2]; done) | (simp [c1_1, c6_2] <;> omega))

set_option maxHeartbeats 4000000 in
set_option maxRecDepth 100000 in
theorem c_X10_isMode (l : Launch) (G : GG) (x : Int32)  : RM l G yX10_isMode (Cond.code yX10_isMode cX10_isMode 1 (some .boolean)) { frames := 0, cells := 0, slots := 0, locals := 0 } [.int x] [] (.int (b2i (!decide (x < 0) && !decide (nI 2 < x)))) := by
  refine RM.ofZ (by decide) rfl (fun Γ X ret => ?_)
  show Wc Γ 0 0 0 [(0, .int x)] [] []
  refine wc_iload_n X 0 0 dX10_isMode_0 rfl ?_
  refine wc_if_lt X 1 13 dX10_isMode_1 (by decide) (fun c1_1 => ?_) (fun c1_1 => ?_)
  ·
    refine wc_iconstN X 13 0 dX10_isMode_13 ?_
    refine wc_st (st' := [.int (b2i false)]) rfl ?_
    exact ret 14 _ false dX10_isMode_14 (by first | rfl | (simp [c1_1]; done) | (simp [c1_1] <;> omega))
  ·
    refine wc_iload_n X 4 0 dX10_isMode_4 rfl ?_
    refine wc_iconstN X 5 2 dX10_isMode_5 ?_
    refine wc_icmp_gt X 6 13 dX10_isMode_6 (by decide) (fun c6_2 => ?_) (fun c6_2 => ?_)
    ·
      refine wc_iconstN X 13 0 dX10_isMode_13 ?_
      refine wc_st (st' := [.int (b2i false)]) rfl ?_
      exact ret 14 _ false dX10_isMode_14 (by first | rfl | (simp [c1_1, c6_2]; done) | (simp [c1_1, c6_2] <;> omega))
    ·
      refine wc_iconstN X 9 1 dX10_isMode_9 ?_
      refine wc_goto X 10 14 dX10_isMode_10 (by decide) ?_
      refine wc_st (st' := [.int (b2i true)]) rfl ?_
      exact ret 14 _ true dX10_isMode_14 (by first | rfl | (simp [c1_1, c6_2]; done) | (simp [c1_1, c6_2] <;> omega))

set_option maxHeartbeats 4000000 in
set_option maxRecDepth 100000 in
theorem c_X10_isPlace (l : Launch) (G : GG) (x : Int32)  : RM l G yX10_isPlace (Cond.code yX10_isPlace cX10_isPlace 1 (some .boolean)) { frames := 0, cells := 0, slots := 0, locals := 0 } [.int x] [] (.int (b2i (!decide (x < 0) && !decide (nI 200 < x)))) := by
  refine RM.ofZ (by decide) rfl (fun Γ X ret => ?_)
  show Wc Γ 0 0 0 [(0, .int x)] [] []
  refine wc_iload_n X 0 0 dX10_isPlace_0 rfl ?_
  refine wc_if_lt X 1 15 dX10_isPlace_1 (by decide) (fun c1_1 => ?_) (fun c1_1 => ?_)
  ·
    refine wc_iconstN X 15 0 dX10_isPlace_15 ?_
    refine wc_st (st' := [.int (b2i false)]) rfl ?_
    exact ret 16 _ false dX10_isPlace_16 (by first | rfl | (simp [c1_1]; done) | (simp [c1_1] <;> omega))
  ·
    refine wc_iload_n X 4 0 dX10_isPlace_4 rfl ?_
    refine wc_sipush X 5 (nI 200) dX10_isPlace_5 (by decide) ?_
    refine wc_icmp_gt X 8 15 dX10_isPlace_8 (by decide) (fun c8_2 => ?_) (fun c8_2 => ?_)
    ·
      refine wc_iconstN X 15 0 dX10_isPlace_15 ?_
      refine wc_st (st' := [.int (b2i false)]) rfl ?_
      exact ret 16 _ false dX10_isPlace_16 (by first | rfl | (simp [c1_1, c8_2]; done) | (simp [c1_1, c8_2] <;> omega))
    ·
      refine wc_iconstN X 11 1 dX10_isPlace_11 ?_
      refine wc_goto X 12 16 dX10_isPlace_12 (by decide) ?_
      refine wc_st (st' := [.int (b2i true)]) rfl ?_
      exact ret 16 _ true dX10_isPlace_16 (by first | rfl | (simp [c1_1, c8_2]; done) | (simp [c1_1, c8_2] <;> omega))

set_option maxHeartbeats 4000000 in
set_option maxRecDepth 100000 in
theorem c_X10_isSlot (l : Launch) (G : GG) (x : Int32)  : RM l G yX10_isSlot (Cond.code yX10_isSlot cX10_isSlot 1 (some .boolean)) { frames := 0, cells := 0, slots := 0, locals := 0 } [.int x] [] (.int (b2i (!decide (x < 0) && !decide (nI 2 ≤ x)))) := by
  refine RM.ofZ (by decide) rfl (fun Γ X ret => ?_)
  show Wc Γ 0 0 0 [(0, .int x)] [] []
  refine wc_iload_n X 0 0 dX10_isSlot_0 rfl ?_
  refine wc_if_lt X 1 13 dX10_isSlot_1 (by decide) (fun c1_1 => ?_) (fun c1_1 => ?_)
  ·
    refine wc_iconstN X 13 0 dX10_isSlot_13 ?_
    refine wc_st (st' := [.int (b2i false)]) rfl ?_
    exact ret 14 _ false dX10_isSlot_14 (by first | rfl | (simp [c1_1]; done) | (simp [c1_1] <;> omega))
  ·
    refine wc_iload_n X 4 0 dX10_isSlot_4 rfl ?_
    refine wc_iconstN X 5 2 dX10_isSlot_5 ?_
    refine wc_icmp_ge X 6 13 dX10_isSlot_6 (by decide) (fun c6_2 => ?_) (fun c6_2 => ?_)
    ·
      refine wc_iconstN X 13 0 dX10_isSlot_13 ?_
      refine wc_st (st' := [.int (b2i false)]) rfl ?_
      exact ret 14 _ false dX10_isSlot_14 (by first | rfl | (simp [c1_1, c6_2]; done) | (simp [c1_1, c6_2] <;> omega))
    ·
      refine wc_iconstN X 9 1 dX10_isSlot_9 ?_
      refine wc_goto X 10 14 dX10_isSlot_10 (by decide) ?_
      refine wc_st (st' := [.int (b2i true)]) rfl ?_
      exact ret 14 _ true dX10_isSlot_14 (by first | rfl | (simp [c1_1, c6_2]; done) | (simp [c1_1, c6_2] <;> omega))

set_option maxHeartbeats 4000000 in
set_option maxRecDepth 100000 in
theorem c_X10_bit (l : Launch) (G : GG) (b : Bool)  : RM l G yX10_bit (Cond.code yX10_bit cX10_bit 1 (some .int)) { frames := 0, cells := 0, slots := 0, locals := 0 } [.int (b2i b)] [] (.int (nI b.toNat)) := by
  refine RM.ofI (by decide) rfl (fun Γ X ret => ?_)
  show Wc Γ 0 0 0 [(0, .int (b2i b))] [] []
  refine wc_iload_n X 0 0 dX10_bit_0 rfl ?_
  refine wc_if_eqB X 1 8 dX10_bit_1 (by decide) (fun c1_1 => ?_) (fun c1_1 => ?_)
  ·
    refine wc_iconstN X 8 0 dX10_bit_8 ?_
    exact ret 9 _ (nI 0) dX10_bit_9 (by rw [c1_1]; rfl)
  ·
    refine wc_iconstN X 4 1 dX10_bit_4 ?_
    refine wc_goto X 5 9 dX10_bit_5 (by decide) ?_
    exact ret 9 _ (nI 1) dX10_bit_9 (by rw [c1_1]; rfl)

set_option maxHeartbeats 4000000 in
set_option maxRecDepth 100000 in
theorem c_X10_isWordF (l : Launch) (G : GG) (x : Int32) (hx : x < 0) : RM l G yX10_isWord (Cond.code yX10_isWord cX10_isWord 3 (some .boolean)) { frames := 0, cells := 0, slots := 0, locals := 0 } [.int x] [] (.int (b2i false)) := by
  refine RM.ofZ (by decide) rfl (fun Γ X ret => ?_)
  show Wc Γ 0 0 0 [(0, .int x)] [] []
  refine wc_iload_n X 0 0 dX10_isWord_0 rfl ?_
  refine wc_if_ge X 1 6 dX10_isWord_1 (by decide) (fun c1_1 => ?_) (fun c1_1 => ?_)
  ·
    exact absurd hx (Int32.not_lt.mpr c1_1)
  ·
    refine wc_iconstN X 4 0 dX10_isWord_4 ?_
    refine wc_st (st' := [.int (b2i false)]) rfl ?_
    exact ret 5 _ false dX10_isWord_5 (by first | rfl | (simp [c1_1]; done) | (simp [c1_1] <;> omega))

set_option maxHeartbeats 4000000 in
set_option maxRecDepth 100000 in
theorem c_X10_isWordN (l : Launch) (G : GG) (w : Nat) (hw : w < 2147483648) : RM l G yX10_isWord (Cond.code yX10_isWord cX10_isWord 3 (some .boolean)) { frames := 1, cells := 0, slots := 0, locals := 20 } [.int (nI w)] [] (.int (b2i (wordOk w))) := by
  refine RM.ofZ (by decide) rfl (fun Γ X ret => ?_)
  show Wc Γ 0 0 0 [(0, .int (nI w))] [] []
  refine wc_iload_n X 0 0 dX10_isWord_0 rfl ?_
  refine wc_ifgeT X 1 6 dX10_isWord_1 (by decide) (by omega) ?_
  refine wc_iload_n X 6 0 dX10_isWord_6 rfl ?_
  refine wc_istore_n X 7 (L' := [(0, .int (nI w)), (1, .int (nI w))]) dX10_isWord_7 (by decide) rfl ?_
  refine wc_iconstN X 8 0 dX10_isWord_8 ?_
  refine wc_istore_n X 9 (L' := [(0, .int (nI w)), (1, .int (nI w)), (2, .int (nI 0))]) dX10_isWord_9 (by decide) rfl ?_
  have LP_3 : ∀ (fuel_2 : Nat) (v : Nat) (i : Nat), (i ≤ 9) → (letsF (9 - i) v = wordOk w) → (v < 2147483648) → 9 - i < fuel_2 → Wc Γ 0 0 10 [(0, .int (nI w)), (1, .int (nI v)), (2, .int (nI i))] [] [] := by
    intro fuel_2
    induction fuel_2 with
    | zero => intro v i hi he hv2 hm; exact absurd hm (Nat.not_lt_zero _)
    | succ fuel_2 ih_4 =>
      intro v i hi he hv2 hm_5
      refine wc_iload_n X 10 2 dX10_isWord_10 rfl ?_
      refine wc_bipush X 11 (nI 9) dX10_isWord_11 (by decide) ?_
      refine wc_icmp_geN X 13 43 dX10_isWord_13 (by decide) (by omega) (by decide) (fun c13_6 => ?_) (fun c13_6 => ?_)
      ·
        refine wc_iload_n X 43 1 dX10_isWord_43 rfl ?_
        refine wc_if_neN X 44 51 dX10_isWord_44 (by decide) (by omega) (fun c44_7 => ?_) (fun c44_7 => ?_)
        ·
          refine wc_iconstN X 51 0 dX10_isWord_51 ?_
          refine wc_st (st' := [.int (b2i false)]) rfl ?_
          exact ret 52 _ false dX10_isWord_52 (by rw [← he]; first | (rw [c44_7, letsF_0]) | (rw [show 9 - i = 0 by omega, letsF]; simp [c13_6, c44_7]; done) | (exfalso; omega))
        ·
          refine wc_iconstN X 47 1 dX10_isWord_47 ?_
          refine wc_goto X 48 52 dX10_isWord_48 (by decide) ?_
          refine wc_st (st' := [.int (b2i true)]) rfl ?_
          exact ret 52 _ true dX10_isWord_52 (by rw [← he]; first | (rw [c44_7, letsF_0]) | (rw [show 9 - i = 0 by omega, letsF]; simp [c13_6, c44_7]; done) | (exfalso; omega))
      ·
        refine wc_iload_n X 16 1 dX10_isWord_16 rfl ?_
        refine wc_if_eqN X 17 43 dX10_isWord_17 (by decide) (by omega) (fun c17_8 => ?_) (fun c17_8 => ?_)
        ·
          refine wc_iload_n X 43 1 dX10_isWord_43 rfl ?_
          refine wc_if_neN X 44 51 dX10_isWord_44 (by decide) (by omega) (fun c44_9 => ?_) (fun c44_9 => ?_)
          ·
            refine wc_iconstN X 51 0 dX10_isWord_51 ?_
            refine wc_st (st' := [.int (b2i false)]) rfl ?_
            exact ret 52 _ false dX10_isWord_52 (by rw [← he]; first | (rw [c44_9, letsF_0]) | (rw [show 9 - i = 0 by omega, letsF]; simp [c13_6, c17_8, c44_9]; done) | (exfalso; omega))
          ·
            refine wc_iconstN X 47 1 dX10_isWord_47 ?_
            refine wc_goto X 48 52 dX10_isWord_48 (by decide) ?_
            refine wc_st (st' := [.int (b2i true)]) rfl ?_
            exact ret 52 _ true dX10_isWord_52 (by rw [← he]; first | (rw [c44_9, letsF_0]) | (rw [show 9 - i = 0 by omega, letsF]; simp [c13_6, c17_8, c44_9]; done) | (exfalso; omega))
        ·
          refine wc_iload_n X 20 1 dX10_isWord_20 rfl ?_
          refine wc_bipush X 21 (nI 10) dX10_isWord_21 (by decide) ?_
          refine wc_iremN X 23 dX10_isWord_23 (by omega) (by decide) (by decide) ?_
          refine wc_callS X 24 [] (c_X10_isLetterN l G (v % 10) (by omega)) ys_X10_isLetter rfl q_408 ⟨rfl, rfl⟩ ⟨rfl, rfl⟩ ⟨rfl, rfl⟩ rfl rfl rfl dX10_isWord_24 ?_
          refine wc_if_neB X 27 32 dX10_isWord_27 (by decide) (fun c27_10 => ?_) (fun c27_10 => ?_)
          ·
            refine wc_iload_n X 32 1 dX10_isWord_32 rfl ?_
            refine wc_bipush X 33 (nI 10) dX10_isWord_33 (by decide) ?_
            refine wc_idivN X 35 dX10_isWord_35 (by omega) (by decide) (by decide) ?_
            refine wc_istore_n X 36 (L' := [(0, .int (nI w)), (1, .int (nI (v / 10))), (2, .int (nI i))]) dX10_isWord_36 (by decide) rfl ?_
            refine wc_iincN X 37 2 (L' := [(0, .int (nI w)), (1, .int (nI (v / 10))), (2, .int (nI (i + 1)))]) dX10_isWord_37 rfl (by decide) rfl ?_
            refine wc_goto X 40 10 dX10_isWord_40 (by decide) ?_
            refine wc_L (L' := [(0, .int (nI w)), (1, .int (nI (v / 10))), (2, .int (nI (i + 1)))]) (by rfl) ?_
            exact ih_4 (v / 10) (i + 1) (by omega) (lets_d1 c13_6 he c17_8 c27_10) (by omega) (by omega)
          ·
            refine wc_iconstN X 30 0 dX10_isWord_30 ?_
            refine wc_st (st' := [.int (b2i false)]) rfl ?_
            exact ret 31 _ false dX10_isWord_31 (lets_d0 c13_6 he c17_8 c27_10)
  exact LP_3 (9 - 0 + 1) w 0 (by omega) rfl hw (Nat.lt_succ_self _)

set_option maxHeartbeats 4000000 in
set_option maxRecDepth 100000 in
theorem c_X10_isStateOf (l : Launch) (G : GG) (q qa la n0 e0 qb lb n1 e1 : Nat) (x y : Int32)  : RM l G yX10_isStateOf (Cond.code yX10_isStateOf cX10_isStateOf 3 (some .boolean)) { frames := 1, cells := 0, slots := 0, locals := 21 } [.ref q, .int x, .int y] [ob q 1 [.ref qa, .ref qb], ob qa 6 [.int (nI n0), .int (nI e0), .ref la], ob qb 6 [.int (nI n1), .int (nI e1), .ref lb]] (.int (b2i (stOf n0 n1 x y))) := by
  refine RM.ofZ (by decide) rfl (fun Γ X ret => ?_)
  show Wc Γ 0 0 0 [(0, .ref q), (1, .int x), (2, .int y)] [] [ob q 1 [.ref qa, .ref qb], ob qa 6 [.int (nI n0), .int (nI e0), .ref la], ob qb 6 [.int (nI n1), .int (nI e1), .ref lb]]
  refine wc_iload_n X 0 1 dX10_isStateOf_0 rfl ?_
  refine wc_callS X 1 [] (c_X10_isMachine l G x ) ys_X10_isMachine rfl q_400 ⟨rfl, rfl⟩ ⟨rfl, rfl⟩ ⟨rfl, rfl⟩ rfl rfl rfl dX10_isStateOf_1 ?_
  refine wc_if_eqB X 4 23 dX10_isStateOf_4 (by decide) (fun c4_1 => ?_) (fun c4_1 => ?_)
  ·
    refine wc_iconstN X 23 0 dX10_isStateOf_23 ?_
    refine wc_st (st' := [.int (b2i false)]) rfl ?_
    exact ret 24 _ false dX10_isStateOf_24 ((stOf_f y c4_1).symm)
  ·
    rcases isMach c4_1 with rfl | rfl
    ·
      refine wc_aload_n X 7 0 dX10_isStateOf_7 rfl ?_
      refine wc_iload_n X 8 1 dX10_isStateOf_8 rfl ?_
      refine wc_callV X 9 [0] 0 (c_X1_of0 l G q qa qb ) yv_X1_of kd1 rfl rfl q_403 ⟨rfl, rfl⟩ ⟨rfl, rfl⟩ ⟨rfl, rfl⟩ rfl rfl rfl dX10_isStateOf_9 ?_
      refine wc_iload_n X 12 2 dX10_isStateOf_12 rfl ?_
      refine wc_callV X 13 [1] 1 (c_X6_knows l G qa la n0 e0 y ) yv_X6_knows kd6 rfl rfl q_407 ⟨rfl, rfl⟩ ⟨rfl, rfl⟩ ⟨rfl, rfl⟩ rfl rfl rfl dX10_isStateOf_13 ?_
      refine wc_if_eqB X 16 23 dX10_isStateOf_16 (by decide) (fun c16_2 => ?_) (fun c16_2 => ?_)
      ·
        refine wc_iconstN X 23 0 dX10_isStateOf_23 ?_
        refine wc_st (st' := [.int (b2i false)]) rfl ?_
        exact ret 24 _ false dX10_isStateOf_24 (by rw [stOf_0, ← c16_2]; rfl)
      ·
        refine wc_iconstN X 19 1 dX10_isStateOf_19 ?_
        refine wc_goto X 20 24 dX10_isStateOf_20 (by decide) ?_
        refine wc_st (st' := [.int (b2i true)]) rfl ?_
        exact ret 24 _ true dX10_isStateOf_24 (by rw [stOf_0, ← c16_2]; rfl)
    ·
      refine wc_aload_n X 7 0 dX10_isStateOf_7 rfl ?_
      refine wc_iload_n X 8 1 dX10_isStateOf_8 rfl ?_
      refine wc_callV X 9 [0] 0 (c_X1_of1 l G q qa qb (nI 1) (by decide)) yv_X1_of kd1 rfl rfl q_403 ⟨rfl, rfl⟩ ⟨rfl, rfl⟩ ⟨rfl, rfl⟩ rfl rfl rfl dX10_isStateOf_9 ?_
      refine wc_iload_n X 12 2 dX10_isStateOf_12 rfl ?_
      refine wc_callV X 13 [2] 2 (c_X6_knows l G qb lb n1 e1 y ) yv_X6_knows kd6 rfl rfl q_407 ⟨rfl, rfl⟩ ⟨rfl, rfl⟩ ⟨rfl, rfl⟩ rfl rfl rfl dX10_isStateOf_13 ?_
      refine wc_if_eqB X 16 23 dX10_isStateOf_16 (by decide) (fun c16_3 => ?_) (fun c16_3 => ?_)
      ·
        refine wc_iconstN X 23 0 dX10_isStateOf_23 ?_
        refine wc_st (st' := [.int (b2i false)]) rfl ?_
        exact ret 24 _ false dX10_isStateOf_24 (by rw [stOf_1, ← c16_3]; rfl)
      ·
        refine wc_iconstN X 19 1 dX10_isStateOf_19 ?_
        refine wc_goto X 20 24 dX10_isStateOf_20 (by decide) ?_
        refine wc_st (st' := [.int (b2i true)]) rfl ?_
        exact ret 24 _ true dX10_isStateOf_24 (by rw [stOf_1, ← c16_3]; rfl)

set_option maxHeartbeats 4000000 in
set_option maxRecDepth 100000 in
theorem c_X10_isEdgeOf (l : Launch) (G : GG) (q qa la n0 e0 qb lb n1 e1 : Nat) (x f c t : Int32)  : RM l G yX10_isEdgeOf (Cond.code yX10_isEdgeOf cX10_isEdgeOf 5 (some .boolean)) { frames := 2, cells := 0, slots := 0, locals := 43 } [.ref q, .int x, .int f, .int c, .int t] [ob q 1 [.ref qa, .ref qb], ob qa 6 [.int (nI n0), .int (nI e0), .ref la], ob qb 6 [.int (nI n1), .int (nI e1), .ref lb]] (.int (b2i (stOf n0 n1 x f && (decide (c = nI 1) || decide (c = nI 2)) && stOf n0 n1 x t))) := by
  refine RM.ofZ (by decide) rfl (fun Γ X ret => ?_)
  show Wc Γ 0 0 0 [(0, .ref q), (1, .int x), (2, .int f), (3, .int c), (4, .int t)] [] [ob q 1 [.ref qa, .ref qb], ob qa 6 [.int (nI n0), .int (nI e0), .ref la], ob qb 6 [.int (nI n1), .int (nI e1), .ref lb]]
  refine wc_aload_n X 0 0 dX10_isEdgeOf_0 rfl ?_
  refine wc_iload_n X 1 1 dX10_isEdgeOf_1 rfl ?_
  refine wc_iload_n X 2 2 dX10_isEdgeOf_2 rfl ?_
  refine wc_callS X 3 [0, 1, 2] (c_X10_isStateOf l G q qa la n0 e0 qb lb n1 e1 x f ) ys_X10_isStateOf rfl q_397 ⟨rfl, rfl⟩ ⟨rfl, rfl⟩ ⟨rfl, rfl⟩ rfl rfl rfl dX10_isEdgeOf_3 ?_
  refine wc_if_eqB X 6 30 dX10_isEdgeOf_6 (by decide) (fun c6_1 => ?_) (fun c6_1 => ?_)
  ·
    refine wc_iconstN X 30 0 dX10_isEdgeOf_30 ?_
    refine wc_st (st' := [.int (b2i false)]) rfl ?_
    exact ret 31 _ false dX10_isEdgeOf_31 (by rw [c6_1]; rfl)
  ·
    refine wc_iload_n X 9 3 dX10_isEdgeOf_9 rfl ?_
    refine wc_callS X 10 [] (c_X10_isLetter l G c ) ys_X10_isLetter rfl q_408 ⟨rfl, rfl⟩ ⟨rfl, rfl⟩ ⟨rfl, rfl⟩ rfl rfl rfl dX10_isEdgeOf_10 ?_
    refine wc_if_eqB X 13 30 dX10_isEdgeOf_13 (by decide) (fun c13_2 => ?_) (fun c13_2 => ?_)
    ·
      refine wc_iconstN X 30 0 dX10_isEdgeOf_30 ?_
      refine wc_st (st' := [.int (b2i false)]) rfl ?_
      exact ret 31 _ false dX10_isEdgeOf_31 (by rw [c13_2, Bool.and_false, Bool.false_and])
    ·
      refine wc_aload_n X 16 0 dX10_isEdgeOf_16 rfl ?_
      refine wc_iload_n X 17 1 dX10_isEdgeOf_17 rfl ?_
      refine wc_iload X 18 4 dX10_isEdgeOf_18 rfl ?_
      refine wc_callS X 20 [0, 1, 2] (c_X10_isStateOf l G q qa la n0 e0 qb lb n1 e1 x t ) ys_X10_isStateOf rfl q_397 ⟨rfl, rfl⟩ ⟨rfl, rfl⟩ ⟨rfl, rfl⟩ rfl rfl rfl dX10_isEdgeOf_20 ?_
      refine wc_if_eqB X 23 30 dX10_isEdgeOf_23 (by decide) (fun c23_3 => ?_) (fun c23_3 => ?_)
      ·
        refine wc_iconstN X 30 0 dX10_isEdgeOf_30 ?_
        refine wc_st (st' := [.int (b2i false)]) rfl ?_
        exact ret 31 _ false dX10_isEdgeOf_31 (by rw [c6_1, c13_2, c23_3]; rfl)
      ·
        refine wc_iconstN X 26 1 dX10_isEdgeOf_26 ?_
        refine wc_goto X 27 31 dX10_isEdgeOf_27 (by decide) ?_
        refine wc_st (st' := [.int (b2i true)]) rfl ?_
        exact ret 31 _ true dX10_isEdgeOf_31 (by rw [c6_1, c13_2, c23_3]; rfl)

set_option maxHeartbeats 4000000 in
set_option maxRecDepth 100000 in
theorem c_X10_shareOfWord (l : Launch) (G : GG) (i s : Nat) (hi : i < 32) (hs : s < 32) : RM l G yX10_shareOfWord (Cond.code yX10_shareOfWord cX10_shareOfWord 3 (some .int)) { frames := 1, cells := 0, slots := 0, locals := 20 } [.int (nI i), .int (nI s)] [] (.int (nI (if Nat.testBit s i then 60 / ones s else 0))) := by
  refine RM.ofI (by decide) rfl (fun Γ X ret => ?_)
  show Wc Γ 0 0 0 [(0, .int (nI i)), (1, .int (nI s))] [] []
  refine wc_iload_n X 0 1 dX10_shareOfWord_0 rfl ?_
  refine wc_callS X 1 [] (c_J6_bitCount_0f7a4 l G s (by first | assumption | omega)) ys_J6_bitCount_0f7a4 rfl q_708 ⟨rfl, rfl⟩ ⟨rfl, rfl⟩ ⟨rfl, rfl⟩ rfl rfl rfl dX10_shareOfWord_1 ?_
  refine wc_istore_n X 4 (L' := [(0, .int (nI i)), (1, .int (nI s)), (2, .int (nI (ones s)))]) dX10_shareOfWord_4 (by decide) rfl ?_
  refine wc_iload_n X 5 2 dX10_shareOfWord_5 rfl ?_
  refine wc_if_eqN X 6 17 dX10_shareOfWord_6 (by decide) (Nat.lt_of_le_of_lt (ones_le _) (by decide)) (fun c6_1 => ?_) (fun c6_1 => ?_)
  ·
    refine wc_iconstN X 17 0 dX10_shareOfWord_17 ?_
    exact ret 18 _ (nI 0) dX10_shareOfWord_18 (by rw [if_neg (by rw [ones_0 hs c6_1, Nat.zero_testBit]; decide)])
  ·
    refine wc_iload_n X 9 1 dX10_shareOfWord_9 rfl ?_
    refine wc_iload_n X 10 0 dX10_shareOfWord_10 rfl ?_
    refine wc_ishrN X 11 dX10_shareOfWord_11 (by omega) (by omega) ?_
    refine wc_iconstN X 12 1 dX10_shareOfWord_12 ?_
    refine wc_iandN X 13 dX10_shareOfWord_13 ?_
    refine wc_topi (b2i (Nat.testBit s i)) (nI_bit _ _) ?_
    refine wc_if_neB X 14 19 dX10_shareOfWord_14 (by decide) (fun c14_2 => ?_) (fun c14_2 => ?_)
    ·
      refine wc_bipush X 19 (nI 60) dX10_shareOfWord_19 (by decide) ?_
      refine wc_iload_n X 21 2 dX10_shareOfWord_21 rfl ?_
      refine wc_idivN X 22 dX10_shareOfWord_22 (by decide) (by omega) (Nat.lt_of_le_of_lt (ones_le _) (by decide)) ?_
      exact ret 23 _ (nI (60 / (ones s))) dX10_shareOfWord_23 (by rw [c14_2]; rfl)
    ·
      refine wc_iconstN X 17 0 dX10_shareOfWord_17 ?_
      exact ret 18 _ (nI 0) dX10_shareOfWord_18 (by rw [c14_2]; rfl)

set_option maxHeartbeats 4000000 in
set_option maxRecDepth 100000 in
theorem c_X10_inLeastTerms (l : Launch) (G : GG) (a b : Nat) (u : Bool) (ha : a ≤ 1000000) (hb : b ≤ 1000000) (h0 : 0 < b) : RM l G yX10_inLeastTerms (Cond.code yX10_inLeastTerms cX10_inLeastTerms 7 (some .int)) { frames := 0, cells := 0, slots := 0, locals := 0 } [.int (nI a), .int (nI b), .int (b2i u)] [] (.int (nI (frac a b u))) := by
  refine RM.ofI (by decide) rfl (fun Γ X ret => ?_)
  show Wc Γ 0 0 0 [(0, .int (nI a)), (1, .int (nI b)), (2, .int (b2i u))] [] []
  refine wc_iload_n X 0 1 dX10_inLeastTerms_0 rfl ?_
  refine wc_istore_n X 1 (L' := [(0, .int (nI a)), (1, .int (nI b)), (2, .int (b2i u)), (3, .int (nI b))]) dX10_inLeastTerms_1 (by decide) rfl ?_
  refine wc_iload_n X 2 0 dX10_inLeastTerms_2 rfl ?_
  refine wc_istore X 3 (L' := [(0, .int (nI a)), (1, .int (nI b)), (2, .int (b2i u)), (3, .int (nI b)), (4, .int (nI a))]) dX10_inLeastTerms_3 (by decide) rfl ?_
  refine wc_iconstN X 5 0 dX10_inLeastTerms_5 ?_
  refine wc_istore X 6 (L' := [(0, .int (nI a)), (1, .int (nI b)), (2, .int (b2i u)), (3, .int (nI b)), (4, .int (nI a)), (5, .int (nI 0))]) dX10_inLeastTerms_6 (by decide) rfl ?_
  have LP_2 : ∀ (fuel_1 : Nat) (x : Nat) (y : Nat) (i : Nat), (Nat.gcd x y = Nat.gcd a b) → (i = 0 ∧ x * y ≤ 2 ^ 40 ∨ y ≤ x ∧ x * y * 2 ^ (i - 1) ≤ 2 ^ 40) → (i ≤ 100) → (x ≤ 1000000) → (y ≤ 1000000) → 100 - i < fuel_1 → Wc Γ 0 0 8 [(0, .int (nI a)), (1, .int (nI b)), (2, .int (b2i u)), (3, .int (nI x)), (4, .int (nI y)), (5, .int (nI i))] [] [] := by
    intro fuel_1
    induction fuel_1 with
    | zero => intro x y i he hq hi hx hy hm; exact absurd hm (Nat.not_lt_zero _)
    | succ fuel_1 ih_3 =>
      intro x y i he hq hi hx hy hm_4
      refine wc_iload X 8 5 dX10_inLeastTerms_8 rfl ?_
      refine wc_bipush X 10 (nI 100) dX10_inLeastTerms_10 (by decide) ?_
      refine wc_icmp_geN X 12 39 dX10_inLeastTerms_12 (by decide) (by omega) (by decide) (fun c12_5 => ?_) (fun c12_5 => ?_)
      ·
        have hy0 : y = 0 := by
          first
          | assumption
          | (rcases hq with hq | hq
             · omega
             · exact gcd_end hq.1 (by rw [show (100 : Nat) - 1 = i - 1 by omega]; exact hq.2))
        have hg : x = Nat.gcd a b := by rw [← he, hy0, Nat.gcd_zero_right]
        have hp : 0 < x := by rw [hg]; exact Nat.gcd_pos_of_pos_right _ h0
        refine wc_iload_n X 39 3 dX10_inLeastTerms_39 rfl ?_
        refine wc_if_neN X 40 45 dX10_inLeastTerms_40 (by decide) (by omega) (fun c40_6 => ?_) (fun c40_6 => ?_)
        ·
          refine wc_iload_n X 45 2 dX10_inLeastTerms_45 rfl ?_
          refine wc_if_eqB X 46 55 dX10_inLeastTerms_46 (by decide) (fun c46_7 => ?_) (fun c46_7 => ?_)
          ·
            refine wc_iload_n X 55 1 dX10_inLeastTerms_55 rfl ?_
            refine wc_iload_n X 56 3 dX10_inLeastTerms_56 rfl ?_
            refine wc_idivN X 57 dX10_inLeastTerms_57 (by omega) (by omega) (by omega) ?_
            exact ret 58 _ (nI (b / x)) dX10_inLeastTerms_58 (by unfold frac; rw [c46_7, hg]; rfl)
          ·
            refine wc_iload_n X 49 0 dX10_inLeastTerms_49 rfl ?_
            refine wc_iload_n X 50 3 dX10_inLeastTerms_50 rfl ?_
            refine wc_idivN X 51 dX10_inLeastTerms_51 (by omega) (by omega) (by omega) ?_
            refine wc_goto X 52 58 dX10_inLeastTerms_52 (by decide) ?_
            exact ret 58 _ (nI (a / x)) dX10_inLeastTerms_58 (by unfold frac; rw [c46_7, hg]; rfl)
        ·
          exact absurd c40_6 (by omega)
      ·
        refine wc_iload X 15 4 dX10_inLeastTerms_15 rfl ?_
        refine wc_if_eqN X 17 39 dX10_inLeastTerms_17 (by decide) (by omega) (fun c17_8 => ?_) (fun c17_8 => ?_)
        ·
          have hy0 : y = 0 := by
            first
            | assumption
            | (rcases hq with hq | hq
               · omega
               · exact gcd_end hq.1 (by rw [show (100 : Nat) - 1 = i - 1 by omega]; exact hq.2))
          have hg : x = Nat.gcd a b := by rw [← he, hy0, Nat.gcd_zero_right]
          have hp : 0 < x := by rw [hg]; exact Nat.gcd_pos_of_pos_right _ h0
          refine wc_iload_n X 39 3 dX10_inLeastTerms_39 rfl ?_
          refine wc_if_neN X 40 45 dX10_inLeastTerms_40 (by decide) (by omega) (fun c40_9 => ?_) (fun c40_9 => ?_)
          ·
            refine wc_iload_n X 45 2 dX10_inLeastTerms_45 rfl ?_
            refine wc_if_eqB X 46 55 dX10_inLeastTerms_46 (by decide) (fun c46_10 => ?_) (fun c46_10 => ?_)
            ·
              refine wc_iload_n X 55 1 dX10_inLeastTerms_55 rfl ?_
              refine wc_iload_n X 56 3 dX10_inLeastTerms_56 rfl ?_
              refine wc_idivN X 57 dX10_inLeastTerms_57 (by omega) (by omega) (by omega) ?_
              exact ret 58 _ (nI (b / x)) dX10_inLeastTerms_58 (by unfold frac; rw [c46_10, hg]; rfl)
            ·
              refine wc_iload_n X 49 0 dX10_inLeastTerms_49 rfl ?_
              refine wc_iload_n X 50 3 dX10_inLeastTerms_50 rfl ?_
              refine wc_idivN X 51 dX10_inLeastTerms_51 (by omega) (by omega) (by omega) ?_
              refine wc_goto X 52 58 dX10_inLeastTerms_52 (by decide) ?_
              exact ret 58 _ (nI (a / x)) dX10_inLeastTerms_58 (by unfold frac; rw [c46_10, hg]; rfl)
          ·
            exact absurd c40_9 (by omega)
        ·
          refine wc_iload_n X 20 3 dX10_inLeastTerms_20 rfl ?_
          refine wc_iload X 21 4 dX10_inLeastTerms_21 rfl ?_
          refine wc_iremN X 23 dX10_inLeastTerms_23 (by omega) (by omega) (by omega) ?_
          refine wc_istore X 24 (L' := [(0, .int (nI a)), (1, .int (nI b)), (2, .int (b2i u)), (3, .int (nI x)), (4, .int (nI y)), (5, .int (nI i)), (6, .int (nI (x % y)))]) dX10_inLeastTerms_24 (by decide) rfl ?_
          refine wc_iload X 26 4 dX10_inLeastTerms_26 rfl ?_
          refine wc_istore_n X 28 (L' := [(0, .int (nI a)), (1, .int (nI b)), (2, .int (b2i u)), (3, .int (nI y)), (4, .int (nI y)), (5, .int (nI i)), (6, .int (nI (x % y)))]) dX10_inLeastTerms_28 (by decide) rfl ?_
          refine wc_iload X 29 6 dX10_inLeastTerms_29 rfl ?_
          refine wc_istore X 31 (L' := [(0, .int (nI a)), (1, .int (nI b)), (2, .int (b2i u)), (3, .int (nI y)), (4, .int (nI (x % y))), (5, .int (nI i)), (6, .int (nI (x % y)))]) dX10_inLeastTerms_31 (by decide) rfl ?_
          refine wc_iincN X 33 5 (L' := [(0, .int (nI a)), (1, .int (nI b)), (2, .int (b2i u)), (3, .int (nI y)), (4, .int (nI (x % y))), (5, .int (nI (i + 1))), (6, .int (nI (x % y)))]) dX10_inLeastTerms_33 rfl (by decide) rfl ?_
          refine wc_goto X 36 8 dX10_inLeastTerms_36 (by decide) ?_
          refine wc_loc [0, 1, 2, 3, 4, 5] (L' := [(0, .int (nI a)), (1, .int (nI b)), (2, .int (b2i u)), (3, .int (nI y)), (4, .int (nI (x % y))), (5, .int (nI (i + 1)))]) rfl ?_
          refine wc_L (L' := [(0, .int (nI a)), (1, .int (nI b)), (2, .int (b2i u)), (3, .int (nI y)), (4, .int (nI (x % y))), (5, .int (nI (i + 1)))]) (by rfl) ?_
          exact ih_3 y (x % y) (i + 1) (by rw [← he, Nat.gcd_comm x y, Nat.gcd_rec y x, Nat.gcd_comm]) (Or.inr (gcd_step c17_8 hq)) (by omega) hy (Nat.le_trans (Nat.le_of_lt (Nat.mod_lt _ (Nat.pos_of_ne_zero c17_8))) hy) (by omega)
  exact LP_2 (100 - 0 + 1) b a 0 (Nat.gcd_comm _ _) (Or.inl ⟨rfl, Nat.le_trans (Nat.mul_le_mul hb ha) (by decide)⟩) (by decide) hb ha (Nat.lt_succ_self _)

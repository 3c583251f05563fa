set_option maxHeartbeats 4000000 in
set_option maxRecDepth 100000 in
theorem c_X10_isMeant0 (l : Launch) (G : GG) (a b : Bool)  : RM l G yX10_isMeant (Cond.code yX10_isMeant cX10_isMeant 3 (some .boolean)) { frames := 0, cells := 0, slots := 0, locals := 0 } [.int (nI 0), .int (b2i a), .int (b2i b)] [] (.int (b2i (mnt 0 a b))) := by
  refine RM.ofZ (by decide) rfl (fun Γ X ret => ?_)
  show Wc Γ 0 0 0 [(0, .int (nI 0)), (1, .int (b2i a)), (2, .int (b2i b))] [] []
  refine wc_iload_n X 0 0 dX10_isMeant_0 rfl ?_
  refine wc_tsI X 1 28 0 (nI 0) (off := 27) dX10_isMeant_1 rfl (by decide) (by decide) (by decide) (by decide) ?_
  refine wc_iload_n X 28 1 dX10_isMeant_28 rfl ?_
  exact ret 29 _ a dX10_isMeant_29 (by unfold mnt; rfl)

set_option maxHeartbeats 4000000 in
set_option maxRecDepth 100000 in
theorem c_X10_isMeant1 (l : Launch) (G : GG) (a b : Bool)  : RM l G yX10_isMeant (Cond.code yX10_isMeant cX10_isMeant 3 (some .boolean)) { frames := 0, cells := 0, slots := 0, locals := 0 } [.int (nI 1), .int (b2i a), .int (b2i b)] [] (.int (b2i (mnt 1 a b))) := by
  refine RM.ofZ (by decide) rfl (fun Γ X ret => ?_)
  show Wc Γ 0 0 0 [(0, .int (nI 1)), (1, .int (b2i a)), (2, .int (b2i b))] [] []
  refine wc_iload_n X 0 0 dX10_isMeant_0 rfl ?_
  refine wc_tsI X 1 30 1 (nI 1) (off := 29) dX10_isMeant_1 rfl (by decide) (by decide) (by decide) (by decide) ?_
  refine wc_iload_n X 30 2 dX10_isMeant_30 rfl ?_
  exact ret 31 _ b dX10_isMeant_31 (by unfold mnt; rfl)

set_option maxHeartbeats 4000000 in
set_option maxRecDepth 100000 in
theorem c_X10_isMeant2 (l : Launch) (G : GG) (a b : Bool)  : RM l G yX10_isMeant (Cond.code yX10_isMeant cX10_isMeant 3 (some .boolean)) { frames := 0, cells := 0, slots := 0, locals := 0 } [.int (nI 2), .int (b2i a), .int (b2i b)] [] (.int (b2i (mnt 2 a b))) := by
  refine RM.ofZ (by decide) rfl (fun Γ X ret => ?_)
  show Wc Γ 0 0 0 [(0, .int (nI 2)), (1, .int (b2i a)), (2, .int (b2i b))] [] []
  refine wc_iload_n X 0 0 dX10_isMeant_0 rfl ?_
  refine wc_tsI X 1 32 2 (nI 2) (off := 31) dX10_isMeant_1 rfl (by decide) (by decide) (by decide) (by decide) ?_
  refine wc_iload_n X 32 1 dX10_isMeant_32 rfl ?_
  refine wc_if_eqB X 33 44 dX10_isMeant_33 (by decide) (fun c33_1 => ?_) (fun c33_1 => ?_)
  ·
    refine wc_iconstN X 44 0 dX10_isMeant_44 ?_
    refine wc_st (st' := [.int (b2i false)]) rfl ?_
    exact ret 45 _ false dX10_isMeant_45 (by unfold mnt; rw [c33_1]; rfl)
  ·
    refine wc_iload_n X 36 2 dX10_isMeant_36 rfl ?_
    refine wc_if_eqB X 37 44 dX10_isMeant_37 (by decide) (fun c37_2 => ?_) (fun c37_2 => ?_)
    ·
      refine wc_iconstN X 44 0 dX10_isMeant_44 ?_
      refine wc_st (st' := [.int (b2i false)]) rfl ?_
      exact ret 45 _ false dX10_isMeant_45 (by unfold mnt; rw [c33_1, c37_2]; rfl)
    ·
      refine wc_iconstN X 40 1 dX10_isMeant_40 ?_
      refine wc_goto X 41 45 dX10_isMeant_41 (by decide) ?_
      refine wc_st (st' := [.int (b2i true)]) rfl ?_
      exact ret 45 _ true dX10_isMeant_45 (by unfold mnt; rw [c33_1, c37_2]; rfl)

set_option maxHeartbeats 4000000 in
set_option maxRecDepth 100000 in
theorem c_X10_isMeant3 (l : Launch) (G : GG) (a b : Bool)  : RM l G yX10_isMeant (Cond.code yX10_isMeant cX10_isMeant 3 (some .boolean)) { frames := 0, cells := 0, slots := 0, locals := 0 } [.int (nI 3), .int (b2i a), .int (b2i b)] [] (.int (b2i (mnt 3 a b))) := by
  refine RM.ofZ (by decide) rfl (fun Γ X ret => ?_)
  show Wc Γ 0 0 0 [(0, .int (nI 3)), (1, .int (b2i a)), (2, .int (b2i b))] [] []
  refine wc_iload_n X 0 0 dX10_isMeant_0 rfl ?_
  refine wc_tsO X 1 46 dX10_isMeant_1 (by decide) (by decide) ?_
  refine wc_iload_n X 46 1 dX10_isMeant_46 rfl ?_
  refine wc_if_eqB X 47 58 dX10_isMeant_47 (by decide) (fun c47_1 => ?_) (fun c47_1 => ?_)
  ·
    refine wc_iconstN X 58 0 dX10_isMeant_58 ?_
    refine wc_st (st' := [.int (b2i false)]) rfl ?_
    exact ret 59 _ false dX10_isMeant_59 (by unfold mnt; rw [c47_1]; rfl)
  ·
    refine wc_iload_n X 50 2 dX10_isMeant_50 rfl ?_
    refine wc_if_neB X 51 58 dX10_isMeant_51 (by decide) (fun c51_2 => ?_) (fun c51_2 => ?_)
    ·
      refine wc_iconstN X 58 0 dX10_isMeant_58 ?_
      refine wc_st (st' := [.int (b2i false)]) rfl ?_
      exact ret 59 _ false dX10_isMeant_59 (by unfold mnt; rw [c47_1, c51_2]; rfl)
    ·
      refine wc_iconstN X 54 1 dX10_isMeant_54 ?_
      refine wc_goto X 55 59 dX10_isMeant_55 (by decide) ?_
      refine wc_st (st' := [.int (b2i true)]) rfl ?_
      exact ret 59 _ true dX10_isMeant_59 (by unfold mnt; rw [c47_1, c51_2]; rfl)

set_option maxHeartbeats 4000000 in
set_option maxRecDepth 100000 in
theorem c_X10_manyF (l : Launch) (G : GG) (x xt xn xr xa xs xf xw xi sn : Nat) (sd : Int64) (xe xp xg xl xk xh xv : Nat) (n k : Int32) (ho : outR n 0 9 ∨ outR k 0 3) : RM l G yX10_many (Cond.code yX10_many cX10_many 7 (some .int)) { frames := 0, cells := 0, slots := 0, locals := 0 } [.ref x, .int n, .int k] [ob x 10 [.ref xt, .ref xn, .ref xr, .ref xa, .ref xs, .ref xf, .ref xw, .ref xi, .int (nI sn), .long sd, .ref xe, .ref xp, .ref xg, .ref xl, .ref xk, .ref xh, .ref xv]] (.int (-2)) := by
  refine RM.ofI (by decide) rfl (fun Γ X ret => ?_)
  show Wc Γ 0 0 0 [(0, .ref x), (1, .int n), (2, .int k)] [] [ob x 10 [.ref xt, .ref xn, .ref xr, .ref xa, .ref xs, .ref xf, .ref xw, .ref xi, .int (nI sn), .long sd, .ref xe, .ref xp, .ref xg, .ref xl, .ref xk, .ref xh, .ref xv]]
  refine wc_iload_n X 0 1 dX10_many_0 rfl ?_
  refine wc_if_lt X 1 19 dX10_many_1 (by decide) (fun c1_1 => ?_) (fun c1_1 => ?_)
  ·
    refine wc_bipush X 19 (-2) dX10_many_19 (by decide) ?_
    exact ret 21 _ (-2) dX10_many_21 (rfl)
  ·
    refine wc_iload_n X 4 1 dX10_many_4 rfl ?_
    refine wc_bipush X 5 (nI 9) dX10_many_5 (by decide) ?_
    refine wc_icmp_gt X 7 19 dX10_many_7 (by decide) (fun c7_2 => ?_) (fun c7_2 => ?_)
    ·
      refine wc_bipush X 19 (-2) dX10_many_19 (by decide) ?_
      exact ret 21 _ (-2) dX10_many_21 (rfl)
    ·
      refine wc_iload_n X 10 2 dX10_many_10 rfl ?_
      refine wc_if_lt X 11 19 dX10_many_11 (by decide) (fun c11_3 => ?_) (fun c11_3 => ?_)
      ·
        refine wc_bipush X 19 (-2) dX10_many_19 (by decide) ?_
        exact ret 21 _ (-2) dX10_many_21 (rfl)
      ·
        refine wc_iload_n X 14 2 dX10_many_14 rfl ?_
        refine wc_iconstN X 15 3 dX10_many_15 ?_
        refine wc_icmp_le X 16 22 dX10_many_16 (by decide) (fun c16_4 => ?_) (fun c16_4 => ?_)
        ·
          rcases ho with ho | ho
          · exact (out_cls ho (by decide) (by decide) c1_1 (Int32.not_lt.mp c7_2)).elim
          · exact (out_cls ho (by decide) (by decide) c11_3 c16_4).elim
        ·
          refine wc_bipush X 19 (-2) dX10_many_19 (by decide) ?_
          exact ret 21 _ (-2) dX10_many_21 (rfl)

set_option maxHeartbeats 4000000 in
set_option maxRecDepth 100000 in
theorem c_X10_many0 (l : Launch) (G : GG) (x xt xn xr xa xs xf xw xi sn : Nat) (sd : Int64) (xe xp xg xl xk xh xv : Nat) (na nla nb nlb : Nat) (p : Nat → Nat) (xvl : Nat) (nd : Nat → Nat) (n : Nat) (hr : pgOk p) (hn : n ≤ 9) : MM l G yX10_many (Cond.code yX10_many cX10_many 7 (some .int)) { frames := 3, cells := 0, slots := 0, locals := 74 } [.ref x, .int (nI n), .int (nI 0)] [ob x 10 [.ref xt, .ref xn, .ref xr, .ref xa, .ref xs, .ref xf, .ref xw, .ref xi, .int (nI sn), .long sd, .ref xe, .ref xp, .ref xg, .ref xl, .ref xk, .ref xh, .ref xv], ob xn 1 [.ref na, .ref nb], ob na 6 [.int (nI (p 0)), .int (nI (p 2)), .ref nla], aI G nla 10 (nF (gz p)), ob nb 6 [.int (nI (p 1)), .int (nI (p 3)), .ref nlb], aI G nlb 10 (nF (go p)), ob xv 9 [.ref xvl], aI G xvl 1024 (nF nd)] (fun (v : Option Value) (w : va_W) => ∃ (nd2 : Nat → Nat), v = some (.int (nI (manyV p n 0))) ∧ w = [ob x 10 [.ref xt, .ref xn, .ref xr, .ref xa, .ref xs, .ref xf, .ref xw, .ref xi, .int (nI sn), .long sd, .ref xe, .ref xp, .ref xg, .ref xl, .ref xk, .ref xh, .ref xv], ob xn 1 [.ref na, .ref nb], ob na 6 [.int (nI (p 0)), .int (nI (p 2)), .ref nla], aI G nla 10 (nF (gz p)), ob nb 6 [.int (nI (p 1)), .int (nI (p 3)), .ref nlb], aI G nlb 10 (nF (go p)), ob xv 9 [.ref xvl], aI G xvl 1024 (nF nd2)]) 0 0 := by
  refine MM.ofI (by decide) rfl (fun Γ X Y hnm ret => ?_)
  show Wc Γ 0 0 0 [(0, .ref x), (1, .int (nI n)), (2, .int (nI 0))] [] [ob x 10 [.ref xt, .ref xn, .ref xr, .ref xa, .ref xs, .ref xf, .ref xw, .ref xi, .int (nI sn), .long sd, .ref xe, .ref xp, .ref xg, .ref xl, .ref xk, .ref xh, .ref xv], ob xn 1 [.ref na, .ref nb], ob na 6 [.int (nI (p 0)), .int (nI (p 2)), .ref nla], aI G nla 10 (nF (gz p)), ob nb 6 [.int (nI (p 1)), .int (nI (p 3)), .ref nlb], aI G nlb 10 (nF (go p)), ob xv 9 [.ref xvl], aI G xvl 1024 (nF nd)]
  have hn0 := hr.2.1
  have hn01 := hr.1
  have hn1 := hr.2.2.2.1
  have hn11 := hr.2.2.1
  have he0 := pg_e0 hr
  have he1 := hr.2.2.2.2.1 3
  have hg0 := hr.2.2.2.2.2.1
  have hg1 := (fun j => hr.2.2.2.2.1 (12 + j) : ∀ j, go p j < 32)
  have hg0n := (hr.2.2.2.2.2.2.1 0 (by decide) : ∀ j, gz p j < 2 ^ p 0)
  have hg1n := (hr.2.2.2.2.2.2.1 1 (by decide) : ∀ j, go p j < 2 ^ p 1)
  have he0n := hr.2.2.2.2.2.2.2 0 (by decide)
  have he1n := hr.2.2.2.2.2.2.2 1 (by decide)
  have hg0w := (fun j => Nat.lt_trans (hg0 j) (by decide) : ∀ j, gz p j < 32)
  have hpn := p9 hn
  have hq0 : 0 < 2 ^ n := Nat.two_pow_pos n
  refine wc_iload_n X 0 1 dX10_many_0 rfl ?_
  refine wc_ifltF X 1 (tgt := 19) dX10_many_1 (by decide) (by omega) ?_
  refine wc_iload_n X 4 1 dX10_many_4 rfl ?_
  refine wc_bipush X 5 (nI 9) dX10_many_5 (by decide) ?_
  refine wc_icmp_gtN X 7 19 dX10_many_7 (by decide) (by omega) (by decide) (fun c7_2 => ?_) (fun c7_2 => ?_)
  ·
    exact absurd c7_2 (by omega)
  ·
    refine wc_iload_n X 10 2 dX10_many_10 rfl ?_
    refine wc_ifltF X 11 (tgt := 19) dX10_many_11 (by decide) (by decide) ?_
    refine wc_iload_n X 14 2 dX10_many_14 rfl ?_
    refine wc_iconstN X 15 3 dX10_many_15 ?_
    refine wc_icmp_leN X 16 22 dX10_many_16 (by decide) (by decide) (by decide) (fun c16_4 => ?_) (fun c16_4 => ?_)
    ·
      refine wc_aload_n X 22 0 dX10_many_22 rfl ?_
      refine wc_get X 23 0 16 kd10 rfl (by decide) q_249 rfl dX10_many_23 ?_
      refine wc_aload_n X 26 0 dX10_many_26 rfl ?_
      refine wc_get X 27 0 1 kd10 rfl (by decide) q_234 rfl dX10_many_27 ?_
      refine wc_iload_n X 30 1 dX10_many_30 rfl ?_
      refine wc_mutV X Y 31 [6, 7, 1, 2, 3, 4, 5] [0] 6 (c_X9_grow l G xv xvl nd xn na nla (p 0) (p 2) (gz p) nb nlb (p 1) (p 3) (go p) n (by first | assumption | omega) (by first | assumption | omega) (by first | assumption | omega) (by first | assumption | omega) (by first | assumption | omega) (by first | assumption | omega) hn) yv_X9_grow kd9 rfl rfl (wr := [ob x 10 [.ref xt, .ref xn, .ref xr, .ref xa, .ref xs, .ref xf, .ref xw, .ref xi, .int (nI sn), .long sd, .ref xe, .ref xp, .ref xg, .ref xl, .ref xk, .ref xh, .ref xv]]) rfl ⟨rfl, rfl, rfl⟩ q_480 ⟨rfl, rfl⟩ ⟨rfl, rfl⟩ ⟨rfl, rfl⟩ rfl rfl rfl dX10_many_31 (fun v w hp_5 => ?_)
      obtain ⟨nd9, rfl, rfl, hf9⟩ := hp_5
      refine wc_perm Y [0, 3, 4, 5, 6, 7, 1, 2] [ob x 10 [.ref xt, .ref xn, .ref xr, .ref xa, .ref xs, .ref xf, .ref xw, .ref xi, .int (nI sn), .long sd, .ref xe, .ref xp, .ref xg, .ref xl, .ref xk, .ref xh, .ref xv], ob xn 1 [.ref na, .ref nb], ob na 6 [.int (nI (p 0)), .int (nI (p 2)), .ref nla], aI G nla 10 (nF (gz p)), ob nb 6 [.int (nI (p 1)), .int (nI (p 3)), .ref nlb], aI G nlb 10 (nF (go p)), ob xv 9 [.ref xvl], aI G xvl 1024 (nF nd9)] rfl rfl ?_
      show Wc Γ 0 0 34 [(0, .ref x), (1, .int (nI n)), (2, .int (nI 0))] [] [ob x 10 [.ref xt, .ref xn, .ref xr, .ref xa, .ref xs, .ref xf, .ref xw, .ref xi, .int (nI sn), .long sd, .ref xe, .ref xp, .ref xg, .ref xl, .ref xk, .ref xh, .ref xv], ob xn 1 [.ref na, .ref nb], ob na 6 [.int (nI (p 0)), .int (nI (p 2)), .ref nla], aI G nla 10 (nF (gz p)), ob nb 6 [.int (nI (p 1)), .int (nI (p 3)), .ref nlb], aI G nlb 10 (nF (go p)), ob xv 9 [.ref xvl], aI G xvl 1024 (nF nd9)]
      refine wc_iconstN X 34 0 dX10_many_34 ?_
      refine wc_istore_n X 35 (L' := [(0, .ref x), (1, .int (nI n)), (2, .int (nI 0)), (3, .int (nI 0))]) dX10_many_35 (by decide) rfl ?_
      refine wc_iconstN X 36 1 dX10_many_36 ?_
      refine wc_iload_n X 37 1 dX10_many_37 rfl ?_
      refine wc_shl1 X 38 dX10_many_38 (by omega) ?_
      refine wc_istore X 39 (L' := [(0, .ref x), (1, .int (nI n)), (2, .int (nI 0)), (3, .int (nI 0)), (4, .int (nI (2 ^ n)))]) dX10_many_39 (by decide) rfl ?_
      have LP_7 : ∀ (fuel_6 : Nat) (i : Nat), (i ≤ 2 ^ n) → 2 ^ n - i < fuel_6 → Wc Γ 0 0 41 [(0, .ref x), (1, .int (nI n)), (2, .int (nI 0)), (3, .int (nI (manyC p n 0 i))), (4, .int (nI (2 ^ n + i)))] [] [ob x 10 [.ref xt, .ref xn, .ref xr, .ref xa, .ref xs, .ref xf, .ref xw, .ref xi, .int (nI sn), .long sd, .ref xe, .ref xp, .ref xg, .ref xl, .ref xk, .ref xh, .ref xv], ob xn 1 [.ref na, .ref nb], ob na 6 [.int (nI (p 0)), .int (nI (p 2)), .ref nla], aI G nla 10 (nF (gz p)), ob nb 6 [.int (nI (p 1)), .int (nI (p 3)), .ref nlb], aI G nlb 10 (nF (go p)), ob xv 9 [.ref xvl], aI G xvl 1024 (nF nd9)] := by
        intro fuel_6
        induction fuel_6 with
        | zero => intro i hi hm; exact absurd hm (Nat.not_lt_zero _)
        | succ fuel_6 ih_8 =>
          intro i hi hm_9
          refine wc_iload X 41 4 dX10_many_41 rfl ?_
          refine wc_iconstN X 43 2 dX10_many_43 ?_
          refine wc_iload_n X 44 1 dX10_many_44 rfl ?_
          refine wc_ishlN X 45 dX10_many_45 (by omega) (by omega) ?_
          refine wc_icmp_geN X 46 111 dX10_many_46 (by decide) (by omega) (by omega) (fun c46_10 => ?_) (fun c46_10 => ?_)
          ·
            refine wc_iload_n X 111 3 dX10_many_111 rfl ?_
            exact ret 112 _ (nI (manyC p n 0 i)) _ dX10_many_112 (⟨_, by rw [← many_eq hn, show i = 2 ^ n by omega], rfl⟩)
          ·
            have hnd := hf9 (2 ^ n + i) (by omega) (by omega)
            have hz9 : nodeS (gz p) (p 0) (2 ^ n + i) < 16 := nodeS_lt (k := 4) (by decide) hg0 _ _
            have ho9 : nodeS (go p) (p 1) (2 ^ n + i) < 32 := nodeS_lt (k := 5) (by decide) hg1 _ _
            refine wc_aload_n X 49 0 dX10_many_49 rfl ?_
            refine wc_get X 50 0 1 kd10 rfl (by decide) q_234 rfl dX10_many_50 ?_
            refine wc_get X 53 1 0 kd1 rfl (by decide) q_73 rfl dX10_many_53 ?_
            refine wc_aload_n X 56 0 dX10_many_56 rfl ?_
            refine wc_get X 57 0 16 kd10 rfl (by decide) q_249 rfl dX10_many_57 ?_
            refine wc_iload X 60 4 dX10_many_60 rfl ?_
            refine wc_callV X 62 [6, 7] 6 (c_X9_zeroSet l G xv xvl nd9 (2 ^ n + i) (by omega) (by rw [hnd]; unfold trN; omega)) yv_X9_zeroSet kd9 rfl rfl q_493 ⟨rfl, rfl⟩ ⟨rfl, rfl⟩ ⟨rfl, rfl⟩ rfl rfl rfl dX10_many_62 ?_
            refine wc_topi (nI (nodeS (gz p) (p 0) (2 ^ n + i))) (congrArg nI (by rw [hnd]; unfold trN; exact tr_z hz9)) ?_
            refine wc_callV X 65 [2] 2 (c_X6_hasEndIn l G na nla (p 0) (p 2) (nodeS (gz p) (p 0) (2 ^ n + i)) (by omega)) yv_X6_hasEndIn kd6 rfl rfl q_494 ⟨rfl, rfl⟩ ⟨rfl, rfl⟩ ⟨rfl, rfl⟩ rfl rfl rfl dX10_many_65 ?_
            refine wc_istore X 68 (L' := [(0, .ref x), (1, .int (nI n)), (2, .int (nI 0)), (3, .int (nI (manyC p n 0 i))), (4, .int (nI (2 ^ n + i))), (5, .int (b2i ((nodeS (gz p) (p 0) (2 ^ n + i)) &&& (p 2) != 0)))]) dX10_many_68 (by decide) rfl ?_
            refine wc_aload_n X 70 0 dX10_many_70 rfl ?_
            refine wc_get X 71 0 1 kd10 rfl (by decide) q_234 rfl dX10_many_71 ?_
            refine wc_get X 74 1 1 kd1 rfl (by decide) q_80 rfl dX10_many_74 ?_
            refine wc_aload_n X 77 0 dX10_many_77 rfl ?_
            refine wc_get X 78 0 16 kd10 rfl (by decide) q_249 rfl dX10_many_78 ?_
            refine wc_iload X 81 4 dX10_many_81 rfl ?_
            refine wc_callV X 83 [6, 7] 6 (c_X9_oneSet l G xv xvl nd9 (2 ^ n + i) (by omega) (by rw [hnd]; unfold trN; omega)) yv_X9_oneSet kd9 rfl rfl q_495 ⟨rfl, rfl⟩ ⟨rfl, rfl⟩ ⟨rfl, rfl⟩ rfl rfl rfl dX10_many_83 ?_
            refine wc_topi (nI (nodeS (go p) (p 1) (2 ^ n + i))) (congrArg nI (by rw [hnd]; unfold trN; exact tr_o hz9)) ?_
            refine wc_callV X 86 [4] 4 (c_X6_hasEndIn l G nb nlb (p 1) (p 3) (nodeS (go p) (p 1) (2 ^ n + i)) ho9) yv_X6_hasEndIn kd6 rfl rfl q_494 ⟨rfl, rfl⟩ ⟨rfl, rfl⟩ ⟨rfl, rfl⟩ rfl rfl rfl dX10_many_86 ?_
            refine wc_istore X 89 (L' := [(0, .ref x), (1, .int (nI n)), (2, .int (nI 0)), (3, .int (nI (manyC p n 0 i))), (4, .int (nI (2 ^ n + i))), (5, .int (b2i ((nodeS (gz p) (p 0) (2 ^ n + i)) &&& (p 2) != 0))), (6, .int (b2i ((nodeS (go p) (p 1) (2 ^ n + i)) &&& (p 3) != 0)))]) dX10_many_89 (by decide) rfl ?_
            refine wc_iload_n X 91 3 dX10_many_91 rfl ?_
            refine wc_iload_n X 92 2 dX10_many_92 rfl ?_
            refine wc_iload X 93 5 dX10_many_93 rfl ?_
            refine wc_iload X 95 6 dX10_many_95 rfl ?_
            refine wc_callS X 97 [] (c_X10_isMeant0 l G ((nodeS (gz p) (p 0) (2 ^ n + i)) &&& (p 2) != 0) ((nodeS (go p) (p 1) (2 ^ n + i)) &&& (p 3) != 0) ) ys_X10_isMeant rfl q_496 ⟨rfl, rfl⟩ ⟨rfl, rfl⟩ ⟨rfl, rfl⟩ rfl rfl rfl dX10_many_97 ?_
            refine wc_callS X 100 [] (c_X10_bit l G (mnt 0 ((nodeS (gz p) (p 0) (2 ^ n + i)) &&& (p 2) != 0) ((nodeS (go p) (p 1) (2 ^ n + i)) &&& (p 3) != 0)) ) ys_X10_bit rfl q_410 ⟨rfl, rfl⟩ ⟨rfl, rfl⟩ ⟨rfl, rfl⟩ rfl rfl rfl dX10_many_100 ?_
            refine wc_iaddN X 103 dX10_many_103 ?_
            refine wc_istore_n X 104 (L' := [(0, .ref x), (1, .int (nI n)), (2, .int (nI 0)), (3, .int (nI ((manyC p n 0 i) + ((mnt 0 ((nodeS (gz p) (p 0) (2 ^ n + i)) &&& (p 2) != 0) ((nodeS (go p) (p 1) (2 ^ n + i)) &&& (p 3) != 0)).toNat)))), (4, .int (nI (2 ^ n + i))), (5, .int (b2i ((nodeS (gz p) (p 0) (2 ^ n + i)) &&& (p 2) != 0))), (6, .int (b2i ((nodeS (go p) (p 1) (2 ^ n + i)) &&& (p 3) != 0)))]) dX10_many_104 (by decide) rfl ?_
            refine wc_iincN X 105 4 (L' := [(0, .ref x), (1, .int (nI n)), (2, .int (nI 0)), (3, .int (nI ((manyC p n 0 i) + ((mnt 0 ((nodeS (gz p) (p 0) (2 ^ n + i)) &&& (p 2) != 0) ((nodeS (go p) (p 1) (2 ^ n + i)) &&& (p 3) != 0)).toNat)))), (4, .int (nI ((2 ^ n + i) + 1))), (5, .int (b2i ((nodeS (gz p) (p 0) (2 ^ n + i)) &&& (p 2) != 0))), (6, .int (b2i ((nodeS (go p) (p 1) (2 ^ n + i)) &&& (p 3) != 0)))]) dX10_many_105 rfl (by decide) rfl ?_
            refine wc_goto X 108 41 dX10_many_108 (by decide) ?_
            refine wc_loc [0, 1, 2, 3, 4] (L' := [(0, .ref x), (1, .int (nI n)), (2, .int (nI 0)), (3, .int (nI ((manyC p n 0 i) + ((mnt 0 ((nodeS (gz p) (p 0) (2 ^ n + i)) &&& (p 2) != 0) ((nodeS (go p) (p 1) (2 ^ n + i)) &&& (p 3) != 0)).toNat)))), (4, .int (nI ((2 ^ n + i) + 1)))]) rfl ?_
            have e_11 : (manyC p n 0 i) + ((mnt 0 ((nodeS (gz p) (p 0) (2 ^ n + i)) &&& (p 2) != 0) ((nodeS (go p) (p 1) (2 ^ n + i)) &&& (p 3) != 0)).toNat) = manyC p n 0 (i + 1) := rfl
            have e_12 : (2 ^ n + i) + 1 = 2 ^ n + (i + 1) := by omega
            refine wc_L (L' := [(0, .ref x), (1, .int (nI n)), (2, .int (nI 0)), (3, .int (nI (manyC p n 0 (i + 1)))), (4, .int (nI (2 ^ n + (i + 1))))]) (by first | (rw [e_11, e_12]; done) | (rw [e_11, e_12]; rfl) | (rw [← e_11, ← e_12]; done) | rfl) ?_
            exact ih_8 (i + 1) (by omega) (by omega)
      have e_13 : 0 = manyC p n 0 0 := rfl
      have e_14 : 2 ^ n = 2 ^ n + 0 := rfl
      refine wc_L (L' := [(0, .ref x), (1, .int (nI n)), (2, .int (nI 0)), (3, .int (nI (manyC p n 0 0))), (4, .int (nI (2 ^ n + 0)))]) (by first | (rw [e_13, e_14]; done) | (rw [e_13, e_14]; rfl) | (rw [← e_13, ← e_14]; done) | rfl) ?_
      exact LP_7 (2 ^ n - 0 + 1) 0 (by omega) (Nat.lt_succ_self _)
    ·
      exact absurd c16_4 (by decide)

set_option maxHeartbeats 4000000 in
set_option maxRecDepth 100000 in
theorem c_X10_many1 (l : Launch) (G : GG) (x xt xn xr xa xs xf xw xi sn : Nat) (sd : Int64) (xe xp xg xl xk xh xv : Nat) (na nla nb nlb : Nat) (p : Nat → Nat) (xvl : Nat) (nd : Nat → Nat) (n : Nat) (hr : pgOk p) (hn : n ≤ 9) : MM l G yX10_many (Cond.code yX10_many cX10_many 7 (some .int)) { frames := 3, cells := 0, slots := 0, locals := 74 } [.ref x, .int (nI n), .int (nI 1)] [ob x 10 [.ref xt, .ref xn, .ref xr, .ref xa, .ref xs, .ref xf, .ref xw, .ref xi, .int (nI sn), .long sd, .ref xe, .ref xp, .ref xg, .ref xl, .ref xk, .ref xh, .ref xv], ob xn 1 [.ref na, .ref nb], ob na 6 [.int (nI (p 0)), .int (nI (p 2)), .ref nla], aI G nla 10 (nF (gz p)), ob nb 6 [.int (nI (p 1)), .int (nI (p 3)), .ref nlb], aI G nlb 10 (nF (go p)), ob xv 9 [.ref xvl], aI G xvl 1024 (nF nd)] (fun (v : Option Value) (w : va_W) => ∃ (nd2 : Nat → Nat), v = some (.int (nI (manyV p n 1))) ∧ w = [ob x 10 [.ref xt, .ref xn, .ref xr, .ref xa, .ref xs, .ref xf, .ref xw, .ref xi, .int (nI sn), .long sd, .ref xe, .ref xp, .ref xg, .ref xl, .ref xk, .ref xh, .ref xv], ob xn 1 [.ref na, .ref nb], ob na 6 [.int (nI (p 0)), .int (nI (p 2)), .ref nla], aI G nla 10 (nF (gz p)), ob nb 6 [.int (nI (p 1)), .int (nI (p 3)), .ref nlb], aI G nlb 10 (nF (go p)), ob xv 9 [.ref xvl], aI G xvl 1024 (nF nd2)]) 0 0 := by
  refine MM.ofI (by decide) rfl (fun Γ X Y hnm ret => ?_)
  show Wc Γ 0 0 0 [(0, .ref x), (1, .int (nI n)), (2, .int (nI 1))] [] [ob x 10 [.ref xt, .ref xn, .ref xr, .ref xa, .ref xs, .ref xf, .ref xw, .ref xi, .int (nI sn), .long sd, .ref xe, .ref xp, .ref xg, .ref xl, .ref xk, .ref xh, .ref xv], ob xn 1 [.ref na, .ref nb], ob na 6 [.int (nI (p 0)), .int (nI (p 2)), .ref nla], aI G nla 10 (nF (gz p)), ob nb 6 [.int (nI (p 1)), .int (nI (p 3)), .ref nlb], aI G nlb 10 (nF (go p)), ob xv 9 [.ref xvl], aI G xvl 1024 (nF nd)]
  have hn0 := hr.2.1
  have hn01 := hr.1
  have hn1 := hr.2.2.2.1
  have hn11 := hr.2.2.1
  have he0 := pg_e0 hr
  have he1 := hr.2.2.2.2.1 3
  have hg0 := hr.2.2.2.2.2.1
  have hg1 := (fun j => hr.2.2.2.2.1 (12 + j) : ∀ j, go p j < 32)
  have hg0n := (hr.2.2.2.2.2.2.1 0 (by decide) : ∀ j, gz p j < 2 ^ p 0)
  have hg1n := (hr.2.2.2.2.2.2.1 1 (by decide) : ∀ j, go p j < 2 ^ p 1)
  have he0n := hr.2.2.2.2.2.2.2 0 (by decide)
  have he1n := hr.2.2.2.2.2.2.2 1 (by decide)
  have hg0w := (fun j => Nat.lt_trans (hg0 j) (by decide) : ∀ j, gz p j < 32)
  have hpn := p9 hn
  have hq0 : 0 < 2 ^ n := Nat.two_pow_pos n
  refine wc_iload_n X 0 1 dX10_many_0 rfl ?_
  refine wc_ifltF X 1 (tgt := 19) dX10_many_1 (by decide) (by omega) ?_
  refine wc_iload_n X 4 1 dX10_many_4 rfl ?_
  refine wc_bipush X 5 (nI 9) dX10_many_5 (by decide) ?_
  refine wc_icmp_gtN X 7 19 dX10_many_7 (by decide) (by omega) (by decide) (fun c7_2 => ?_) (fun c7_2 => ?_)
  ·
    exact absurd c7_2 (by omega)
  ·
    refine wc_iload_n X 10 2 dX10_many_10 rfl ?_
    refine wc_ifltF X 11 (tgt := 19) dX10_many_11 (by decide) (by decide) ?_
    refine wc_iload_n X 14 2 dX10_many_14 rfl ?_
    refine wc_iconstN X 15 3 dX10_many_15 ?_
    refine wc_icmp_leN X 16 22 dX10_many_16 (by decide) (by decide) (by decide) (fun c16_4 => ?_) (fun c16_4 => ?_)
    ·
      refine wc_aload_n X 22 0 dX10_many_22 rfl ?_
      refine wc_get X 23 0 16 kd10 rfl (by decide) q_249 rfl dX10_many_23 ?_
      refine wc_aload_n X 26 0 dX10_many_26 rfl ?_
      refine wc_get X 27 0 1 kd10 rfl (by decide) q_234 rfl dX10_many_27 ?_
      refine wc_iload_n X 30 1 dX10_many_30 rfl ?_
      refine wc_mutV X Y 31 [6, 7, 1, 2, 3, 4, 5] [0] 6 (c_X9_grow l G xv xvl nd xn na nla (p 0) (p 2) (gz p) nb nlb (p 1) (p 3) (go p) n (by first | assumption | omega) (by first | assumption | omega) (by first | assumption | omega) (by first | assumption | omega) (by first | assumption | omega) (by first | assumption | omega) hn) yv_X9_grow kd9 rfl rfl (wr := [ob x 10 [.ref xt, .ref xn, .ref xr, .ref xa, .ref xs, .ref xf, .ref xw, .ref xi, .int (nI sn), .long sd, .ref xe, .ref xp, .ref xg, .ref xl, .ref xk, .ref xh, .ref xv]]) rfl ⟨rfl, rfl, rfl⟩ q_480 ⟨rfl, rfl⟩ ⟨rfl, rfl⟩ ⟨rfl, rfl⟩ rfl rfl rfl dX10_many_31 (fun v w hp_5 => ?_)
      obtain ⟨nd9, rfl, rfl, hf9⟩ := hp_5
      refine wc_perm Y [0, 3, 4, 5, 6, 7, 1, 2] [ob x 10 [.ref xt, .ref xn, .ref xr, .ref xa, .ref xs, .ref xf, .ref xw, .ref xi, .int (nI sn), .long sd, .ref xe, .ref xp, .ref xg, .ref xl, .ref xk, .ref xh, .ref xv], ob xn 1 [.ref na, .ref nb], ob na 6 [.int (nI (p 0)), .int (nI (p 2)), .ref nla], aI G nla 10 (nF (gz p)), ob nb 6 [.int (nI (p 1)), .int (nI (p 3)), .ref nlb], aI G nlb 10 (nF (go p)), ob xv 9 [.ref xvl], aI G xvl 1024 (nF nd9)] rfl rfl ?_
      show Wc Γ 0 0 34 [(0, .ref x), (1, .int (nI n)), (2, .int (nI 1))] [] [ob x 10 [.ref xt, .ref xn, .ref xr, .ref xa, .ref xs, .ref xf, .ref xw, .ref xi, .int (nI sn), .long sd, .ref xe, .ref xp, .ref xg, .ref xl, .ref xk, .ref xh, .ref xv], ob xn 1 [.ref na, .ref nb], ob na 6 [.int (nI (p 0)), .int (nI (p 2)), .ref nla], aI G nla 10 (nF (gz p)), ob nb 6 [.int (nI (p 1)), .int (nI (p 3)), .ref nlb], aI G nlb 10 (nF (go p)), ob xv 9 [.ref xvl], aI G xvl 1024 (nF nd9)]
      refine wc_iconstN X 34 0 dX10_many_34 ?_
      refine wc_istore_n X 35 (L' := [(0, .ref x), (1, .int (nI n)), (2, .int (nI 1)), (3, .int (nI 0))]) dX10_many_35 (by decide) rfl ?_
      refine wc_iconstN X 36 1 dX10_many_36 ?_
      refine wc_iload_n X 37 1 dX10_many_37 rfl ?_
      refine wc_shl1 X 38 dX10_many_38 (by omega) ?_
      refine wc_istore X 39 (L' := [(0, .ref x), (1, .int (nI n)), (2, .int (nI 1)), (3, .int (nI 0)), (4, .int (nI (2 ^ n)))]) dX10_many_39 (by decide) rfl ?_
      have LP_7 : ∀ (fuel_6 : Nat) (i : Nat), (i ≤ 2 ^ n) → 2 ^ n - i < fuel_6 → Wc Γ 0 0 41 [(0, .ref x), (1, .int (nI n)), (2, .int (nI 1)), (3, .int (nI (manyC p n 1 i))), (4, .int (nI (2 ^ n + i)))] [] [ob x 10 [.ref xt, .ref xn, .ref xr, .ref xa, .ref xs, .ref xf, .ref xw, .ref xi, .int (nI sn), .long sd, .ref xe, .ref xp, .ref xg, .ref xl, .ref xk, .ref xh, .ref xv], ob xn 1 [.ref na, .ref nb], ob na 6 [.int (nI (p 0)), .int (nI (p 2)), .ref nla], aI G nla 10 (nF (gz p)), ob nb 6 [.int (nI (p 1)), .int (nI (p 3)), .ref nlb], aI G nlb 10 (nF (go p)), ob xv 9 [.ref xvl], aI G xvl 1024 (nF nd9)] := by
        intro fuel_6
        induction fuel_6 with
        | zero => intro i hi hm; exact absurd hm (Nat.not_lt_zero _)
        | succ fuel_6 ih_8 =>
          intro i hi hm_9
          refine wc_iload X 41 4 dX10_many_41 rfl ?_
          refine wc_iconstN X 43 2 dX10_many_43 ?_
          refine wc_iload_n X 44 1 dX10_many_44 rfl ?_
          refine wc_ishlN X 45 dX10_many_45 (by omega) (by omega) ?_
          refine wc_icmp_geN X 46 111 dX10_many_46 (by decide) (by omega) (by omega) (fun c46_10 => ?_) (fun c46_10 => ?_)
          ·
            refine wc_iload_n X 111 3 dX10_many_111 rfl ?_
            exact ret 112 _ (nI (manyC p n 1 i)) _ dX10_many_112 (⟨_, by rw [← many_eq hn, show i = 2 ^ n by omega], rfl⟩)
          ·
            have hnd := hf9 (2 ^ n + i) (by omega) (by omega)
            have hz9 : nodeS (gz p) (p 0) (2 ^ n + i) < 16 := nodeS_lt (k := 4) (by decide) hg0 _ _
            have ho9 : nodeS (go p) (p 1) (2 ^ n + i) < 32 := nodeS_lt (k := 5) (by decide) hg1 _ _
            refine wc_aload_n X 49 0 dX10_many_49 rfl ?_
            refine wc_get X 50 0 1 kd10 rfl (by decide) q_234 rfl dX10_many_50 ?_
            refine wc_get X 53 1 0 kd1 rfl (by decide) q_73 rfl dX10_many_53 ?_
            refine wc_aload_n X 56 0 dX10_many_56 rfl ?_
            refine wc_get X 57 0 16 kd10 rfl (by decide) q_249 rfl dX10_many_57 ?_
            refine wc_iload X 60 4 dX10_many_60 rfl ?_
            refine wc_callV X 62 [6, 7] 6 (c_X9_zeroSet l G xv xvl nd9 (2 ^ n + i) (by omega) (by rw [hnd]; unfold trN; omega)) yv_X9_zeroSet kd9 rfl rfl q_493 ⟨rfl, rfl⟩ ⟨rfl, rfl⟩ ⟨rfl, rfl⟩ rfl rfl rfl dX10_many_62 ?_
            refine wc_topi (nI (nodeS (gz p) (p 0) (2 ^ n + i))) (congrArg nI (by rw [hnd]; unfold trN; exact tr_z hz9)) ?_
            refine wc_callV X 65 [2] 2 (c_X6_hasEndIn l G na nla (p 0) (p 2) (nodeS (gz p) (p 0) (2 ^ n + i)) (by omega)) yv_X6_hasEndIn kd6 rfl rfl q_494 ⟨rfl, rfl⟩ ⟨rfl, rfl⟩ ⟨rfl, rfl⟩ rfl rfl rfl dX10_many_65 ?_
            refine wc_istore X 68 (L' := [(0, .ref x), (1, .int (nI n)), (2, .int (nI 1)), (3, .int (nI (manyC p n 1 i))), (4, .int (nI (2 ^ n + i))), (5, .int (b2i ((nodeS (gz p) (p 0) (2 ^ n + i)) &&& (p 2) != 0)))]) dX10_many_68 (by decide) rfl ?_
            refine wc_aload_n X 70 0 dX10_many_70 rfl ?_
            refine wc_get X 71 0 1 kd10 rfl (by decide) q_234 rfl dX10_many_71 ?_
            refine wc_get X 74 1 1 kd1 rfl (by decide) q_80 rfl dX10_many_74 ?_
            refine wc_aload_n X 77 0 dX10_many_77 rfl ?_
            refine wc_get X 78 0 16 kd10 rfl (by decide) q_249 rfl dX10_many_78 ?_
            refine wc_iload X 81 4 dX10_many_81 rfl ?_
            refine wc_callV X 83 [6, 7] 6 (c_X9_oneSet l G xv xvl nd9 (2 ^ n + i) (by omega) (by rw [hnd]; unfold trN; omega)) yv_X9_oneSet kd9 rfl rfl q_495 ⟨rfl, rfl⟩ ⟨rfl, rfl⟩ ⟨rfl, rfl⟩ rfl rfl rfl dX10_many_83 ?_
            refine wc_topi (nI (nodeS (go p) (p 1) (2 ^ n + i))) (congrArg nI (by rw [hnd]; unfold trN; exact tr_o hz9)) ?_
            refine wc_callV X 86 [4] 4 (c_X6_hasEndIn l G nb nlb (p 1) (p 3) (nodeS (go p) (p 1) (2 ^ n + i)) ho9) yv_X6_hasEndIn kd6 rfl rfl q_494 ⟨rfl, rfl⟩ ⟨rfl, rfl⟩ ⟨rfl, rfl⟩ rfl rfl rfl dX10_many_86 ?_
            refine wc_istore X 89 (L' := [(0, .ref x), (1, .int (nI n)), (2, .int (nI 1)), (3, .int (nI (manyC p n 1 i))), (4, .int (nI (2 ^ n + i))), (5, .int (b2i ((nodeS (gz p) (p 0) (2 ^ n + i)) &&& (p 2) != 0))), (6, .int (b2i ((nodeS (go p) (p 1) (2 ^ n + i)) &&& (p 3) != 0)))]) dX10_many_89 (by decide) rfl ?_
            refine wc_iload_n X 91 3 dX10_many_91 rfl ?_
            refine wc_iload_n X 92 2 dX10_many_92 rfl ?_
            refine wc_iload X 93 5 dX10_many_93 rfl ?_
            refine wc_iload X 95 6 dX10_many_95 rfl ?_
            refine wc_callS X 97 [] (c_X10_isMeant1 l G ((nodeS (gz p) (p 0) (2 ^ n + i)) &&& (p 2) != 0) ((nodeS (go p) (p 1) (2 ^ n + i)) &&& (p 3) != 0) ) ys_X10_isMeant rfl q_496 ⟨rfl, rfl⟩ ⟨rfl, rfl⟩ ⟨rfl, rfl⟩ rfl rfl rfl dX10_many_97 ?_
            refine wc_callS X 100 [] (c_X10_bit l G (mnt 1 ((nodeS (gz p) (p 0) (2 ^ n + i)) &&& (p 2) != 0) ((nodeS (go p) (p 1) (2 ^ n + i)) &&& (p 3) != 0)) ) ys_X10_bit rfl q_410 ⟨rfl, rfl⟩ ⟨rfl, rfl⟩ ⟨rfl, rfl⟩ rfl rfl rfl dX10_many_100 ?_
            refine wc_iaddN X 103 dX10_many_103 ?_
            refine wc_istore_n X 104 (L' := [(0, .ref x), (1, .int (nI n)), (2, .int (nI 1)), (3, .int (nI ((manyC p n 1 i) + ((mnt 1 ((nodeS (gz p) (p 0) (2 ^ n + i)) &&& (p 2) != 0) ((nodeS (go p) (p 1) (2 ^ n + i)) &&& (p 3) != 0)).toNat)))), (4, .int (nI (2 ^ n + i))), (5, .int (b2i ((nodeS (gz p) (p 0) (2 ^ n + i)) &&& (p 2) != 0))), (6, .int (b2i ((nodeS (go p) (p 1) (2 ^ n + i)) &&& (p 3) != 0)))]) dX10_many_104 (by decide) rfl ?_
            refine wc_iincN X 105 4 (L' := [(0, .ref x), (1, .int (nI n)), (2, .int (nI 1)), (3, .int (nI ((manyC p n 1 i) + ((mnt 1 ((nodeS (gz p) (p 0) (2 ^ n + i)) &&& (p 2) != 0) ((nodeS (go p) (p 1) (2 ^ n + i)) &&& (p 3) != 0)).toNat)))), (4, .int (nI ((2 ^ n + i) + 1))), (5, .int (b2i ((nodeS (gz p) (p 0) (2 ^ n + i)) &&& (p 2) != 0))), (6, .int (b2i ((nodeS (go p) (p 1) (2 ^ n + i)) &&& (p 3) != 0)))]) dX10_many_105 rfl (by decide) rfl ?_
            refine wc_goto X 108 41 dX10_many_108 (by decide) ?_
            refine wc_loc [0, 1, 2, 3, 4] (L' := [(0, .ref x), (1, .int (nI n)), (2, .int (nI 1)), (3, .int (nI ((manyC p n 1 i) + ((mnt 1 ((nodeS (gz p) (p 0) (2 ^ n + i)) &&& (p 2) != 0) ((nodeS (go p) (p 1) (2 ^ n + i)) &&& (p 3) != 0)).toNat)))), (4, .int (nI ((2 ^ n + i) + 1)))]) rfl ?_
            have e_11 : (manyC p n 1 i) + ((mnt 1 ((nodeS (gz p) (p 0) (2 ^ n + i)) &&& (p 2) != 0) ((nodeS (go p) (p 1) (2 ^ n + i)) &&& (p 3) != 0)).toNat) = manyC p n 1 (i + 1) := rfl
            have e_12 : (2 ^ n + i) + 1 = 2 ^ n + (i + 1) := by omega
            refine wc_L (L' := [(0, .ref x), (1, .int (nI n)), (2, .int (nI 1)), (3, .int (nI (manyC p n 1 (i + 1)))), (4, .int (nI (2 ^ n + (i + 1))))]) (by first | (rw [e_11, e_12]; done) | (rw [e_11, e_12]; rfl) | (rw [← e_11, ← e_12]; done) | rfl) ?_
            exact ih_8 (i + 1) (by omega) (by omega)
      have e_13 : 0 = manyC p n 1 0 := rfl
      have e_14 : 2 ^ n = 2 ^ n + 0 := rfl
      refine wc_L (L' := [(0, .ref x), (1, .int (nI n)), (2, .int (nI 1)), (3, .int (nI (manyC p n 1 0))), (4, .int (nI (2 ^ n + 0)))]) (by first | (rw [e_13, e_14]; done) | (rw [e_13, e_14]; rfl) | (rw [← e_13, ← e_14]; done) | rfl) ?_
      exact LP_7 (2 ^ n - 0 + 1) 0 (by omega) (Nat.lt_succ_self _)
    ·
      exact absurd c16_4 (by decide)

set_option maxHeartbeats 4000000 in
set_option maxRecDepth 100000 in
theorem c_X10_many2 (l : Launch) (G : GG) (x xt xn xr xa xs xf xw xi sn : Nat) (sd : Int64) (xe xp xg xl xk xh xv : Nat) (na nla nb nlb : Nat) (p : Nat → Nat) (xvl : Nat) (nd : Nat → Nat) (n : Nat) (hr : pgOk p) (hn : n ≤ 9) : MM l G yX10_many (Cond.code yX10_many cX10_many 7 (some .int)) { frames := 3, cells := 0, slots := 0, locals := 74 } [.ref x, .int (nI n), .int (nI 2)] [ob x 10 [.ref xt, .ref xn, .ref xr, .ref xa, .ref xs, .ref xf, .ref xw, .ref xi, .int (nI sn), .long sd, .ref xe, .ref xp, .ref xg, .ref xl, .ref xk, .ref xh, .ref xv], ob xn 1 [.ref na, .ref nb], ob na 6 [.int (nI (p 0)), .int (nI (p 2)), .ref nla], aI G nla 10 (nF (gz p)), ob nb 6 [.int (nI (p 1)), .int (nI (p 3)), .ref nlb], aI G nlb 10 (nF (go p)), ob xv 9 [.ref xvl], aI G xvl 1024 (nF nd)] (fun (v : Option Value) (w : va_W) => ∃ (nd2 : Nat → Nat), v = some (.int (nI (manyV p n 2))) ∧ w = [ob x 10 [.ref xt, .ref xn, .ref xr, .ref xa, .ref xs, .ref xf, .ref xw, .ref xi, .int (nI sn), .long sd, .ref xe, .ref xp, .ref xg, .ref xl, .ref xk, .ref xh, .ref xv], ob xn 1 [.ref na, .ref nb], ob na 6 [.int (nI (p 0)), .int (nI (p 2)), .ref nla], aI G nla 10 (nF (gz p)), ob nb 6 [.int (nI (p 1)), .int (nI (p 3)), .ref nlb], aI G nlb 10 (nF (go p)), ob xv 9 [.ref xvl], aI G xvl 1024 (nF nd2)]) 0 0 := by
  refine MM.ofI (by decide) rfl (fun Γ X Y hnm ret => ?_)
  show Wc Γ 0 0 0 [(0, .ref x), (1, .int (nI n)), (2, .int (nI 2))] [] [ob x 10 [.ref xt, .ref xn, .ref xr, .ref xa, .ref xs, .ref xf, .ref xw, .ref xi, .int (nI sn), .long sd, .ref xe, .ref xp, .ref xg, .ref xl, .ref xk, .ref xh, .ref xv], ob xn 1 [.ref na, .ref nb], ob na 6 [.int (nI (p 0)), .int (nI (p 2)), .ref nla], aI G nla 10 (nF (gz p)), ob nb 6 [.int (nI (p 1)), .int (nI (p 3)), .ref nlb], aI G nlb 10 (nF (go p)), ob xv 9 [.ref xvl], aI G xvl 1024 (nF nd)]
  have hn0 := hr.2.1
  have hn01 := hr.1
  have hn1 := hr.2.2.2.1
  have hn11 := hr.2.2.1
  have he0 := pg_e0 hr
  have he1 := hr.2.2.2.2.1 3
  have hg0 := hr.2.2.2.2.2.1
  have hg1 := (fun j => hr.2.2.2.2.1 (12 + j) : ∀ j, go p j < 32)
  have hg0n := (hr.2.2.2.2.2.2.1 0 (by decide) : ∀ j, gz p j < 2 ^ p 0)
  have hg1n := (hr.2.2.2.2.2.2.1 1 (by decide) : ∀ j, go p j < 2 ^ p 1)
  have he0n := hr.2.2.2.2.2.2.2 0 (by decide)
  have he1n := hr.2.2.2.2.2.2.2 1 (by decide)
  have hg0w := (fun j => Nat.lt_trans (hg0 j) (by decide) : ∀ j, gz p j < 32)
  have hpn := p9 hn
  have hq0 : 0 < 2 ^ n := Nat.two_pow_pos n
  refine wc_iload_n X 0 1 dX10_many_0 rfl ?_
  refine wc_ifltF X 1 (tgt := 19) dX10_many_1 (by decide) (by omega) ?_
  refine wc_iload_n X 4 1 dX10_many_4 rfl ?_
  refine wc_bipush X 5 (nI 9) dX10_many_5 (by decide) ?_
  refine wc_icmp_gtN X 7 19 dX10_many_7 (by decide) (by omega) (by decide) (fun c7_2 => ?_) (fun c7_2 => ?_)
  ·
    exact absurd c7_2 (by omega)
  ·
    refine wc_iload_n X 10 2 dX10_many_10 rfl ?_
    refine wc_ifltF X 11 (tgt := 19) dX10_many_11 (by decide) (by decide) ?_
    refine wc_iload_n X 14 2 dX10_many_14 rfl ?_
    refine wc_iconstN X 15 3 dX10_many_15 ?_
    refine wc_icmp_leN X 16 22 dX10_many_16 (by decide) (by decide) (by decide) (fun c16_4 => ?_) (fun c16_4 => ?_)
    ·
      refine wc_aload_n X 22 0 dX10_many_22 rfl ?_
      refine wc_get X 23 0 16 kd10 rfl (by decide) q_249 rfl dX10_many_23 ?_
      refine wc_aload_n X 26 0 dX10_many_26 rfl ?_
      refine wc_get X 27 0 1 kd10 rfl (by decide) q_234 rfl dX10_many_27 ?_
      refine wc_iload_n X 30 1 dX10_many_30 rfl ?_
      refine wc_mutV X Y 31 [6, 7, 1, 2, 3, 4, 5] [0] 6 (c_X9_grow l G xv xvl nd xn na nla (p 0) (p 2) (gz p) nb nlb (p 1) (p 3) (go p) n (by first | assumption | omega) (by first | assumption | omega) (by first | assumption | omega) (by first | assumption | omega) (by first | assumption | omega) (by first | assumption | omega) hn) yv_X9_grow kd9 rfl rfl (wr := [ob x 10 [.ref xt, .ref xn, .ref xr, .ref xa, .ref xs, .ref xf, .ref xw, .ref xi, .int (nI sn), .long sd, .ref xe, .ref xp, .ref xg, .ref xl, .ref xk, .ref xh, .ref xv]]) rfl ⟨rfl, rfl, rfl⟩ q_480 ⟨rfl, rfl⟩ ⟨rfl, rfl⟩ ⟨rfl, rfl⟩ rfl rfl rfl dX10_many_31 (fun v w hp_5 => ?_)
      obtain ⟨nd9, rfl, rfl, hf9⟩ := hp_5
      refine wc_perm Y [0, 3, 4, 5, 6, 7, 1, 2] [ob x 10 [.ref xt, .ref xn, .ref xr, .ref xa, .ref xs, .ref xf, .ref xw, .ref xi, .int (nI sn), .long sd, .ref xe, .ref xp, .ref xg, .ref xl, .ref xk, .ref xh, .ref xv], ob xn 1 [.ref na, .ref nb], ob na 6 [.int (nI (p 0)), .int (nI (p 2)), .ref nla], aI G nla 10 (nF (gz p)), ob nb 6 [.int (nI (p 1)), .int (nI (p 3)), .ref nlb], aI G nlb 10 (nF (go p)), ob xv 9 [.ref xvl], aI G xvl 1024 (nF nd9)] rfl rfl ?_
      show Wc Γ 0 0 34 [(0, .ref x), (1, .int (nI n)), (2, .int (nI 2))] [] [ob x 10 [.ref xt, .ref xn, .ref xr, .ref xa, .ref xs, .ref xf, .ref xw, .ref xi, .int (nI sn), .long sd, .ref xe, .ref xp, .ref xg, .ref xl, .ref xk, .ref xh, .ref xv], ob xn 1 [.ref na, .ref nb], ob na 6 [.int (nI (p 0)), .int (nI (p 2)), .ref nla], aI G nla 10 (nF (gz p)), ob nb 6 [.int (nI (p 1)), .int (nI (p 3)), .ref nlb], aI G nlb 10 (nF (go p)), ob xv 9 [.ref xvl], aI G xvl 1024 (nF nd9)]
      refine wc_iconstN X 34 0 dX10_many_34 ?_
      refine wc_istore_n X 35 (L' := [(0, .ref x), (1, .int (nI n)), (2, .int (nI 2)), (3, .int (nI 0))]) dX10_many_35 (by decide) rfl ?_
      refine wc_iconstN X 36 1 dX10_many_36 ?_
      refine wc_iload_n X 37 1 dX10_many_37 rfl ?_
      refine wc_shl1 X 38 dX10_many_38 (by omega) ?_
      refine wc_istore X 39 (L' := [(0, .ref x), (1, .int (nI n)), (2, .int (nI 2)), (3, .int (nI 0)), (4, .int (nI (2 ^ n)))]) dX10_many_39 (by decide) rfl ?_
      have LP_7 : ∀ (fuel_6 : Nat) (i : Nat), (i ≤ 2 ^ n) → 2 ^ n - i < fuel_6 → Wc Γ 0 0 41 [(0, .ref x), (1, .int (nI n)), (2, .int (nI 2)), (3, .int (nI (manyC p n 2 i))), (4, .int (nI (2 ^ n + i)))] [] [ob x 10 [.ref xt, .ref xn, .ref xr, .ref xa, .ref xs, .ref xf, .ref xw, .ref xi, .int (nI sn), .long sd, .ref xe, .ref xp, .ref xg, .ref xl, .ref xk, .ref xh, .ref xv], ob xn 1 [.ref na, .ref nb], ob na 6 [.int (nI (p 0)), .int (nI (p 2)), .ref nla], aI G nla 10 (nF (gz p)), ob nb 6 [.int (nI (p 1)), .int (nI (p 3)), .ref nlb], aI G nlb 10 (nF (go p)), ob xv 9 [.ref xvl], aI G xvl 1024 (nF nd9)] := by
        intro fuel_6
        induction fuel_6 with
        | zero => intro i hi hm; exact absurd hm (Nat.not_lt_zero _)
        | succ fuel_6 ih_8 =>
          intro i hi hm_9
          refine wc_iload X 41 4 dX10_many_41 rfl ?_
          refine wc_iconstN X 43 2 dX10_many_43 ?_
          refine wc_iload_n X 44 1 dX10_many_44 rfl ?_
          refine wc_ishlN X 45 dX10_many_45 (by omega) (by omega) ?_
          refine wc_icmp_geN X 46 111 dX10_many_46 (by decide) (by omega) (by omega) (fun c46_10 => ?_) (fun c46_10 => ?_)
          ·
            refine wc_iload_n X 111 3 dX10_many_111 rfl ?_
            exact ret 112 _ (nI (manyC p n 2 i)) _ dX10_many_112 (⟨_, by rw [← many_eq hn, show i = 2 ^ n by omega], rfl⟩)
          ·
            have hnd := hf9 (2 ^ n + i) (by omega) (by omega)
            have hz9 : nodeS (gz p) (p 0) (2 ^ n + i) < 16 := nodeS_lt (k := 4) (by decide) hg0 _ _
            have ho9 : nodeS (go p) (p 1) (2 ^ n + i) < 32 := nodeS_lt (k := 5) (by decide) hg1 _ _
            refine wc_aload_n X 49 0 dX10_many_49 rfl ?_
            refine wc_get X 50 0 1 kd10 rfl (by decide) q_234 rfl dX10_many_50 ?_
            refine wc_get X 53 1 0 kd1 rfl (by decide) q_73 rfl dX10_many_53 ?_
            refine wc_aload_n X 56 0 dX10_many_56 rfl ?_
            refine wc_get X 57 0 16 kd10 rfl (by decide) q_249 rfl dX10_many_57 ?_
            refine wc_iload X 60 4 dX10_many_60 rfl ?_
            refine wc_callV X 62 [6, 7] 6 (c_X9_zeroSet l G xv xvl nd9 (2 ^ n + i) (by omega) (by rw [hnd]; unfold trN; omega)) yv_X9_zeroSet kd9 rfl rfl q_493 ⟨rfl, rfl⟩ ⟨rfl, rfl⟩ ⟨rfl, rfl⟩ rfl rfl rfl dX10_many_62 ?_
            refine wc_topi (nI (nodeS (gz p) (p 0) (2 ^ n + i))) (congrArg nI (by rw [hnd]; unfold trN; exact tr_z hz9)) ?_
            refine wc_callV X 65 [2] 2 (c_X6_hasEndIn l G na nla (p 0) (p 2) (nodeS (gz p) (p 0) (2 ^ n + i)) (by omega)) yv_X6_hasEndIn kd6 rfl rfl q_494 ⟨rfl, rfl⟩ ⟨rfl, rfl⟩ ⟨rfl, rfl⟩ rfl rfl rfl dX10_many_65 ?_
            refine wc_istore X 68 (L' := [(0, .ref x), (1, .int (nI n)), (2, .int (nI 2)), (3, .int (nI (manyC p n 2 i))), (4, .int (nI (2 ^ n + i))), (5, .int (b2i ((nodeS (gz p) (p 0) (2 ^ n + i)) &&& (p 2) != 0)))]) dX10_many_68 (by decide) rfl ?_
            refine wc_aload_n X 70 0 dX10_many_70 rfl ?_
            refine wc_get X 71 0 1 kd10 rfl (by decide) q_234 rfl dX10_many_71 ?_
            refine wc_get X 74 1 1 kd1 rfl (by decide) q_80 rfl dX10_many_74 ?_
            refine wc_aload_n X 77 0 dX10_many_77 rfl ?_
            refine wc_get X 78 0 16 kd10 rfl (by decide) q_249 rfl dX10_many_78 ?_
            refine wc_iload X 81 4 dX10_many_81 rfl ?_
            refine wc_callV X 83 [6, 7] 6 (c_X9_oneSet l G xv xvl nd9 (2 ^ n + i) (by omega) (by rw [hnd]; unfold trN; omega)) yv_X9_oneSet kd9 rfl rfl q_495 ⟨rfl, rfl⟩ ⟨rfl, rfl⟩ ⟨rfl, rfl⟩ rfl rfl rfl dX10_many_83 ?_
            refine wc_topi (nI (nodeS (go p) (p 1) (2 ^ n + i))) (congrArg nI (by rw [hnd]; unfold trN; exact tr_o hz9)) ?_
            refine wc_callV X 86 [4] 4 (c_X6_hasEndIn l G nb nlb (p 1) (p 3) (nodeS (go p) (p 1) (2 ^ n + i)) ho9) yv_X6_hasEndIn kd6 rfl rfl q_494 ⟨rfl, rfl⟩ ⟨rfl, rfl⟩ ⟨rfl, rfl⟩ rfl rfl rfl dX10_many_86 ?_
            refine wc_istore X 89 (L' := [(0, .ref x), (1, .int (nI n)), (2, .int (nI 2)), (3, .int (nI (manyC p n 2 i))), (4, .int (nI (2 ^ n + i))), (5, .int (b2i ((nodeS (gz p) (p 0) (2 ^ n + i)) &&& (p 2) != 0))), (6, .int (b2i ((nodeS (go p) (p 1) (2 ^ n + i)) &&& (p 3) != 0)))]) dX10_many_89 (by decide) rfl ?_
            refine wc_iload_n X 91 3 dX10_many_91 rfl ?_
            refine wc_iload_n X 92 2 dX10_many_92 rfl ?_
            refine wc_iload X 93 5 dX10_many_93 rfl ?_
            refine wc_iload X 95 6 dX10_many_95 rfl ?_
            refine wc_callS X 97 [] (c_X10_isMeant2 l G ((nodeS (gz p) (p 0) (2 ^ n + i)) &&& (p 2) != 0) ((nodeS (go p) (p 1) (2 ^ n + i)) &&& (p 3) != 0) ) ys_X10_isMeant rfl q_496 ⟨rfl, rfl⟩ ⟨rfl, rfl⟩ ⟨rfl, rfl⟩ rfl rfl rfl dX10_many_97 ?_
            refine wc_callS X 100 [] (c_X10_bit l G (mnt 2 ((nodeS (gz p) (p 0) (2 ^ n + i)) &&& (p 2) != 0) ((nodeS (go p) (p 1) (2 ^ n + i)) &&& (p 3) != 0)) ) ys_X10_bit rfl q_410 ⟨rfl, rfl⟩ ⟨rfl, rfl⟩ ⟨rfl, rfl⟩ rfl rfl rfl dX10_many_100 ?_
            refine wc_iaddN X 103 dX10_many_103 ?_
            refine wc_istore_n X 104 (L' := [(0, .ref x), (1, .int (nI n)), (2, .int (nI 2)), (3, .int (nI ((manyC p n 2 i) + ((mnt 2 ((nodeS (gz p) (p 0) (2 ^ n + i)) &&& (p 2) != 0) ((nodeS (go p) (p 1) (2 ^ n + i)) &&& (p 3) != 0)).toNat)))), (4, .int (nI (2 ^ n + i))), (5, .int (b2i ((nodeS (gz p) (p 0) (2 ^ n + i)) &&& (p 2) != 0))), (6, .int (b2i ((nodeS (go p) (p 1) (2 ^ n + i)) &&& (p 3) != 0)))]) dX10_many_104 (by decide) rfl ?_
            refine wc_iincN X 105 4 (L' := [(0, .ref x), (1, .int (nI n)), (2, .int (nI 2)), (3, .int (nI ((manyC p n 2 i) + ((mnt 2 ((nodeS (gz p) (p 0) (2 ^ n + i)) &&& (p 2) != 0) ((nodeS (go p) (p 1) (2 ^ n + i)) &&& (p 3) != 0)).toNat)))), (4, .int (nI ((2 ^ n + i) + 1))), (5, .int (b2i ((nodeS (gz p) (p 0) (2 ^ n + i)) &&& (p 2) != 0))), (6, .int (b2i ((nodeS (go p) (p 1) (2 ^ n + i)) &&& (p 3) != 0)))]) dX10_many_105 rfl (by decide) rfl ?_
            refine wc_goto X 108 41 dX10_many_108 (by decide) ?_
            refine wc_loc [0, 1, 2, 3, 4] (L' := [(0, .ref x), (1, .int (nI n)), (2, .int (nI 2)), (3, .int (nI ((manyC p n 2 i) + ((mnt 2 ((nodeS (gz p) (p 0) (2 ^ n + i)) &&& (p 2) != 0) ((nodeS (go p) (p 1) (2 ^ n + i)) &&& (p 3) != 0)).toNat)))), (4, .int (nI ((2 ^ n + i) + 1)))]) rfl ?_
            have e_11 : (manyC p n 2 i) + ((mnt 2 ((nodeS (gz p) (p 0) (2 ^ n + i)) &&& (p 2) != 0) ((nodeS (go p) (p 1) (2 ^ n + i)) &&& (p 3) != 0)).toNat) = manyC p n 2 (i + 1) := rfl
            have e_12 : (2 ^ n + i) + 1 = 2 ^ n + (i + 1) := by omega
            refine wc_L (L' := [(0, .ref x), (1, .int (nI n)), (2, .int (nI 2)), (3, .int (nI (manyC p n 2 (i + 1)))), (4, .int (nI (2 ^ n + (i + 1))))]) (by first | (rw [e_11, e_12]; done) | (rw [e_11, e_12]; rfl) | (rw [← e_11, ← e_12]; done) | rfl) ?_
            exact ih_8 (i + 1) (by omega) (by omega)
      have e_13 : 0 = manyC p n 2 0 := rfl
      have e_14 : 2 ^ n = 2 ^ n + 0 := rfl
      refine wc_L (L' := [(0, .ref x), (1, .int (nI n)), (2, .int (nI 2)), (3, .int (nI (manyC p n 2 0))), (4, .int (nI (2 ^ n + 0)))]) (by first | (rw [e_13, e_14]; done) | (rw [e_13, e_14]; rfl) | (rw [← e_13, ← e_14]; done) | rfl) ?_
      exact LP_7 (2 ^ n - 0 + 1) 0 (by omega) (Nat.lt_succ_self _)
    ·
      exact absurd c16_4 (by decide)

set_option maxHeartbeats 4000000 in
set_option maxRecDepth 100000 in
theorem c_X10_many3 (l : Launch) (G : GG) (x xt xn xr xa xs xf xw xi sn : Nat) (sd : Int64) (xe xp xg xl xk xh xv : Nat) (na nla nb nlb : Nat) (p : Nat → Nat) (xvl : Nat) (nd : Nat → Nat) (n : Nat) (hr : pgOk p) (hn : n ≤ 9) : MM l G yX10_many (Cond.code yX10_many cX10_many 7 (some .int)) { frames := 3, cells := 0, slots := 0, locals := 74 } [.ref x, .int (nI n), .int (nI 3)] [ob x 10 [.ref xt, .ref xn, .ref xr, .ref xa, .ref xs, .ref xf, .ref xw, .ref xi, .int (nI sn), .long sd, .ref xe, .ref xp, .ref xg, .ref xl, .ref xk, .ref xh, .ref xv], ob xn 1 [.ref na, .ref nb], ob na 6 [.int (nI (p 0)), .int (nI (p 2)), .ref nla], aI G nla 10 (nF (gz p)), ob nb 6 [.int (nI (p 1)), .int (nI (p 3)), .ref nlb], aI G nlb 10 (nF (go p)), ob xv 9 [.ref xvl], aI G xvl 1024 (nF nd)] (fun (v : Option Value) (w : va_W) => ∃ (nd2 : Nat → Nat), v = some (.int (nI (manyV p n 3))) ∧ w = [ob x 10 [.ref xt, .ref xn, .ref xr, .ref xa, .ref xs, .ref xf, .ref xw, .ref xi, .int (nI sn), .long sd, .ref xe, .ref xp, .ref xg, .ref xl, .ref xk, .ref xh, .ref xv], ob xn 1 [.ref na, .ref nb], ob na 6 [.int (nI (p 0)), .int (nI (p 2)), .ref nla], aI G nla 10 (nF (gz p)), ob nb 6 [.int (nI (p 1)), .int (nI (p 3)), .ref nlb], aI G nlb 10 (nF (go p)), ob xv 9 [.ref xvl], aI G xvl 1024 (nF nd2)]) 0 0 := by
  refine MM.ofI (by decide) rfl (fun Γ X Y hnm ret => ?_)
  show Wc Γ 0 0 0 [(0, .ref x), (1, .int (nI n)), (2, .int (nI 3))] [] [ob x 10 [.ref xt, .ref xn, .ref xr, .ref xa, .ref xs, .ref xf, .ref xw, .ref xi, .int (nI sn), .long sd, .ref xe, .ref xp, .ref xg, .ref xl, .ref xk, .ref xh, .ref xv], ob xn 1 [.ref na, .ref nb], ob na 6 [.int (nI (p 0)), .int (nI (p 2)), .ref nla], aI G nla 10 (nF (gz p)), ob nb 6 [.int (nI (p 1)), .int (nI (p 3)), .ref nlb], aI G nlb 10 (nF (go p)), ob xv 9 [.ref xvl], aI G xvl 1024 (nF nd)]
  have hn0 := hr.2.1
  have hn01 := hr.1
  have hn1 := hr.2.2.2.1
  have hn11 := hr.2.2.1
  have he0 := pg_e0 hr
  have he1 := hr.2.2.2.2.1 3
  have hg0 := hr.2.2.2.2.2.1
  have hg1 := (fun j => hr.2.2.2.2.1 (12 + j) : ∀ j, go p j < 32)
  have hg0n := (hr.2.2.2.2.2.2.1 0 (by decide) : ∀ j, gz p j < 2 ^ p 0)
  have hg1n := (hr.2.2.2.2.2.2.1 1 (by decide) : ∀ j, go p j < 2 ^ p 1)
  have he0n := hr.2.2.2.2.2.2.2 0 (by decide)
  have he1n := hr.2.2.2.2.2.2.2 1 (by decide)
  have hg0w := (fun j => Nat.lt_trans (hg0 j) (by decide) : ∀ j, gz p j < 32)
  have hpn := p9 hn
  have hq0 : 0 < 2 ^ n := Nat.two_pow_pos n
  refine wc_iload_n X 0 1 dX10_many_0 rfl ?_
  refine wc_ifltF X 1 (tgt := 19) dX10_many_1 (by decide) (by omega) ?_
  refine wc_iload_n X 4 1 dX10_many_4 rfl ?_
  refine wc_bipush X 5 (nI 9) dX10_many_5 (by decide) ?_
  refine wc_icmp_gtN X 7 19 dX10_many_7 (by decide) (by omega) (by decide) (fun c7_2 => ?_) (fun c7_2 => ?_)
  ·
    exact absurd c7_2 (by omega)
  ·
    refine wc_iload_n X 10 2 dX10_many_10 rfl ?_
    refine wc_ifltF X 11 (tgt := 19) dX10_many_11 (by decide) (by decide) ?_
    refine wc_iload_n X 14 2 dX10_many_14 rfl ?_
    refine wc_iconstN X 15 3 dX10_many_15 ?_
    refine wc_icmp_leN X 16 22 dX10_many_16 (by decide) (by decide) (by decide) (fun c16_4 => ?_) (fun c16_4 => ?_)
    ·
      refine wc_aload_n X 22 0 dX10_many_22 rfl ?_
      refine wc_get X 23 0 16 kd10 rfl (by decide) q_249 rfl dX10_many_23 ?_
      refine wc_aload_n X 26 0 dX10_many_26 rfl ?_
      refine wc_get X 27 0 1 kd10 rfl (by decide) q_234 rfl dX10_many_27 ?_
      refine wc_iload_n X 30 1 dX10_many_30 rfl ?_
      refine wc_mutV X Y 31 [6, 7, 1, 2, 3, 4, 5] [0] 6 (c_X9_grow l G xv xvl nd xn na nla (p 0) (p 2) (gz p) nb nlb (p 1) (p 3) (go p) n (by first | assumption | omega) (by first | assumption | omega) (by first | assumption | omega) (by first | assumption | omega) (by first | assumption | omega) (by first | assumption | omega) hn) yv_X9_grow kd9 rfl rfl (wr := [ob x 10 [.ref xt, .ref xn, .ref xr, .ref xa, .ref xs, .ref xf, .ref xw, .ref xi, .int (nI sn), .long sd, .ref xe, .ref xp, .ref xg, .ref xl, .ref xk, .ref xh, .ref xv]]) rfl ⟨rfl, rfl, rfl⟩ q_480 ⟨rfl, rfl⟩ ⟨rfl, rfl⟩ ⟨rfl, rfl⟩ rfl rfl rfl dX10_many_31 (fun v w hp_5 => ?_)
      obtain ⟨nd9, rfl, rfl, hf9⟩ := hp_5
      refine wc_perm Y [0, 3, 4, 5, 6, 7, 1, 2] [ob x 10 [.ref xt, .ref xn, .ref xr, .ref xa, .ref xs, .ref xf, .ref xw, .ref xi, .int (nI sn), .long sd, .ref xe, .ref xp, .ref xg, .ref xl, .ref xk, .ref xh, .ref xv], ob xn 1 [.ref na, .ref nb], ob na 6 [.int (nI (p 0)), .int (nI (p 2)), .ref nla], aI G nla 10 (nF (gz p)), ob nb 6 [.int (nI (p 1)), .int (nI (p 3)), .ref nlb], aI G nlb 10 (nF (go p)), ob xv 9 [.ref xvl], aI G xvl 1024 (nF nd9)] rfl rfl ?_
      show Wc Γ 0 0 34 [(0, .ref x), (1, .int (nI n)), (2, .int (nI 3))] [] [ob x 10 [.ref xt, .ref xn, .ref xr, .ref xa, .ref xs, .ref xf, .ref xw, .ref xi, .int (nI sn), .long sd, .ref xe, .ref xp, .ref xg, .ref xl, .ref xk, .ref xh, .ref xv], ob xn 1 [.ref na, .ref nb], ob na 6 [.int (nI (p 0)), .int (nI (p 2)), .ref nla], aI G nla 10 (nF (gz p)), ob nb 6 [.int (nI (p 1)), .int (nI (p 3)), .ref nlb], aI G nlb 10 (nF (go p)), ob xv 9 [.ref xvl], aI G xvl 1024 (nF nd9)]
      refine wc_iconstN X 34 0 dX10_many_34 ?_
      refine wc_istore_n X 35 (L' := [(0, .ref x), (1, .int (nI n)), (2, .int (nI 3)), (3, .int (nI 0))]) dX10_many_35 (by decide) rfl ?_
      refine wc_iconstN X 36 1 dX10_many_36 ?_
      refine wc_iload_n X 37 1 dX10_many_37 rfl ?_
      refine wc_shl1 X 38 dX10_many_38 (by omega) ?_
      refine wc_istore X 39 (L' := [(0, .ref x), (1, .int (nI n)), (2, .int (nI 3)), (3, .int (nI 0)), (4, .int (nI (2 ^ n)))]) dX10_many_39 (by decide) rfl ?_
      have LP_7 : ∀ (fuel_6 : Nat) (i : Nat), (i ≤ 2 ^ n) → 2 ^ n - i < fuel_6 → Wc Γ 0 0 41 [(0, .ref x), (1, .int (nI n)), (2, .int (nI 3)), (3, .int (nI (manyC p n 3 i))), (4, .int (nI (2 ^ n + i)))] [] [ob x 10 [.ref xt, .ref xn, .ref xr, .ref xa, .ref xs, .ref xf, .ref xw, .ref xi, .int (nI sn), .long sd, .ref xe, .ref xp, .ref xg, .ref xl, .ref xk, .ref xh, .ref xv], ob xn 1 [.ref na, .ref nb], ob na 6 [.int (nI (p 0)), .int (nI (p 2)), .ref nla], aI G nla 10 (nF (gz p)), ob nb 6 [.int (nI (p 1)), .int (nI (p 3)), .ref nlb], aI G nlb 10 (nF (go p)), ob xv 9 [.ref xvl], aI G xvl 1024 (nF nd9)] := by
        intro fuel_6
        induction fuel_6 with
        | zero => intro i hi hm; exact absurd hm (Nat.not_lt_zero _)
        | succ fuel_6 ih_8 =>
          intro i hi hm_9
          refine wc_iload X 41 4 dX10_many_41 rfl ?_
          refine wc_iconstN X 43 2 dX10_many_43 ?_
          refine wc_iload_n X 44 1 dX10_many_44 rfl ?_
          refine wc_ishlN X 45 dX10_many_45 (by omega) (by omega) ?_
          refine wc_icmp_geN X 46 111 dX10_many_46 (by decide) (by omega) (by omega) (fun c46_10 => ?_) (fun c46_10 => ?_)
          ·
            refine wc_iload_n X 111 3 dX10_many_111 rfl ?_
            exact ret 112 _ (nI (manyC p n 3 i)) _ dX10_many_112 (⟨_, by rw [← many_eq hn, show i = 2 ^ n by omega], rfl⟩)
          ·
            have hnd := hf9 (2 ^ n + i) (by omega) (by omega)
            have hz9 : nodeS (gz p) (p 0) (2 ^ n + i) < 16 := nodeS_lt (k := 4) (by decide) hg0 _ _
            have ho9 : nodeS (go p) (p 1) (2 ^ n + i) < 32 := nodeS_lt (k := 5) (by decide) hg1 _ _
            refine wc_aload_n X 49 0 dX10_many_49 rfl ?_
            refine wc_get X 50 0 1 kd10 rfl (by decide) q_234 rfl dX10_many_50 ?_
            refine wc_get X 53 1 0 kd1 rfl (by decide) q_73 rfl dX10_many_53 ?_
            refine wc_aload_n X 56 0 dX10_many_56 rfl ?_
            refine wc_get X 57 0 16 kd10 rfl (by decide) q_249 rfl dX10_many_57 ?_
            refine wc_iload X 60 4 dX10_many_60 rfl ?_
            refine wc_callV X 62 [6, 7] 6 (c_X9_zeroSet l G xv xvl nd9 (2 ^ n + i) (by omega) (by rw [hnd]; unfold trN; omega)) yv_X9_zeroSet kd9 rfl rfl q_493 ⟨rfl, rfl⟩ ⟨rfl, rfl⟩ ⟨rfl, rfl⟩ rfl rfl rfl dX10_many_62 ?_
            refine wc_topi (nI (nodeS (gz p) (p 0) (2 ^ n + i))) (congrArg nI (by rw [hnd]; unfold trN; exact tr_z hz9)) ?_
            refine wc_callV X 65 [2] 2 (c_X6_hasEndIn l G na nla (p 0) (p 2) (nodeS (gz p) (p 0) (2 ^ n + i)) (by omega)) yv_X6_hasEndIn kd6 rfl rfl q_494 ⟨rfl, rfl⟩ ⟨rfl, rfl⟩ ⟨rfl, rfl⟩ rfl rfl rfl dX10_many_65 ?_
            refine wc_istore X 68 (L' := [(0, .ref x), (1, .int (nI n)), (2, .int (nI 3)), (3, .int (nI (manyC p n 3 i))), (4, .int (nI (2 ^ n + i))), (5, .int (b2i ((nodeS (gz p) (p 0) (2 ^ n + i)) &&& (p 2) != 0)))]) dX10_many_68 (by decide) rfl ?_
            refine wc_aload_n X 70 0 dX10_many_70 rfl ?_
            refine wc_get X 71 0 1 kd10 rfl (by decide) q_234 rfl dX10_many_71 ?_
            refine wc_get X 74 1 1 kd1 rfl (by decide) q_80 rfl dX10_many_74 ?_
            refine wc_aload_n X 77 0 dX10_many_77 rfl ?_
            refine wc_get X 78 0 16 kd10 rfl (by decide) q_249 rfl dX10_many_78 ?_
            refine wc_iload X 81 4 dX10_many_81 rfl ?_
            refine wc_callV X 83 [6, 7] 6 (c_X9_oneSet l G xv xvl nd9 (2 ^ n + i) (by omega) (by rw [hnd]; unfold trN; omega)) yv_X9_oneSet kd9 rfl rfl q_495 ⟨rfl, rfl⟩ ⟨rfl, rfl⟩ ⟨rfl, rfl⟩ rfl rfl rfl dX10_many_83 ?_
            refine wc_topi (nI (nodeS (go p) (p 1) (2 ^ n + i))) (congrArg nI (by rw [hnd]; unfold trN; exact tr_o hz9)) ?_
            refine wc_callV X 86 [4] 4 (c_X6_hasEndIn l G nb nlb (p 1) (p 3) (nodeS (go p) (p 1) (2 ^ n + i)) ho9) yv_X6_hasEndIn kd6 rfl rfl q_494 ⟨rfl, rfl⟩ ⟨rfl, rfl⟩ ⟨rfl, rfl⟩ rfl rfl rfl dX10_many_86 ?_
            refine wc_istore X 89 (L' := [(0, .ref x), (1, .int (nI n)), (2, .int (nI 3)), (3, .int (nI (manyC p n 3 i))), (4, .int (nI (2 ^ n + i))), (5, .int (b2i ((nodeS (gz p) (p 0) (2 ^ n + i)) &&& (p 2) != 0))), (6, .int (b2i ((nodeS (go p) (p 1) (2 ^ n + i)) &&& (p 3) != 0)))]) dX10_many_89 (by decide) rfl ?_
            refine wc_iload_n X 91 3 dX10_many_91 rfl ?_
            refine wc_iload_n X 92 2 dX10_many_92 rfl ?_
            refine wc_iload X 93 5 dX10_many_93 rfl ?_
            refine wc_iload X 95 6 dX10_many_95 rfl ?_
            refine wc_callS X 97 [] (c_X10_isMeant3 l G ((nodeS (gz p) (p 0) (2 ^ n + i)) &&& (p 2) != 0) ((nodeS (go p) (p 1) (2 ^ n + i)) &&& (p 3) != 0) ) ys_X10_isMeant rfl q_496 ⟨rfl, rfl⟩ ⟨rfl, rfl⟩ ⟨rfl, rfl⟩ rfl rfl rfl dX10_many_97 ?_
            refine wc_callS X 100 [] (c_X10_bit l G (mnt 3 ((nodeS (gz p) (p 0) (2 ^ n + i)) &&& (p 2) != 0) ((nodeS (go p) (p 1) (2 ^ n + i)) &&& (p 3) != 0)) ) ys_X10_bit rfl q_410 ⟨rfl, rfl⟩ ⟨rfl, rfl⟩ ⟨rfl, rfl⟩ rfl rfl rfl dX10_many_100 ?_
            refine wc_iaddN X 103 dX10_many_103 ?_
            refine wc_istore_n X 104 (L' := [(0, .ref x), (1, .int (nI n)), (2, .int (nI 3)), (3, .int (nI ((manyC p n 3 i) + ((mnt 3 ((nodeS (gz p) (p 0) (2 ^ n + i)) &&& (p 2) != 0) ((nodeS (go p) (p 1) (2 ^ n + i)) &&& (p 3) != 0)).toNat)))), (4, .int (nI (2 ^ n + i))), (5, .int (b2i ((nodeS (gz p) (p 0) (2 ^ n + i)) &&& (p 2) != 0))), (6, .int (b2i ((nodeS (go p) (p 1) (2 ^ n + i)) &&& (p 3) != 0)))]) dX10_many_104 (by decide) rfl ?_
            refine wc_iincN X 105 4 (L' := [(0, .ref x), (1, .int (nI n)), (2, .int (nI 3)), (3, .int (nI ((manyC p n 3 i) + ((mnt 3 ((nodeS (gz p) (p 0) (2 ^ n + i)) &&& (p 2) != 0) ((nodeS (go p) (p 1) (2 ^ n + i)) &&& (p 3) != 0)).toNat)))), (4, .int (nI ((2 ^ n + i) + 1))), (5, .int (b2i ((nodeS (gz p) (p 0) (2 ^ n + i)) &&& (p 2) != 0))), (6, .int (b2i ((nodeS (go p) (p 1) (2 ^ n + i)) &&& (p 3) != 0)))]) dX10_many_105 rfl (by decide) rfl ?_
            refine wc_goto X 108 41 dX10_many_108 (by decide) ?_
            refine wc_loc [0, 1, 2, 3, 4] (L' := [(0, .ref x), (1, .int (nI n)), (2, .int (nI 3)), (3, .int (nI ((manyC p n 3 i) + ((mnt 3 ((nodeS (gz p) (p 0) (2 ^ n + i)) &&& (p 2) != 0) ((nodeS (go p) (p 1) (2 ^ n + i)) &&& (p 3) != 0)).toNat)))), (4, .int (nI ((2 ^ n + i) + 1)))]) rfl ?_
            have e_11 : (manyC p n 3 i) + ((mnt 3 ((nodeS (gz p) (p 0) (2 ^ n + i)) &&& (p 2) != 0) ((nodeS (go p) (p 1) (2 ^ n + i)) &&& (p 3) != 0)).toNat) = manyC p n 3 (i + 1) := rfl
            have e_12 : (2 ^ n + i) + 1 = 2 ^ n + (i + 1) := by omega
            refine wc_L (L' := [(0, .ref x), (1, .int (nI n)), (2, .int (nI 3)), (3, .int (nI (manyC p n 3 (i + 1)))), (4, .int (nI (2 ^ n + (i + 1))))]) (by first | (rw [e_11, e_12]; done) | (rw [e_11, e_12]; rfl) | (rw [← e_11, ← e_12]; done) | rfl) ?_
            exact ih_8 (i + 1) (by omega) (by omega)
      have e_13 : 0 = manyC p n 3 0 := rfl
      have e_14 : 2 ^ n = 2 ^ n + 0 := rfl
      refine wc_L (L' := [(0, .ref x), (1, .int (nI n)), (2, .int (nI 3)), (3, .int (nI (manyC p n 3 0))), (4, .int (nI (2 ^ n + 0)))]) (by first | (rw [e_13, e_14]; done) | (rw [e_13, e_14]; rfl) | (rw [← e_13, ← e_14]; done) | rfl) ?_
      exact LP_7 (2 ^ n - 0 + 1) 0 (by omega) (Nat.lt_succ_self _)
    ·
      exact absurd c16_4 (by decide)

set_option maxHeartbeats 4000000 in
set_option maxRecDepth 100000 in
theorem c_X10_shareF (l : Launch) (G : GG) (x xt xn xr xa xs xf xw xi sn : Nat) (sd : Int64) (xe xp xg xl xk xh xv : Nat) (na nla nb nlb : Nat) (p : Nat → Nat) (i : Int32) (u : Bool) (hb : knB (p 1) i = false) : RM l G yX10_share (Cond.code yX10_share cX10_share 5 (some .int)) { frames := 1, cells := 0, slots := 0, locals := 21 } [.ref x, .int i, .int (b2i u)] [ob x 10 [.ref xt, .ref xn, .ref xr, .ref xa, .ref xs, .ref xf, .ref xw, .ref xi, .int (nI sn), .long sd, .ref xe, .ref xp, .ref xg, .ref xl, .ref xk, .ref xh, .ref xv], ob xn 1 [.ref na, .ref nb], ob na 6 [.int (nI (p 0)), .int (nI (p 2)), .ref nla], aI G nla 10 (nF (gz p)), ob nb 6 [.int (nI (p 1)), .int (nI (p 3)), .ref nlb], aI G nlb 10 (nF (go p))] (.int (-1)) := by
  refine RM.ofI (by decide) rfl (fun Γ X ret => ?_)
  show Wc Γ 0 0 0 [(0, .ref x), (1, .int i), (2, .int (b2i u))] [] [ob x 10 [.ref xt, .ref xn, .ref xr, .ref xa, .ref xs, .ref xf, .ref xw, .ref xi, .int (nI sn), .long sd, .ref xe, .ref xp, .ref xg, .ref xl, .ref xk, .ref xh, .ref xv], ob xn 1 [.ref na, .ref nb], ob na 6 [.int (nI (p 0)), .int (nI (p 2)), .ref nla], aI G nla 10 (nF (gz p)), ob nb 6 [.int (nI (p 1)), .int (nI (p 3)), .ref nlb], aI G nlb 10 (nF (go p))]
  refine wc_aload_n X 0 0 dX10_share_0 rfl ?_
  refine wc_get X 1 0 1 kd10 rfl (by decide) q_234 rfl dX10_share_1 ?_
  refine wc_get X 4 1 1 kd1 rfl (by decide) q_80 rfl dX10_share_4 ?_
  refine wc_iload_n X 7 1 dX10_share_7 rfl ?_
  refine wc_callV X 8 [4] 4 (c_X6_knows l G nb nlb (p 1) (p 3) i ) yv_X6_knows kd6 rfl rfl q_407 ⟨rfl, rfl⟩ ⟨rfl, rfl⟩ ⟨rfl, rfl⟩ rfl rfl rfl dX10_share_8 ?_
  refine wc_if_neB X 11 16 dX10_share_11 (by decide) (fun c11_1 => ?_) (fun c11_1 => ?_)
  ·
    exact absurd (show knB (p 1) i = true from c11_1) (by rw [hb]; decide)
  ·
    refine wc_iconst X 14 (-1) dX10_share_14 (by decide) ?_
    exact ret 15 _ (-1) dX10_share_15 (rfl)

set_option maxHeartbeats 4000000 in
set_option maxRecDepth 100000 in
theorem c_X10_shareN (l : Launch) (G : GG) (x xt xn xr xa xs xf xw xi sn : Nat) (sd : Int64) (xe xp xg xl xk xh xv : Nat) (na nla nb nlb : Nat) (p : Nat → Nat) (i : Nat) (u : Bool) (hr : pgOk p) (hi : i < p 1) (hb : Nat.testBit (p 3) i = false) : RM l G yX10_share (Cond.code yX10_share cX10_share 5 (some .int)) { frames := 2, cells := 0, slots := 0, locals := 42 } [.ref x, .int (nI i), .int (b2i u)] [ob x 10 [.ref xt, .ref xn, .ref xr, .ref xa, .ref xs, .ref xf, .ref xw, .ref xi, .int (nI sn), .long sd, .ref xe, .ref xp, .ref xg, .ref xl, .ref xk, .ref xh, .ref xv], ob xn 1 [.ref na, .ref nb], ob na 6 [.int (nI (p 0)), .int (nI (p 2)), .ref nla], aI G nla 10 (nF (gz p)), ob nb 6 [.int (nI (p 1)), .int (nI (p 3)), .ref nlb], aI G nlb 10 (nF (go p))] (.int (-3)) := by
  refine RM.ofI (by decide) rfl (fun Γ X ret => ?_)
  show Wc Γ 0 0 0 [(0, .ref x), (1, .int (nI i)), (2, .int (b2i u))] [] [ob x 10 [.ref xt, .ref xn, .ref xr, .ref xa, .ref xs, .ref xf, .ref xw, .ref xi, .int (nI sn), .long sd, .ref xe, .ref xp, .ref xg, .ref xl, .ref xk, .ref xh, .ref xv], ob xn 1 [.ref na, .ref nb], ob na 6 [.int (nI (p 0)), .int (nI (p 2)), .ref nla], aI G nla 10 (nF (gz p)), ob nb 6 [.int (nI (p 1)), .int (nI (p 3)), .ref nlb], aI G nlb 10 (nF (go p))]
  have hn0 := hr.2.1
  have hn01 := hr.1
  have hn1 := hr.2.2.2.1
  have hn11 := hr.2.2.1
  have he0 := pg_e0 hr
  have he1 := hr.2.2.2.2.1 3
  have hg0 := hr.2.2.2.2.2.1
  have hg1 := (fun j => hr.2.2.2.2.1 (12 + j) : ∀ j, go p j < 32)
  have hg0n := (hr.2.2.2.2.2.2.1 0 (by decide) : ∀ j, gz p j < 2 ^ p 0)
  have hg1n := (hr.2.2.2.2.2.2.1 1 (by decide) : ∀ j, go p j < 2 ^ p 1)
  have he0n := hr.2.2.2.2.2.2.2 0 (by decide)
  have he1n := hr.2.2.2.2.2.2.2 1 (by decide)
  have hg0w := (fun j => Nat.lt_trans (hg0 j) (by decide) : ∀ j, gz p j < 32)
  refine wc_aload_n X 0 0 dX10_share_0 rfl ?_
  refine wc_get X 1 0 1 kd10 rfl (by decide) q_234 rfl dX10_share_1 ?_
  refine wc_get X 4 1 1 kd1 rfl (by decide) q_80 rfl dX10_share_4 ?_
  refine wc_iload_n X 7 1 dX10_share_7 rfl ?_
  refine wc_callV X 8 [4] 4 (c_X6_knowsN l G nb nlb (p 1) (p 3) i (by omega) (by first | assumption | omega)) yv_X6_knows kd6 rfl rfl q_407 ⟨rfl, rfl⟩ ⟨rfl, rfl⟩ ⟨rfl, rfl⟩ rfl rfl rfl dX10_share_8 ?_
  refine wc_topi (b2i true) (congrArg b2i (decide_eq_true hi)) ?_
  refine wc_if_neB X 11 16 dX10_share_11 (by decide) (fun c11_1 => ?_) (fun c11_1 => ?_)
  ·
    refine wc_aload_n X 16 0 dX10_share_16 rfl ?_
    refine wc_get X 17 0 1 kd10 rfl (by decide) q_234 rfl dX10_share_17 ?_
    refine wc_get X 20 1 1 kd1 rfl (by decide) q_80 rfl dX10_share_20 ?_
    refine wc_iload_n X 23 1 dX10_share_23 rfl ?_
    refine wc_callV X 24 [4] 4 (c_X6_isEnd l G nb nlb (p 1) (p 3) i (by omega) (by first | assumption | omega) (by first | assumption | omega)) yv_X6_isEnd kd6 rfl rfl q_433 ⟨rfl, rfl⟩ ⟨rfl, rfl⟩ ⟨rfl, rfl⟩ rfl rfl rfl dX10_share_24 ?_
    refine wc_topi (b2i false) (congrArg b2i (by rw [hb, Bool.and_false])) ?_
    refine wc_if_neB X 27 33 dX10_share_27 (by decide) (fun c27_2 => ?_) (fun c27_2 => ?_)
    ·
      exact absurd c27_2 (by decide)
    ·
      refine wc_bipush X 30 (-3) dX10_share_30 (by decide) ?_
      exact ret 32 _ (-3) dX10_share_32 (rfl)
  ·
    exact absurd c11_1 (by decide)

set_option maxHeartbeats 4000000 in
set_option maxRecDepth 100000 in
theorem c_X10_shareS (l : Launch) (G : GG) (x xt xn xr xa xs xf xw xi sn : Nat) (sd : Int64) (xe xp xg xl xk xh xv : Nat) (na nla nb nlb : Nat) (p : Nat → Nat) (xvl : Nat) (nd : Nat → Nat) (i : Nat) (u : Bool) (hr : pgOk p) (hi : i < p 1) (hb : Nat.testBit (p 3) i = true) : MM l G yX10_share (Cond.code yX10_share cX10_share 5 (some .int)) { frames := 3, cells := 0, slots := 0, locals := 74 } [.ref x, .int (nI i), .int (b2i u)] [ob x 10 [.ref xt, .ref xn, .ref xr, .ref xa, .ref xs, .ref xf, .ref xw, .ref xi, .int (nI sn), .long sd, .ref xe, .ref xp, .ref xg, .ref xl, .ref xk, .ref xh, .ref xv], ob xn 1 [.ref na, .ref nb], ob na 6 [.int (nI (p 0)), .int (nI (p 2)), .ref nla], aI G nla 10 (nF (gz p)), ob nb 6 [.int (nI (p 1)), .int (nI (p 3)), .ref nlb], aI G nlb 10 (nF (go p)), ob xv 9 [.ref xvl], aI G xvl 1024 (nF nd)] (fun (v : Option Value) (w : va_W) => ∃ (nd2 : Nat → Nat), v = some (.int (nI (frac (shSum p i (2 ^ 7 - 1)) 60 u))) ∧ w = [ob x 10 [.ref xt, .ref xn, .ref xr, .ref xa, .ref xs, .ref xf, .ref xw, .ref xi, .int (nI sn), .long sd, .ref xe, .ref xp, .ref xg, .ref xl, .ref xk, .ref xh, .ref xv], ob xn 1 [.ref na, .ref nb], ob na 6 [.int (nI (p 0)), .int (nI (p 2)), .ref nla], aI G nla 10 (nF (gz p)), ob nb 6 [.int (nI (p 1)), .int (nI (p 3)), .ref nlb], aI G nlb 10 (nF (go p)), ob xv 9 [.ref xvl], aI G xvl 1024 (nF nd2)]) 0 0 := by
  refine MM.ofI (by decide) rfl (fun Γ X Y hnm ret => ?_)
  show Wc Γ 0 0 0 [(0, .ref x), (1, .int (nI i)), (2, .int (b2i u))] [] [ob x 10 [.ref xt, .ref xn, .ref xr, .ref xa, .ref xs, .ref xf, .ref xw, .ref xi, .int (nI sn), .long sd, .ref xe, .ref xp, .ref xg, .ref xl, .ref xk, .ref xh, .ref xv], ob xn 1 [.ref na, .ref nb], ob na 6 [.int (nI (p 0)), .int (nI (p 2)), .ref nla], aI G nla 10 (nF (gz p)), ob nb 6 [.int (nI (p 1)), .int (nI (p 3)), .ref nlb], aI G nlb 10 (nF (go p)), ob xv 9 [.ref xvl], aI G xvl 1024 (nF nd)]
  have hn0 := hr.2.1
  have hn01 := hr.1
  have hn1 := hr.2.2.2.1
  have hn11 := hr.2.2.1
  have he0 := pg_e0 hr
  have he1 := hr.2.2.2.2.1 3
  have hg0 := hr.2.2.2.2.2.1
  have hg1 := (fun j => hr.2.2.2.2.1 (12 + j) : ∀ j, go p j < 32)
  have hg0n := (hr.2.2.2.2.2.2.1 0 (by decide) : ∀ j, gz p j < 2 ^ p 0)
  have hg1n := (hr.2.2.2.2.2.2.1 1 (by decide) : ∀ j, go p j < 2 ^ p 1)
  have he0n := hr.2.2.2.2.2.2.2 0 (by decide)
  have he1n := hr.2.2.2.2.2.2.2 1 (by decide)
  have hg0w := (fun j => Nat.lt_trans (hg0 j) (by decide) : ∀ j, gz p j < 32)
  have hi5 : i < 5 := by omega
  refine wc_aload_n X 0 0 dX10_share_0 rfl ?_
  refine wc_get X 1 0 1 kd10 rfl (by decide) q_234 rfl dX10_share_1 ?_
  refine wc_get X 4 1 1 kd1 rfl (by decide) q_80 rfl dX10_share_4 ?_
  refine wc_iload_n X 7 1 dX10_share_7 rfl ?_
  refine wc_callV X 8 [4] 4 (c_X6_knowsN l G nb nlb (p 1) (p 3) i (by omega) (by first | assumption | omega)) yv_X6_knows kd6 rfl rfl q_407 ⟨rfl, rfl⟩ ⟨rfl, rfl⟩ ⟨rfl, rfl⟩ rfl rfl rfl dX10_share_8 ?_
  refine wc_topi (b2i true) (congrArg b2i (decide_eq_true hi)) ?_
  refine wc_if_neB X 11 16 dX10_share_11 (by decide) (fun c11_1 => ?_) (fun c11_1 => ?_)
  ·
    refine wc_aload_n X 16 0 dX10_share_16 rfl ?_
    refine wc_get X 17 0 1 kd10 rfl (by decide) q_234 rfl dX10_share_17 ?_
    refine wc_get X 20 1 1 kd1 rfl (by decide) q_80 rfl dX10_share_20 ?_
    refine wc_iload_n X 23 1 dX10_share_23 rfl ?_
    refine wc_callV X 24 [4] 4 (c_X6_isEnd l G nb nlb (p 1) (p 3) i (by omega) (by first | assumption | omega) (by first | assumption | omega)) yv_X6_isEnd kd6 rfl rfl q_433 ⟨rfl, rfl⟩ ⟨rfl, rfl⟩ ⟨rfl, rfl⟩ rfl rfl rfl dX10_share_24 ?_
    refine wc_topi (b2i true) (congrArg b2i (by rw [hb, decide_eq_true hi]; rfl)) ?_
    refine wc_if_neB X 27 33 dX10_share_27 (by decide) (fun c27_2 => ?_) (fun c27_2 => ?_)
    ·
      refine wc_aload_n X 33 0 dX10_share_33 rfl ?_
      refine wc_get X 34 0 16 kd10 rfl (by decide) q_249 rfl dX10_share_34 ?_
      refine wc_aload_n X 37 0 dX10_share_37 rfl ?_
      refine wc_get X 38 0 1 kd10 rfl (by decide) q_234 rfl dX10_share_38 ?_
      refine wc_bipush X 41 (nI 6) dX10_share_41 (by decide) ?_
      refine wc_mutV X Y 43 [6, 7, 1, 2, 3, 4, 5] [0] 6 (c_X9_grow l G xv xvl nd xn na nla (p 0) (p 2) (gz p) nb nlb (p 1) (p 3) (go p) 6 (by first | assumption | omega) (by first | assumption | omega) (by first | assumption | omega) (by first | assumption | omega) (by first | assumption | omega) (by first | assumption | omega) (by decide)) yv_X9_grow kd9 rfl rfl (wr := [ob x 10 [.ref xt, .ref xn, .ref xr, .ref xa, .ref xs, .ref xf, .ref xw, .ref xi, .int (nI sn), .long sd, .ref xe, .ref xp, .ref xg, .ref xl, .ref xk, .ref xh, .ref xv]]) rfl ⟨rfl, rfl, rfl⟩ q_480 ⟨rfl, rfl⟩ ⟨rfl, rfl⟩ ⟨rfl, rfl⟩ rfl rfl rfl dX10_share_43 (fun v w hp_3 => ?_)
      obtain ⟨nd9, rfl, rfl, hf9⟩ := hp_3
      refine wc_perm Y [0, 3, 4, 5, 6, 7, 1, 2] [ob x 10 [.ref xt, .ref xn, .ref xr, .ref xa, .ref xs, .ref xf, .ref xw, .ref xi, .int (nI sn), .long sd, .ref xe, .ref xp, .ref xg, .ref xl, .ref xk, .ref xh, .ref xv], ob xn 1 [.ref na, .ref nb], ob na 6 [.int (nI (p 0)), .int (nI (p 2)), .ref nla], aI G nla 10 (nF (gz p)), ob nb 6 [.int (nI (p 1)), .int (nI (p 3)), .ref nlb], aI G nlb 10 (nF (go p)), ob xv 9 [.ref xvl], aI G xvl 1024 (nF nd9)] rfl rfl ?_
      show Wc Γ 0 0 46 [(0, .ref x), (1, .int (nI i)), (2, .int (b2i u))] [] [ob x 10 [.ref xt, .ref xn, .ref xr, .ref xa, .ref xs, .ref xf, .ref xw, .ref xi, .int (nI sn), .long sd, .ref xe, .ref xp, .ref xg, .ref xl, .ref xk, .ref xh, .ref xv], ob xn 1 [.ref na, .ref nb], ob na 6 [.int (nI (p 0)), .int (nI (p 2)), .ref nla], aI G nla 10 (nF (gz p)), ob nb 6 [.int (nI (p 1)), .int (nI (p 3)), .ref nlb], aI G nlb 10 (nF (go p)), ob xv 9 [.ref xvl], aI G xvl 1024 (nF nd9)]
      refine wc_iconstN X 46 0 dX10_share_46 ?_
      refine wc_istore_n X 47 (L' := [(0, .ref x), (1, .int (nI i)), (2, .int (b2i u)), (3, .int (nI 0))]) dX10_share_47 (by decide) rfl ?_
      refine wc_iconstN X 48 1 dX10_share_48 ?_
      refine wc_istore X 49 (L' := [(0, .ref x), (1, .int (nI i)), (2, .int (b2i u)), (3, .int (nI 0)), (4, .int (nI 1))]) dX10_share_49 (by decide) rfl ?_
      have LP_5 : ∀ (fuel_4 : Nat) (j : Nat), (j ≤ 127) → 127 - j < fuel_4 → Wc Γ 0 0 51 [(0, .ref x), (1, .int (nI i)), (2, .int (b2i u)), (3, .int (nI (shSum p i j))), (4, .int (nI (1 + j)))] [] [ob x 10 [.ref xt, .ref xn, .ref xr, .ref xa, .ref xs, .ref xf, .ref xw, .ref xi, .int (nI sn), .long sd, .ref xe, .ref xp, .ref xg, .ref xl, .ref xk, .ref xh, .ref xv], ob xn 1 [.ref na, .ref nb], ob na 6 [.int (nI (p 0)), .int (nI (p 2)), .ref nla], aI G nla 10 (nF (gz p)), ob nb 6 [.int (nI (p 1)), .int (nI (p 3)), .ref nlb], aI G nlb 10 (nF (go p)), ob xv 9 [.ref xvl], aI G xvl 1024 (nF nd9)] := by
        intro fuel_4
        induction fuel_4 with
        | zero => intro j hj hm; exact absurd hm (Nat.not_lt_zero _)
        | succ fuel_4 ih_6 =>
          intro j hj hm_7
          refine wc_iload X 51 4 dX10_share_51 rfl ?_
          refine wc_sipush X 53 (nI 128) dX10_share_53 (by decide) ?_
          refine wc_icmp_geN X 56 114 dX10_share_56 (by decide) (by omega) (by decide) (fun c56_8 => ?_) (fun c56_8 => ?_)
          ·
            refine wc_iload_n X 114 3 dX10_share_114 rfl ?_
            refine wc_bipush X 115 (nI 60) dX10_share_115 (by decide) ?_
            refine wc_iload_n X 117 2 dX10_share_117 rfl ?_
            refine wc_callS X 118 [] (c_X10_inLeastTerms l G (shSum p i j) 60 u (Nat.le_trans (shSum_le hr hi5 _) (by omega)) (by decide) (by decide)) ys_X10_inLeastTerms rfl q_709 ⟨rfl, rfl⟩ ⟨rfl, rfl⟩ ⟨rfl, rfl⟩ rfl rfl rfl dX10_share_118 ?_
            exact ret 121 _ (nI (frac (shSum p i j) 60 u)) _ dX10_share_121 (⟨_, by rw [show j = 2 ^ 7 - 1 by omega], rfl⟩)
          ·
            have hnd := hf9 (1 + j) (by omega) (by omega)
            have hz9 : nodeS (gz p) (p 0) (1 + j) < 16 := nodeS_lt (k := 4) (by decide) hg0 _ _
            have ho9 : nodeS (go p) (p 1) (1 + j) < 32 := nodeS_lt (k := 5) (by decide) hg1 _ _
            refine wc_aload_n X 59 0 dX10_share_59 rfl ?_
            refine wc_get X 60 0 1 kd10 rfl (by decide) q_234 rfl dX10_share_60 ?_
            refine wc_get X 63 1 0 kd1 rfl (by decide) q_73 rfl dX10_share_63 ?_
            refine wc_aload_n X 66 0 dX10_share_66 rfl ?_
            refine wc_get X 67 0 16 kd10 rfl (by decide) q_249 rfl dX10_share_67 ?_
            refine wc_iload X 70 4 dX10_share_70 rfl ?_
            refine wc_callV X 72 [6, 7] 6 (c_X9_zeroSet l G xv xvl nd9 (1 + j) (by omega) (by rw [hnd]; unfold trN; omega)) yv_X9_zeroSet kd9 rfl rfl q_493 ⟨rfl, rfl⟩ ⟨rfl, rfl⟩ ⟨rfl, rfl⟩ rfl rfl rfl dX10_share_72 ?_
            refine wc_topi (nI (nodeS (gz p) (p 0) (1 + j))) (congrArg nI (by rw [hnd]; unfold trN; exact tr_z hz9)) ?_
            refine wc_callV X 75 [2] 2 (c_X6_hasEndIn l G na nla (p 0) (p 2) (nodeS (gz p) (p 0) (1 + j)) (by omega)) yv_X6_hasEndIn kd6 rfl rfl q_494 ⟨rfl, rfl⟩ ⟨rfl, rfl⟩ ⟨rfl, rfl⟩ rfl rfl rfl dX10_share_75 ?_
            refine wc_if_eqB X 78 108 dX10_share_78 (by decide) (fun c78_9 => ?_) (fun c78_9 => ?_)
            ·
              refine wc_iincN X 108 4 (L' := [(0, .ref x), (1, .int (nI i)), (2, .int (b2i u)), (3, .int (nI (shSum p i j))), (4, .int (nI (1 + j + 1)))]) dX10_share_108 rfl (by decide) rfl ?_
              refine wc_goto X 111 51 dX10_share_111 (by decide) ?_
              have e_10 : shSum p i j = shSum p i (j + 1) := by show _ = shSum p i j + shC p i (1 + j); unfold shC; rw [c78_9]; rfl
              have e_11 : 1 + j + 1 = 1 + (j + 1) := by omega
              refine wc_L (L' := [(0, .ref x), (1, .int (nI i)), (2, .int (b2i u)), (3, .int (nI (shSum p i (j + 1)))), (4, .int (nI (1 + (j + 1))))]) (by first | (rw [e_10, e_11]; done) | (rw [e_10, e_11]; rfl) | (rw [← e_10, ← e_11]; done) | rfl) ?_
              exact ih_6 (j + 1) (by omega) (by omega)
            ·
              refine wc_iload_n X 81 3 dX10_share_81 rfl ?_
              refine wc_iload_n X 82 1 dX10_share_82 rfl ?_
              refine wc_aload_n X 83 0 dX10_share_83 rfl ?_
              refine wc_get X 84 0 16 kd10 rfl (by decide) q_249 rfl dX10_share_84 ?_
              refine wc_iload X 87 4 dX10_share_87 rfl ?_
              refine wc_callV X 89 [6, 7] 6 (c_X9_oneSet l G xv xvl nd9 (1 + j) (by omega) (by rw [hnd]; unfold trN; omega)) yv_X9_oneSet kd9 rfl rfl q_495 ⟨rfl, rfl⟩ ⟨rfl, rfl⟩ ⟨rfl, rfl⟩ rfl rfl rfl dX10_share_89 ?_
              refine wc_topi (nI (nodeS (go p) (p 1) (1 + j))) (congrArg nI (by rw [hnd]; unfold trN; exact tr_o hz9)) ?_
              refine wc_aload_n X 92 0 dX10_share_92 rfl ?_
              refine wc_get X 93 0 1 kd10 rfl (by decide) q_234 rfl dX10_share_93 ?_
              refine wc_get X 96 1 1 kd1 rfl (by decide) q_80 rfl dX10_share_96 ?_
              refine wc_get X 99 4 1 kd6 rfl (by decide) q_58 rfl dX10_share_99 ?_
              refine wc_iandN X 102 dX10_share_102 ?_
              refine wc_callS X 103 [] (c_X10_shareOfWord l G i ((nodeS (go p) (p 1) (1 + j)) &&& (p 3)) (by omega) (and_lt ho9)) ys_X10_shareOfWord rfl q_705 ⟨rfl, rfl⟩ ⟨rfl, rfl⟩ ⟨rfl, rfl⟩ rfl rfl rfl dX10_share_103 ?_
              refine wc_topi (nI (shW i (nodeS (go p) (p 1) (1 + j) &&& p 3))) (congrArg nI (rfl)) ?_
              refine wc_iaddN X 106 dX10_share_106 ?_
              refine wc_istore_n X 107 (L' := [(0, .ref x), (1, .int (nI i)), (2, .int (b2i u)), (3, .int (nI ((shSum p i j) + (shW i (nodeS (go p) (p 1) (1 + j) &&& p 3))))), (4, .int (nI (1 + j)))]) dX10_share_107 (by decide) rfl ?_
              refine wc_iincN X 108 4 (L' := [(0, .ref x), (1, .int (nI i)), (2, .int (b2i u)), (3, .int (nI ((shSum p i j) + (shW i (nodeS (go p) (p 1) (1 + j) &&& p 3))))), (4, .int (nI (1 + j + 1)))]) dX10_share_108 rfl (by decide) rfl ?_
              refine wc_goto X 111 51 dX10_share_111 (by decide) ?_
              have e_12 : (shSum p i j) + (shW i (nodeS (go p) (p 1) (1 + j) &&& p 3)) = shSum p i (j + 1) := by show _ = shSum p i j + shC p i (1 + j); unfold shC; rw [c78_9]; rfl
              have e_13 : 1 + j + 1 = 1 + (j + 1) := by omega
              refine wc_L (L' := [(0, .ref x), (1, .int (nI i)), (2, .int (b2i u)), (3, .int (nI (shSum p i (j + 1)))), (4, .int (nI (1 + (j + 1))))]) (by first | (rw [e_12, e_13]; done) | (rw [e_12, e_13]; rfl) | (rw [← e_12, ← e_13]; done) | rfl) ?_
              exact ih_6 (j + 1) (by omega) (by omega)
      have e_14 : 0 = shSum p i 0 := rfl
      have e_15 : 1 = 1 + 0 := rfl
      refine wc_L (L' := [(0, .ref x), (1, .int (nI i)), (2, .int (b2i u)), (3, .int (nI (shSum p i 0))), (4, .int (nI (1 + 0)))]) (by first | (rw [e_14, e_15]; done) | (rw [e_14, e_15]; rfl) | (rw [← e_14, ← e_15]; done) | rfl) ?_
      exact LP_5 (127 - 0 + 1) 0 (by omega) (Nat.lt_succ_self _)
    ·
      exact absurd c27_2 (by decide)
  ·
    exact absurd c11_1 (by decide)

set_option maxHeartbeats 4000000 in
set_option maxRecDepth 100000 in
theorem c_X10_chance (l : Launch) (G : GG) (x xt xn xr xa xs xf xw xi sn : Nat) (sd : Int64) (xe xp xg xl xk xh xv : Nat) (na nla nb nlb : Nat) (p : Nat → Nat) (S y : Nat) (hr : pgOk p) (hS : S < 32) (hy : y ≤ 10) : RM l G yX10_chance (Cond.code yX10_chance cX10_chance 5 (some .int)) { frames := 2, cells := 0, slots := 0, locals := 42 } [.ref x, .int (nI S), .int (nI y)] [ob x 10 [.ref xt, .ref xn, .ref xr, .ref xa, .ref xs, .ref xf, .ref xw, .ref xi, .int (nI sn), .long sd, .ref xe, .ref xp, .ref xg, .ref xl, .ref xk, .ref xh, .ref xv], ob xn 1 [.ref na, .ref nb], ob na 6 [.int (nI (p 0)), .int (nI (p 2)), .ref nla], aI G nla 10 (nF (gz p)), ob nb 6 [.int (nI (p 1)), .int (nI (p 3)), .ref nlb], aI G nlb 10 (nF (go p))] (.int (nI (chN (p 3) S y 5))) := by
  refine RM.ofI (by decide) rfl (fun Γ X ret => ?_)
  show Wc Γ 0 0 0 [(0, .ref x), (1, .int (nI S)), (2, .int (nI y))] [] [ob x 10 [.ref xt, .ref xn, .ref xr, .ref xa, .ref xs, .ref xf, .ref xw, .ref xi, .int (nI sn), .long sd, .ref xe, .ref xp, .ref xg, .ref xl, .ref xk, .ref xh, .ref xv], ob xn 1 [.ref na, .ref nb], ob na 6 [.int (nI (p 0)), .int (nI (p 2)), .ref nla], aI G nla 10 (nF (gz p)), ob nb 6 [.int (nI (p 1)), .int (nI (p 3)), .ref nlb], aI G nlb 10 (nF (go p))]
  have hn0 := hr.2.1
  have hn01 := hr.1
  have hn1 := hr.2.2.2.1
  have hn11 := hr.2.2.1
  have he0 := pg_e0 hr
  have he1 := hr.2.2.2.2.1 3
  have hg0 := hr.2.2.2.2.2.1
  have hg1 := (fun j => hr.2.2.2.2.1 (12 + j) : ∀ j, go p j < 32)
  have hg0n := (hr.2.2.2.2.2.2.1 0 (by decide) : ∀ j, gz p j < 2 ^ p 0)
  have hg1n := (hr.2.2.2.2.2.2.1 1 (by decide) : ∀ j, go p j < 2 ^ p 1)
  have he0n := hr.2.2.2.2.2.2.2 0 (by decide)
  have he1n := hr.2.2.2.2.2.2.2 1 (by decide)
  have hg0w := (fun j => Nat.lt_trans (hg0 j) (by decide) : ∀ j, gz p j < 32)
  refine wc_iconstN X 0 1 dX10_chance_0 ?_
  refine wc_istore_n X 1 (L' := [(0, .ref x), (1, .int (nI S)), (2, .int (nI y)), (3, .int (nI 1))]) dX10_chance_1 (by decide) rfl ?_
  refine wc_iconstN X 2 0 dX10_chance_2 ?_
  refine wc_istore X 3 (L' := [(0, .ref x), (1, .int (nI S)), (2, .int (nI y)), (3, .int (nI 1)), (4, .int (nI 0))]) dX10_chance_3 (by decide) rfl ?_
  have LP_2 : ∀ (fuel_1 : Nat) (j : Nat), (j ≤ 5) → 5 - j < fuel_1 → Wc Γ 0 0 5 [(0, .ref x), (1, .int (nI S)), (2, .int (nI y)), (3, .int (nI (chN (p 3) S y j))), (4, .int (nI j))] [] [ob x 10 [.ref xt, .ref xn, .ref xr, .ref xa, .ref xs, .ref xf, .ref xw, .ref xi, .int (nI sn), .long sd, .ref xe, .ref xp, .ref xg, .ref xl, .ref xk, .ref xh, .ref xv], ob xn 1 [.ref na, .ref nb], ob na 6 [.int (nI (p 0)), .int (nI (p 2)), .ref nla], aI G nla 10 (nF (gz p)), ob nb 6 [.int (nI (p 1)), .int (nI (p 3)), .ref nlb], aI G nlb 10 (nF (go p))] := by
    intro fuel_1
    induction fuel_1 with
    | zero => intro j hj hm; exact absurd hm (Nat.not_lt_zero _)
    | succ fuel_1 ih_3 =>
      intro j hj hm_4
      refine wc_iload X 5 4 dX10_chance_5 rfl ?_
      refine wc_iconstN X 7 5 dX10_chance_7 ?_
      refine wc_icmp_geN X 8 52 dX10_chance_8 (by decide) (by omega) (by decide) (fun c8_5 => ?_) (fun c8_5 => ?_)
      ·
        refine wc_iload_n X 52 3 dX10_chance_52 rfl ?_
        exact ret 53 _ (nI (chN (p 3) S y j)) dX10_chance_53 (by rw [show j = 5 by omega])
      ·
        refine wc_aload_n X 11 0 dX10_chance_11 rfl ?_
        refine wc_get X 12 0 1 kd10 rfl (by decide) q_234 rfl dX10_chance_12 ?_
        refine wc_get X 15 1 1 kd1 rfl (by decide) q_80 rfl dX10_chance_15 ?_
        refine wc_iload X 18 4 dX10_chance_18 rfl ?_
        refine wc_callV X 20 [4] 4 (c_X6_isEnd l G nb nlb (p 1) (p 3) j (by omega) (by first | assumption | omega) (by first | assumption | omega)) yv_X6_isEnd kd6 rfl rfl q_433 ⟨rfl, rfl⟩ ⟨rfl, rfl⟩ ⟨rfl, rfl⟩ rfl rfl rfl dX10_chance_20 ?_
        refine wc_topi (b2i (Nat.testBit (p 3) j)) (congrArg b2i (isE_bit he1n)) ?_
        refine wc_if_eqB X 23 46 dX10_chance_23 (by decide) (fun c23_6 => ?_) (fun c23_6 => ?_)
        ·
          refine wc_iincN X 46 4 (L' := [(0, .ref x), (1, .int (nI S)), (2, .int (nI y)), (3, .int (nI (chN (p 3) S y j))), (4, .int (nI (j + 1)))]) dX10_chance_46 rfl (by decide) rfl ?_
          refine wc_goto X 49 5 dX10_chance_49 (by decide) ?_
          have e_7 : chN (p 3) S y j = chN (p 3) S y (j + 1) := by rw [chN, c23_6]; simp only [Bool.false_eq_true, if_false]
          refine wc_L (L' := [(0, .ref x), (1, .int (nI S)), (2, .int (nI y)), (3, .int (nI (chN (p 3) S y (j + 1)))), (4, .int (nI (j + 1)))]) (by first | (rw [e_7]; done) | (rw [e_7]; rfl) | (rw [← e_7]; done) | rfl) ?_
          exact ih_3 (j + 1) (by omega) (by omega)
        ·
          refine wc_iload_n X 26 3 dX10_chance_26 rfl ?_
          refine wc_iload_n X 27 1 dX10_chance_27 rfl ?_
          refine wc_iload X 28 4 dX10_chance_28 rfl ?_
          refine wc_ishrN X 30 dX10_chance_30 (by omega) (by omega) ?_
          refine wc_iconstN X 31 1 dX10_chance_31 ?_
          refine wc_iandN X 32 dX10_chance_32 ?_
          refine wc_topi (b2i (Nat.testBit S j)) (nI_bit _ _) ?_
          refine wc_if_eqB X 33 43 dX10_chance_33 (by decide) (fun c33_8 => ?_) (fun c33_8 => ?_)
          ·
            refine wc_iload_n X 43 2 dX10_chance_43 rfl ?_
            refine wc_imulN X 44 dX10_chance_44 ?_
            refine wc_istore_n X 45 (L' := [(0, .ref x), (1, .int (nI S)), (2, .int (nI y)), (3, .int (nI ((chN (p 3) S y j) * y))), (4, .int (nI j))]) dX10_chance_45 (by decide) rfl ?_
            refine wc_iincN X 46 4 (L' := [(0, .ref x), (1, .int (nI S)), (2, .int (nI y)), (3, .int (nI ((chN (p 3) S y j) * y))), (4, .int (nI (j + 1)))]) dX10_chance_46 rfl (by decide) rfl ?_
            refine wc_goto X 49 5 dX10_chance_49 (by decide) ?_
            have e_9 : (chN (p 3) S y j) * y = chN (p 3) S y (j + 1) := by rw [chN, c23_6, c33_8]; simp only [Bool.false_eq_true, if_false, if_true]
            refine wc_L (L' := [(0, .ref x), (1, .int (nI S)), (2, .int (nI y)), (3, .int (nI (chN (p 3) S y (j + 1)))), (4, .int (nI (j + 1)))]) (by first | (rw [e_9]; done) | (rw [e_9]; rfl) | (rw [← e_9]; done) | rfl) ?_
            exact ih_3 (j + 1) (by omega) (by omega)
          ·
            refine wc_bipush X 36 (nI 10) dX10_chance_36 (by decide) ?_
            refine wc_iload_n X 38 2 dX10_chance_38 rfl ?_
            refine wc_isubN X 39 dX10_chance_39 (by omega) ?_
            refine wc_goto X 40 44 dX10_chance_40 (by decide) ?_
            refine wc_imulN X 44 dX10_chance_44 ?_
            refine wc_istore_n X 45 (L' := [(0, .ref x), (1, .int (nI S)), (2, .int (nI y)), (3, .int (nI ((chN (p 3) S y j) * (10 - y)))), (4, .int (nI j))]) dX10_chance_45 (by decide) rfl ?_
            refine wc_iincN X 46 4 (L' := [(0, .ref x), (1, .int (nI S)), (2, .int (nI y)), (3, .int (nI ((chN (p 3) S y j) * (10 - y)))), (4, .int (nI (j + 1)))]) dX10_chance_46 rfl (by decide) rfl ?_
            refine wc_goto X 49 5 dX10_chance_49 (by decide) ?_
            have e_10 : (chN (p 3) S y j) * (10 - y) = chN (p 3) S y (j + 1) := by rw [chN, c23_6, c33_8]; simp only [Bool.false_eq_true, if_false, if_true]
            refine wc_L (L' := [(0, .ref x), (1, .int (nI S)), (2, .int (nI y)), (3, .int (nI (chN (p 3) S y (j + 1)))), (4, .int (nI (j + 1)))]) (by first | (rw [e_10]; done) | (rw [e_10]; rfl) | (rw [← e_10]; done) | rfl) ?_
            exact ih_3 (j + 1) (by omega) (by omega)
  have e_11 : 1 = chN (p 3) S y 0 := rfl
  refine wc_L (L' := [(0, .ref x), (1, .int (nI S)), (2, .int (nI y)), (3, .int (nI (chN (p 3) S y 0))), (4, .int (nI 0))]) (by first | (rw [e_11]; done) | (rw [e_11]; rfl) | (rw [← e_11]; done) | rfl) ?_
  exact LP_2 (5 - 0 + 1) 0 (by omega) (Nat.lt_succ_self _)

set_option maxHeartbeats 4000000 in
set_option maxRecDepth 100000 in
theorem c_X10_lostF (l : Launch) (G : GG) (x xt xn xr xa xs xf xw xi sn : Nat) (sd : Int64) (xe xp xg xl xk xh xv : Nat) (y : Int32) (u : Bool) (ho : outR y 0 10) : RM l G yX10_lost (Cond.code yX10_lost cX10_lost 7 (some .int)) { frames := 0, cells := 0, slots := 0, locals := 0 } [.ref x, .int y, .int (b2i u)] [ob x 10 [.ref xt, .ref xn, .ref xr, .ref xa, .ref xs, .ref xf, .ref xw, .ref xi, .int (nI sn), .long sd, .ref xe, .ref xp, .ref xg, .ref xl, .ref xk, .ref xh, .ref xv]] (.int (-2)) := by
  refine RM.ofI (by decide) rfl (fun Γ X ret => ?_)
  show Wc Γ 0 0 0 [(0, .ref x), (1, .int y), (2, .int (b2i u))] [] [ob x 10 [.ref xt, .ref xn, .ref xr, .ref xa, .ref xs, .ref xf, .ref xw, .ref xi, .int (nI sn), .long sd, .ref xe, .ref xp, .ref xg, .ref xl, .ref xk, .ref xh, .ref xv]]
  refine wc_iload_n X 0 1 dX10_lost_0 rfl ?_
  refine wc_if_lt X 1 10 dX10_lost_1 (by decide) (fun c1_1 => ?_) (fun c1_1 => ?_)
  ·
    refine wc_bipush X 10 (-2) dX10_lost_10 (by decide) ?_
    exact ret 12 _ (-2) dX10_lost_12 (rfl)
  ·
    refine wc_iload_n X 4 1 dX10_lost_4 rfl ?_
    refine wc_bipush X 5 (nI 10) dX10_lost_5 (by decide) ?_
    refine wc_icmp_le X 7 13 dX10_lost_7 (by decide) (fun c7_2 => ?_) (fun c7_2 => ?_)
    ·
      exact (out_cls ho (by decide) (by decide) c1_1 c7_2).elim
    ·
      refine wc_bipush X 10 (-2) dX10_lost_10 (by decide) ?_
      exact ret 12 _ (-2) dX10_lost_12 (rfl)

set_option maxHeartbeats 4000000 in
set_option maxRecDepth 100000 in
theorem c_X10_lostS (l : Launch) (G : GG) (x xt xn xr xa xs xf xw xi sn : Nat) (sd : Int64) (xe xp xg xl xk xh xv : Nat) (na nla nb nlb : Nat) (p : Nat → Nat) (xlm xlr lq : Nat) (lm lr : Nat → Nat) (y : Nat) (u : Bool) (hr : pgOk p) (hy : y ≤ 10) : MM l G yX10_lost (Cond.code yX10_lost cX10_lost 7 (some .int)) { frames := 4, cells := 0, slots := 0, locals := 95 } [.ref x, .int (nI y), .int (b2i u)] [ob x 10 [.ref xt, .ref xn, .ref xr, .ref xa, .ref xs, .ref xf, .ref xw, .ref xi, .int (nI sn), .long sd, .ref xe, .ref xp, .ref xg, .ref xl, .ref xk, .ref xh, .ref xv], ob xn 1 [.ref na, .ref nb], ob na 6 [.int (nI (p 0)), .int (nI (p 2)), .ref nla], aI G nla 10 (nF (gz p)), ob nb 6 [.int (nI (p 1)), .int (nI (p 3)), .ref nlb], aI G nlb 10 (nF (go p)), ob xl 4 [.ref xlm, .ref xlr, .int (nI lq)], aI G xlm 4 (nF lm), aI G xlr 128 (nF lr)] (fun (v : Option Value) (w : va_W) => ∃ (lq2 : Nat) (lm2 lr2 : Nat → Nat), v = some (.int (nI (frac (loS p y 32) (10 ^ ones (p 3)) u))) ∧ w = [ob x 10 [.ref xt, .ref xn, .ref xr, .ref xa, .ref xs, .ref xf, .ref xw, .ref xi, .int (nI sn), .long sd, .ref xe, .ref xp, .ref xg, .ref xl, .ref xk, .ref xh, .ref xv], ob xn 1 [.ref na, .ref nb], ob na 6 [.int (nI (p 0)), .int (nI (p 2)), .ref nla], aI G nla 10 (nF (gz p)), ob nb 6 [.int (nI (p 1)), .int (nI (p 3)), .ref nlb], aI G nlb 10 (nF (go p)), ob xl 4 [.ref xlm, .ref xlr, .int (nI lq2)], aI G xlm 4 (nF lm2), aI G xlr 128 (nF lr2)]) 0 0 := by
  refine MM.ofI (by decide) rfl (fun Γ X Y hnm ret => ?_)
  show Wc Γ 0 0 0 [(0, .ref x), (1, .int (nI y)), (2, .int (b2i u))] [] [ob x 10 [.ref xt, .ref xn, .ref xr, .ref xa, .ref xs, .ref xf, .ref xw, .ref xi, .int (nI sn), .long sd, .ref xe, .ref xp, .ref xg, .ref xl, .ref xk, .ref xh, .ref xv], ob xn 1 [.ref na, .ref nb], ob na 6 [.int (nI (p 0)), .int (nI (p 2)), .ref nla], aI G nla 10 (nF (gz p)), ob nb 6 [.int (nI (p 1)), .int (nI (p 3)), .ref nlb], aI G nlb 10 (nF (go p)), ob xl 4 [.ref xlm, .ref xlr, .int (nI lq)], aI G xlm 4 (nF lm), aI G xlr 128 (nF lr)]
  have hn0 := hr.2.1
  have hn01 := hr.1
  have hn1 := hr.2.2.2.1
  have hn11 := hr.2.2.1
  have he0 := pg_e0 hr
  have he1 := hr.2.2.2.2.1 3
  have hg0 := hr.2.2.2.2.2.1
  have hg1 := (fun j => hr.2.2.2.2.1 (12 + j) : ∀ j, go p j < 32)
  have hg0n := (hr.2.2.2.2.2.2.1 0 (by decide) : ∀ j, gz p j < 2 ^ p 0)
  have hg1n := (hr.2.2.2.2.2.2.1 1 (by decide) : ∀ j, go p j < 2 ^ p 1)
  have he0n := hr.2.2.2.2.2.2.2 0 (by decide)
  have he1n := hr.2.2.2.2.2.2.2 1 (by decide)
  have hg0w := (fun j => Nat.lt_trans (hg0 j) (by decide) : ∀ j, gz p j < 32)
  refine wc_iload_n X 0 1 dX10_lost_0 rfl ?_
  refine wc_ifltF X 1 (tgt := 10) dX10_lost_1 (by decide) (by omega) ?_
  refine wc_iload_n X 4 1 dX10_lost_4 rfl ?_
  refine wc_bipush X 5 (nI 10) dX10_lost_5 (by decide) ?_
  refine wc_icmp_leN X 7 13 dX10_lost_7 (by decide) (by omega) (by decide) (fun c7_2 => ?_) (fun c7_2 => ?_)
  ·
    refine wc_aload_n X 13 0 dX10_lost_13 rfl ?_
    refine wc_get X 14 0 13 kd10 rfl (by decide) q_246 rfl dX10_lost_14 ?_
    refine wc_aload_n X 17 0 dX10_lost_17 rfl ?_
    refine wc_get X 18 0 1 kd10 rfl (by decide) q_234 rfl dX10_lost_18 ?_
    refine wc_mutV X Y 21 [6, 7, 8, 1, 2, 3, 4, 5] [0] 6 (c_X4_meetAll l G xl xlm xlr lq lm lr xn na nla (p 0) (p 2) (gz p) nb nlb (p 1) (p 3) (go p) (by first | assumption | omega) (by first | assumption | omega) (by first | assumption | omega) (by first | assumption | omega) (by first | assumption | omega) (by first | assumption | omega) (by first | assumption | omega) (by first | assumption | omega) (by first | assumption | omega)) yv_X4_meetAll kd4 rfl rfl (wr := [ob x 10 [.ref xt, .ref xn, .ref xr, .ref xa, .ref xs, .ref xf, .ref xw, .ref xi, .int (nI sn), .long sd, .ref xe, .ref xp, .ref xg, .ref xl, .ref xk, .ref xh, .ref xv]]) rfl ⟨rfl, rfl, rfl⟩ q_716 ⟨rfl, rfl⟩ ⟨rfl, rfl⟩ ⟨rfl, rfl⟩ rfl rfl rfl dX10_lost_21 (fun v w hp_3 => ?_)
    obtain ⟨mt9, row9, n9, rfl, rfl, hf9⟩ := hp_3
    refine wc_perm Y [0, 4, 5, 6, 7, 8, 1, 2, 3] [ob x 10 [.ref xt, .ref xn, .ref xr, .ref xa, .ref xs, .ref xf, .ref xw, .ref xi, .int (nI sn), .long sd, .ref xe, .ref xp, .ref xg, .ref xl, .ref xk, .ref xh, .ref xv], ob xn 1 [.ref na, .ref nb], ob na 6 [.int (nI (p 0)), .int (nI (p 2)), .ref nla], aI G nla 10 (nF (gz p)), ob nb 6 [.int (nI (p 1)), .int (nI (p 3)), .ref nlb], aI G nlb 10 (nF (go p)), ob xl 4 [.ref xlm, .ref xlr, .int (nI n9)], aI G xlm 4 (nF mt9), aI G xlr 128 (nF row9)] rfl rfl ?_
    show Wc Γ 0 0 24 [(0, .ref x), (1, .int (nI y)), (2, .int (b2i u))] [] [ob x 10 [.ref xt, .ref xn, .ref xr, .ref xa, .ref xs, .ref xf, .ref xw, .ref xi, .int (nI sn), .long sd, .ref xe, .ref xp, .ref xg, .ref xl, .ref xk, .ref xh, .ref xv], ob xn 1 [.ref na, .ref nb], ob na 6 [.int (nI (p 0)), .int (nI (p 2)), .ref nla], aI G nla 10 (nF (gz p)), ob nb 6 [.int (nI (p 1)), .int (nI (p 3)), .ref nlb], aI G nlb 10 (nF (go p)), ob xl 4 [.ref xlm, .ref xlr, .int (nI n9)], aI G xlm 4 (nF mt9), aI G xlr 128 (nF row9)]
    obtain ⟨wd9, hI9, hc9⟩ := hf9
    refine wc_aload_n X 24 0 dX10_lost_24 rfl ?_
    refine wc_get X 25 0 1 kd10 rfl (by decide) q_234 rfl dX10_lost_25 ?_
    refine wc_get X 28 1 1 kd1 rfl (by decide) q_80 rfl dX10_lost_28 ?_
    refine wc_get X 31 4 1 kd6 rfl (by decide) q_58 rfl dX10_lost_31 ?_
    refine wc_istore_n X 34 (L' := [(0, .ref x), (1, .int (nI y)), (2, .int (b2i u)), (3, .int (nI (p 3)))]) dX10_lost_34 (by decide) rfl ?_
    refine wc_iconstN X 35 1 dX10_lost_35 ?_
    refine wc_istore X 36 (L' := [(0, .ref x), (1, .int (nI y)), (2, .int (b2i u)), (3, .int (nI (p 3))), (4, .int (nI 1))]) dX10_lost_36 (by decide) rfl ?_
    refine wc_iconstN X 38 0 dX10_lost_38 ?_
    refine wc_istore X 39 (L' := [(0, .ref x), (1, .int (nI y)), (2, .int (b2i u)), (3, .int (nI (p 3))), (4, .int (nI 1)), (5, .int (nI 0))]) dX10_lost_39 (by decide) rfl ?_
    have LP_5 : ∀ (fuel_4 : Nat) (j : Nat), (j ≤ 5) → 5 - j < fuel_4 → Wc Γ 0 0 41 [(0, .ref x), (1, .int (nI y)), (2, .int (b2i u)), (3, .int (nI (p 3))), (4, .int (nI (whN (p 3) j))), (5, .int (nI j))] [] [ob x 10 [.ref xt, .ref xn, .ref xr, .ref xa, .ref xs, .ref xf, .ref xw, .ref xi, .int (nI sn), .long sd, .ref xe, .ref xp, .ref xg, .ref xl, .ref xk, .ref xh, .ref xv], ob xn 1 [.ref na, .ref nb], ob na 6 [.int (nI (p 0)), .int (nI (p 2)), .ref nla], aI G nla 10 (nF (gz p)), ob nb 6 [.int (nI (p 1)), .int (nI (p 3)), .ref nlb], aI G nlb 10 (nF (go p)), ob xl 4 [.ref xlm, .ref xlr, .int (nI n9)], aI G xlm 4 (nF mt9), aI G xlr 128 (nF row9)] := by
      intro fuel_4
      induction fuel_4 with
      | zero => intro j hj hm; exact absurd hm (Nat.not_lt_zero _)
      | succ fuel_4 ih_6 =>
        intro j hj hm_7
        refine wc_iload X 41 5 dX10_lost_41 rfl ?_
        refine wc_iconstN X 43 5 dX10_lost_43 ?_
        refine wc_icmp_geN X 44 79 dX10_lost_44 (by decide) (by omega) (by decide) (fun c44_8 => ?_) (fun c44_8 => ?_)
        ·
          refine wc_loc [0, 1, 2, 3, 4] (L' := [(0, .ref x), (1, .int (nI y)), (2, .int (b2i u)), (3, .int (nI (p 3))), (4, .int (nI (whN (p 3) j)))]) rfl ?_
          have e_9 : whN (p 3) j = 10 ^ ones (p 3) := by rw [show j = 5 by omega]; exact wh_eq _ he1
          refine wc_L (L' := [(0, .ref x), (1, .int (nI y)), (2, .int (b2i u)), (3, .int (nI (p 3))), (4, .int (nI (10 ^ ones (p 3))))]) (by first | (rw [e_9]; done) | (rw [e_9]; rfl) | (rw [← e_9]; done) | rfl) ?_
          refine wc_iconstN X 79 0 dX10_lost_79 ?_
          refine wc_istore X 80 (L' := [(0, .ref x), (1, .int (nI y)), (2, .int (b2i u)), (3, .int (nI (p 3))), (4, .int (nI (10 ^ ones (p 3)))), (5, .int (nI 0))]) dX10_lost_80 (by decide) rfl ?_
          refine wc_iconstN X 82 0 dX10_lost_82 ?_
          refine wc_istore X 83 (L' := [(0, .ref x), (1, .int (nI y)), (2, .int (b2i u)), (3, .int (nI (p 3))), (4, .int (nI (10 ^ ones (p 3)))), (5, .int (nI 0)), (6, .int (nI 0))]) dX10_lost_83 (by decide) rfl ?_
          have LP_11 : ∀ (fuel_10 : Nat) (S : Nat), (S ≤ 32) → 32 - S < fuel_10 → Wc Γ 0 0 85 [(0, .ref x), (1, .int (nI y)), (2, .int (b2i u)), (3, .int (nI (p 3))), (4, .int (nI (10 ^ ones (p 3)))), (5, .int (nI (loS p y S))), (6, .int (nI S))] [] [ob x 10 [.ref xt, .ref xn, .ref xr, .ref xa, .ref xs, .ref xf, .ref xw, .ref xi, .int (nI sn), .long sd, .ref xe, .ref xp, .ref xg, .ref xl, .ref xk, .ref xh, .ref xv], ob xn 1 [.ref na, .ref nb], ob na 6 [.int (nI (p 0)), .int (nI (p 2)), .ref nla], aI G nla 10 (nF (gz p)), ob nb 6 [.int (nI (p 1)), .int (nI (p 3)), .ref nlb], aI G nlb 10 (nF (go p)), ob xl 4 [.ref xlm, .ref xlr, .int (nI n9)], aI G xlm 4 (nF mt9), aI G xlr 128 (nF row9)] := by
            intro fuel_10
            induction fuel_10 with
            | zero => intro S hS hm; exact absurd hm (Nat.not_lt_zero _)
            | succ fuel_10 ih_12 =>
              intro S hS hm_13
              refine wc_iload X 85 6 dX10_lost_85 rfl ?_
              refine wc_bipush X 87 (nI 32) dX10_lost_87 (by decide) ?_
              refine wc_icmp_geN X 89 135 dX10_lost_89 (by decide) (by omega) (by decide) (fun c89_14 => ?_) (fun c89_14 => ?_)
              ·
                refine wc_iload X 135 5 dX10_lost_135 rfl ?_
                refine wc_iload X 137 4 dX10_lost_137 rfl ?_
                refine wc_iload_n X 139 2 dX10_lost_139 rfl ?_
                refine wc_callS X 140 [] (c_X10_inLeastTerms l G (loS p y S) (10 ^ ones (p 3)) u (by rw [show S = 32 by omega]; exact lo_le hr hy) (ten_le he1) (Nat.pow_pos (by decide))) ys_X10_inLeastTerms rfl q_709 ⟨rfl, rfl⟩ ⟨rfl, rfl⟩ ⟨rfl, rfl⟩ rfl rfl rfl dX10_lost_140 ?_
                exact ret 143 _ (nI (frac (loS p y S) (10 ^ ones (p 3)) u)) _ dX10_lost_143 (⟨_, _, _, by rw [show S = 32 by omega], rfl⟩)
              ·
                refine wc_iload X 92 6 dX10_lost_92 rfl ?_
                refine wc_iload_n X 94 3 dX10_lost_94 rfl ?_
                refine wc_iandN X 95 dX10_lost_95 ?_
                refine wc_iload X 96 6 dX10_lost_96 rfl ?_
                refine wc_icmp_neN X 98 129 dX10_lost_98 (by decide) (Nat.lt_of_le_of_lt Nat.and_le_left (by omega)) (by omega) (fun c98_15 => ?_) (fun c98_15 => ?_)
                ·
                  refine wc_iincN X 129 6 (L' := [(0, .ref x), (1, .int (nI y)), (2, .int (b2i u)), (3, .int (nI (p 3))), (4, .int (nI (10 ^ ones (p 3)))), (5, .int (nI (loS p y S))), (6, .int (nI (S + 1)))]) dX10_lost_129 rfl (by decide) rfl ?_
                  refine wc_goto X 132 85 dX10_lost_132 (by decide) ?_
                  have e_16 : loS p y S = loS p y (S + 1) := lo_no (by rw [decide_eq_false (fun z => c98_15 (by rw [Nat.and_comm]; exact z))]; rfl)
                  refine wc_L (L' := [(0, .ref x), (1, .int (nI y)), (2, .int (b2i u)), (3, .int (nI (p 3))), (4, .int (nI (10 ^ ones (p 3)))), (5, .int (nI (loS p y (S + 1)))), (6, .int (nI (S + 1)))]) (by first | (rw [e_16]; done) | (rw [e_16]; rfl) | (rw [← e_16]; done) | rfl) ?_
                  exact ih_12 (S + 1) (by omega) (by omega)
                ·
                  have hsub := c98_15
                  refine wc_aload_n X 101 0 dX10_lost_101 rfl ?_
                  refine wc_get X 102 0 13 kd10 rfl (by decide) q_246 rfl dX10_lost_102 ?_
                  refine wc_aload_n X 105 0 dX10_lost_105 rfl ?_
                  refine wc_get X 106 0 1 kd10 rfl (by decide) q_234 rfl dX10_lost_106 ?_
                  refine wc_iload X 109 6 dX10_lost_109 rfl ?_
                  refine wc_callV X 111 [6, 7, 8, 1, 2, 3, 4, 5] 6 (c_X4_holdsBy l G xl xlm xlr n9 mt9 row9 xn na nla (p 0) (p 2) (gz p) nb nlb (p 1) (p 3) (go p) wd9 S (by first | assumption | omega) (by first | assumption | omega) (by first | assumption | omega) (by first | assumption | omega) (by first | assumption | omega) (by first | assumption | omega) (by first | assumption | omega) (by first | assumption | omega) (by first | assumption | omega) hI9 hc9) yv_X4_holdsBy kd4 rfl rfl q_720 ⟨rfl, rfl⟩ ⟨rfl, rfl⟩ ⟨rfl, rfl⟩ rfl rfl rfl dX10_lost_111 ?_
                  refine wc_if_eqB X 114 129 dX10_lost_114 (by decide) (fun c114_17 => ?_) (fun c114_17 => ?_)
                  ·
                    refine wc_iincN X 129 6 (L' := [(0, .ref x), (1, .int (nI y)), (2, .int (b2i u)), (3, .int (nI (p 3))), (4, .int (nI (10 ^ ones (p 3)))), (5, .int (nI (loS p y S))), (6, .int (nI (S + 1)))]) dX10_lost_129 rfl (by decide) rfl ?_
                    refine wc_goto X 132 85 dX10_lost_132 (by decide) ?_
                    have e_18 : loS p y S = loS p y (S + 1) := lo_no (by rw [c114_17, Bool.and_false])
                    refine wc_L (L' := [(0, .ref x), (1, .int (nI y)), (2, .int (b2i u)), (3, .int (nI (p 3))), (4, .int (nI (10 ^ ones (p 3)))), (5, .int (nI (loS p y (S + 1)))), (6, .int (nI (S + 1)))]) (by first | (rw [e_18]; done) | (rw [e_18]; rfl) | (rw [← e_18]; done) | rfl) ?_
                    exact ih_12 (S + 1) (by omega) (by omega)
                  ·
                    refine wc_iload X 117 5 dX10_lost_117 rfl ?_
                    refine wc_aload_n X 119 0 dX10_lost_119 rfl ?_
                    refine wc_iload X 120 6 dX10_lost_120 rfl ?_
                    refine wc_iload_n X 122 1 dX10_lost_122 rfl ?_
                    refine wc_callV X 123 [0, 1, 2, 3, 4, 5] 0 (c_X10_chance l G x xt xn xr xa xs xf xw xi sn sd xe xp xg xl xk xh xv na nla nb nlb p S y (by first | assumption | omega) (by omega) (by first | assumption | omega)) yv_X10_chance kd10 rfl rfl q_724 ⟨rfl, rfl⟩ ⟨rfl, rfl⟩ ⟨rfl, rfl⟩ rfl rfl rfl dX10_lost_123 ?_
                    refine wc_topi (nI ((10 - y) ^ ones S * y ^ (ones (p 3) - ones S))) (congrArg nI (ch_eq _ he1 S (by omega) (by rw [Nat.and_comm]; assumption) y (by omega))) ?_
                    refine wc_iaddN X 126 dX10_lost_126 ?_
                    refine wc_istore X 127 (L' := [(0, .ref x), (1, .int (nI y)), (2, .int (b2i u)), (3, .int (nI (p 3))), (4, .int (nI (10 ^ ones (p 3)))), (5, .int (nI ((loS p y S) + ((10 - y) ^ ones S * y ^ (ones (p 3) - ones S))))), (6, .int (nI S))]) dX10_lost_127 (by decide) rfl ?_
                    refine wc_iincN X 129 6 (L' := [(0, .ref x), (1, .int (nI y)), (2, .int (b2i u)), (3, .int (nI (p 3))), (4, .int (nI (10 ^ ones (p 3)))), (5, .int (nI ((loS p y S) + ((10 - y) ^ ones S * y ^ (ones (p 3) - ones S))))), (6, .int (nI (S + 1)))]) dX10_lost_129 rfl (by decide) rfl ?_
                    refine wc_goto X 132 85 dX10_lost_132 (by decide) ?_
                    have e_19 : (loS p y S) + ((10 - y) ^ ones S * y ^ (ones (p 3) - ones S)) = loS p y (S + 1) := lo_yes (by rw [c114_17, decide_eq_true (show p 3 &&& S = S by rw [Nat.and_comm]; exact hsub)]; rfl)
                    refine wc_L (L' := [(0, .ref x), (1, .int (nI y)), (2, .int (b2i u)), (3, .int (nI (p 3))), (4, .int (nI (10 ^ ones (p 3)))), (5, .int (nI (loS p y (S + 1)))), (6, .int (nI (S + 1)))]) (by first | (rw [e_19]; done) | (rw [e_19]; rfl) | (rw [← e_19]; done) | rfl) ?_
                    exact ih_12 (S + 1) (by omega) (by omega)
          have e_20 : 0 = loS p y 0 := rfl
          refine wc_L (L' := [(0, .ref x), (1, .int (nI y)), (2, .int (b2i u)), (3, .int (nI (p 3))), (4, .int (nI (10 ^ ones (p 3)))), (5, .int (nI (loS p y 0))), (6, .int (nI 0))]) (by first | (rw [e_20]; done) | (rw [e_20]; rfl) | (rw [← e_20]; done) | rfl) ?_
          exact LP_11 (32 - 0 + 1) 0 (by omega) (Nat.lt_succ_self _)
        ·
          refine wc_iload X 47 4 dX10_lost_47 rfl ?_
          refine wc_aload_n X 49 0 dX10_lost_49 rfl ?_
          refine wc_get X 50 0 1 kd10 rfl (by decide) q_234 rfl dX10_lost_50 ?_
          refine wc_get X 53 1 1 kd1 rfl (by decide) q_80 rfl dX10_lost_53 ?_
          refine wc_iload X 56 5 dX10_lost_56 rfl ?_
          refine wc_callV X 58 [4] 4 (c_X6_isEnd l G nb nlb (p 1) (p 3) j (by omega) (by first | assumption | omega) (by first | assumption | omega)) yv_X6_isEnd kd6 rfl rfl q_433 ⟨rfl, rfl⟩ ⟨rfl, rfl⟩ ⟨rfl, rfl⟩ rfl rfl rfl dX10_lost_58 ?_
          refine wc_topi (b2i (Nat.testBit (p 3) j)) (congrArg b2i (isE_bit he1n)) ?_
          refine wc_if_eqB X 61 69 dX10_lost_61 (by decide) (fun c61_21 => ?_) (fun c61_21 => ?_)
          ·
            refine wc_iconstN X 69 1 dX10_lost_69 ?_
            refine wc_imulN X 70 dX10_lost_70 ?_
            refine wc_istore X 71 (L' := [(0, .ref x), (1, .int (nI y)), (2, .int (b2i u)), (3, .int (nI (p 3))), (4, .int (nI ((whN (p 3) j) * 1))), (5, .int (nI j))]) dX10_lost_71 (by decide) rfl ?_
            refine wc_iincN X 73 5 (L' := [(0, .ref x), (1, .int (nI y)), (2, .int (b2i u)), (3, .int (nI (p 3))), (4, .int (nI ((whN (p 3) j) * 1))), (5, .int (nI (j + 1)))]) dX10_lost_73 rfl (by decide) rfl ?_
            refine wc_goto X 76 41 dX10_lost_76 (by decide) ?_
            have e_22 : (whN (p 3) j) * 1 = whN (p 3) (j + 1) := by rw [whN, c61_21]; rfl
            refine wc_L (L' := [(0, .ref x), (1, .int (nI y)), (2, .int (b2i u)), (3, .int (nI (p 3))), (4, .int (nI (whN (p 3) (j + 1)))), (5, .int (nI (j + 1)))]) (by first | (rw [e_22]; done) | (rw [e_22]; rfl) | (rw [← e_22]; done) | rfl) ?_
            exact ih_6 (j + 1) (by omega) (by omega)
          ·
            refine wc_bipush X 64 (nI 10) dX10_lost_64 (by decide) ?_
            refine wc_goto X 66 70 dX10_lost_66 (by decide) ?_
            refine wc_imulN X 70 dX10_lost_70 ?_
            refine wc_istore X 71 (L' := [(0, .ref x), (1, .int (nI y)), (2, .int (b2i u)), (3, .int (nI (p 3))), (4, .int (nI ((whN (p 3) j) * 10))), (5, .int (nI j))]) dX10_lost_71 (by decide) rfl ?_
            refine wc_iincN X 73 5 (L' := [(0, .ref x), (1, .int (nI y)), (2, .int (b2i u)), (3, .int (nI (p 3))), (4, .int (nI ((whN (p 3) j) * 10))), (5, .int (nI (j + 1)))]) dX10_lost_73 rfl (by decide) rfl ?_
            refine wc_goto X 76 41 dX10_lost_76 (by decide) ?_
            have e_23 : (whN (p 3) j) * 10 = whN (p 3) (j + 1) := by rw [whN, c61_21]; rfl
            refine wc_L (L' := [(0, .ref x), (1, .int (nI y)), (2, .int (b2i u)), (3, .int (nI (p 3))), (4, .int (nI (whN (p 3) (j + 1)))), (5, .int (nI (j + 1)))]) (by first | (rw [e_23]; done) | (rw [e_23]; rfl) | (rw [← e_23]; done) | rfl) ?_
            exact ih_6 (j + 1) (by omega) (by omega)
    have e_24 : 1 = whN (p 3) 0 := rfl
    refine wc_L (L' := [(0, .ref x), (1, .int (nI y)), (2, .int (b2i u)), (3, .int (nI (p 3))), (4, .int (nI (whN (p 3) 0))), (5, .int (nI 0))]) (by first | (rw [e_24]; done) | (rw [e_24]; rfl) | (rw [← e_24]; done) | rfl) ?_
    exact LP_5 (5 - 0 + 1) 0 (by omega) (Nat.lt_succ_self _)
  ·
    exact absurd c7_2 (by omega)

set_option maxHeartbeats 4000000 in
set_option maxRecDepth 100000 in
theorem c_X10_drawnOnce (l : Launch) (G : GG) (x xt xn xr xa xs xf xw xi sn : Nat) (sd : Int64) (xe xp xg xl xk xh xv : Nat) (na nla nb nlb : Nat) (p : Nat → Nat) (y : Nat) (hr : pgOk p) (hy : y < 2147483648) : RM l G yX10_drawnOnce (Cond.code yX10_drawnOnce cX10_drawnOnce 8 (some .int)) { frames := 2, cells := 0, slots := 0, locals := 47 } [.ref x, .int (nI y)] [ob x 10 [.ref xt, .ref xn, .ref xr, .ref xa, .ref xs, .ref xf, .ref xw, .ref xi, .int (nI sn), .long sd, .ref xe, .ref xp, .ref xg, .ref xl, .ref xk, .ref xh, .ref xv], ob xn 1 [.ref na, .ref nb], ob na 6 [.int (nI (p 0)), .int (nI (p 2)), .ref nla], aI G nla 10 (nF (gz p)), ob nb 6 [.int (nI (p 1)), .int (nI (p 3)), .ref nlb], aI G nlb 10 (nF (go p))] (.int (nI (drO p y))) := by
  refine RM.ofI (by decide) rfl (fun Γ X ret => ?_)
  show Wc Γ 0 0 0 [(0, .ref x), (1, .int (nI y))] [] [ob x 10 [.ref xt, .ref xn, .ref xr, .ref xa, .ref xs, .ref xf, .ref xw, .ref xi, .int (nI sn), .long sd, .ref xe, .ref xp, .ref xg, .ref xl, .ref xk, .ref xh, .ref xv], ob xn 1 [.ref na, .ref nb], ob na 6 [.int (nI (p 0)), .int (nI (p 2)), .ref nla], aI G nla 10 (nF (gz p)), ob nb 6 [.int (nI (p 1)), .int (nI (p 3)), .ref nlb], aI G nlb 10 (nF (go p))]
  have hn0 := hr.2.1
  have hn01 := hr.1
  have hn1 := hr.2.2.2.1
  have hn11 := hr.2.2.1
  have he0 := pg_e0 hr
  have he1 := hr.2.2.2.2.1 3
  have hg0 := hr.2.2.2.2.2.1
  have hg1 := (fun j => hr.2.2.2.2.1 (12 + j) : ∀ j, go p j < 32)
  have hg0n := (hr.2.2.2.2.2.2.1 0 (by decide) : ∀ j, gz p j < 2 ^ p 0)
  have hg1n := (hr.2.2.2.2.2.2.1 1 (by decide) : ∀ j, go p j < 2 ^ p 1)
  have he0n := hr.2.2.2.2.2.2.2 0 (by decide)
  have he1n := hr.2.2.2.2.2.2.2 1 (by decide)
  have hg0w := (fun j => Nat.lt_trans (hg0 j) (by decide) : ∀ j, gz p j < 32)
  refine wc_iload_n X 0 1 dX10_drawnOnce_0 rfl ?_
  refine wc_bipush X 1 (nI 10) dX10_drawnOnce_1 (by decide) ?_
  refine wc_iremN X 3 dX10_drawnOnce_3 (by omega) (by decide) (by decide) ?_
  refine wc_istore_n X 4 (L' := [(0, .ref x), (1, .int (nI y)), (2, .int (nI (y % 10)))]) dX10_drawnOnce_4 (by decide) rfl ?_
  refine wc_iconstN X 5 1 dX10_drawnOnce_5 ?_
  refine wc_istore_n X 6 (L' := [(0, .ref x), (1, .int (nI y)), (2, .int (nI (y % 10))), (3, .int (nI 1))]) dX10_drawnOnce_6 (by decide) rfl ?_
  refine wc_iconstN X 7 1 dX10_drawnOnce_7 ?_
  refine wc_istore X 8 (L' := [(0, .ref x), (1, .int (nI y)), (2, .int (nI (y % 10))), (3, .int (nI 1)), (4, .int (nI 1))]) dX10_drawnOnce_8 (by decide) rfl ?_
  refine wc_iload_n X 10 1 dX10_drawnOnce_10 rfl ?_
  refine wc_bipush X 11 (nI 16) dX10_drawnOnce_11 (by decide) ?_
  refine wc_idivN X 13 dX10_drawnOnce_13 (by omega) (by decide) (by decide) ?_
  refine wc_istore X 14 (L' := [(0, .ref x), (1, .int (nI y)), (2, .int (nI (y % 10))), (3, .int (nI 1)), (4, .int (nI 1)), (5, .int (nI (y / 16)))]) dX10_drawnOnce_14 (by decide) rfl ?_
  refine wc_iconstN X 16 0 dX10_drawnOnce_16 ?_
  refine wc_istore X 17 (L' := [(0, .ref x), (1, .int (nI y)), (2, .int (nI (y % 10))), (3, .int (nI 1)), (4, .int (nI 1)), (5, .int (nI (y / 16))), (6, .int (nI 0))]) dX10_drawnOnce_17 (by decide) rfl ?_
  have LP_2 : ∀ (fuel_1 : Nat) (j : Nat), (j ≤ y % 10) → 10 - j < fuel_1 → Wc Γ 0 0 19 [(0, .ref x), (1, .int (nI y)), (2, .int (nI (y % 10))), (3, .int (nI (afterB (gz p) (p 0) (y / 16) j))), (4, .int (nI (afterB (go p) (p 1) (y / 16) j))), (5, .int (nI (y / 16 / 2 ^ j))), (6, .int (nI j))] [] [ob x 10 [.ref xt, .ref xn, .ref xr, .ref xa, .ref xs, .ref xf, .ref xw, .ref xi, .int (nI sn), .long sd, .ref xe, .ref xp, .ref xg, .ref xl, .ref xk, .ref xh, .ref xv], ob xn 1 [.ref na, .ref nb], ob na 6 [.int (nI (p 0)), .int (nI (p 2)), .ref nla], aI G nla 10 (nF (gz p)), ob nb 6 [.int (nI (p 1)), .int (nI (p 3)), .ref nlb], aI G nlb 10 (nF (go p))] := by
    intro fuel_1
    induction fuel_1 with
    | zero => intro j hj hm; exact absurd hm (Nat.not_lt_zero _)
    | succ fuel_1 ih_3 =>
      intro j hj hm_4
      refine wc_iload X 19 6 dX10_drawnOnce_19 rfl ?_
      refine wc_iload_n X 21 2 dX10_drawnOnce_21 rfl ?_
      refine wc_icmp_geN X 22 75 dX10_drawnOnce_22 (by decide) (by omega) (by omega) (fun c22_5 => ?_) (fun c22_5 => ?_)
      ·
        refine wc_aload_n X 75 0 dX10_drawnOnce_75 rfl ?_
        refine wc_get X 76 0 1 kd10 rfl (by decide) q_234 rfl dX10_drawnOnce_76 ?_
        refine wc_get X 79 1 0 kd1 rfl (by decide) q_73 rfl dX10_drawnOnce_79 ?_
        refine wc_iload_n X 82 3 dX10_drawnOnce_82 rfl ?_
        refine wc_callV X 83 [2] 2 (c_X6_hasEndIn l G na nla (p 0) (p 2) (afterB (gz p) (p 0) (y / 16) j) (afterB_lt hg0w _ _ _)) yv_X6_hasEndIn kd6 rfl rfl q_494 ⟨rfl, rfl⟩ ⟨rfl, rfl⟩ ⟨rfl, rfl⟩ rfl rfl rfl dX10_drawnOnce_83 ?_
        refine wc_callS X 86 [] (c_X10_bit l G ((afterB (gz p) (p 0) (y / 16) j) &&& (p 2) != 0) ) ys_X10_bit rfl q_410 ⟨rfl, rfl⟩ ⟨rfl, rfl⟩ ⟨rfl, rfl⟩ rfl rfl rfl dX10_drawnOnce_86 ?_
        refine wc_iconstN X 89 2 dX10_drawnOnce_89 ?_
        refine wc_aload_n X 90 0 dX10_drawnOnce_90 rfl ?_
        refine wc_get X 91 0 1 kd10 rfl (by decide) q_234 rfl dX10_drawnOnce_91 ?_
        refine wc_get X 94 1 1 kd1 rfl (by decide) q_80 rfl dX10_drawnOnce_94 ?_
        refine wc_iload X 97 4 dX10_drawnOnce_97 rfl ?_
        refine wc_callV X 99 [4] 4 (c_X6_hasEndIn l G nb nlb (p 1) (p 3) (afterB (go p) (p 1) (y / 16) j) (afterB_lt hg1 _ _ _)) yv_X6_hasEndIn kd6 rfl rfl q_494 ⟨rfl, rfl⟩ ⟨rfl, rfl⟩ ⟨rfl, rfl⟩ rfl rfl rfl dX10_drawnOnce_99 ?_
        refine wc_callS X 102 [] (c_X10_bit l G ((afterB (go p) (p 1) (y / 16) j) &&& (p 3) != 0) ) ys_X10_bit rfl q_410 ⟨rfl, rfl⟩ ⟨rfl, rfl⟩ ⟨rfl, rfl⟩ rfl rfl rfl dX10_drawnOnce_102 ?_
        refine wc_imulN X 105 dX10_drawnOnce_105 ?_
        refine wc_iaddN X 106 dX10_drawnOnce_106 ?_
        exact ret 107 _ (nI ((((afterB (gz p) (p 0) (y / 16) j) &&& (p 2) != 0).toNat) + (2 * (((afterB (go p) (p 1) (y / 16) j) &&& (p 3) != 0).toNat)))) dX10_drawnOnce_107 (by rw [show j = y % 10 by omega]; rfl)
      ·
        refine wc_iload X 25 5 dX10_drawnOnce_25 rfl ?_
        refine wc_iconstN X 27 2 dX10_drawnOnce_27 ?_
        refine wc_iremN X 28 dX10_drawnOnce_28 (Nat.lt_of_le_of_lt (Nat.div_le_self _ _) (by omega)) (by decide) (by decide) ?_
        refine wc_iconstN X 29 1 dX10_drawnOnce_29 ?_
        refine wc_iaddN X 30 dX10_drawnOnce_30 ?_
        refine wc_istore X 31 (L' := [(0, .ref x), (1, .int (nI y)), (2, .int (nI (y % 10))), (3, .int (nI (afterB (gz p) (p 0) (y / 16) j))), (4, .int (nI (afterB (go p) (p 1) (y / 16) j))), (5, .int (nI (y / 16 / 2 ^ j))), (6, .int (nI j)), (7, .int (nI (((y / 16 / 2 ^ j) % 2) + 1)))]) dX10_drawnOnce_31 (by decide) rfl ?_
        refine wc_aload_n X 33 0 dX10_drawnOnce_33 rfl ?_
        refine wc_get X 34 0 1 kd10 rfl (by decide) q_234 rfl dX10_drawnOnce_34 ?_
        refine wc_get X 37 1 0 kd1 rfl (by decide) q_73 rfl dX10_drawnOnce_37 ?_
        refine wc_iload_n X 40 3 dX10_drawnOnce_40 rfl ?_
        refine wc_iload X 41 7 dX10_drawnOnce_41 rfl ?_
        refine wc_callV X 43 [2, 3] 2 (c_X6_step l G na nla (p 0) (p 2) (gz p) (afterB (gz p) (p 0) (y / 16) j) (((y / 16 / 2 ^ j) % 2) + 1) (by omega) (afterB_lt hg0w _ _ _) (by omega) (by omega)) yv_X6_step kd6 rfl rfl q_742 ⟨rfl, rfl⟩ ⟨rfl, rfl⟩ ⟨rfl, rfl⟩ rfl rfl rfl dX10_drawnOnce_43 ?_
        refine wc_istore_n X 46 (L' := [(0, .ref x), (1, .int (nI y)), (2, .int (nI (y % 10))), (3, .int (nI (stepN (gz p) (afterB (gz p) (p 0) (y / 16) j) (((y / 16 / 2 ^ j) % 2) + 1) (p 0)))), (4, .int (nI (afterB (go p) (p 1) (y / 16) j))), (5, .int (nI (y / 16 / 2 ^ j))), (6, .int (nI j)), (7, .int (nI (((y / 16 / 2 ^ j) % 2) + 1)))]) dX10_drawnOnce_46 (by decide) rfl ?_
        refine wc_aload_n X 47 0 dX10_drawnOnce_47 rfl ?_
        refine wc_get X 48 0 1 kd10 rfl (by decide) q_234 rfl dX10_drawnOnce_48 ?_
        refine wc_get X 51 1 1 kd1 rfl (by decide) q_80 rfl dX10_drawnOnce_51 ?_
        refine wc_iload X 54 4 dX10_drawnOnce_54 rfl ?_
        refine wc_iload X 56 7 dX10_drawnOnce_56 rfl ?_
        refine wc_callV X 58 [4, 5] 4 (c_X6_step l G nb nlb (p 1) (p 3) (go p) (afterB (go p) (p 1) (y / 16) j) (((y / 16 / 2 ^ j) % 2) + 1) (by first | assumption | omega) (afterB_lt hg1 _ _ _) (by omega) (by omega)) yv_X6_step kd6 rfl rfl q_742 ⟨rfl, rfl⟩ ⟨rfl, rfl⟩ ⟨rfl, rfl⟩ rfl rfl rfl dX10_drawnOnce_58 ?_
        refine wc_istore X 61 (L' := [(0, .ref x), (1, .int (nI y)), (2, .int (nI (y % 10))), (3, .int (nI (stepN (gz p) (afterB (gz p) (p 0) (y / 16) j) (((y / 16 / 2 ^ j) % 2) + 1) (p 0)))), (4, .int (nI (stepN (go p) (afterB (go p) (p 1) (y / 16) j) (((y / 16 / 2 ^ j) % 2) + 1) (p 1)))), (5, .int (nI (y / 16 / 2 ^ j))), (6, .int (nI j)), (7, .int (nI (((y / 16 / 2 ^ j) % 2) + 1)))]) dX10_drawnOnce_61 (by decide) rfl ?_
        refine wc_iload X 63 5 dX10_drawnOnce_63 rfl ?_
        refine wc_iconstN X 65 2 dX10_drawnOnce_65 ?_
        refine wc_idivN X 66 dX10_drawnOnce_66 (Nat.lt_of_le_of_lt (Nat.div_le_self _ _) (by omega)) (by decide) (by decide) ?_
        refine wc_istore X 67 (L' := [(0, .ref x), (1, .int (nI y)), (2, .int (nI (y % 10))), (3, .int (nI (stepN (gz p) (afterB (gz p) (p 0) (y / 16) j) (((y / 16 / 2 ^ j) % 2) + 1) (p 0)))), (4, .int (nI (stepN (go p) (afterB (go p) (p 1) (y / 16) j) (((y / 16 / 2 ^ j) % 2) + 1) (p 1)))), (5, .int (nI ((y / 16 / 2 ^ j) / 2))), (6, .int (nI j)), (7, .int (nI (((y / 16 / 2 ^ j) % 2) + 1)))]) dX10_drawnOnce_67 (by decide) rfl ?_
        refine wc_iincN X 69 6 (L' := [(0, .ref x), (1, .int (nI y)), (2, .int (nI (y % 10))), (3, .int (nI (stepN (gz p) (afterB (gz p) (p 0) (y / 16) j) (((y / 16 / 2 ^ j) % 2) + 1) (p 0)))), (4, .int (nI (stepN (go p) (afterB (go p) (p 1) (y / 16) j) (((y / 16 / 2 ^ j) % 2) + 1) (p 1)))), (5, .int (nI ((y / 16 / 2 ^ j) / 2))), (6, .int (nI (j + 1))), (7, .int (nI (((y / 16 / 2 ^ j) % 2) + 1)))]) dX10_drawnOnce_69 rfl (by decide) rfl ?_
        refine wc_goto X 72 19 dX10_drawnOnce_72 (by decide) ?_
        refine wc_loc [0, 1, 2, 3, 4, 5, 6] (L' := [(0, .ref x), (1, .int (nI y)), (2, .int (nI (y % 10))), (3, .int (nI (stepN (gz p) (afterB (gz p) (p 0) (y / 16) j) (((y / 16 / 2 ^ j) % 2) + 1) (p 0)))), (4, .int (nI (stepN (go p) (afterB (go p) (p 1) (y / 16) j) (((y / 16 / 2 ^ j) % 2) + 1) (p 1)))), (5, .int (nI ((y / 16 / 2 ^ j) / 2))), (6, .int (nI (j + 1)))]) rfl ?_
        have e_6 : stepN (gz p) (afterB (gz p) (p 0) (y / 16) j) (((y / 16 / 2 ^ j) % 2) + 1) (p 0) = afterB (gz p) (p 0) (y / 16) (j + 1) := by rw [afterB, ← bit_mod]
        have e_7 : stepN (go p) (afterB (go p) (p 1) (y / 16) j) (((y / 16 / 2 ^ j) % 2) + 1) (p 1) = afterB (go p) (p 1) (y / 16) (j + 1) := by rw [afterB, ← bit_mod]
        have e_8 : (y / 16 / 2 ^ j) / 2 = y / 16 / 2 ^ (j + 1) := by rw [Nat.pow_succ, Nat.div_div_eq_div_mul]
        refine wc_L (L' := [(0, .ref x), (1, .int (nI y)), (2, .int (nI (y % 10))), (3, .int (nI (afterB (gz p) (p 0) (y / 16) (j + 1)))), (4, .int (nI (afterB (go p) (p 1) (y / 16) (j + 1)))), (5, .int (nI (y / 16 / 2 ^ (j + 1)))), (6, .int (nI (j + 1)))]) (by first | (rw [e_6, e_7, e_8]; done) | (rw [e_6, e_7, e_8]; rfl) | (rw [← e_6, ← e_7, ← e_8]; done) | rfl) ?_
        exact ih_3 (j + 1) (by omega) (by omega)
  have e_9 : 1 = afterB (gz p) (p 0) (y / 16) 0 := rfl
  have e_10 : 1 = afterB (go p) (p 1) (y / 16) 0 := rfl
  have e_11 : y / 16 = y / 16 / 2 ^ 0 := by rw [Nat.pow_zero, Nat.div_one]
  refine wc_L (L' := [(0, .ref x), (1, .int (nI y)), (2, .int (nI (y % 10))), (3, .int (nI (afterB (gz p) (p 0) (y / 16) 0))), (4, .int (nI (afterB (go p) (p 1) (y / 16) 0))), (5, .int (nI (y / 16 / 2 ^ 0))), (6, .int (nI 0))]) (by first | (rw [e_9, e_10, e_11]; done) | (rw [e_9, e_10, e_11]; rfl) | (rw [← e_9, ← e_10, ← e_11]; done) | rfl) ?_
  exact LP_2 (10 - 0 + 1) 0 (by omega) (Nat.lt_succ_self _)

set_option maxHeartbeats 4000000 in
set_option maxRecDepth 100000 in
theorem c_X10_drawnF (l : Launch) (G : GG) (x xt xn xr xa xs xf xw xi sn : Nat) (sd : Int64) (xe xp xg xl xk xh xv : Nat) (n : Int32) (ho : outR n 1 20) : RM l G yX10_drawn (Cond.code yX10_drawn cX10_drawn 4 (some .int)) { frames := 0, cells := 0, slots := 0, locals := 0 } [.ref x, .int n] [ob x 10 [.ref xt, .ref xn, .ref xr, .ref xa, .ref xs, .ref xf, .ref xw, .ref xi, .int (nI sn), .long sd, .ref xe, .ref xp, .ref xg, .ref xl, .ref xk, .ref xh, .ref xv]] (.int (-2)) := by
  refine RM.ofI (by decide) rfl (fun Γ X ret => ?_)
  show Wc Γ 0 0 0 [(0, .ref x), (1, .int n)] [] [ob x 10 [.ref xt, .ref xn, .ref xr, .ref xa, .ref xs, .ref xf, .ref xw, .ref xi, .int (nI sn), .long sd, .ref xe, .ref xp, .ref xg, .ref xl, .ref xk, .ref xh, .ref xv]]
  refine wc_iload_n X 0 1 dX10_drawn_0 rfl ?_
  refine wc_iconstN X 1 1 dX10_drawn_1 ?_
  refine wc_icmp_lt X 2 11 dX10_drawn_2 (by decide) (fun c2_1 => ?_) (fun c2_1 => ?_)
  ·
    refine wc_bipush X 11 (-2) dX10_drawn_11 (by decide) ?_
    exact ret 13 _ (-2) dX10_drawn_13 (rfl)
  ·
    refine wc_iload_n X 5 1 dX10_drawn_5 rfl ?_
    refine wc_bipush X 6 (nI 20) dX10_drawn_6 (by decide) ?_
    refine wc_icmp_le X 8 14 dX10_drawn_8 (by decide) (fun c8_2 => ?_) (fun c8_2 => ?_)
    ·
      exact (out_cls ho (by decide) (by decide) c2_1 c8_2).elim
    ·
      refine wc_bipush X 11 (-2) dX10_drawn_11 (by decide) ?_
      exact ret 13 _ (-2) dX10_drawn_13 (rfl)

set_option maxHeartbeats 4000000 in
set_option maxRecDepth 100000 in
theorem c_X10_drawnS (l : Launch) (G : GG) (x xt xn xr xa xs xf xw xi sn : Nat) (sd : Int64) (xe xp xg xl xk xh xv : Nat) (na nla nb nlb : Nat) (p : Nat → Nat) (n : Nat) (hr : pgOk p) (h1 : 1 ≤ n) (h2 : n ≤ 20) : MM l G yX10_drawn (Cond.code yX10_drawn cX10_drawn 4 (some .int)) { frames := 3, cells := 0, slots := 0, locals := 74 } [.ref x, .int (nI n)] [ob x 10 [.ref xt, .ref xn, .ref xr, .ref xa, .ref xs, .ref xf, .ref xw, .ref xi, .int (nI sn), .long sd, .ref xe, .ref xp, .ref xg, .ref xl, .ref xk, .ref xh, .ref xv], ob xn 1 [.ref na, .ref nb], ob na 6 [.int (nI (p 0)), .int (nI (p 2)), .ref nla], aI G nla 10 (nF (gz p)), ob nb 6 [.int (nI (p 1)), .int (nI (p 3)), .ref nlb], aI G nlb 10 (nF (go p))] (fun (v : Option Value) (w : va_W) => v = some (.int (nI (drS p sd n))) ∧ w = [ob x 10 [.ref xt, .ref xn, .ref xr, .ref xa, .ref xs, .ref xf, .ref xw, .ref xi, .int (nI sn), .long (rndI sd n), .ref xe, .ref xp, .ref xg, .ref xl, .ref xk, .ref xh, .ref xv], ob xn 1 [.ref na, .ref nb], ob na 6 [.int (nI (p 0)), .int (nI (p 2)), .ref nla], aI G nla 10 (nF (gz p)), ob nb 6 [.int (nI (p 1)), .int (nI (p 3)), .ref nlb], aI G nlb 10 (nF (go p))]) 0 0 := by
  refine MM.ofI (by decide) rfl (fun Γ X Y hnm ret => ?_)
  show Wc Γ 0 0 0 [(0, .ref x), (1, .int (nI n))] [] [ob x 10 [.ref xt, .ref xn, .ref xr, .ref xa, .ref xs, .ref xf, .ref xw, .ref xi, .int (nI sn), .long sd, .ref xe, .ref xp, .ref xg, .ref xl, .ref xk, .ref xh, .ref xv], ob xn 1 [.ref na, .ref nb], ob na 6 [.int (nI (p 0)), .int (nI (p 2)), .ref nla], aI G nla 10 (nF (gz p)), ob nb 6 [.int (nI (p 1)), .int (nI (p 3)), .ref nlb], aI G nlb 10 (nF (go p))]
  have hn0 := hr.2.1
  have hn01 := hr.1
  have hn1 := hr.2.2.2.1
  have hn11 := hr.2.2.1
  have he0 := pg_e0 hr
  have he1 := hr.2.2.2.2.1 3
  have hg0 := hr.2.2.2.2.2.1
  have hg1 := (fun j => hr.2.2.2.2.1 (12 + j) : ∀ j, go p j < 32)
  have hg0n := (hr.2.2.2.2.2.2.1 0 (by decide) : ∀ j, gz p j < 2 ^ p 0)
  have hg1n := (hr.2.2.2.2.2.2.1 1 (by decide) : ∀ j, go p j < 2 ^ p 1)
  have he0n := hr.2.2.2.2.2.2.2 0 (by decide)
  have he1n := hr.2.2.2.2.2.2.2 1 (by decide)
  have hg0w := (fun j => Nat.lt_trans (hg0 j) (by decide) : ∀ j, gz p j < 32)
  refine wc_iload_n X 0 1 dX10_drawn_0 rfl ?_
  refine wc_iconstN X 1 1 dX10_drawn_1 ?_
  refine wc_icmp_ltN X 2 11 dX10_drawn_2 (by decide) (by omega) (by decide) (fun c2_1 => ?_) (fun c2_1 => ?_)
  ·
    exact absurd c2_1 (by omega)
  ·
    refine wc_iload_n X 5 1 dX10_drawn_5 rfl ?_
    refine wc_bipush X 6 (nI 20) dX10_drawn_6 (by decide) ?_
    refine wc_icmp_leN X 8 14 dX10_drawn_8 (by decide) (by omega) (by decide) (fun c8_2 => ?_) (fun c8_2 => ?_)
    ·
      refine wc_iconstN X 14 0 dX10_drawn_14 ?_
      refine wc_istore_n X 15 (L' := [(0, .ref x), (1, .int (nI n)), (2, .int (nI 0))]) dX10_drawn_15 (by decide) rfl ?_
      refine wc_iconstN X 16 0 dX10_drawn_16 ?_
      refine wc_istore_n X 17 (L' := [(0, .ref x), (1, .int (nI n)), (2, .int (nI 0)), (3, .int (nI 0))]) dX10_drawn_17 (by decide) rfl ?_
      have LP_4 : ∀ (fuel_3 : Nat) (i : Nat), (i ≤ n) → n - i < fuel_3 → Wc Γ 0 0 18 [(0, .ref x), (1, .int (nI n)), (2, .int (nI (drS p sd i))), (3, .int (nI i))] [] [ob x 10 [.ref xt, .ref xn, .ref xr, .ref xa, .ref xs, .ref xf, .ref xw, .ref xi, .int (nI sn), .long (rndI sd i), .ref xe, .ref xp, .ref xg, .ref xl, .ref xk, .ref xh, .ref xv], ob xn 1 [.ref na, .ref nb], ob na 6 [.int (nI (p 0)), .int (nI (p 2)), .ref nla], aI G nla 10 (nF (gz p)), ob nb 6 [.int (nI (p 1)), .int (nI (p 3)), .ref nlb], aI G nlb 10 (nF (go p))] := by
        intro fuel_3
        induction fuel_3 with
        | zero => intro i hi hm; exact absurd hm (Nat.not_lt_zero _)
        | succ fuel_3 ih_5 =>
          intro i hi hm_6
          refine wc_iload_n X 18 3 dX10_drawn_18 rfl ?_
          refine wc_iload_n X 19 1 dX10_drawn_19 rfl ?_
          refine wc_icmp_geN X 20 60 dX10_drawn_20 (by decide) (by omega) (by omega) (fun c20_7 => ?_) (fun c20_7 => ?_)
          ·
            refine wc_iload_n X 60 2 dX10_drawn_60 rfl ?_
            exact ret 61 _ (nI (drS p sd i)) _ dX10_drawn_61 (⟨by rw [show i = n by omega], by rw [show i = n by omega]⟩)
          ·
            refine wc_aload_n X 23 0 dX10_drawn_23 rfl ?_
            refine wc_aload_n X 24 0 dX10_drawn_24 rfl ?_
            refine wc_get X 25 0 9 kd10 rfl (by decide) q_242 rfl dX10_drawn_25 ?_
            refine wc_ldc2 X 28 290 (6364136223846793005) q_736 dX10_drawn_28 ?_
            refine wc_lmul X 31 dX10_drawn_31 ?_
            refine wc_ldc2 X 32 292 (1442695040888963407) q_737 dX10_drawn_32 ?_
            refine wc_ladd X 35 dX10_drawn_35 ?_
            refine wc_put X Y 36 0 9 kd10 rfl (by decide) q_242 rfl rfl rfl (Nat.le_of_ble_eq_true rfl) (ws' := [ob x 10 [.ref xt, .ref xn, .ref xr, .ref xa, .ref xs, .ref xf, .ref xw, .ref xi, .int (nI sn), .long (((rndI sd i) * 6364136223846793005) + 1442695040888963407), .ref xe, .ref xp, .ref xg, .ref xl, .ref xk, .ref xh, .ref xv], ob xn 1 [.ref na, .ref nb], ob na 6 [.int (nI (p 0)), .int (nI (p 2)), .ref nla], aI G nla 10 (nF (gz p)), ob nb 6 [.int (nI (p 1)), .int (nI (p 3)), .ref nlb], aI G nlb 10 (nF (go p))]) rfl dX10_drawn_36 ?_
            refine wc_ws (ws' := [ob x 10 [.ref xt, .ref xn, .ref xr, .ref xa, .ref xs, .ref xf, .ref xw, .ref xi, .int (nI sn), .long (rndI sd (i + 1)), .ref xe, .ref xp, .ref xg, .ref xl, .ref xk, .ref xh, .ref xv], ob xn 1 [.ref na, .ref nb], ob na 6 [.int (nI (p 0)), .int (nI (p 2)), .ref nla], aI G nla 10 (nF (gz p)), ob nb 6 [.int (nI (p 1)), .int (nI (p 3)), .ref nlb], aI G nlb 10 (nF (go p))]) (rfl) ?_
            refine wc_iload_n X 39 2 dX10_drawn_39 rfl ?_
            refine wc_aload_n X 40 0 dX10_drawn_40 rfl ?_
            refine wc_aload_n X 41 0 dX10_drawn_41 rfl ?_
            refine wc_get X 42 0 9 kd10 rfl (by decide) q_242 rfl dX10_drawn_42 ?_
            refine wc_bipush X 45 (nI 33) dX10_drawn_45 (by decide) ?_
            refine wc_lushr X 47 dX10_drawn_47 ?_
            refine wc_l2i X 48 dX10_drawn_48 ?_
            refine wc_topi (nI (sh33 (rndI sd (i + 1)))) (sh33_eq _) ?_
            refine wc_callV X 49 [0, 1, 2, 3, 4, 5] 0 (c_X10_drawnOnce l G x xt xn xr xa xs xf xw xi sn (rndI sd (i + 1)) xe xp xg xl xk xh xv na nla nb nlb p (sh33 (rndI sd (i + 1))) (by first | assumption | omega) (sh33_lt _)) yv_X10_drawnOnce kd10 rfl rfl q_738 ⟨rfl, rfl⟩ ⟨rfl, rfl⟩ ⟨rfl, rfl⟩ rfl rfl rfl dX10_drawn_49 ?_
            refine wc_iaddN X 52 dX10_drawn_52 ?_
            refine wc_istore_n X 53 (L' := [(0, .ref x), (1, .int (nI n)), (2, .int (nI ((drS p sd i) + (drO p (sh33 (rndI sd (i + 1))))))), (3, .int (nI i))]) dX10_drawn_53 (by decide) rfl ?_
            refine wc_iincN X 54 3 (L' := [(0, .ref x), (1, .int (nI n)), (2, .int (nI ((drS p sd i) + (drO p (sh33 (rndI sd (i + 1))))))), (3, .int (nI (i + 1)))]) dX10_drawn_54 rfl (by decide) rfl ?_
            refine wc_goto X 57 18 dX10_drawn_57 (by decide) ?_
            have e_8 : (drS p sd i) + (drO p (sh33 (rndI sd (i + 1)))) = drS p sd (i + 1) := rfl
            refine wc_L (L' := [(0, .ref x), (1, .int (nI n)), (2, .int (nI (drS p sd (i + 1)))), (3, .int (nI (i + 1)))]) (by first | (rw [e_8]; done) | (rw [e_8]; rfl) | (rw [← e_8]; done) | rfl) ?_
            exact ih_5 (i + 1) (by omega) (by omega)
      have e_9 : 0 = drS p sd 0 := rfl
      refine wc_L (L' := [(0, .ref x), (1, .int (nI n)), (2, .int (nI (drS p sd 0))), (3, .int (nI 0))]) (by first | (rw [e_9]; done) | (rw [e_9]; rfl) | (rw [← e_9]; done) | rfl) ?_
      refine wc_ws (ws' := [ob x 10 [.ref xt, .ref xn, .ref xr, .ref xa, .ref xs, .ref xf, .ref xw, .ref xi, .int (nI sn), .long (rndI sd 0), .ref xe, .ref xp, .ref xg, .ref xl, .ref xk, .ref xh, .ref xv], ob xn 1 [.ref na, .ref nb], ob na 6 [.int (nI (p 0)), .int (nI (p 2)), .ref nla], aI G nla 10 (nF (gz p)), ob nb 6 [.int (nI (p 1)), .int (nI (p 3)), .ref nlb], aI G nlb 10 (nF (go p))]) (rfl) ?_
      exact LP_4 (n - 0 + 1) 0 (by omega) (Nat.lt_succ_self _)
    ·
      exact absurd c8_2 (by omega)

set_option maxHeartbeats 4000000 in
set_option maxRecDepth 100000 in
theorem c_X10_isAsSeen (l : Launch) (G : GG) (x xt xn xr xa xs xf xw xi sn : Nat) (sd : Int64) (xe xp xg xl xk xh xv : Nat) (sw si : Nat → Nat) (q lq n e : Nat) (g : Nat → Nat) (i : Nat) (hn : n ≤ 5) (he : e < 32) (hg : ∀ j, g j < 32) (hs6 : sn ≤ 6) (hsw : ∀ j, j < sn → sw j < 2147483648) (hi : i < 5) (hsi : ∀ j, j < sn → si j < 2147483648) : RM l G yX10_isAsSeen (Cond.code yX10_isAsSeen cX10_isAsSeen 4 (some .boolean)) { frames := 4, cells := 0, slots := 0, locals := 94 } [.ref x, .ref q, .int (nI i)] [ob x 10 [.ref xt, .ref xn, .ref xr, .ref xa, .ref xs, .ref xf, .ref xw, .ref xi, .int (nI sn), .long sd, .ref xe, .ref xp, .ref xg, .ref xl, .ref xk, .ref xh, .ref xv], aI G xw 6 (nF sw), aI G xi 6 (nF si), ob q 6 [.int (nI n), .int (nI e), .ref lq], aI G lq 10 (nF g)] (.int (b2i (agB g n e sn sw si i))) := by
  refine RM.ofZ (by decide) rfl (fun Γ X ret => ?_)
  show Wc Γ 0 0 0 [(0, .ref x), (1, .ref q), (2, .int (nI i))] [] [ob x 10 [.ref xt, .ref xn, .ref xr, .ref xa, .ref xs, .ref xf, .ref xw, .ref xi, .int (nI sn), .long sd, .ref xe, .ref xp, .ref xg, .ref xl, .ref xk, .ref xh, .ref xv], aI G xw 6 (nF sw), aI G xi 6 (nF si), ob q 6 [.int (nI n), .int (nI e), .ref lq], aI G lq 10 (nF g)]
  refine wc_iconstN X 0 0 dX10_isAsSeen_0 ?_
  refine wc_istore_n X 1 (L' := [(0, .ref x), (1, .ref q), (2, .int (nI i)), (3, .int (nI 0))]) dX10_isAsSeen_1 (by decide) rfl ?_
  have LP_2 : ∀ (fuel_1 : Nat) (j : Nat), (j ≤ sn) → (∀ t, t < j → (walkD g n (sw t) (2 ^ i) 9 &&& e != 0).toNat = si t) → sn - j < fuel_1 → Wc Γ 0 0 2 [(0, .ref x), (1, .ref q), (2, .int (nI i)), (3, .int (nI j))] [] [ob x 10 [.ref xt, .ref xn, .ref xr, .ref xa, .ref xs, .ref xf, .ref xw, .ref xi, .int (nI sn), .long sd, .ref xe, .ref xp, .ref xg, .ref xl, .ref xk, .ref xh, .ref xv], aI G xw 6 (nF sw), aI G xi 6 (nF si), ob q 6 [.int (nI n), .int (nI e), .ref lq], aI G lq 10 (nF g)] := by
    intro fuel_1
    induction fuel_1 with
    | zero => intro j hj hA hm; exact absurd hm (Nat.not_lt_zero _)
    | succ fuel_1 ih_3 =>
      intro j hj hA hm_4
      refine wc_iload_n X 2 3 dX10_isAsSeen_2 rfl ?_
      refine wc_aload_n X 3 0 dX10_isAsSeen_3 rfl ?_
      refine wc_get X 4 0 8 kd10 rfl (by decide) q_241 rfl dX10_isAsSeen_4 ?_
      refine wc_icmp_geN X 7 49 dX10_isAsSeen_7 (by decide) (by omega) (by omega) (fun c7_5 => ?_) (fun c7_5 => ?_)
      ·
        refine wc_iconstN X 49 1 dX10_isAsSeen_49 ?_
        refine wc_st (st' := [.int (b2i true)]) rfl ?_
        exact ret 50 _ true dX10_isAsSeen_50 ((decB_t (fun t ht => hA t (by omega))).symm)
      ·
        refine wc_iload_n X 10 3 dX10_isAsSeen_10 rfl ?_
        refine wc_bipush X 11 (nI 6) dX10_isAsSeen_11 (by decide) ?_
        refine wc_icmp_geN X 13 49 dX10_isAsSeen_13 (by decide) (by omega) (by decide) (fun c13_6 => ?_) (fun c13_6 => ?_)
        ·
          exact absurd c13_6 (by omega)
        ·
          refine wc_aload_n X 16 1 dX10_isAsSeen_16 rfl ?_
          refine wc_iconstN X 17 1 dX10_isAsSeen_17 ?_
          refine wc_iload_n X 18 2 dX10_isAsSeen_18 rfl ?_
          refine wc_shl1 X 19 dX10_isAsSeen_19 (by omega) ?_
          refine wc_aload_n X 20 0 dX10_isAsSeen_20 rfl ?_
          refine wc_get X 21 0 6 kd10 rfl (by decide) q_239 rfl dX10_isAsSeen_21 ?_
          refine wc_iload_n X 24 3 dX10_isAsSeen_24 rfl ?_
          refine wc_ialdG X 25 1 rfl (by omega) (by decide) dX10_isAsSeen_25 ?_
          refine wc_callV X 26 [3, 4] 3 (c_X6_accepts l G q lq n e g (2 ^ i) (sw j) (by first | assumption | omega) (Nat.lt_of_lt_of_le (Nat.pow_lt_pow_right (by decide) hi) (by decide : 2 ^ 5 ≤ 32)) (hsw _ (by omega)) (by first | assumption | omega)) yv_X6_accepts kd6 rfl rfl q_452 ⟨rfl, rfl⟩ ⟨rfl, rfl⟩ ⟨rfl, rfl⟩ rfl rfl rfl dX10_isAsSeen_26 ?_
          refine wc_callS X 29 [] (c_X10_bit l G (walkD g n (sw j) (2 ^ i) 9 &&& e != 0) ) ys_X10_bit rfl q_410 ⟨rfl, rfl⟩ ⟨rfl, rfl⟩ ⟨rfl, rfl⟩ rfl rfl rfl dX10_isAsSeen_29 ?_
          refine wc_aload_n X 32 0 dX10_isAsSeen_32 rfl ?_
          refine wc_get X 33 0 7 kd10 rfl (by decide) q_240 rfl dX10_isAsSeen_33 ?_
          refine wc_iload_n X 36 3 dX10_isAsSeen_36 rfl ?_
          refine wc_ialdG X 37 2 rfl (by omega) (by decide) dX10_isAsSeen_37 ?_
          refine wc_icmp_eqN X 38 43 dX10_isAsSeen_38 (by decide) (Nat.lt_of_le_of_lt (Bool.toNat_le _) (by decide)) (hsi _ (by omega)) (fun c38_7 => ?_) (fun c38_7 => ?_)
          ·
            refine wc_iincN X 43 3 (L' := [(0, .ref x), (1, .ref q), (2, .int (nI i)), (3, .int (nI (j + 1)))]) dX10_isAsSeen_43 rfl (by decide) rfl ?_
            refine wc_goto X 46 2 dX10_isAsSeen_46 (by decide) ?_
            refine wc_L (L' := [(0, .ref x), (1, .ref q), (2, .int (nI i)), (3, .int (nI (j + 1)))]) (by rfl) ?_
            exact ih_3 (j + 1) (by omega) (lt_ext hA c38_7) (by omega)
          ·
            refine wc_iconstN X 41 0 dX10_isAsSeen_41 ?_
            refine wc_st (st' := [.int (b2i false)]) rfl ?_
            exact ret 42 _ false dX10_isAsSeen_42 ((decB_f (fun z => c38_7 (z j (by omega)))).symm)
  exact LP_2 (sn - 0 + 1) 0 (Nat.zero_le _) (fun t ht => absurd ht (Nat.not_lt_zero _)) (Nat.lt_succ_self _)

set_option maxHeartbeats 4000000 in
set_option maxRecDepth 100000 in
theorem c_X10_statesAsSeen (l : Launch) (G : GG) (x xt xn xr xa xs xf xw xi sn : Nat) (sd : Int64) (xe xp xg xl xk xh xv : Nat) (sw si : Nat → Nat) (q lq n e : Nat) (g : Nat → Nat) (hn : n ≤ 5) (he : e < 32) (hg : ∀ j, g j < 32) (hs6 : sn ≤ 6) (hsw : ∀ j, j < sn → sw j < 2147483648) (hsi : ∀ j, j < sn → si j < 2147483648) : RM l G yX10_statesAsSeen (Cond.code yX10_statesAsSeen cX10_statesAsSeen 4 (some .int)) { frames := 5, cells := 0, slots := 0, locals := 117 } [.ref x, .ref q] [ob x 10 [.ref xt, .ref xn, .ref xr, .ref xa, .ref xs, .ref xf, .ref xw, .ref xi, .int (nI sn), .long sd, .ref xe, .ref xp, .ref xg, .ref xl, .ref xk, .ref xh, .ref xv], aI G xw 6 (nF sw), aI G xi 6 (nF si), ob q 6 [.int (nI n), .int (nI e), .ref lq], aI G lq 10 (nF g)] (.int (nI (bitsN (agB g n e sn sw si) n))) := by
  refine RM.ofI (by decide) rfl (fun Γ X ret => ?_)
  show Wc Γ 0 0 0 [(0, .ref x), (1, .ref q)] [] [ob x 10 [.ref xt, .ref xn, .ref xr, .ref xa, .ref xs, .ref xf, .ref xw, .ref xi, .int (nI sn), .long sd, .ref xe, .ref xp, .ref xg, .ref xl, .ref xk, .ref xh, .ref xv], aI G xw 6 (nF sw), aI G xi 6 (nF si), ob q 6 [.int (nI n), .int (nI e), .ref lq], aI G lq 10 (nF g)]
  refine wc_iconstN X 0 0 dX10_statesAsSeen_0 ?_
  refine wc_istore_n X 1 (L' := [(0, .ref x), (1, .ref q), (2, .int (nI 0))]) dX10_statesAsSeen_1 (by decide) rfl ?_
  refine wc_iconstN X 2 0 dX10_statesAsSeen_2 ?_
  refine wc_istore_n X 3 (L' := [(0, .ref x), (1, .ref q), (2, .int (nI 0)), (3, .int (nI 0))]) dX10_statesAsSeen_3 (by decide) rfl ?_
  have LP_2 : ∀ (fuel_1 : Nat) (i : Nat), (i ≤ n) → n - i < fuel_1 → Wc Γ 0 0 4 [(0, .ref x), (1, .ref q), (2, .int (nI (bitsN (agB g n e sn sw si) i))), (3, .int (nI i))] [] [ob x 10 [.ref xt, .ref xn, .ref xr, .ref xa, .ref xs, .ref xf, .ref xw, .ref xi, .int (nI sn), .long sd, .ref xe, .ref xp, .ref xg, .ref xl, .ref xk, .ref xh, .ref xv], aI G xw 6 (nF sw), aI G xi 6 (nF si), ob q 6 [.int (nI n), .int (nI e), .ref lq], aI G lq 10 (nF g)] := by
    intro fuel_1
    induction fuel_1 with
    | zero => intro i hi hm; exact absurd hm (Nat.not_lt_zero _)
    | succ fuel_1 ih_3 =>
      intro i hi hm_4
      refine wc_iload_n X 4 3 dX10_statesAsSeen_4 rfl ?_
      refine wc_aload_n X 5 1 dX10_statesAsSeen_5 rfl ?_
      refine wc_get X 6 3 0 kd6 rfl (by decide) q_53 rfl dX10_statesAsSeen_6 ?_
      refine wc_icmp_geN X 9 37 dX10_statesAsSeen_9 (by decide) (by omega) (by omega) (fun c9_5 => ?_) (fun c9_5 => ?_)
      ·
        refine wc_iload_n X 37 2 dX10_statesAsSeen_37 rfl ?_
        exact ret 38 _ (nI (bitsN (agB g n e sn sw si) i)) dX10_statesAsSeen_38 (by rw [show i = n by omega])
      ·
        refine wc_iload_n X 12 2 dX10_statesAsSeen_12 rfl ?_
        refine wc_aload_n X 13 0 dX10_statesAsSeen_13 rfl ?_
        refine wc_aload_n X 14 1 dX10_statesAsSeen_14 rfl ?_
        refine wc_iload_n X 15 3 dX10_statesAsSeen_15 rfl ?_
        refine wc_callV X 16 [0, 1, 2, 3, 4] 0 (c_X10_isAsSeen l G x xt xn xr xa xs xf xw xi sn sd xe xp xg xl xk xh xv sw si q lq n e g i (by first | assumption | omega) (by first | assumption | omega) (by first | assumption | omega) (by first | assumption | omega) (by first | assumption | omega) (by omega) (by first | assumption | omega)) yv_X10_isAsSeen kd10 rfl rfl q_697 ⟨rfl, rfl⟩ ⟨rfl, rfl⟩ ⟨rfl, rfl⟩ rfl rfl rfl dX10_statesAsSeen_16 ?_
        refine wc_if_eqB X 19 28 dX10_statesAsSeen_19 (by decide) (fun c19_6 => ?_) (fun c19_6 => ?_)
        ·
          refine wc_iconstN X 28 0 dX10_statesAsSeen_28 ?_
          refine wc_iorN X 29 dX10_statesAsSeen_29 ?_
          refine wc_istore_n X 30 (L' := [(0, .ref x), (1, .ref q), (2, .int (nI ((bitsN (agB g n e sn sw si) i) ||| 0))), (3, .int (nI i))]) dX10_statesAsSeen_30 (by decide) rfl ?_
          refine wc_iincN X 31 3 (L' := [(0, .ref x), (1, .ref q), (2, .int (nI ((bitsN (agB g n e sn sw si) i) ||| 0))), (3, .int (nI (i + 1)))]) dX10_statesAsSeen_31 rfl (by decide) rfl ?_
          refine wc_goto X 34 4 dX10_statesAsSeen_34 (by decide) ?_
          have e_7 : (bitsN (agB g n e sn sw si) i) ||| 0 = bitsN (agB g n e sn sw si) (i + 1) := by rw [bitsN, c19_6]; rfl
          refine wc_L (L' := [(0, .ref x), (1, .ref q), (2, .int (nI (bitsN (agB g n e sn sw si) (i + 1)))), (3, .int (nI (i + 1)))]) (by first | (rw [e_7]; done) | (rw [e_7]; rfl) | (rw [← e_7]; done) | rfl) ?_
          exact ih_3 (i + 1) (by omega) (by omega)
        ·
          refine wc_iconstN X 22 1 dX10_statesAsSeen_22 ?_
          refine wc_iload_n X 23 3 dX10_statesAsSeen_23 rfl ?_
          refine wc_shl1 X 24 dX10_statesAsSeen_24 (by omega) ?_
          refine wc_goto X 25 29 dX10_statesAsSeen_25 (by decide) ?_
          refine wc_iorN X 29 dX10_statesAsSeen_29 ?_
          refine wc_istore_n X 30 (L' := [(0, .ref x), (1, .ref q), (2, .int (nI ((bitsN (agB g n e sn sw si) i) ||| (2 ^ i)))), (3, .int (nI i))]) dX10_statesAsSeen_30 (by decide) rfl ?_
          refine wc_iincN X 31 3 (L' := [(0, .ref x), (1, .ref q), (2, .int (nI ((bitsN (agB g n e sn sw si) i) ||| (2 ^ i)))), (3, .int (nI (i + 1)))]) dX10_statesAsSeen_31 rfl (by decide) rfl ?_
          refine wc_goto X 34 4 dX10_statesAsSeen_34 (by decide) ?_
          have e_8 : (bitsN (agB g n e sn sw si) i) ||| (2 ^ i) = bitsN (agB g n e sn sw si) (i + 1) := by rw [bitsN, c19_6]; rfl
          refine wc_L (L' := [(0, .ref x), (1, .ref q), (2, .int (nI (bitsN (agB g n e sn sw si) (i + 1)))), (3, .int (nI (i + 1)))]) (by first | (rw [e_8]; done) | (rw [e_8]; rfl) | (rw [← e_8]; done) | rfl) ?_
          exact ih_3 (i + 1) (by omega) (by omega)
  have e_9 : 0 = bitsN (agB g n e sn sw si) 0 := rfl
  refine wc_L (L' := [(0, .ref x), (1, .ref q), (2, .int (nI (bitsN (agB g n e sn sw si) 0))), (3, .int (nI 0))]) (by first | (rw [e_9]; done) | (rw [e_9]; rfl) | (rw [← e_9]; done) | rfl) ?_
  exact LP_2 (n - 0 + 1) 0 (by omega) (Nat.lt_succ_self _)

set_option maxHeartbeats 4000000 in
set_option maxRecDepth 100000 in
theorem c_X10_which (l : Launch) (G : GG) (x xt xn xr xa xs xf xw xi sn : Nat) (sd : Int64) (xe xp xg xl xk xh xv : Nat) (na nla nb nlb : Nat) (p : Nat → Nat) (sw si : Nat → Nat) (hr : pgOk p) (hs6 : sn ≤ 6) (hsw : ∀ j, j < sn → wordOk (sw j) = true) (hsi : ∀ j, j < sn → si j ≤ 1) : RM l G yX10_which (Cond.code yX10_which cX10_which 1 (some .int)) { frames := 6, cells := 0, slots := 0, locals := 140 } [.ref x] [ob x 10 [.ref xt, .ref xn, .ref xr, .ref xa, .ref xs, .ref xf, .ref xw, .ref xi, .int (nI sn), .long sd, .ref xe, .ref xp, .ref xg, .ref xl, .ref xk, .ref xh, .ref xv], ob xn 1 [.ref na, .ref nb], ob na 6 [.int (nI (p 0)), .int (nI (p 2)), .ref nla], aI G nla 10 (nF (gz p)), ob nb 6 [.int (nI (p 1)), .int (nI (p 3)), .ref nlb], aI G nlb 10 (nF (go p)), aI G xw 6 (nF sw), aI G xi 6 (nF si)] (.int (nI (bitsN (agB (gz p) (p 0) (p 2) sn sw si) (p 0) + 16 * bitsN (agB (go p) (p 1) (p 3) sn sw si) (p 1)))) := by
  refine RM.ofI (by decide) rfl (fun Γ X ret => ?_)
  show Wc Γ 0 0 0 [(0, .ref x)] [] [ob x 10 [.ref xt, .ref xn, .ref xr, .ref xa, .ref xs, .ref xf, .ref xw, .ref xi, .int (nI sn), .long sd, .ref xe, .ref xp, .ref xg, .ref xl, .ref xk, .ref xh, .ref xv], ob xn 1 [.ref na, .ref nb], ob na 6 [.int (nI (p 0)), .int (nI (p 2)), .ref nla], aI G nla 10 (nF (gz p)), ob nb 6 [.int (nI (p 1)), .int (nI (p 3)), .ref nlb], aI G nlb 10 (nF (go p)), aI G xw 6 (nF sw), aI G xi 6 (nF si)]
  have hn0 := hr.2.1
  have hn01 := hr.1
  have hn1 := hr.2.2.2.1
  have hn11 := hr.2.2.1
  have he0 := pg_e0 hr
  have he1 := hr.2.2.2.2.1 3
  have hg0 := hr.2.2.2.2.2.1
  have hg1 := (fun j => hr.2.2.2.2.1 (12 + j) : ∀ j, go p j < 32)
  have hg0n := (hr.2.2.2.2.2.2.1 0 (by decide) : ∀ j, gz p j < 2 ^ p 0)
  have hg1n := (hr.2.2.2.2.2.2.1 1 (by decide) : ∀ j, go p j < 2 ^ p 1)
  have he0n := hr.2.2.2.2.2.2.2 0 (by decide)
  have he1n := hr.2.2.2.2.2.2.2 1 (by decide)
  have hg0w := (fun j => Nat.lt_trans (hg0 j) (by decide) : ∀ j, gz p j < 32)
  have hw31 : ∀ j, j < sn → sw j < 2147483648 := fun j hj => by have := wordOk_lt (hsw j hj); omega
  have hi31 : ∀ j, j < sn → si j < 2147483648 := fun j hj => by have := hsi j hj; omega
  refine wc_aload_n X 0 0 dX10_which_0 rfl ?_
  refine wc_aload_n X 1 0 dX10_which_1 rfl ?_
  refine wc_get X 2 0 1 kd10 rfl (by decide) q_234 rfl dX10_which_2 ?_
  refine wc_get X 5 1 0 kd1 rfl (by decide) q_73 rfl dX10_which_5 ?_
  refine wc_callV X 8 [0, 6, 7, 2, 3] 0 (c_X10_statesAsSeen l G x xt xn xr xa xs xf xw xi sn sd xe xp xg xl xk xh xv sw si na nla (p 0) (p 2) (gz p) (by omega) (by omega) hg0w (by first | assumption | omega) hw31 hi31) yv_X10_statesAsSeen kd10 rfl rfl q_693 ⟨rfl, rfl⟩ ⟨rfl, rfl⟩ ⟨rfl, rfl⟩ rfl rfl rfl dX10_which_8 ?_
  refine wc_bipush X 11 (nI 16) dX10_which_11 (by decide) ?_
  refine wc_aload_n X 13 0 dX10_which_13 rfl ?_
  refine wc_aload_n X 14 0 dX10_which_14 rfl ?_
  refine wc_get X 15 0 1 kd10 rfl (by decide) q_234 rfl dX10_which_15 ?_
  refine wc_get X 18 1 1 kd1 rfl (by decide) q_80 rfl dX10_which_18 ?_
  refine wc_callV X 21 [0, 6, 7, 4, 5] 0 (c_X10_statesAsSeen l G x xt xn xr xa xs xf xw xi sn sd xe xp xg xl xk xh xv sw si nb nlb (p 1) (p 3) (go p) (by first | assumption | omega) (by first | assumption | omega) hg1 (by first | assumption | omega) hw31 hi31) yv_X10_statesAsSeen kd10 rfl rfl q_693 ⟨rfl, rfl⟩ ⟨rfl, rfl⟩ ⟨rfl, rfl⟩ rfl rfl rfl dX10_which_21 ?_
  refine wc_imulN X 24 dX10_which_24 ?_
  refine wc_iaddN X 25 dX10_which_25 ?_
  exact ret 26 _ (nI ((bitsN (agB (gz p) (p 0) (p 2) sn sw si) (p 0)) + (16 * (bitsN (agB (go p) (p 1) (p 3) sn sw si) (p 1))))) dX10_which_26 (rfl)

set_option maxHeartbeats 4000000 in
set_option maxRecDepth 100000 in
theorem c_X10_turnsEdge (l : Launch) (G : GG) (x xt xn xr xa xs xf xw xi sn : Nat) (sd : Int64) (xe xp xg xl xk xh xv : Nat) (ra rla rb rlb : Nat) (p : Nat → Nat) (a b c j : Nat) (hr : pgOk p) (ha : a < 10) (hb : b < 10) (hc : c < 10) (hj : j < 10) : MM l G yX10_turnsEdge (Cond.code yX10_turnsEdge cX10_turnsEdge 5 (some .boolean)) { frames := 3, cells := 0, slots := 0, locals := 67 } [.ref x, .int (nI a), .int (nI b), .int (nI c), .int (nI j)] [ob x 10 [.ref xt, .ref xn, .ref xr, .ref xa, .ref xs, .ref xf, .ref xw, .ref xi, .int (nI sn), .long sd, .ref xe, .ref xp, .ref xg, .ref xl, .ref xk, .ref xh, .ref xv], ob xr 1 [.ref ra, .ref rb], ob ra 6 [.int (nI (p 0)), .int (nI (p 2)), .ref rla], aI G rla 10 (nF (gz p)), ob rb 6 [.int (nI (p 1)), .int (nI (p 3)), .ref rlb], aI G rlb 10 (nF (go p))] (fun (v : Option Value) (w : va_W) => v = some (.int (b2i (edB p a b c j))) ∧ w = [ob x 10 [.ref xt, .ref xn, .ref xr, .ref xa, .ref xs, .ref xf, .ref xw, .ref xi, .int (nI sn), .long sd, .ref xe, .ref xp, .ref xg, .ref xl, .ref xk, .ref xh, .ref xv], ob xr 1 [.ref ra, .ref rb], ob ra 6 [.int (nI ((if edB p a b c j = true then flE p a b c j else p) 0)), .int (nI ((if edB p a b c j = true then flE p a b c j else p) 2)), .ref rla], aI G rla 10 (nF (gz (if edB p a b c j = true then flE p a b c j else p))), ob rb 6 [.int (nI ((if edB p a b c j = true then flE p a b c j else p) 1)), .int (nI ((if edB p a b c j = true then flE p a b c j else p) 3)), .ref rlb], aI G rlb 10 (nF (go (if edB p a b c j = true then flE p a b c j else p)))]) 0 0 := by
  refine MM.ofZ (by decide) rfl (fun Γ X Y hnm ret => ?_)
  show Wc Γ 0 0 0 [(0, .ref x), (1, .int (nI a)), (2, .int (nI b)), (3, .int (nI c)), (4, .int (nI j))] [] [ob x 10 [.ref xt, .ref xn, .ref xr, .ref xa, .ref xs, .ref xf, .ref xw, .ref xi, .int (nI sn), .long sd, .ref xe, .ref xp, .ref xg, .ref xl, .ref xk, .ref xh, .ref xv], ob xr 1 [.ref ra, .ref rb], ob ra 6 [.int (nI (p 0)), .int (nI (p 2)), .ref rla], aI G rla 10 (nF (gz p)), ob rb 6 [.int (nI (p 1)), .int (nI (p 3)), .ref rlb], aI G rlb 10 (nF (go p))]
  have hn0 := hr.2.1
  have hn01 := hr.1
  have hn1 := hr.2.2.2.1
  have hn11 := hr.2.2.1
  have he0 := pg_e0 hr
  have he1 := hr.2.2.2.2.1 3
  have hg0 := hr.2.2.2.2.2.1
  have hg1 := (fun j => hr.2.2.2.2.1 (12 + j) : ∀ j, go p j < 32)
  have hg0n := (hr.2.2.2.2.2.2.1 0 (by decide) : ∀ j, gz p j < 2 ^ p 0)
  have hg1n := (hr.2.2.2.2.2.2.1 1 (by decide) : ∀ j, go p j < 2 ^ p 1)
  have he0n := hr.2.2.2.2.2.2.2 0 (by decide)
  have he1n := hr.2.2.2.2.2.2.2 1 (by decide)
  have hg0w := (fun j => Nat.lt_trans (hg0 j) (by decide) : ∀ j, gz p j < 32)
  refine wc_aload_n X 0 0 dX10_turnsEdge_0 rfl ?_
  refine wc_get X 1 0 2 kd10 rfl (by decide) q_235 rfl dX10_turnsEdge_1 ?_
  refine wc_iload_n X 4 1 dX10_turnsEdge_4 rfl ?_
  refine wc_iload_n X 5 2 dX10_turnsEdge_5 rfl ?_
  refine wc_iload_n X 6 3 dX10_turnsEdge_6 rfl ?_
  refine wc_iload X 7 4 dX10_turnsEdge_7 rfl ?_
  refine wc_callS X 9 [1, 2, 4] (c_X10_isEdgeOf l G xr ra rla (p 0) (p 2) rb rlb (p 1) (p 3) (nI a) (nI b) (nI c) (nI j) ) ys_X10_isEdgeOf rfl q_394 ⟨rfl, rfl⟩ ⟨rfl, rfl⟩ ⟨rfl, rfl⟩ rfl rfl rfl dX10_turnsEdge_9 ?_
  refine wc_topi (b2i (edB p a b c j)) (congrArg b2i (ed_B hr ha hb hc hj)) ?_
  refine wc_if_neB X 12 17 dX10_turnsEdge_12 (by decide) (fun c12_1 => ?_) (fun c12_1 => ?_)
  ·
    have hed := c12_1
    obtain ⟨ha2, hb2, h1, h2, hj2⟩ := of_decide_eq_true c12_1
    rcases (show a = 0 ∨ a = 1 by omega) with rfl | rfl
    ·
      refine wc_aload_n X 17 0 dX10_turnsEdge_17 rfl ?_
      refine wc_get X 18 0 2 kd10 rfl (by decide) q_235 rfl dX10_turnsEdge_18 ?_
      refine wc_iload_n X 21 1 dX10_turnsEdge_21 rfl ?_
      refine wc_callV X 22 [1] 1 (c_X1_of0 l G xr ra rb ) yv_X1_of kd1 rfl rfl q_403 ⟨rfl, rfl⟩ ⟨rfl, rfl⟩ ⟨rfl, rfl⟩ rfl rfl rfl dX10_turnsEdge_22 ?_
      refine wc_iload_n X 25 2 dX10_turnsEdge_25 rfl ?_
      refine wc_iload_n X 26 3 dX10_turnsEdge_26 rfl ?_
      refine wc_iload X 27 4 dX10_turnsEdge_27 rfl ?_
      refine wc_mutV X Y 29 [2, 3] [0, 1, 4, 5] 2 (c_X6_flipEdge l G ra rla (p 0) (p 2) (gz p) b c j (by omega) (by first | assumption | omega) (by first | assumption | omega) (by omega)) yv_X6_flipEdge kd6 rfl rfl (wr := [ob x 10 [.ref xt, .ref xn, .ref xr, .ref xa, .ref xs, .ref xf, .ref xw, .ref xi, .int (nI sn), .long sd, .ref xe, .ref xp, .ref xg, .ref xl, .ref xk, .ref xh, .ref xv], ob xr 1 [.ref ra, .ref rb], ob rb 6 [.int (nI (p 1)), .int (nI (p 3)), .ref rlb], aI G rlb 10 (nF (go p))]) rfl ⟨rfl, rfl, rfl⟩ q_103 ⟨rfl, rfl⟩ ⟨rfl, rfl⟩ ⟨rfl, rfl⟩ rfl rfl rfl dX10_turnsEdge_29 (fun v w hp_2 => ?_)
      obtain ⟨rfl, rfl⟩ := hp_2
      refine wc_perm Y [0, 1, 4, 5, 2, 3] [ob x 10 [.ref xt, .ref xn, .ref xr, .ref xa, .ref xs, .ref xf, .ref xw, .ref xi, .int (nI sn), .long sd, .ref xe, .ref xp, .ref xg, .ref xl, .ref xk, .ref xh, .ref xv], ob xr 1 [.ref ra, .ref rb], ob ra 6 [.int (nI (p 0)), .int (nI (p 2)), .ref rla], aI G rla 10 (nF (up (gz p) (b * 2 + c - 1) ((gz p) (b * 2 + c - 1) ^^^ 2 ^ j))), ob rb 6 [.int (nI (p 1)), .int (nI (p 3)), .ref rlb], aI G rlb 10 (nF (go p))] rfl rfl ?_
      show Wc Γ 0 0 32 [(0, .ref x), (1, .int (nI 0)), (2, .int (nI b)), (3, .int (nI c)), (4, .int (nI j))] [] [ob x 10 [.ref xt, .ref xn, .ref xr, .ref xa, .ref xs, .ref xf, .ref xw, .ref xi, .int (nI sn), .long sd, .ref xe, .ref xp, .ref xg, .ref xl, .ref xk, .ref xh, .ref xv], ob xr 1 [.ref ra, .ref rb], ob ra 6 [.int (nI (p 0)), .int (nI (p 2)), .ref rla], aI G rla 10 (nF (up (gz p) (b * 2 + c - 1) ((gz p) (b * 2 + c - 1) ^^^ 2 ^ j))), ob rb 6 [.int (nI (p 1)), .int (nI (p 3)), .ref rlb], aI G rlb 10 (nF (go p))]
      refine wc_iconstN X 32 1 dX10_turnsEdge_32 ?_
      refine wc_st (st' := [.int (b2i true)]) rfl ?_
      exact ret 33 _ true _ dX10_turnsEdge_33 (⟨by rw [show edB p 0 b c j = true from hed], by rw [show (if edB p 0 b c j = true then flE p 0 b c j else p) = flE p 0 b c j from if_pos hed, flE_lo (p := p) (m := 0) (i := b) (c := c) (t := j) (k := 0) (by decide) h1 (by decide), flE_lo (p := p) (m := 0) (i := b) (c := c) (t := j) (k := 1) (by decide) h1 (by decide), flE_lo (p := p) (m := 0) (i := b) (c := c) (t := j) (k := 2) (by decide) h1 (by decide), flE_lo (p := p) (m := 0) (i := b) (c := c) (t := j) (k := 3) (by decide) h1 (by decide), flE_g0 (t := j) hr hb2 h1 h2, flE_o0 (t := j) hr hb2 h1 h2]⟩)
    ·
      refine wc_aload_n X 17 0 dX10_turnsEdge_17 rfl ?_
      refine wc_get X 18 0 2 kd10 rfl (by decide) q_235 rfl dX10_turnsEdge_18 ?_
      refine wc_iload_n X 21 1 dX10_turnsEdge_21 rfl ?_
      refine wc_callV X 22 [1] 1 (c_X1_of1 l G xr ra rb (nI 1) (by decide)) yv_X1_of kd1 rfl rfl q_403 ⟨rfl, rfl⟩ ⟨rfl, rfl⟩ ⟨rfl, rfl⟩ rfl rfl rfl dX10_turnsEdge_22 ?_
      refine wc_iload_n X 25 2 dX10_turnsEdge_25 rfl ?_
      refine wc_iload_n X 26 3 dX10_turnsEdge_26 rfl ?_
      refine wc_iload X 27 4 dX10_turnsEdge_27 rfl ?_
      refine wc_mutV X Y 29 [4, 5] [0, 1, 2, 3] 4 (c_X6_flipEdge l G rb rlb (p 1) (p 3) (go p) b c j (by omega) (by first | assumption | omega) (by first | assumption | omega) (by omega)) yv_X6_flipEdge kd6 rfl rfl (wr := [ob x 10 [.ref xt, .ref xn, .ref xr, .ref xa, .ref xs, .ref xf, .ref xw, .ref xi, .int (nI sn), .long sd, .ref xe, .ref xp, .ref xg, .ref xl, .ref xk, .ref xh, .ref xv], ob xr 1 [.ref ra, .ref rb], ob ra 6 [.int (nI (p 0)), .int (nI (p 2)), .ref rla], aI G rla 10 (nF (gz p))]) rfl ⟨rfl, rfl, rfl⟩ q_103 ⟨rfl, rfl⟩ ⟨rfl, rfl⟩ ⟨rfl, rfl⟩ rfl rfl rfl dX10_turnsEdge_29 (fun v w hp_3 => ?_)
      obtain ⟨rfl, rfl⟩ := hp_3
      refine wc_perm Y [0, 1, 2, 3, 4, 5] [ob x 10 [.ref xt, .ref xn, .ref xr, .ref xa, .ref xs, .ref xf, .ref xw, .ref xi, .int (nI sn), .long sd, .ref xe, .ref xp, .ref xg, .ref xl, .ref xk, .ref xh, .ref xv], ob xr 1 [.ref ra, .ref rb], ob ra 6 [.int (nI (p 0)), .int (nI (p 2)), .ref rla], aI G rla 10 (nF (gz p)), ob rb 6 [.int (nI (p 1)), .int (nI (p 3)), .ref rlb], aI G rlb 10 (nF (up (go p) (b * 2 + c - 1) ((go p) (b * 2 + c - 1) ^^^ 2 ^ j)))] rfl rfl ?_
      show Wc Γ 0 0 32 [(0, .ref x), (1, .int (nI 1)), (2, .int (nI b)), (3, .int (nI c)), (4, .int (nI j))] [] [ob x 10 [.ref xt, .ref xn, .ref xr, .ref xa, .ref xs, .ref xf, .ref xw, .ref xi, .int (nI sn), .long sd, .ref xe, .ref xp, .ref xg, .ref xl, .ref xk, .ref xh, .ref xv], ob xr 1 [.ref ra, .ref rb], ob ra 6 [.int (nI (p 0)), .int (nI (p 2)), .ref rla], aI G rla 10 (nF (gz p)), ob rb 6 [.int (nI (p 1)), .int (nI (p 3)), .ref rlb], aI G rlb 10 (nF (up (go p) (b * 2 + c - 1) ((go p) (b * 2 + c - 1) ^^^ 2 ^ j)))]
      refine wc_iconstN X 32 1 dX10_turnsEdge_32 ?_
      refine wc_st (st' := [.int (b2i true)]) rfl ?_
      exact ret 33 _ true _ dX10_turnsEdge_33 (⟨by rw [show edB p 1 b c j = true from hed], by rw [show (if edB p 1 b c j = true then flE p 1 b c j else p) = flE p 1 b c j from if_pos hed, flE_lo (p := p) (m := 1) (i := b) (c := c) (t := j) (k := 0) (by decide) h1 (by decide), flE_lo (p := p) (m := 1) (i := b) (c := c) (t := j) (k := 1) (by decide) h1 (by decide), flE_lo (p := p) (m := 1) (i := b) (c := c) (t := j) (k := 2) (by decide) h1 (by decide), flE_lo (p := p) (m := 1) (i := b) (c := c) (t := j) (k := 3) (by decide) h1 (by decide), flE_g1 (t := j) hr hb2 h1 h2, flE_o1 (t := j) hr hb2 h1 h2]⟩)
  ·
    refine wc_iconstN X 15 0 dX10_turnsEdge_15 ?_
    refine wc_st (st' := [.int (b2i false)]) rfl ?_
    exact ret 16 _ false _ dX10_turnsEdge_16 (⟨by rw [c12_1], by rw [c12_1]; rfl⟩)

set_option maxHeartbeats 4000000 in
set_option maxRecDepth 100000 in
theorem c_X10_turnsEnd (l : Launch) (G : GG) (x xt xn xr xa xs xf xw xi sn : Nat) (sd : Int64) (xe xp xg xl xk xh xv : Nat) (ra rla rb rlb : Nat) (p : Nat → Nat) (a b : Nat) (hr : pgOk p) (ha : a < 10) (hb : b < 10) : MM l G yX10_turnsEnd (Cond.code yX10_turnsEnd cX10_turnsEnd 3 (some .boolean)) { frames := 2, cells := 0, slots := 0, locals := 43 } [.ref x, .int (nI a), .int (nI b)] [ob x 10 [.ref xt, .ref xn, .ref xr, .ref xa, .ref xs, .ref xf, .ref xw, .ref xi, .int (nI sn), .long sd, .ref xe, .ref xp, .ref xg, .ref xl, .ref xk, .ref xh, .ref xv], ob xr 1 [.ref ra, .ref rb], ob ra 6 [.int (nI (p 0)), .int (nI (p 2)), .ref rla], aI G rla 10 (nF (gz p)), ob rb 6 [.int (nI (p 1)), .int (nI (p 3)), .ref rlb], aI G rlb 10 (nF (go p))] (fun (v : Option Value) (w : va_W) => v = some (.int (b2i (enB p a b))) ∧ w = [ob x 10 [.ref xt, .ref xn, .ref xr, .ref xa, .ref xs, .ref xf, .ref xw, .ref xi, .int (nI sn), .long sd, .ref xe, .ref xp, .ref xg, .ref xl, .ref xk, .ref xh, .ref xv], ob xr 1 [.ref ra, .ref rb], ob ra 6 [.int (nI ((if enB p a b = true then flN p a b else p) 0)), .int (nI ((if enB p a b = true then flN p a b else p) 2)), .ref rla], aI G rla 10 (nF (gz (if enB p a b = true then flN p a b else p))), ob rb 6 [.int (nI ((if enB p a b = true then flN p a b else p) 1)), .int (nI ((if enB p a b = true then flN p a b else p) 3)), .ref rlb], aI G rlb 10 (nF (go (if enB p a b = true then flN p a b else p)))]) 0 0 := by
  refine MM.ofZ (by decide) rfl (fun Γ X Y hnm ret => ?_)
  show Wc Γ 0 0 0 [(0, .ref x), (1, .int (nI a)), (2, .int (nI b))] [] [ob x 10 [.ref xt, .ref xn, .ref xr, .ref xa, .ref xs, .ref xf, .ref xw, .ref xi, .int (nI sn), .long sd, .ref xe, .ref xp, .ref xg, .ref xl, .ref xk, .ref xh, .ref xv], ob xr 1 [.ref ra, .ref rb], ob ra 6 [.int (nI (p 0)), .int (nI (p 2)), .ref rla], aI G rla 10 (nF (gz p)), ob rb 6 [.int (nI (p 1)), .int (nI (p 3)), .ref rlb], aI G rlb 10 (nF (go p))]
  have hn0 := hr.2.1
  have hn01 := hr.1
  have hn1 := hr.2.2.2.1
  have hn11 := hr.2.2.1
  have he0 := pg_e0 hr
  have he1 := hr.2.2.2.2.1 3
  have hg0 := hr.2.2.2.2.2.1
  have hg1 := (fun j => hr.2.2.2.2.1 (12 + j) : ∀ j, go p j < 32)
  have hg0n := (hr.2.2.2.2.2.2.1 0 (by decide) : ∀ j, gz p j < 2 ^ p 0)
  have hg1n := (hr.2.2.2.2.2.2.1 1 (by decide) : ∀ j, go p j < 2 ^ p 1)
  have he0n := hr.2.2.2.2.2.2.2 0 (by decide)
  have he1n := hr.2.2.2.2.2.2.2 1 (by decide)
  have hg0w := (fun j => Nat.lt_trans (hg0 j) (by decide) : ∀ j, gz p j < 32)
  refine wc_aload_n X 0 0 dX10_turnsEnd_0 rfl ?_
  refine wc_get X 1 0 2 kd10 rfl (by decide) q_235 rfl dX10_turnsEnd_1 ?_
  refine wc_iload_n X 4 1 dX10_turnsEnd_4 rfl ?_
  refine wc_iload_n X 5 2 dX10_turnsEnd_5 rfl ?_
  refine wc_callS X 6 [1, 2, 4] (c_X10_isStateOf l G xr ra rla (p 0) (p 2) rb rlb (p 1) (p 3) (nI a) (nI b) ) ys_X10_isStateOf rfl q_397 ⟨rfl, rfl⟩ ⟨rfl, rfl⟩ ⟨rfl, rfl⟩ rfl rfl rfl dX10_turnsEnd_6 ?_
  refine wc_topi (b2i (enB p a b)) (congrArg b2i (st_B hr ha hb)) ?_
  refine wc_if_neB X 9 14 dX10_turnsEnd_9 (by decide) (fun c9_1 => ?_) (fun c9_1 => ?_)
  ·
    have hen := c9_1
    obtain ⟨ha2, hb2⟩ := of_decide_eq_true c9_1
    rcases (show a = 0 ∨ a = 1 by omega) with rfl | rfl
    ·
      refine wc_aload_n X 14 0 dX10_turnsEnd_14 rfl ?_
      refine wc_get X 15 0 2 kd10 rfl (by decide) q_235 rfl dX10_turnsEnd_15 ?_
      refine wc_iload_n X 18 1 dX10_turnsEnd_18 rfl ?_
      refine wc_callV X 19 [1] 1 (c_X1_of0 l G xr ra rb ) yv_X1_of kd1 rfl rfl q_403 ⟨rfl, rfl⟩ ⟨rfl, rfl⟩ ⟨rfl, rfl⟩ rfl rfl rfl dX10_turnsEnd_19 ?_
      refine wc_iload_n X 22 2 dX10_turnsEnd_22 rfl ?_
      refine wc_mutV X Y 23 [2] [0, 1, 3, 4, 5] 2 (c_X6_flipEnd l G ra rla (p 0) (p 2) b (by omega)) yv_X6_flipEnd kd6 rfl rfl (wr := [ob x 10 [.ref xt, .ref xn, .ref xr, .ref xa, .ref xs, .ref xf, .ref xw, .ref xi, .int (nI sn), .long sd, .ref xe, .ref xp, .ref xg, .ref xl, .ref xk, .ref xh, .ref xv], ob xr 1 [.ref ra, .ref rb], aI G rla 10 (nF (gz p)), ob rb 6 [.int (nI (p 1)), .int (nI (p 3)), .ref rlb], aI G rlb 10 (nF (go p))]) rfl ⟨rfl, rfl, rfl⟩ q_107 ⟨rfl, rfl⟩ ⟨rfl, rfl⟩ ⟨rfl, rfl⟩ rfl rfl rfl dX10_turnsEnd_23 (fun v w hp_2 => ?_)
      obtain ⟨rfl, rfl⟩ := hp_2
      refine wc_perm Y [0, 1, 5, 2, 3, 4] [ob x 10 [.ref xt, .ref xn, .ref xr, .ref xa, .ref xs, .ref xf, .ref xw, .ref xi, .int (nI sn), .long sd, .ref xe, .ref xp, .ref xg, .ref xl, .ref xk, .ref xh, .ref xv], ob xr 1 [.ref ra, .ref rb], ob ra 6 [.int (nI (p 0)), .int (nI ((p 2) ^^^ 2 ^ b)), .ref rla], aI G rla 10 (nF (gz p)), ob rb 6 [.int (nI (p 1)), .int (nI (p 3)), .ref rlb], aI G rlb 10 (nF (go p))] rfl rfl ?_
      show Wc Γ 0 0 26 [(0, .ref x), (1, .int (nI 0)), (2, .int (nI b))] [] [ob x 10 [.ref xt, .ref xn, .ref xr, .ref xa, .ref xs, .ref xf, .ref xw, .ref xi, .int (nI sn), .long sd, .ref xe, .ref xp, .ref xg, .ref xl, .ref xk, .ref xh, .ref xv], ob xr 1 [.ref ra, .ref rb], ob ra 6 [.int (nI (p 0)), .int (nI ((p 2) ^^^ 2 ^ b)), .ref rla], aI G rla 10 (nF (gz p)), ob rb 6 [.int (nI (p 1)), .int (nI (p 3)), .ref rlb], aI G rlb 10 (nF (go p))]
      refine wc_iconstN X 26 1 dX10_turnsEnd_26 ?_
      refine wc_st (st' := [.int (b2i true)]) rfl ?_
      exact ret 27 _ true _ dX10_turnsEnd_27 (⟨by rw [show enB p 0 b = true from hen], by rw [show (if enB p 0 b = true then flN p 0 b else p) = flN p 0 b from if_pos hen, show flN p 0 b 2 = p 2 ^^^ 2 ^ b from flN_s, flN_n (p := p) (m := 0) (i := b) (k := 0) (by decide), flN_n (p := p) (m := 0) (i := b) (k := 1) (by decide), flN_n (p := p) (m := 0) (i := b) (k := 3) (by decide), (flN_g (p := p) (i := b) (m := 0) (by decide)).1, (flN_g (p := p) (i := b) (m := 0) (by decide)).2]⟩)
    ·
      refine wc_aload_n X 14 0 dX10_turnsEnd_14 rfl ?_
      refine wc_get X 15 0 2 kd10 rfl (by decide) q_235 rfl dX10_turnsEnd_15 ?_
      refine wc_iload_n X 18 1 dX10_turnsEnd_18 rfl ?_
      refine wc_callV X 19 [1] 1 (c_X1_of1 l G xr ra rb (nI 1) (by decide)) yv_X1_of kd1 rfl rfl q_403 ⟨rfl, rfl⟩ ⟨rfl, rfl⟩ ⟨rfl, rfl⟩ rfl rfl rfl dX10_turnsEnd_19 ?_
      refine wc_iload_n X 22 2 dX10_turnsEnd_22 rfl ?_
      refine wc_mutV X Y 23 [4] [0, 1, 2, 3, 5] 4 (c_X6_flipEnd l G rb rlb (p 1) (p 3) b (by omega)) yv_X6_flipEnd kd6 rfl rfl (wr := [ob x 10 [.ref xt, .ref xn, .ref xr, .ref xa, .ref xs, .ref xf, .ref xw, .ref xi, .int (nI sn), .long sd, .ref xe, .ref xp, .ref xg, .ref xl, .ref xk, .ref xh, .ref xv], ob xr 1 [.ref ra, .ref rb], ob ra 6 [.int (nI (p 0)), .int (nI (p 2)), .ref rla], aI G rla 10 (nF (gz p)), aI G rlb 10 (nF (go p))]) rfl ⟨rfl, rfl, rfl⟩ q_107 ⟨rfl, rfl⟩ ⟨rfl, rfl⟩ ⟨rfl, rfl⟩ rfl rfl rfl dX10_turnsEnd_23 (fun v w hp_3 => ?_)
      obtain ⟨rfl, rfl⟩ := hp_3
      refine wc_perm Y [0, 1, 2, 3, 5, 4] [ob x 10 [.ref xt, .ref xn, .ref xr, .ref xa, .ref xs, .ref xf, .ref xw, .ref xi, .int (nI sn), .long sd, .ref xe, .ref xp, .ref xg, .ref xl, .ref xk, .ref xh, .ref xv], ob xr 1 [.ref ra, .ref rb], ob ra 6 [.int (nI (p 0)), .int (nI (p 2)), .ref rla], aI G rla 10 (nF (gz p)), ob rb 6 [.int (nI (p 1)), .int (nI ((p 3) ^^^ 2 ^ b)), .ref rlb], aI G rlb 10 (nF (go p))] rfl rfl ?_
      show Wc Γ 0 0 26 [(0, .ref x), (1, .int (nI 1)), (2, .int (nI b))] [] [ob x 10 [.ref xt, .ref xn, .ref xr, .ref xa, .ref xs, .ref xf, .ref xw, .ref xi, .int (nI sn), .long sd, .ref xe, .ref xp, .ref xg, .ref xl, .ref xk, .ref xh, .ref xv], ob xr 1 [.ref ra, .ref rb], ob ra 6 [.int (nI (p 0)), .int (nI (p 2)), .ref rla], aI G rla 10 (nF (gz p)), ob rb 6 [.int (nI (p 1)), .int (nI ((p 3) ^^^ 2 ^ b)), .ref rlb], aI G rlb 10 (nF (go p))]
      refine wc_iconstN X 26 1 dX10_turnsEnd_26 ?_
      refine wc_st (st' := [.int (b2i true)]) rfl ?_
      exact ret 27 _ true _ dX10_turnsEnd_27 (⟨by rw [show enB p 1 b = true from hen], by rw [show (if enB p 1 b = true then flN p 1 b else p) = flN p 1 b from if_pos hen, show flN p 1 b 3 = p 3 ^^^ 2 ^ b from flN_s, flN_n (p := p) (m := 1) (i := b) (k := 0) (by decide), flN_n (p := p) (m := 1) (i := b) (k := 1) (by decide), flN_n (p := p) (m := 1) (i := b) (k := 2) (by decide), (flN_g (p := p) (i := b) (m := 1) (by decide)).1, (flN_g (p := p) (i := b) (m := 1) (by decide)).2]⟩)
  ·
    refine wc_iconstN X 12 0 dX10_turnsEnd_12 ?_
    refine wc_st (st' := [.int (b2i false)]) rfl ?_
    exact ret 13 _ false _ dX10_turnsEnd_13 (⟨by rw [c9_1], by rw [c9_1]; rfl⟩)

set_option maxHeartbeats 4000000 in
set_option maxRecDepth 100000 in
theorem c_X10_followsInTrial (l : Launch) (G : GG) (x xt xn xr xa xs xf xw xi sn : Nat) (sd : Int64) (xe xp xg xl xk xh xv : Nat) (ra rla rb rlb : Nat) (p : Nat → Nat) (xkf xkl : Nat) (kf kl : Nat → Nat) (i j : Nat) (hr : pgOk p) (hi : i < p 0) (hj : j < p 1) : MM l G yX10_followsInTrial (Cond.code yX10_followsInTrial cX10_followsInTrial 3 (some .boolean)) { frames := 3, cells := 0, slots := 0, locals := 74 } [.ref x, .int (nI i), .int (nI j)] [ob x 10 [.ref xt, .ref xn, .ref xr, .ref xa, .ref xs, .ref xf, .ref xw, .ref xi, .int (nI sn), .long sd, .ref xe, .ref xp, .ref xg, .ref xl, .ref xk, .ref xh, .ref xv], ob xr 1 [.ref ra, .ref rb], ob ra 6 [.int (nI (p 0)), .int (nI (p 2)), .ref rla], aI G rla 10 (nF (gz p)), ob rb 6 [.int (nI (p 1)), .int (nI (p 3)), .ref rlb], aI G rlb 10 (nF (go p)), ob xk 5 [.ref xkf, .ref xkl], aI G xkf 9 (nF kf), aI G xkl 18 (nF kl)] (fun (v : Option Value) (w : va_W) => ∃ (kf2 kl2 : Nat → Nat), v = some (.int (b2i (folB (gz p) (p 0) (p 2) (go p) (p 1) (p 3) i (4 + j)))) ∧ w = [ob x 10 [.ref xt, .ref xn, .ref xr, .ref xa, .ref xs, .ref xf, .ref xw, .ref xi, .int (nI sn), .long sd, .ref xe, .ref xp, .ref xg, .ref xl, .ref xk, .ref xh, .ref xv], ob xr 1 [.ref ra, .ref rb], ob ra 6 [.int (nI (p 0)), .int (nI (p 2)), .ref rla], aI G rla 10 (nF (gz p)), ob rb 6 [.int (nI (p 1)), .int (nI (p 3)), .ref rlb], aI G rlb 10 (nF (go p)), ob xk 5 [.ref xkf, .ref xkl], aI G xkf 9 (nF kf2), aI G xkl 18 (nF kl2)]) 0 0 := by
  refine MM.ofZ (by decide) rfl (fun Γ X Y hnm ret => ?_)
  show Wc Γ 0 0 0 [(0, .ref x), (1, .int (nI i)), (2, .int (nI j))] [] [ob x 10 [.ref xt, .ref xn, .ref xr, .ref xa, .ref xs, .ref xf, .ref xw, .ref xi, .int (nI sn), .long sd, .ref xe, .ref xp, .ref xg, .ref xl, .ref xk, .ref xh, .ref xv], ob xr 1 [.ref ra, .ref rb], ob ra 6 [.int (nI (p 0)), .int (nI (p 2)), .ref rla], aI G rla 10 (nF (gz p)), ob rb 6 [.int (nI (p 1)), .int (nI (p 3)), .ref rlb], aI G rlb 10 (nF (go p)), ob xk 5 [.ref xkf, .ref xkl], aI G xkf 9 (nF kf), aI G xkl 18 (nF kl)]
  have hn0 := hr.2.1
  have hn01 := hr.1
  have hn1 := hr.2.2.2.1
  have hn11 := hr.2.2.1
  have he0 := pg_e0 hr
  have he1 := hr.2.2.2.2.1 3
  have hg0 := hr.2.2.2.2.2.1
  have hg1 := (fun j => hr.2.2.2.2.1 (12 + j) : ∀ j, go p j < 32)
  have hg0n := (hr.2.2.2.2.2.2.1 0 (by decide) : ∀ j, gz p j < 2 ^ p 0)
  have hg1n := (hr.2.2.2.2.2.2.1 1 (by decide) : ∀ j, go p j < 2 ^ p 1)
  have he0n := hr.2.2.2.2.2.2.2 0 (by decide)
  have he1n := hr.2.2.2.2.2.2.2 1 (by decide)
  have hg0w := (fun j => Nat.lt_trans (hg0 j) (by decide) : ∀ j, gz p j < 32)
  refine wc_aload_n X 0 0 dX10_followsInTrial_0 rfl ?_
  refine wc_get X 1 0 14 kd10 rfl (by decide) q_247 rfl dX10_followsInTrial_1 ?_
  refine wc_aload_n X 4 0 dX10_followsInTrial_4 rfl ?_
  refine wc_get X 5 0 2 kd10 rfl (by decide) q_235 rfl dX10_followsInTrial_5 ?_
  refine wc_mutV X Y 8 [6, 7, 8, 1, 2, 3, 4, 5] [0] 6 (c_X5_work l G xk xkf xkl kf kl xr ra rla (p 0) (p 2) (gz p) rb rlb (p 1) (p 3) (go p) (by first | assumption | omega) (by first | assumption | omega) (by first | assumption | omega) (by first | assumption | omega) (by first | assumption | omega) (by first | assumption | omega) (by first | assumption | omega) (by first | assumption | omega)) yv_X5_work kd5 rfl rfl (wr := [ob x 10 [.ref xt, .ref xn, .ref xr, .ref xa, .ref xs, .ref xf, .ref xw, .ref xi, .int (nI sn), .long sd, .ref xe, .ref xp, .ref xg, .ref xl, .ref xk, .ref xh, .ref xv]]) rfl ⟨rfl, rfl, rfl⟩ q_568 ⟨rfl, rfl⟩ ⟨rfl, rfl⟩ ⟨rfl, rfl⟩ rfl rfl rfl dX10_followsInTrial_8 (fun v w hp_1 => ?_)
  obtain ⟨f2_2, l2_3, rfl, rfl, hwk⟩ := hp_1
  refine wc_perm Y [0, 4, 5, 6, 7, 8, 1, 2, 3] [ob x 10 [.ref xt, .ref xn, .ref xr, .ref xa, .ref xs, .ref xf, .ref xw, .ref xi, .int (nI sn), .long sd, .ref xe, .ref xp, .ref xg, .ref xl, .ref xk, .ref xh, .ref xv], ob xr 1 [.ref ra, .ref rb], ob ra 6 [.int (nI (p 0)), .int (nI (p 2)), .ref rla], aI G rla 10 (nF (gz p)), ob rb 6 [.int (nI (p 1)), .int (nI (p 3)), .ref rlb], aI G rlb 10 (nF (go p)), ob xk 5 [.ref xkf, .ref xkl], aI G xkf 9 (nF f2_2), aI G xkl 18 (nF l2_3)] rfl rfl ?_
  show Wc Γ 0 0 11 [(0, .ref x), (1, .int (nI i)), (2, .int (nI j))] [] [ob x 10 [.ref xt, .ref xn, .ref xr, .ref xa, .ref xs, .ref xf, .ref xw, .ref xi, .int (nI sn), .long sd, .ref xe, .ref xp, .ref xg, .ref xl, .ref xk, .ref xh, .ref xv], ob xr 1 [.ref ra, .ref rb], ob ra 6 [.int (nI (p 0)), .int (nI (p 2)), .ref rla], aI G rla 10 (nF (gz p)), ob rb 6 [.int (nI (p 1)), .int (nI (p 3)), .ref rlb], aI G rlb 10 (nF (go p)), ob xk 5 [.ref xkf, .ref xkl], aI G xkf 9 (nF f2_2), aI G xkl 18 (nF l2_3)]
  refine wc_aload_n X 11 0 dX10_followsInTrial_11 rfl ?_
  refine wc_get X 12 0 14 kd10 rfl (by decide) q_247 rfl dX10_followsInTrial_12 ?_
  refine wc_iconstN X 15 0 dX10_followsInTrial_15 ?_
  refine wc_iload_n X 16 1 dX10_followsInTrial_16 rfl ?_
  refine wc_iconstN X 17 1 dX10_followsInTrial_17 ?_
  refine wc_iconstN X 18 1 dX10_followsInTrial_18 ?_
  refine wc_iload_n X 19 2 dX10_followsInTrial_19 rfl ?_
  refine wc_shl1 X 20 dX10_followsInTrial_20 (by omega) ?_
  refine wc_callV X 21 [6, 7, 8] 6 (c_X5_holds l G xk xkf xkl f2_2 l2_3 0 i 1 (2 ^ j) (by decide) (by omega) (fun _ => by omega) (by decide) (Nat.lt_of_lt_of_le (Nat.pow_lt_pow_right (by decide) (show j < 5 by omega)) (by decide : 2 ^ 5 ≤ 32))) yv_X5_holds kd5 rfl rfl q_588 ⟨rfl, rfl⟩ ⟨rfl, rfl⟩ ⟨rfl, rfl⟩ rfl rfl rfl dX10_followsInTrial_21 ?_
  refine wc_topi (b2i (folB (gz p) (p 0) (p 2) (go p) (p 1) (p 3) i (4 + j))) (congrArg b2i (by have hq := hk_gen (m := 0) (m2 := 1) hwk (by decide) (by decide) (show i < 5 by omega) (fun _ => by omega) (show j < 5 by omega) (fun e => by cases e); rw [show 4 * 0 + i = i by omega] at hq; exact hq)) ?_
  exact ret 24 _ (folB (gz p) (p 0) (p 2) (go p) (p 1) (p 3) i (4 + j)) _ dX10_followsInTrial_24 (⟨_, _, rfl, rfl⟩)

set_option maxHeartbeats 4000000 in
set_option maxRecDepth 100000 in
theorem c_X10_canBe (l : Launch) (G : GG) (x xt xn xr xa xs xf xw xi sn : Nat) (sd : Int64) (xe xp xg xl xk xh xv : Nat) (ra rla rb rlb : Nat) (p : Nat → Nat) (xlm xlr lq : Nat) (lm lr : Nat → Nat) (xkf xkl : Nat) (kf kl : Nat → Nat) (f : Nat) (hr : pgOk p) (hf : f < 100000) : MM l G yX10_canBe (Cond.code yX10_canBe cX10_canBe 6 (some .boolean)) { frames := 4, cells := 0, slots := 0, locals := 96 } [.ref x, .int (nI f)] [ob x 10 [.ref xt, .ref xn, .ref xr, .ref xa, .ref xs, .ref xf, .ref xw, .ref xi, .int (nI sn), .long sd, .ref xe, .ref xp, .ref xg, .ref xl, .ref xk, .ref xh, .ref xv], ob xr 1 [.ref ra, .ref rb], ob ra 6 [.int (nI (p 0)), .int (nI (p 2)), .ref rla], aI G rla 10 (nF (gz p)), ob rb 6 [.int (nI (p 1)), .int (nI (p 3)), .ref rlb], aI G rlb 10 (nF (go p)), ob xl 4 [.ref xlm, .ref xlr, .int (nI lq)], aI G xlm 4 (nF lm), aI G xlr 128 (nF lr), ob xk 5 [.ref xkf, .ref xkl], aI G xkf 9 (nF kf), aI G xkl 18 (nF kl)] (fun (v : Option Value) (w : va_W) => ∃ (lq2 : Nat) (lm2 lr2 : Nat → Nat) (kf2 kl2 : Nat → Nat), v = some (.int (b2i ((doK p f).1))) ∧ w = [ob x 10 [.ref xt, .ref xn, .ref xr, .ref xa, .ref xs, .ref xf, .ref xw, .ref xi, .int (nI sn), .long sd, .ref xe, .ref xp, .ref xg, .ref xl, .ref xk, .ref xh, .ref xv], ob xr 1 [.ref ra, .ref rb], ob ra 6 [.int (nI ((doK p f).2 0)), .int (nI ((doK p f).2 2)), .ref rla], aI G rla 10 (nF (gz (doK p f).2)), ob rb 6 [.int (nI ((doK p f).2 1)), .int (nI ((doK p f).2 3)), .ref rlb], aI G rlb 10 (nF (go (doK p f).2)), ob xl 4 [.ref xlm, .ref xlr, .int (nI lq2)], aI G xlm 4 (nF lm2), aI G xlr 128 (nF lr2), ob xk 5 [.ref xkf, .ref xkl], aI G xkf 9 (nF kf2), aI G xkl 18 (nF kl2)]) 0 0 := by
  refine MM.ofZ (by decide) rfl (fun Γ X Y hnm ret => ?_)
  show Wc Γ 0 0 0 [(0, .ref x), (1, .int (nI f))] [] [ob x 10 [.ref xt, .ref xn, .ref xr, .ref xa, .ref xs, .ref xf, .ref xw, .ref xi, .int (nI sn), .long sd, .ref xe, .ref xp, .ref xg, .ref xl, .ref xk, .ref xh, .ref xv], ob xr 1 [.ref ra, .ref rb], ob ra 6 [.int (nI (p 0)), .int (nI (p 2)), .ref rla], aI G rla 10 (nF (gz p)), ob rb 6 [.int (nI (p 1)), .int (nI (p 3)), .ref rlb], aI G rlb 10 (nF (go p)), ob xl 4 [.ref xlm, .ref xlr, .int (nI lq)], aI G xlm 4 (nF lm), aI G xlr 128 (nF lr), ob xk 5 [.ref xkf, .ref xkl], aI G xkf 9 (nF kf), aI G xkl 18 (nF kl)]
  have hn0 := hr.2.1
  have hn01 := hr.1
  have hn1 := hr.2.2.2.1
  have hn11 := hr.2.2.1
  have he0 := pg_e0 hr
  have he1 := hr.2.2.2.2.1 3
  have hg0 := hr.2.2.2.2.2.1
  have hg1 := (fun j => hr.2.2.2.2.1 (12 + j) : ∀ j, go p j < 32)
  have hg0n := (hr.2.2.2.2.2.2.1 0 (by decide) : ∀ j, gz p j < 2 ^ p 0)
  have hg1n := (hr.2.2.2.2.2.2.1 1 (by decide) : ∀ j, go p j < 2 ^ p 1)
  have he0n := hr.2.2.2.2.2.2.2 0 (by decide)
  have he1n := hr.2.2.2.2.2.2.2 1 (by decide)
  have hg0w := (fun j => Nat.lt_trans (hg0 j) (by decide) : ∀ j, gz p j < 32)
  have hA := dA_lt f
  have hB := dB_lt f
  have hCc := dC_lt f
  have hD := dD_lt f
  refine wc_iload_n X 0 1 dX10_canBe_0 rfl ?_
  refine wc_sipush X 1 (nI 1000) dX10_canBe_1 (by decide) ?_
  refine wc_idivN X 4 dX10_canBe_4 (by omega) (by decide) (by decide) ?_
  refine wc_bipush X 5 (nI 10) dX10_canBe_5 (by decide) ?_
  refine wc_iremN X 7 dX10_canBe_7 (by omega) (by decide) (by decide) ?_
  refine wc_topi (nI (dA f)) (congrArg nI (rfl)) ?_
  refine wc_istore_n X 8 (L' := [(0, .ref x), (1, .int (nI f)), (2, .int (nI (dA f)))]) dX10_canBe_8 (by decide) rfl ?_
  refine wc_iload_n X 9 1 dX10_canBe_9 rfl ?_
  refine wc_bipush X 10 (nI 100) dX10_canBe_10 (by decide) ?_
  refine wc_idivN X 12 dX10_canBe_12 (by omega) (by decide) (by decide) ?_
  refine wc_bipush X 13 (nI 10) dX10_canBe_13 (by decide) ?_
  refine wc_iremN X 15 dX10_canBe_15 (by omega) (by decide) (by decide) ?_
  refine wc_topi (nI (dB f)) (congrArg nI (rfl)) ?_
  refine wc_istore_n X 16 (L' := [(0, .ref x), (1, .int (nI f)), (2, .int (nI (dA f))), (3, .int (nI (dB f)))]) dX10_canBe_16 (by decide) rfl ?_
  refine wc_iload_n X 17 1 dX10_canBe_17 rfl ?_
  refine wc_bipush X 18 (nI 10) dX10_canBe_18 (by decide) ?_
  refine wc_idivN X 20 dX10_canBe_20 (by omega) (by decide) (by decide) ?_
  refine wc_bipush X 21 (nI 10) dX10_canBe_21 (by decide) ?_
  refine wc_iremN X 23 dX10_canBe_23 (by omega) (by decide) (by decide) ?_
  refine wc_topi (nI (dC f)) (congrArg nI (rfl)) ?_
  refine wc_istore X 24 (L' := [(0, .ref x), (1, .int (nI f)), (2, .int (nI (dA f))), (3, .int (nI (dB f))), (4, .int (nI (dC f)))]) dX10_canBe_24 (by decide) rfl ?_
  refine wc_iload_n X 26 1 dX10_canBe_26 rfl ?_
  refine wc_bipush X 27 (nI 10) dX10_canBe_27 (by decide) ?_
  refine wc_iremN X 29 dX10_canBe_29 (by omega) (by decide) (by decide) ?_
  refine wc_topi (nI (dD f)) (congrArg nI (rfl)) ?_
  refine wc_istore X 30 (L' := [(0, .ref x), (1, .int (nI f)), (2, .int (nI (dA f))), (3, .int (nI (dB f))), (4, .int (nI (dC f))), (5, .int (nI (dD f)))]) dX10_canBe_30 (by decide) rfl ?_
  refine wc_iload_n X 32 1 dX10_canBe_32 rfl ?_
  refine wc_sipush X 33 (nI 10000) dX10_canBe_33 (by decide) ?_
  refine wc_idivN X 36 dX10_canBe_36 (by omega) (by decide) (by decide) ?_
  by_cases s37_1 : nI (f / 10000) = nI 1
  ·
    refine wc_tsI X 37 72 0 (nI 1) (off := 35) dX10_canBe_37 s37_1 (by decide) (by decide) (by decide) (by decide) ?_
    have hk : f / 10000 = 1 := (nI_eq (by omega) (by decide)).mp s37_1
    refine wc_aload_n X 72 0 dX10_canBe_72 rfl ?_
    refine wc_iload_n X 73 2 dX10_canBe_73 rfl ?_
    refine wc_iload_n X 74 3 dX10_canBe_74 rfl ?_
    refine wc_iload X 75 4 dX10_canBe_75 rfl ?_
    refine wc_iload X 77 5 dX10_canBe_77 rfl ?_
    refine wc_mutV X Y 79 [0, 1, 2, 3, 4, 5] [6, 7, 8, 9, 10, 11] 0 (c_X10_turnsEdge l G x xt xn xr xa xs xf xw xi sn sd xe xp xg xl xk xh xv ra rla rb rlb p (dA f) (dB f) (dC f) (dD f) (by first | assumption | omega) hA hB hCc hD) yv_X10_turnsEdge kd10 rfl rfl (wr := [ob xl 4 [.ref xlm, .ref xlr, .int (nI lq)], aI G xlm 4 (nF lm), aI G xlr 128 (nF lr), ob xk 5 [.ref xkf, .ref xkl], aI G xkf 9 (nF kf), aI G xkl 18 (nF kl)]) rfl ⟨rfl, rfl, rfl⟩ q_669 ⟨rfl, rfl⟩ ⟨rfl, rfl⟩ ⟨rfl, rfl⟩ rfl rfl rfl dX10_canBe_79 (fun v w hp_2 => ?_)
    obtain ⟨rfl, rfl⟩ := hp_2
    refine wc_perm Y [6, 7, 8, 9, 10, 11, 0, 1, 2, 3, 4, 5] [ob x 10 [.ref xt, .ref xn, .ref xr, .ref xa, .ref xs, .ref xf, .ref xw, .ref xi, .int (nI sn), .long sd, .ref xe, .ref xp, .ref xg, .ref xl, .ref xk, .ref xh, .ref xv], ob xr 1 [.ref ra, .ref rb], ob ra 6 [.int (nI ((if edB p (dA f) (dB f) (dC f) (dD f) = true then flE p (dA f) (dB f) (dC f) (dD f) else p) 0)), .int (nI ((if edB p (dA f) (dB f) (dC f) (dD f) = true then flE p (dA f) (dB f) (dC f) (dD f) else p) 2)), .ref rla], aI G rla 10 (nF (gz (if edB p (dA f) (dB f) (dC f) (dD f) = true then flE p (dA f) (dB f) (dC f) (dD f) else p))), ob rb 6 [.int (nI ((if edB p (dA f) (dB f) (dC f) (dD f) = true then flE p (dA f) (dB f) (dC f) (dD f) else p) 1)), .int (nI ((if edB p (dA f) (dB f) (dC f) (dD f) = true then flE p (dA f) (dB f) (dC f) (dD f) else p) 3)), .ref rlb], aI G rlb 10 (nF (go (if edB p (dA f) (dB f) (dC f) (dD f) = true then flE p (dA f) (dB f) (dC f) (dD f) else p))), ob xl 4 [.ref xlm, .ref xlr, .int (nI lq)], aI G xlm 4 (nF lm), aI G xlr 128 (nF lr), ob xk 5 [.ref xkf, .ref xkl], aI G xkf 9 (nF kf), aI G xkl 18 (nF kl)] rfl rfl ?_
    show Wc Γ 0 0 82 [(0, .ref x), (1, .int (nI f)), (2, .int (nI (dA f))), (3, .int (nI (dB f))), (4, .int (nI (dC f))), (5, .int (nI (dD f)))] [.int (b2i (edB p (dA f) (dB f) (dC f) (dD f)))] [ob x 10 [.ref xt, .ref xn, .ref xr, .ref xa, .ref xs, .ref xf, .ref xw, .ref xi, .int (nI sn), .long sd, .ref xe, .ref xp, .ref xg, .ref xl, .ref xk, .ref xh, .ref xv], ob xr 1 [.ref ra, .ref rb], ob ra 6 [.int (nI ((if edB p (dA f) (dB f) (dC f) (dD f) = true then flE p (dA f) (dB f) (dC f) (dD f) else p) 0)), .int (nI ((if edB p (dA f) (dB f) (dC f) (dD f) = true then flE p (dA f) (dB f) (dC f) (dD f) else p) 2)), .ref rla], aI G rla 10 (nF (gz (if edB p (dA f) (dB f) (dC f) (dD f) = true then flE p (dA f) (dB f) (dC f) (dD f) else p))), ob rb 6 [.int (nI ((if edB p (dA f) (dB f) (dC f) (dD f) = true then flE p (dA f) (dB f) (dC f) (dD f) else p) 1)), .int (nI ((if edB p (dA f) (dB f) (dC f) (dD f) = true then flE p (dA f) (dB f) (dC f) (dD f) else p) 3)), .ref rlb], aI G rlb 10 (nF (go (if edB p (dA f) (dB f) (dC f) (dD f) = true then flE p (dA f) (dB f) (dC f) (dD f) else p))), ob xl 4 [.ref xlm, .ref xlr, .int (nI lq)], aI G xlm 4 (nF lm), aI G xlr 128 (nF lr), ob xk 5 [.ref xkf, .ref xkl], aI G xkf 9 (nF kf), aI G xkl 18 (nF kl)]
    exact ret 82 _ (edB p (dA f) (dB f) (dC f) (dD f)) _ dX10_canBe_82 (⟨_, _, _, _, _, by rw [doK1 hk], by rw [doK1 hk]⟩)
  ·
    by_cases s37_3 : nI (f / 10000) = nI 2
    ·
      refine wc_tsI X 37 83 1 (nI 2) (off := 46) dX10_canBe_37 s37_3 (by decide) (by decide) (by decide) (by decide) ?_
      have hk : f / 10000 = 2 := (nI_eq (by omega) (by decide)).mp s37_3
      refine wc_iload X 83 4 dX10_canBe_83 rfl ?_
      refine wc_if_neN X 85 106 dX10_canBe_85 (by decide) (by omega) (fun c85_4 => ?_) (fun c85_4 => ?_)
      ·
        refine wc_iconstN X 106 0 dX10_canBe_106 ?_
        refine wc_st (st' := [.int (b2i false)]) rfl ?_
        exact ret 107 _ false _ dX10_canBe_107 (⟨_, _, _, _, _, by rw [doK2 hk, show (decide (dC f = 0) && decide (dD f = 0) && enB p (dA f) (dB f)) = false by rw [decide_eq_false c85_4] <;> simp], by rw [doK2 hk, show (decide (dC f = 0) && decide (dD f = 0) && enB p (dA f) (dB f)) = false by rw [decide_eq_false c85_4] <;> simp]; rfl⟩)
      ·
        refine wc_iload X 88 5 dX10_canBe_88 rfl ?_
        refine wc_if_neN X 90 106 dX10_canBe_90 (by decide) (by omega) (fun c90_5 => ?_) (fun c90_5 => ?_)
        ·
          refine wc_iconstN X 106 0 dX10_canBe_106 ?_
          refine wc_st (st' := [.int (b2i false)]) rfl ?_
          exact ret 107 _ false _ dX10_canBe_107 (⟨_, _, _, _, _, by rw [doK2 hk, show (decide (dC f = 0) && decide (dD f = 0) && enB p (dA f) (dB f)) = false by rw [decide_eq_true c85_4, decide_eq_false c90_5] <;> simp], by rw [doK2 hk, show (decide (dC f = 0) && decide (dD f = 0) && enB p (dA f) (dB f)) = false by rw [decide_eq_true c85_4, decide_eq_false c90_5] <;> simp]; rfl⟩)
        ·
          refine wc_aload_n X 93 0 dX10_canBe_93 rfl ?_
          refine wc_iload_n X 94 2 dX10_canBe_94 rfl ?_
          refine wc_iload_n X 95 3 dX10_canBe_95 rfl ?_
          refine wc_mutV X Y 96 [0, 1, 2, 3, 4, 5] [6, 7, 8, 9, 10, 11] 0 (c_X10_turnsEnd l G x xt xn xr xa xs xf xw xi sn sd xe xp xg xl xk xh xv ra rla rb rlb p (dA f) (dB f) (by first | assumption | omega) hA hB) yv_X10_turnsEnd kd10 rfl rfl (wr := [ob xl 4 [.ref xlm, .ref xlr, .int (nI lq)], aI G xlm 4 (nF lm), aI G xlr 128 (nF lr), ob xk 5 [.ref xkf, .ref xkl], aI G xkf 9 (nF kf), aI G xkl 18 (nF kl)]) rfl ⟨rfl, rfl, rfl⟩ q_673 ⟨rfl, rfl⟩ ⟨rfl, rfl⟩ ⟨rfl, rfl⟩ rfl rfl rfl dX10_canBe_96 (fun v w hp_6 => ?_)
          obtain ⟨rfl, rfl⟩ := hp_6
          refine wc_perm Y [6, 7, 8, 9, 10, 11, 0, 1, 2, 3, 4, 5] [ob x 10 [.ref xt, .ref xn, .ref xr, .ref xa, .ref xs, .ref xf, .ref xw, .ref xi, .int (nI sn), .long sd, .ref xe, .ref xp, .ref xg, .ref xl, .ref xk, .ref xh, .ref xv], ob xr 1 [.ref ra, .ref rb], ob ra 6 [.int (nI ((if enB p (dA f) (dB f) = true then flN p (dA f) (dB f) else p) 0)), .int (nI ((if enB p (dA f) (dB f) = true then flN p (dA f) (dB f) else p) 2)), .ref rla], aI G rla 10 (nF (gz (if enB p (dA f) (dB f) = true then flN p (dA f) (dB f) else p))), ob rb 6 [.int (nI ((if enB p (dA f) (dB f) = true then flN p (dA f) (dB f) else p) 1)), .int (nI ((if enB p (dA f) (dB f) = true then flN p (dA f) (dB f) else p) 3)), .ref rlb], aI G rlb 10 (nF (go (if enB p (dA f) (dB f) = true then flN p (dA f) (dB f) else p))), ob xl 4 [.ref xlm, .ref xlr, .int (nI lq)], aI G xlm 4 (nF lm), aI G xlr 128 (nF lr), ob xk 5 [.ref xkf, .ref xkl], aI G xkf 9 (nF kf), aI G xkl 18 (nF kl)] rfl rfl ?_
          show Wc Γ 0 0 99 [(0, .ref x), (1, .int (nI f)), (2, .int (nI (dA f))), (3, .int (nI (dB f))), (4, .int (nI (dC f))), (5, .int (nI (dD f)))] [.int (b2i (enB p (dA f) (dB f)))] [ob x 10 [.ref xt, .ref xn, .ref xr, .ref xa, .ref xs, .ref xf, .ref xw, .ref xi, .int (nI sn), .long sd, .ref xe, .ref xp, .ref xg, .ref xl, .ref xk, .ref xh, .ref xv], ob xr 1 [.ref ra, .ref rb], ob ra 6 [.int (nI ((if enB p (dA f) (dB f) = true then flN p (dA f) (dB f) else p) 0)), .int (nI ((if enB p (dA f) (dB f) = true then flN p (dA f) (dB f) else p) 2)), .ref rla], aI G rla 10 (nF (gz (if enB p (dA f) (dB f) = true then flN p (dA f) (dB f) else p))), ob rb 6 [.int (nI ((if enB p (dA f) (dB f) = true then flN p (dA f) (dB f) else p) 1)), .int (nI ((if enB p (dA f) (dB f) = true then flN p (dA f) (dB f) else p) 3)), .ref rlb], aI G rlb 10 (nF (go (if enB p (dA f) (dB f) = true then flN p (dA f) (dB f) else p))), ob xl 4 [.ref xlm, .ref xlr, .int (nI lq)], aI G xlm 4 (nF lm), aI G xlr 128 (nF lr), ob xk 5 [.ref xkf, .ref xkl], aI G xkf 9 (nF kf), aI G xkl 18 (nF kl)]
          refine wc_if_eqB X 99 106 dX10_canBe_99 (by decide) (fun c99_7 => ?_) (fun c99_7 => ?_)
          ·
            refine wc_iconstN X 106 0 dX10_canBe_106 ?_
            refine wc_st (st' := [.int (b2i false)]) rfl ?_
            exact ret 107 _ false _ dX10_canBe_107 (⟨_, _, _, _, _, by rw [doK2 hk, show (decide (dC f = 0) && decide (dD f = 0) && enB p (dA f) (dB f)) = false by rw [decide_eq_true c85_4, decide_eq_true c90_5, c99_7] <;> simp], by rw [doK2 hk, show (decide (dC f = 0) && decide (dD f = 0) && enB p (dA f) (dB f)) = false by rw [decide_eq_true c85_4, decide_eq_true c90_5, c99_7] <;> simp, show enB p (dA f) (dB f) = false from c99_7] <;> rfl⟩)
          ·
            refine wc_iconstN X 102 1 dX10_canBe_102 ?_
            refine wc_goto X 103 107 dX10_canBe_103 (by decide) ?_
            refine wc_st (st' := [.int (b2i true)]) rfl ?_
            exact ret 107 _ true _ dX10_canBe_107 (⟨_, _, _, _, _, by rw [doK2 hk, show (decide (dC f = 0) && decide (dD f = 0) && enB p (dA f) (dB f)) = true by rw [decide_eq_true c85_4, decide_eq_true c90_5, c99_7] <;> simp], by rw [doK2 hk, show (decide (dC f = 0) && decide (dD f = 0) && enB p (dA f) (dB f)) = true by rw [decide_eq_true c85_4, decide_eq_true c90_5, c99_7] <;> simp, show enB p (dA f) (dB f) = true from c99_7] <;> rfl⟩)
    ·
      by_cases s37_8 : nI (f / 10000) = nI 3
      ·
        refine wc_tsI X 37 108 2 (nI 3) (off := 71) dX10_canBe_37 s37_8 (by decide) (by decide) (by decide) (by decide) ?_
        have hk : f / 10000 = 3 := (nI_eq (by omega) (by decide)).mp s37_8
        refine wc_iload_n X 108 2 dX10_canBe_108 rfl ?_
        refine wc_callS X 109 [] (c_X10_isMachine l G (nI (dA f)) ) ys_X10_isMachine rfl q_400 ⟨rfl, rfl⟩ ⟨rfl, rfl⟩ ⟨rfl, rfl⟩ rfl rfl rfl dX10_canBe_109 ?_
        refine wc_topi (b2i (decide (dA f < 2))) (congrArg b2i (mac_B _ hA)) ?_
        refine wc_if_eqB X 112 150 dX10_canBe_112 (by decide) (fun c112_9 => ?_) (fun c112_9 => ?_)
        ·
          refine wc_iconstN X 150 0 dX10_canBe_150 ?_
          refine wc_st (st' := [.int (b2i false)]) rfl ?_
          exact ret 151 _ false _ dX10_canBe_151 (⟨_, _, _, _, _, by rw [doK3 hk, show (decide (dA f < 2) && wordOk (f % 1000) && (walkD (mG p (dA f)) (p (dA f)) (f % 1000) 1 9 &&& p (2 + dA f) != 0)) = false from by rw [show decide (dA f < 2) = false from c112_9]; rfl], by rw [doK3 hk]⟩)
        ·
          refine wc_iload_n X 115 1 dX10_canBe_115 rfl ?_
          refine wc_sipush X 116 (nI 1000) dX10_canBe_116 (by decide) ?_
          refine wc_iremN X 119 dX10_canBe_119 (by omega) (by decide) (by decide) ?_
          refine wc_callS X 120 [] (c_X10_isWordN l G (f % 1000) (by omega)) ys_X10_isWord rfl q_449 ⟨rfl, rfl⟩ ⟨rfl, rfl⟩ ⟨rfl, rfl⟩ rfl rfl rfl dX10_canBe_120 ?_
          refine wc_if_eqB X 123 150 dX10_canBe_123 (by decide) (fun c123_10 => ?_) (fun c123_10 => ?_)
          ·
            refine wc_iconstN X 150 0 dX10_canBe_150 ?_
            refine wc_st (st' := [.int (b2i false)]) rfl ?_
            exact ret 151 _ false _ dX10_canBe_151 (⟨_, _, _, _, _, by rw [doK3 hk, show (decide (dA f < 2) && wordOk (f % 1000) && (walkD (mG p (dA f)) (p (dA f)) (f % 1000) 1 9 &&& p (2 + dA f) != 0)) = false from by rw [show wordOk (f % 1000) = false from c123_10]; simp], by rw [doK3 hk]⟩)
          ·
            rcases (show dA f = 0 ∨ dA f = 1 by have := of_decide_eq_true c112_9; omega) with ha | ha
            ·
              refine wc_L (L' := [(0, .ref x), (1, .int (nI f)), (2, .int (nI 0)), (3, .int (nI (dB f))), (4, .int (nI (dC f))), (5, .int (nI (dD f)))]) (by rw [ha]) ?_
              refine wc_aload_n X 126 0 dX10_canBe_126 rfl ?_
              refine wc_get X 127 0 2 kd10 rfl (by decide) q_235 rfl dX10_canBe_127 ?_
              refine wc_iload_n X 130 2 dX10_canBe_130 rfl ?_
              refine wc_callV X 131 [1] 1 (c_X1_of0 l G xr ra rb ) yv_X1_of kd1 rfl rfl q_403 ⟨rfl, rfl⟩ ⟨rfl, rfl⟩ ⟨rfl, rfl⟩ rfl rfl rfl dX10_canBe_131 ?_
              refine wc_iconstN X 134 1 dX10_canBe_134 ?_
              refine wc_iload_n X 135 1 dX10_canBe_135 rfl ?_
              refine wc_sipush X 136 (nI 1000) dX10_canBe_136 (by decide) ?_
              refine wc_iremN X 139 dX10_canBe_139 (by omega) (by decide) (by decide) ?_
              refine wc_callV X 140 [2, 3] 2 (c_X6_accepts l G ra rla (p 0) (p 2) (gz p) 1 (f % 1000) (by omega) (by decide) (by omega) hg0w) yv_X6_accepts kd6 rfl rfl q_452 ⟨rfl, rfl⟩ ⟨rfl, rfl⟩ ⟨rfl, rfl⟩ rfl rfl rfl dX10_canBe_140 ?_
              refine wc_if_eqB X 143 150 dX10_canBe_143 (by decide) (fun c143_11 => ?_) (fun c143_11 => ?_)
              ·
                refine wc_iconstN X 150 0 dX10_canBe_150 ?_
                refine wc_st (st' := [.int (b2i false)]) rfl ?_
                exact ret 151 _ false _ dX10_canBe_151 (⟨_, _, _, _, _, by rw [doK3 hk, show (decide (dA f < 2) && wordOk (f % 1000) && (walkD (mG p (dA f)) (p (dA f)) (f % 1000) 1 9 &&& p (2 + dA f) != 0)) = false from by rw [ha, show wordOk (f % 1000) = true from c123_10, show (walkD (mG p 0) (p 0) (f % 1000) 1 9 &&& p (2 + 0) != 0) = false from c143_11] <;> rfl], by rw [doK3 hk]⟩)
              ·
                refine wc_iconstN X 146 1 dX10_canBe_146 ?_
                refine wc_goto X 147 151 dX10_canBe_147 (by decide) ?_
                refine wc_st (st' := [.int (b2i true)]) rfl ?_
                exact ret 151 _ true _ dX10_canBe_151 (⟨_, _, _, _, _, by rw [doK3 hk, show (decide (dA f < 2) && wordOk (f % 1000) && (walkD (mG p (dA f)) (p (dA f)) (f % 1000) 1 9 &&& p (2 + dA f) != 0)) = true from by rw [ha, show wordOk (f % 1000) = true from c123_10, show (walkD (mG p 0) (p 0) (f % 1000) 1 9 &&& p (2 + 0) != 0) = true from c143_11] <;> rfl], by rw [doK3 hk]⟩)
            ·
              refine wc_L (L' := [(0, .ref x), (1, .int (nI f)), (2, .int (nI 1)), (3, .int (nI (dB f))), (4, .int (nI (dC f))), (5, .int (nI (dD f)))]) (by rw [ha]) ?_
              refine wc_aload_n X 126 0 dX10_canBe_126 rfl ?_
              refine wc_get X 127 0 2 kd10 rfl (by decide) q_235 rfl dX10_canBe_127 ?_
              refine wc_iload_n X 130 2 dX10_canBe_130 rfl ?_
              refine wc_callV X 131 [1] 1 (c_X1_of1 l G xr ra rb (nI 1) (by decide)) yv_X1_of kd1 rfl rfl q_403 ⟨rfl, rfl⟩ ⟨rfl, rfl⟩ ⟨rfl, rfl⟩ rfl rfl rfl dX10_canBe_131 ?_
              refine wc_iconstN X 134 1 dX10_canBe_134 ?_
              refine wc_iload_n X 135 1 dX10_canBe_135 rfl ?_
              refine wc_sipush X 136 (nI 1000) dX10_canBe_136 (by decide) ?_
              refine wc_iremN X 139 dX10_canBe_139 (by omega) (by decide) (by decide) ?_
              refine wc_callV X 140 [4, 5] 4 (c_X6_accepts l G rb rlb (p 1) (p 3) (go p) 1 (f % 1000) (by omega) (by decide) (by omega) hg1) yv_X6_accepts kd6 rfl rfl q_452 ⟨rfl, rfl⟩ ⟨rfl, rfl⟩ ⟨rfl, rfl⟩ rfl rfl rfl dX10_canBe_140 ?_
              refine wc_if_eqB X 143 150 dX10_canBe_143 (by decide) (fun c143_12 => ?_) (fun c143_12 => ?_)
              ·
                refine wc_iconstN X 150 0 dX10_canBe_150 ?_
                refine wc_st (st' := [.int (b2i false)]) rfl ?_
                exact ret 151 _ false _ dX10_canBe_151 (⟨_, _, _, _, _, by rw [doK3 hk, show (decide (dA f < 2) && wordOk (f % 1000) && (walkD (mG p (dA f)) (p (dA f)) (f % 1000) 1 9 &&& p (2 + dA f) != 0)) = false from by rw [ha, show wordOk (f % 1000) = true from c123_10, show (walkD (mG p 1) (p 1) (f % 1000) 1 9 &&& p (2 + 1) != 0) = false from c143_12] <;> rfl], by rw [doK3 hk]⟩)
              ·
                refine wc_iconstN X 146 1 dX10_canBe_146 ?_
                refine wc_goto X 147 151 dX10_canBe_147 (by decide) ?_
                refine wc_st (st' := [.int (b2i true)]) rfl ?_
                exact ret 151 _ true _ dX10_canBe_151 (⟨_, _, _, _, _, by rw [doK3 hk, show (decide (dA f < 2) && wordOk (f % 1000) && (walkD (mG p (dA f)) (p (dA f)) (f % 1000) 1 9 &&& p (2 + dA f) != 0)) = true from by rw [ha, show wordOk (f % 1000) = true from c123_10, show (walkD (mG p 1) (p 1) (f % 1000) 1 9 &&& p (2 + 1) != 0) = true from c143_12] <;> rfl], by rw [doK3 hk]⟩)
      ·
        by_cases s37_13 : nI (f / 10000) = nI 4
        ·
          refine wc_tsI X 37 152 3 (nI 4) (off := 115) dX10_canBe_37 s37_13 (by decide) (by decide) (by decide) (by decide) ?_
          have hk : f / 10000 = 4 := (nI_eq (by omega) (by decide)).mp s37_13
          refine wc_iload_n X 152 2 dX10_canBe_152 rfl ?_
          refine wc_if_neN X 153 200 dX10_canBe_153 (by decide) (by omega) (fun c153_14 => ?_) (fun c153_14 => ?_)
          ·
            refine wc_iconstN X 200 0 dX10_canBe_200 ?_
            refine wc_st (st' := [.int (b2i false)]) rfl ?_
            exact ret 201 _ false _ dX10_canBe_201 (⟨_, _, _, _, _, by rw [doK4 hk, show (decide (f % 10000 < 2) && (withP p == decide (dD f = 1))) = false from by rw [decide_eq_false (fun z => by have := four_lt.mp z; omega)]; rfl], by rw [doK4 hk]⟩)
          ·
            refine wc_iload_n X 156 3 dX10_canBe_156 rfl ?_
            refine wc_if_neN X 157 200 dX10_canBe_157 (by decide) (by omega) (fun c157_15 => ?_) (fun c157_15 => ?_)
            ·
              refine wc_iconstN X 200 0 dX10_canBe_200 ?_
              refine wc_st (st' := [.int (b2i false)]) rfl ?_
              exact ret 201 _ false _ dX10_canBe_201 (⟨_, _, _, _, _, by rw [doK4 hk, show (decide (f % 10000 < 2) && (withP p == decide (dD f = 1))) = false from by rw [decide_eq_false (fun z => by have := four_lt.mp z; omega)]; rfl], by rw [doK4 hk]⟩)
            ·
              refine wc_iload X 160 4 dX10_canBe_160 rfl ?_
              refine wc_if_neN X 162 200 dX10_canBe_162 (by decide) (by omega) (fun c162_16 => ?_) (fun c162_16 => ?_)
              ·
                refine wc_iconstN X 200 0 dX10_canBe_200 ?_
                refine wc_st (st' := [.int (b2i false)]) rfl ?_
                exact ret 201 _ false _ dX10_canBe_201 (⟨_, _, _, _, _, by rw [doK4 hk, show (decide (f % 10000 < 2) && (withP p == decide (dD f = 1))) = false from by rw [decide_eq_false (fun z => by have := four_lt.mp z; omega)]; rfl], by rw [doK4 hk]⟩)
              ·
                refine wc_iload X 165 5 dX10_canBe_165 rfl ?_
                refine wc_iconstN X 167 1 dX10_canBe_167 ?_
                refine wc_icmp_gtN X 168 200 dX10_canBe_168 (by decide) (by omega) (by decide) (fun c168_17 => ?_) (fun c168_17 => ?_)
                ·
                  refine wc_iconstN X 200 0 dX10_canBe_200 ?_
                  refine wc_st (st' := [.int (b2i false)]) rfl ?_
                  exact ret 201 _ false _ dX10_canBe_201 (⟨_, _, _, _, _, by rw [doK4 hk, show (decide (f % 10000 < 2) && (withP p == decide (dD f = 1))) = false from by rw [decide_eq_false (fun z => by have := four_lt.mp z; omega)]; rfl], by rw [doK4 hk]⟩)
                ·
                  refine wc_aload_n X 171 0 dX10_canBe_171 rfl ?_
                  refine wc_get X 172 0 13 kd10 rfl (by decide) q_246 rfl dX10_canBe_172 ?_
                  refine wc_aload_n X 175 0 dX10_canBe_175 rfl ?_
                  refine wc_get X 176 0 2 kd10 rfl (by decide) q_235 rfl dX10_canBe_176 ?_
                  refine wc_mutV X Y 179 [6, 7, 8, 1, 2, 3, 4, 5] [0, 9, 10, 11] 6 (c_X4_holds l G xl xlm xlr lq lm lr xr ra rla (p 0) (p 2) (gz p) rb rlb (p 1) (p 3) (go p) (by first | assumption | omega) (by first | assumption | omega) (by first | assumption | omega) (by first | assumption | omega) (by first | assumption | omega) (by first | assumption | omega) (by first | assumption | omega) (by first | assumption | omega) (by first | assumption | omega)) yv_X4_holds kd4 rfl rfl (wr := [ob x 10 [.ref xt, .ref xn, .ref xr, .ref xa, .ref xs, .ref xf, .ref xw, .ref xi, .int (nI sn), .long sd, .ref xe, .ref xp, .ref xg, .ref xl, .ref xk, .ref xh, .ref xv], ob xk 5 [.ref xkf, .ref xkl], aI G xkf 9 (nF kf), aI G xkl 18 (nF kl)]) rfl ⟨rfl, rfl, rfl⟩ q_503 ⟨rfl, rfl⟩ ⟨rfl, rfl⟩ ⟨rfl, rfl⟩ rfl rfl rfl dX10_canBe_179 (fun v w hp_18 => ?_)
                  obtain ⟨mt2_19, row2_20, n2_21, rfl, rfl⟩ := hp_18
                  refine wc_perm Y [0, 7, 8, 9, 10, 11, 4, 5, 6, 1, 2, 3] [ob x 10 [.ref xt, .ref xn, .ref xr, .ref xa, .ref xs, .ref xf, .ref xw, .ref xi, .int (nI sn), .long sd, .ref xe, .ref xp, .ref xg, .ref xl, .ref xk, .ref xh, .ref xv], ob xr 1 [.ref ra, .ref rb], ob ra 6 [.int (nI (p 0)), .int (nI (p 2)), .ref rla], aI G rla 10 (nF (gz p)), ob rb 6 [.int (nI (p 1)), .int (nI (p 3)), .ref rlb], aI G rlb 10 (nF (go p)), ob xl 4 [.ref xlm, .ref xlr, .int (nI n2_21)], aI G xlm 4 (nF mt2_19), aI G xlr 128 (nF row2_20), ob xk 5 [.ref xkf, .ref xkl], aI G xkf 9 (nF kf), aI G xkl 18 (nF kl)] rfl rfl ?_
                  show Wc Γ 0 0 182 [(0, .ref x), (1, .int (nI f)), (2, .int (nI (dA f))), (3, .int (nI (dB f))), (4, .int (nI (dC f))), (5, .int (nI (dD f)))] [.int (b2i (withB (gz p) (p 0) (p 2) (go p) (p 1) (p 3)))] [ob x 10 [.ref xt, .ref xn, .ref xr, .ref xa, .ref xs, .ref xf, .ref xw, .ref xi, .int (nI sn), .long sd, .ref xe, .ref xp, .ref xg, .ref xl, .ref xk, .ref xh, .ref xv], ob xr 1 [.ref ra, .ref rb], ob ra 6 [.int (nI (p 0)), .int (nI (p 2)), .ref rla], aI G rla 10 (nF (gz p)), ob rb 6 [.int (nI (p 1)), .int (nI (p 3)), .ref rlb], aI G rlb 10 (nF (go p)), ob xl 4 [.ref xlm, .ref xlr, .int (nI n2_21)], aI G xlm 4 (nF mt2_19), aI G xlr 128 (nF row2_20), ob xk 5 [.ref xkf, .ref xkl], aI G xkf 9 (nF kf), aI G xkl 18 (nF kl)]
                  refine wc_topi (b2i (withP p)) (rfl) ?_
                  refine wc_iload X 182 5 dX10_canBe_182 rfl ?_
                  refine wc_iconstN X 184 1 dX10_canBe_184 ?_
                  refine wc_icmp_neN X 185 192 dX10_canBe_185 (by decide) (by omega) (by decide) (fun c185_22 => ?_) (fun c185_22 => ?_)
                  ·
                    refine wc_iconstN X 192 0 dX10_canBe_192 ?_
                    refine wc_st (st' := [.int (b2i false), .int (b2i (withP p))]) rfl ?_
                    refine wc_icmp_neB X 193 200 dX10_canBe_193 (by decide) (fun c193_23 => ?_) (fun c193_23 => ?_)
                    ·
                      refine wc_iconstN X 200 0 dX10_canBe_200 ?_
                      refine wc_st (st' := [.int (b2i false)]) rfl ?_
                      exact ret 201 _ false _ dX10_canBe_201 (⟨_, _, _, _, _, by rw [doK4 hk, show (decide (f % 10000 < 2) && (withP p == decide (dD f = 1))) = false from by rw [decide_eq_true (four_lt.mpr ⟨by omega, by omega, by omega, by omega⟩), show withP p = _ from (show withP p = true by simpa using c193_23), show decide (dD f = 1) = _ from decide_eq_false c185_22]; rfl], by rw [doK4 hk]⟩)
                    ·
                      refine wc_iconstN X 196 1 dX10_canBe_196 ?_
                      refine wc_goto X 197 201 dX10_canBe_197 (by decide) ?_
                      refine wc_st (st' := [.int (b2i true)]) rfl ?_
                      exact ret 201 _ true _ dX10_canBe_201 (⟨_, _, _, _, _, by rw [doK4 hk, show (decide (f % 10000 < 2) && (withP p == decide (dD f = 1))) = true from by rw [decide_eq_true (four_lt.mpr ⟨by omega, by omega, by omega, by omega⟩), show withP p = _ from (show withP p = false by simpa using c193_23), show decide (dD f = 1) = _ from decide_eq_false c185_22]; rfl], by rw [doK4 hk]⟩)
                  ·
                    refine wc_iconstN X 188 1 dX10_canBe_188 ?_
                    refine wc_goto X 189 193 dX10_canBe_189 (by decide) ?_
                    refine wc_st (st' := [.int (b2i true), .int (b2i (withP p))]) rfl ?_
                    refine wc_icmp_neB X 193 200 dX10_canBe_193 (by decide) (fun c193_24 => ?_) (fun c193_24 => ?_)
                    ·
                      refine wc_iconstN X 200 0 dX10_canBe_200 ?_
                      refine wc_st (st' := [.int (b2i false)]) rfl ?_
                      exact ret 201 _ false _ dX10_canBe_201 (⟨_, _, _, _, _, by rw [doK4 hk, show (decide (f % 10000 < 2) && (withP p == decide (dD f = 1))) = false from by rw [decide_eq_true (four_lt.mpr ⟨by omega, by omega, by omega, by omega⟩), show withP p = _ from (show withP p = false by simpa using c193_24), show decide (dD f = 1) = _ from decide_eq_true c185_22]; rfl], by rw [doK4 hk]⟩)
                    ·
                      refine wc_iconstN X 196 1 dX10_canBe_196 ?_
                      refine wc_goto X 197 201 dX10_canBe_197 (by decide) ?_
                      refine wc_st (st' := [.int (b2i true)]) rfl ?_
                      exact ret 201 _ true _ dX10_canBe_201 (⟨_, _, _, _, _, by rw [doK4 hk, show (decide (f % 10000 < 2) && (withP p == decide (dD f = 1))) = true from by rw [decide_eq_true (four_lt.mpr ⟨by omega, by omega, by omega, by omega⟩), show withP p = _ from (show withP p = true by simpa using c193_24), show decide (dD f = 1) = _ from decide_eq_true c185_22]; rfl], by rw [doK4 hk]⟩)
        ·
          by_cases s37_25 : nI (f / 10000) = nI 5
          ·
            refine wc_tsI X 37 202 4 (nI 5) (off := 165) dX10_canBe_37 s37_25 (by decide) (by decide) (by decide) (by decide) ?_
            have hk : f / 10000 = 5 := (nI_eq (by omega) (by decide)).mp s37_25
            refine wc_iload X 202 4 dX10_canBe_202 rfl ?_
            refine wc_if_neN X 204 261 dX10_canBe_204 (by decide) (by omega) (fun c204_26 => ?_) (fun c204_26 => ?_)
            ·
              refine wc_iconstN X 261 0 dX10_canBe_261 ?_
              refine wc_st (st' := [.int (b2i false)]) rfl ?_
              exact ret 262 _ false _ dX10_canBe_262 (⟨_, _, _, _, _, by rw [doK5 hk, show (decide (dA f < p 0) && decide (dB f < p 1) && decide (dC f = 0) && decide (dD f < 2) && (folB (gz p) (p 0) (p 2) (go p) (p 1) (p 3) (dA f) (4 + dB f) == decide (dD f = 1))) = false from by rw [decide_eq_false c204_26]; simp], by rw [doK5 hk]⟩)
            ·
              refine wc_iload X 207 5 dX10_canBe_207 rfl ?_
              refine wc_iconstN X 209 1 dX10_canBe_209 ?_
              refine wc_icmp_gtN X 210 261 dX10_canBe_210 (by decide) (by omega) (by decide) (fun c210_27 => ?_) (fun c210_27 => ?_)
              ·
                have hd2 : ¬ dD f < 2 := by omega
                refine wc_iconstN X 261 0 dX10_canBe_261 ?_
                refine wc_st (st' := [.int (b2i false)]) rfl ?_
                exact ret 262 _ false _ dX10_canBe_262 (⟨_, _, _, _, _, by rw [doK5 hk, show (decide (dA f < p 0) && decide (dB f < p 1) && decide (dC f = 0) && decide (dD f < 2) && (folB (gz p) (p 0) (p 2) (go p) (p 1) (p 3) (dA f) (4 + dB f) == decide (dD f = 1))) = false from by rw [decide_eq_false hd2]; simp], by rw [doK5 hk]⟩)
              ·
                refine wc_aload_n X 213 0 dX10_canBe_213 rfl ?_
                refine wc_get X 214 0 2 kd10 rfl (by decide) q_235 rfl dX10_canBe_214 ?_
                refine wc_iconstN X 217 0 dX10_canBe_217 ?_
                refine wc_iload_n X 218 2 dX10_canBe_218 rfl ?_
                refine wc_callS X 219 [1, 2, 4] (c_X10_isStateOf l G xr ra rla (p 0) (p 2) rb rlb (p 1) (p 3) (nI 0) (nI (dA f)) ) ys_X10_isStateOf rfl q_397 ⟨rfl, rfl⟩ ⟨rfl, rfl⟩ ⟨rfl, rfl⟩ rfl rfl rfl dX10_canBe_219 ?_
                refine wc_topi (b2i (decide (dA f < p 0))) (congrArg b2i (by rw [st_B (a := 0) hr (by decide) hA]; unfold enB; simp)) ?_
                refine wc_if_eqB X 222 261 dX10_canBe_222 (by decide) (fun c222_28 => ?_) (fun c222_28 => ?_)
                ·
                  refine wc_iconstN X 261 0 dX10_canBe_261 ?_
                  refine wc_st (st' := [.int (b2i false)]) rfl ?_
                  exact ret 262 _ false _ dX10_canBe_262 (⟨_, _, _, _, _, by rw [doK5 hk, show (decide (dA f < p 0) && decide (dB f < p 1) && decide (dC f = 0) && decide (dD f < 2) && (folB (gz p) (p 0) (p 2) (go p) (p 1) (p 3) (dA f) (4 + dB f) == decide (dD f = 1))) = false from by rw [show decide (dA f < p 0) = false from c222_28]; simp], by rw [doK5 hk]⟩)
                ·
                  have h50 := of_decide_eq_true c222_28
                  refine wc_aload_n X 225 0 dX10_canBe_225 rfl ?_
                  refine wc_get X 226 0 2 kd10 rfl (by decide) q_235 rfl dX10_canBe_226 ?_
                  refine wc_iconstN X 229 1 dX10_canBe_229 ?_
                  refine wc_iload_n X 230 3 dX10_canBe_230 rfl ?_
                  refine wc_callS X 231 [1, 2, 4] (c_X10_isStateOf l G xr ra rla (p 0) (p 2) rb rlb (p 1) (p 3) (nI 1) (nI (dB f)) ) ys_X10_isStateOf rfl q_397 ⟨rfl, rfl⟩ ⟨rfl, rfl⟩ ⟨rfl, rfl⟩ rfl rfl rfl dX10_canBe_231 ?_
                  refine wc_topi (b2i (decide (dB f < p 1))) (congrArg b2i (by rw [st_B (a := 1) hr (by decide) hB]; unfold enB; simp)) ?_
                  refine wc_if_eqB X 234 261 dX10_canBe_234 (by decide) (fun c234_29 => ?_) (fun c234_29 => ?_)
                  ·
                    refine wc_iconstN X 261 0 dX10_canBe_261 ?_
                    refine wc_st (st' := [.int (b2i false)]) rfl ?_
                    exact ret 262 _ false _ dX10_canBe_262 (⟨_, _, _, _, _, by rw [doK5 hk, show (decide (dA f < p 0) && decide (dB f < p 1) && decide (dC f = 0) && decide (dD f < 2) && (folB (gz p) (p 0) (p 2) (go p) (p 1) (p 3) (dA f) (4 + dB f) == decide (dD f = 1))) = false from by rw [show decide (dB f < p 1) = false from c234_29]; simp], by rw [doK5 hk]⟩)
                  ·
                    have h51 := of_decide_eq_true c234_29
                    refine wc_aload_n X 237 0 dX10_canBe_237 rfl ?_
                    refine wc_iload_n X 238 2 dX10_canBe_238 rfl ?_
                    refine wc_iload_n X 239 3 dX10_canBe_239 rfl ?_
                    refine wc_mutV X Y 240 [0, 1, 2, 3, 4, 5, 9, 10, 11] [6, 7, 8] 0 (c_X10_followsInTrial l G x xt xn xr xa xs xf xw xi sn sd xe xp xg xl xk xh xv ra rla rb rlb p xkf xkl kf kl (dA f) (dB f) (by first | assumption | omega) h50 h51) yv_X10_followsInTrial kd10 rfl rfl (wr := [ob xl 4 [.ref xlm, .ref xlr, .int (nI lq)], aI G xlm 4 (nF lm), aI G xlr 128 (nF lr)]) rfl ⟨rfl, rfl, rfl⟩ q_677 ⟨rfl, rfl⟩ ⟨rfl, rfl⟩ ⟨rfl, rfl⟩ rfl rfl rfl dX10_canBe_240 (fun v w hp_30 => ?_)
                    obtain ⟨kf2_31, kl2_32, rfl, rfl⟩ := hp_30
                    refine wc_perm Y [3, 4, 5, 6, 7, 8, 0, 1, 2, 9, 10, 11] [ob x 10 [.ref xt, .ref xn, .ref xr, .ref xa, .ref xs, .ref xf, .ref xw, .ref xi, .int (nI sn), .long sd, .ref xe, .ref xp, .ref xg, .ref xl, .ref xk, .ref xh, .ref xv], ob xr 1 [.ref ra, .ref rb], ob ra 6 [.int (nI (p 0)), .int (nI (p 2)), .ref rla], aI G rla 10 (nF (gz p)), ob rb 6 [.int (nI (p 1)), .int (nI (p 3)), .ref rlb], aI G rlb 10 (nF (go p)), ob xl 4 [.ref xlm, .ref xlr, .int (nI lq)], aI G xlm 4 (nF lm), aI G xlr 128 (nF lr), ob xk 5 [.ref xkf, .ref xkl], aI G xkf 9 (nF kf2_31), aI G xkl 18 (nF kl2_32)] rfl rfl ?_
                    show Wc Γ 0 0 243 [(0, .ref x), (1, .int (nI f)), (2, .int (nI (dA f))), (3, .int (nI (dB f))), (4, .int (nI (dC f))), (5, .int (nI (dD f)))] [.int (b2i (folB (gz p) (p 0) (p 2) (go p) (p 1) (p 3) (dA f) (4 + (dB f))))] [ob x 10 [.ref xt, .ref xn, .ref xr, .ref xa, .ref xs, .ref xf, .ref xw, .ref xi, .int (nI sn), .long sd, .ref xe, .ref xp, .ref xg, .ref xl, .ref xk, .ref xh, .ref xv], ob xr 1 [.ref ra, .ref rb], ob ra 6 [.int (nI (p 0)), .int (nI (p 2)), .ref rla], aI G rla 10 (nF (gz p)), ob rb 6 [.int (nI (p 1)), .int (nI (p 3)), .ref rlb], aI G rlb 10 (nF (go p)), ob xl 4 [.ref xlm, .ref xlr, .int (nI lq)], aI G xlm 4 (nF lm), aI G xlr 128 (nF lr), ob xk 5 [.ref xkf, .ref xkl], aI G xkf 9 (nF kf2_31), aI G xkl 18 (nF kl2_32)]
                    refine wc_iload X 243 5 dX10_canBe_243 rfl ?_
                    refine wc_iconstN X 245 1 dX10_canBe_245 ?_
                    refine wc_icmp_neN X 246 253 dX10_canBe_246 (by decide) (by omega) (by decide) (fun c246_33 => ?_) (fun c246_33 => ?_)
                    ·
                      refine wc_iconstN X 253 0 dX10_canBe_253 ?_
                      refine wc_st (st' := [.int (b2i false), .int (b2i (folB (gz p) (p 0) (p 2) (go p) (p 1) (p 3) (dA f) (4 + (dB f))))]) rfl ?_
                      refine wc_icmp_neB X 254 261 dX10_canBe_254 (by decide) (fun c254_34 => ?_) (fun c254_34 => ?_)
                      ·
                        refine wc_iconstN X 261 0 dX10_canBe_261 ?_
                        refine wc_st (st' := [.int (b2i false)]) rfl ?_
                        exact ret 262 _ false _ dX10_canBe_262 (⟨_, _, _, _, _, by rw [doK5 hk, show (decide (dA f < p 0) && decide (dB f < p 1) && decide (dC f = 0) && decide (dD f < 2) && (folB (gz p) (p 0) (p 2) (go p) (p 1) (p 3) (dA f) (4 + dB f) == decide (dD f = 1))) = false from by rw [decide_eq_true h50, decide_eq_true h51, decide_eq_true (show dC f = 0 by omega), decide_eq_true (show dD f < 2 by omega), show folB (gz p) (p 0) (p 2) (go p) (p 1) (p 3) (dA f) (4 + dB f) = _ from (show folB (gz p) (p 0) (p 2) (go p) (p 1) (p 3) (dA f) (4 + dB f) = true by simpa using c254_34), show decide (dD f = 1) = _ from decide_eq_false c246_33]; rfl], by rw [doK5 hk]⟩)
                      ·
                        refine wc_iconstN X 257 1 dX10_canBe_257 ?_
                        refine wc_goto X 258 262 dX10_canBe_258 (by decide) ?_
                        refine wc_st (st' := [.int (b2i true)]) rfl ?_
                        exact ret 262 _ true _ dX10_canBe_262 (⟨_, _, _, _, _, by rw [doK5 hk, show (decide (dA f < p 0) && decide (dB f < p 1) && decide (dC f = 0) && decide (dD f < 2) && (folB (gz p) (p 0) (p 2) (go p) (p 1) (p 3) (dA f) (4 + dB f) == decide (dD f = 1))) = true from by rw [decide_eq_true h50, decide_eq_true h51, decide_eq_true (show dC f = 0 by omega), decide_eq_true (show dD f < 2 by omega), show folB (gz p) (p 0) (p 2) (go p) (p 1) (p 3) (dA f) (4 + dB f) = _ from (show folB (gz p) (p 0) (p 2) (go p) (p 1) (p 3) (dA f) (4 + dB f) = false by simpa using c254_34), show decide (dD f = 1) = _ from decide_eq_false c246_33]; rfl], by rw [doK5 hk]⟩)
                    ·
                      refine wc_iconstN X 249 1 dX10_canBe_249 ?_
                      refine wc_goto X 250 254 dX10_canBe_250 (by decide) ?_
                      refine wc_st (st' := [.int (b2i true), .int (b2i (folB (gz p) (p 0) (p 2) (go p) (p 1) (p 3) (dA f) (4 + (dB f))))]) rfl ?_
                      refine wc_icmp_neB X 254 261 dX10_canBe_254 (by decide) (fun c254_35 => ?_) (fun c254_35 => ?_)
                      ·
                        refine wc_iconstN X 261 0 dX10_canBe_261 ?_
                        refine wc_st (st' := [.int (b2i false)]) rfl ?_
                        exact ret 262 _ false _ dX10_canBe_262 (⟨_, _, _, _, _, by rw [doK5 hk, show (decide (dA f < p 0) && decide (dB f < p 1) && decide (dC f = 0) && decide (dD f < 2) && (folB (gz p) (p 0) (p 2) (go p) (p 1) (p 3) (dA f) (4 + dB f) == decide (dD f = 1))) = false from by rw [decide_eq_true h50, decide_eq_true h51, decide_eq_true (show dC f = 0 by omega), decide_eq_true (show dD f < 2 by omega), show folB (gz p) (p 0) (p 2) (go p) (p 1) (p 3) (dA f) (4 + dB f) = _ from (show folB (gz p) (p 0) (p 2) (go p) (p 1) (p 3) (dA f) (4 + dB f) = false by simpa using c254_35), show decide (dD f = 1) = _ from decide_eq_true c246_33]; rfl], by rw [doK5 hk]⟩)
                      ·
                        refine wc_iconstN X 257 1 dX10_canBe_257 ?_
                        refine wc_goto X 258 262 dX10_canBe_258 (by decide) ?_
                        refine wc_st (st' := [.int (b2i true)]) rfl ?_
                        exact ret 262 _ true _ dX10_canBe_262 (⟨_, _, _, _, _, by rw [doK5 hk, show (decide (dA f < p 0) && decide (dB f < p 1) && decide (dC f = 0) && decide (dD f < 2) && (folB (gz p) (p 0) (p 2) (go p) (p 1) (p 3) (dA f) (4 + dB f) == decide (dD f = 1))) = true from by rw [decide_eq_true h50, decide_eq_true h51, decide_eq_true (show dC f = 0 by omega), decide_eq_true (show dD f < 2 by omega), show folB (gz p) (p 0) (p 2) (go p) (p 1) (p 3) (dA f) (4 + dB f) = _ from (show folB (gz p) (p 0) (p 2) (go p) (p 1) (p 3) (dA f) (4 + dB f) = true by simpa using c254_35), show decide (dD f = 1) = _ from decide_eq_true c246_33]; rfl], by rw [doK5 hk]⟩)
          ·
            have hsw1 : f / 10000 ≠ 1 := fun e => s37_1 (by rw [e])
            have hsw2 : f / 10000 ≠ 2 := fun e => s37_3 (by rw [e])
            have hsw3 : f / 10000 ≠ 3 := fun e => s37_8 (by rw [e])
            have hsw4 : f / 10000 ≠ 4 := fun e => s37_13 (by rw [e])
            have hsw5 : f / 10000 ≠ 5 := fun e => s37_25 (by rw [e])
            refine wc_tsO X 37 263 dX10_canBe_37 (by rw [nI_toInt (by omega)]; omega) (by decide) ?_
            refine wc_iconstN X 263 0 dX10_canBe_263 ?_
            refine wc_st (st' := [.int (b2i false)]) rfl ?_
            exact ret 264 _ false _ dX10_canBe_264 (⟨_, _, _, _, _, by rw [doK0 hsw1 hsw2 hsw3 hsw4 hsw5], by rw [doK0 hsw1 hsw2 hsw3 hsw4 hsw5]⟩)

set_option maxHeartbeats 4000000 in
set_option maxRecDepth 100000 in
theorem c_X10_judgeF (l : Launch) (G : GG) (x xt xn xr xa xs xf xw xi sn : Nat) (sd : Int64) (xe xp xg xl xk xh xv : Nat) (n : Int32) (row : Int64) (ho : outR n 1 3) : RM l G yX10_judge (Cond.code yX10_judge cX10_judge 6 (some .int)) { frames := 0, cells := 0, slots := 0, locals := 0 } [.ref x, .int n, .long row] [ob x 10 [.ref xt, .ref xn, .ref xr, .ref xa, .ref xs, .ref xf, .ref xw, .ref xi, .int (nI sn), .long sd, .ref xe, .ref xp, .ref xg, .ref xl, .ref xk, .ref xh, .ref xv]] (.int (-2)) := by
  refine RM.ofI (by decide) rfl (fun Γ X ret => ?_)
  show Wc Γ 0 0 0 [(0, .ref x), (1, .int n), (2, .long row)] [] [ob x 10 [.ref xt, .ref xn, .ref xr, .ref xa, .ref xs, .ref xf, .ref xw, .ref xi, .int (nI sn), .long sd, .ref xe, .ref xp, .ref xg, .ref xl, .ref xk, .ref xh, .ref xv]]
  refine wc_iload_n X 0 1 dX10_judge_0 rfl ?_
  refine wc_iconstN X 1 1 dX10_judge_1 ?_
  refine wc_icmp_lt X 2 26 dX10_judge_2 (by decide) (fun c2_1 => ?_) (fun c2_1 => ?_)
  ·
    refine wc_bipush X 26 (-2) dX10_judge_26 (by decide) ?_
    exact ret 28 _ (-2) dX10_judge_28 (rfl)
  ·
    refine wc_iload_n X 5 1 dX10_judge_5 rfl ?_
    refine wc_iconstN X 6 3 dX10_judge_6 ?_
    refine wc_icmp_gt X 7 26 dX10_judge_7 (by decide) (fun c7_2 => ?_) (fun c7_2 => ?_)
    ·
      refine wc_bipush X 26 (-2) dX10_judge_26 (by decide) ?_
      exact ret 28 _ (-2) dX10_judge_28 (rfl)
    ·
      exact (out_cls ho (by decide) (by decide) c2_1 (Int32.not_lt.mp c7_2)).elim

set_option maxHeartbeats 4000000 in
set_option maxRecDepth 100000 in
theorem c_X10_judgeG (l : Launch) (G : GG) (x xt xn xr xa xs xf xw xi sn : Nat) (sd : Int64) (xe xp xg xl xk xh xv : Nat) (n : Nat) (row : Int64) (h1 : 1 ≤ n) (h2 : n ≤ 3) (ho : outJ row n) : RM l G yX10_judge (Cond.code yX10_judge cX10_judge 6 (some .int)) { frames := 0, cells := 0, slots := 0, locals := 0 } [.ref x, .int (nI n), .long row] [ob x 10 [.ref xt, .ref xn, .ref xr, .ref xa, .ref xs, .ref xf, .ref xw, .ref xi, .int (nI sn), .long sd, .ref xe, .ref xp, .ref xg, .ref xl, .ref xk, .ref xh, .ref xv]] (.int (-2)) := by
  refine RM.ofI (by decide) rfl (fun Γ X ret => ?_)
  show Wc Γ 0 0 0 [(0, .ref x), (1, .int (nI n)), (2, .long row)] [] [ob x 10 [.ref xt, .ref xn, .ref xr, .ref xa, .ref xs, .ref xf, .ref xw, .ref xi, .int (nI sn), .long sd, .ref xe, .ref xp, .ref xg, .ref xl, .ref xk, .ref xh, .ref xv]]
  refine wc_iload_n X 0 1 dX10_judge_0 rfl ?_
  refine wc_iconstN X 1 1 dX10_judge_1 ?_
  refine wc_icmp_ltN X 2 26 dX10_judge_2 (by decide) (by omega) (by decide) (fun c2_1 => ?_) (fun c2_1 => ?_)
  ·
    exact absurd c2_1 (by omega)
  ·
    refine wc_iload_n X 5 1 dX10_judge_5 rfl ?_
    refine wc_iconstN X 6 3 dX10_judge_6 ?_
    refine wc_icmp_gtN X 7 26 dX10_judge_7 (by decide) (by omega) (by decide) (fun c7_2 => ?_) (fun c7_2 => ?_)
    ·
      exact absurd c7_2 (by omega)
    ·
      refine wc_lload_n X 10 2 dX10_judge_10 rfl ?_
      refine wc_lconst X 11 0 dX10_judge_11 (by decide) ?_
      refine wc_lcmp X 12 dX10_judge_12 ?_
      refine wc_if_lt X 13 26 dX10_judge_13 (by decide) (fun c13_3 => ?_) (fun c13_3 => ?_)
      ·
        refine wc_bipush X 26 (-2) dX10_judge_26 (by decide) ?_
        exact ret 28 _ (-2) dX10_judge_28 (rfl)
      ·
        refine wc_lload_n X 16 2 dX10_judge_16 rfl ?_
        refine wc_getDOINGS X 17 q_663 dX10_judge_17 ?_
        refine wc_iload_n X 20 1 dX10_judge_20 rfl ?_
        refine wc_doAt X 21 (by omega) dX10_judge_21 ?_
        refine wc_lcmp X 22 dX10_judge_22 ?_
        refine wc_if_lt X 23 29 dX10_judge_23 (by decide) (fun c23_4 => ?_) (fun c23_4 => ?_)
        ·
          exact (outJ_c ho h2 c13_3 c23_4).elim
        ·
          refine wc_bipush X 26 (-2) dX10_judge_26 (by decide) ?_
          exact ret 28 _ (-2) dX10_judge_28 (rfl)

set_option maxHeartbeats 4000000 in
set_option maxRecDepth 100000 in
theorem c_X10_judgeS (l : Launch) (G : GG) (x xt xn xr xa xs xf xw xi sn : Nat) (sd : Int64) (xe xp xg xl xk xh xv : Nat) (na nla nb nlb : Nat) (p : Nat → Nat) (ra rla r0 re : Nat) (rg : Nat → Nat) (rb rlb r1 rf : Nat) (rh : Nat → Nat) (xlm xlr lq : Nat) (lm lr : Nat → Nat) (xkf xkl : Nat) (kf kl : Nat → Nat) (n r : Nat) (hr : pgOk p) (h1 : 1 ≤ n) (h2 : n ≤ 3) (hrow : r < 100000 ^ n) : MM l G yX10_judge (Cond.code yX10_judge cX10_judge 6 (some .int)) { frames := 5, cells := 0, slots := 0, locals := 121 } [.ref x, .int (nI n), .long (lN r)] [ob x 10 [.ref xt, .ref xn, .ref xr, .ref xa, .ref xs, .ref xf, .ref xw, .ref xi, .int (nI sn), .long sd, .ref xe, .ref xp, .ref xg, .ref xl, .ref xk, .ref xh, .ref xv], ob xn 1 [.ref na, .ref nb], ob na 6 [.int (nI (p 0)), .int (nI (p 2)), .ref nla], aI G nla 10 (nF (gz p)), ob nb 6 [.int (nI (p 1)), .int (nI (p 3)), .ref nlb], aI G nlb 10 (nF (go p)), ob xr 1 [.ref ra, .ref rb], ob ra 6 [.int (nI r0), .int (nI re), .ref rla], aI G rla 10 (nF rg), ob rb 6 [.int (nI r1), .int (nI rf), .ref rlb], aI G rlb 10 (nF rh), ob xl 4 [.ref xlm, .ref xlr, .int (nI lq)], aI G xlm 4 (nF lm), aI G xlr 128 (nF lr), ob xk 5 [.ref xkf, .ref xkl], aI G xkf 9 (nF kf), aI G xkl 18 (nF kl)] (fun (v : Option Value) (w : va_W) => ∃ (q2 : Nat → Nat) (lq2 : Nat) (lm2 lr2 : Nat → Nat) (kf2 kl2 : Nat → Nat), v = some (.int (jR p n r)) ∧ w = [ob x 10 [.ref xt, .ref xn, .ref xr, .ref xa, .ref xs, .ref xf, .ref xw, .ref xi, .int (nI sn), .long sd, .ref xe, .ref xp, .ref xg, .ref xl, .ref xk, .ref xh, .ref xv], ob xn 1 [.ref na, .ref nb], ob na 6 [.int (nI (p 0)), .int (nI (p 2)), .ref nla], aI G nla 10 (nF (gz p)), ob nb 6 [.int (nI (p 1)), .int (nI (p 3)), .ref nlb], aI G nlb 10 (nF (go p)), ob xr 1 [.ref ra, .ref rb], ob ra 6 [.int (nI (q2 0)), .int (nI (q2 2)), .ref rla], aI G rla 10 (nF (gz q2)), ob rb 6 [.int (nI (q2 1)), .int (nI (q2 3)), .ref rlb], aI G rlb 10 (nF (go q2)), ob xl 4 [.ref xlm, .ref xlr, .int (nI lq2)], aI G xlm 4 (nF lm2), aI G xlr 128 (nF lr2), ob xk 5 [.ref xkf, .ref xkl], aI G xkf 9 (nF kf2), aI G xkl 18 (nF kl2)]) 0 0 := by
  refine MM.ofI (by decide) rfl (fun Γ X Y hnm ret => ?_)
  show Wc Γ 0 0 0 [(0, .ref x), (1, .int (nI n)), (2, .long (lN r))] [] [ob x 10 [.ref xt, .ref xn, .ref xr, .ref xa, .ref xs, .ref xf, .ref xw, .ref xi, .int (nI sn), .long sd, .ref xe, .ref xp, .ref xg, .ref xl, .ref xk, .ref xh, .ref xv], ob xn 1 [.ref na, .ref nb], ob na 6 [.int (nI (p 0)), .int (nI (p 2)), .ref nla], aI G nla 10 (nF (gz p)), ob nb 6 [.int (nI (p 1)), .int (nI (p 3)), .ref nlb], aI G nlb 10 (nF (go p)), ob xr 1 [.ref ra, .ref rb], ob ra 6 [.int (nI r0), .int (nI re), .ref rla], aI G rla 10 (nF rg), ob rb 6 [.int (nI r1), .int (nI rf), .ref rlb], aI G rlb 10 (nF rh), ob xl 4 [.ref xlm, .ref xlr, .int (nI lq)], aI G xlm 4 (nF lm), aI G xlr 128 (nF lr), ob xk 5 [.ref xkf, .ref xkl], aI G xkf 9 (nF kf), aI G xkl 18 (nF kl)]
  have hn0 := hr.2.1
  have hn01 := hr.1
  have hn1 := hr.2.2.2.1
  have hn11 := hr.2.2.1
  have he0 := pg_e0 hr
  have he1 := hr.2.2.2.2.1 3
  have hg0 := hr.2.2.2.2.2.1
  have hg1 := (fun j => hr.2.2.2.2.1 (12 + j) : ∀ j, go p j < 32)
  have hg0n := (hr.2.2.2.2.2.2.1 0 (by decide) : ∀ j, gz p j < 2 ^ p 0)
  have hg1n := (hr.2.2.2.2.2.2.1 1 (by decide) : ∀ j, go p j < 2 ^ p 1)
  have he0n := hr.2.2.2.2.2.2.2 0 (by decide)
  have he1n := hr.2.2.2.2.2.2.2 1 (by decide)
  have hg0w := (fun j => Nat.lt_trans (hg0 j) (by decide) : ∀ j, gz p j < 32)
  refine wc_iload_n X 0 1 dX10_judge_0 rfl ?_
  refine wc_iconstN X 1 1 dX10_judge_1 ?_
  refine wc_icmp_ltN X 2 26 dX10_judge_2 (by decide) (by omega) (by decide) (fun c2_1 => ?_) (fun c2_1 => ?_)
  ·
    exact absurd c2_1 (by omega)
  ·
    refine wc_iload_n X 5 1 dX10_judge_5 rfl ?_
    refine wc_iconstN X 6 3 dX10_judge_6 ?_
    refine wc_icmp_gtN X 7 26 dX10_judge_7 (by decide) (by omega) (by decide) (fun c7_2 => ?_) (fun c7_2 => ?_)
    ·
      exact absurd c7_2 (by omega)
    ·
      refine wc_lload_n X 10 2 dX10_judge_10 rfl ?_
      refine wc_lconst X 11 0 dX10_judge_11 (by decide) ?_
      refine wc_lcmp X 12 dX10_judge_12 ?_
      refine wc_if_lt X 13 26 dX10_judge_13 (by decide) (fun c13_3 => ?_) (fun c13_3 => ?_)
      ·
        exact absurd c13_3 (row_c0 hrow h2)
      ·
        refine wc_lload_n X 16 2 dX10_judge_16 rfl ?_
        refine wc_getDOINGS X 17 q_663 dX10_judge_17 ?_
        refine wc_iload_n X 20 1 dX10_judge_20 rfl ?_
        refine wc_doAt X 21 (by omega) dX10_judge_21 ?_
        refine wc_lcmp X 22 dX10_judge_22 ?_
        refine wc_if_lt X 23 29 dX10_judge_23 (by decide) (fun c23_4 => ?_) (fun c23_4 => ?_)
        ·
          refine wc_aload_n X 29 0 dX10_judge_29 rfl ?_
          refine wc_get X 30 0 2 kd10 rfl (by decide) q_235 rfl dX10_judge_30 ?_
          refine wc_aload_n X 33 0 dX10_judge_33 rfl ?_
          refine wc_get X 34 0 1 kd10 rfl (by decide) q_234 rfl dX10_judge_34 ?_
          refine wc_mutV X Y 37 [6, 7, 8, 9, 10, 1, 2, 3, 4, 5] [0, 11, 12, 13, 14, 15, 16] 6 (c_X1_copyFrom l G xr ra rla r0 re rg rb rlb r1 rf rh xn na nla (p 0) (p 2) (gz p) nb nlb (p 1) (p 3) (go p) ) yv_X1_copyFrom kd1 rfl rfl (wr := [ob x 10 [.ref xt, .ref xn, .ref xr, .ref xa, .ref xs, .ref xf, .ref xw, .ref xi, .int (nI sn), .long sd, .ref xe, .ref xp, .ref xg, .ref xl, .ref xk, .ref xh, .ref xv], ob xl 4 [.ref xlm, .ref xlr, .int (nI lq)], aI G xlm 4 (nF lm), aI G xlr 128 (nF lr), ob xk 5 [.ref xkf, .ref xkl], aI G xkf 9 (nF kf), aI G xkl 18 (nF kl)]) rfl ⟨rfl, rfl, rfl⟩ q_374 ⟨rfl, rfl⟩ ⟨rfl, rfl⟩ ⟨rfl, rfl⟩ rfl rfl rfl dX10_judge_37 (fun v w hp_5 => ?_)
          obtain ⟨rfl, rfl⟩ := hp_5
          refine wc_perm Y [0, 12, 13, 14, 15, 16, 7, 8, 9, 10, 11, 1, 2, 3, 4, 5, 6] [ob x 10 [.ref xt, .ref xn, .ref xr, .ref xa, .ref xs, .ref xf, .ref xw, .ref xi, .int (nI sn), .long sd, .ref xe, .ref xp, .ref xg, .ref xl, .ref xk, .ref xh, .ref xv], ob xn 1 [.ref na, .ref nb], ob na 6 [.int (nI (p 0)), .int (nI (p 2)), .ref nla], aI G nla 10 (nF (gz p)), ob nb 6 [.int (nI (p 1)), .int (nI (p 3)), .ref nlb], aI G nlb 10 (nF (go p)), ob xr 1 [.ref ra, .ref rb], ob ra 6 [.int (nI (p 0)), .int (nI (p 2)), .ref rla], aI G rla 10 (nF (gz p)), ob rb 6 [.int (nI (p 1)), .int (nI (p 3)), .ref rlb], aI G rlb 10 (nF (go p)), ob xl 4 [.ref xlm, .ref xlr, .int (nI lq)], aI G xlm 4 (nF lm), aI G xlr 128 (nF lr), ob xk 5 [.ref xkf, .ref xkl], aI G xkf 9 (nF kf), aI G xkl 18 (nF kl)] rfl rfl ?_
          show Wc Γ 0 0 40 [(0, .ref x), (1, .int (nI n)), (2, .long (lN r))] [] [ob x 10 [.ref xt, .ref xn, .ref xr, .ref xa, .ref xs, .ref xf, .ref xw, .ref xi, .int (nI sn), .long sd, .ref xe, .ref xp, .ref xg, .ref xl, .ref xk, .ref xh, .ref xv], ob xn 1 [.ref na, .ref nb], ob na 6 [.int (nI (p 0)), .int (nI (p 2)), .ref nla], aI G nla 10 (nF (gz p)), ob nb 6 [.int (nI (p 1)), .int (nI (p 3)), .ref nlb], aI G nlb 10 (nF (go p)), ob xr 1 [.ref ra, .ref rb], ob ra 6 [.int (nI (p 0)), .int (nI (p 2)), .ref rla], aI G rla 10 (nF (gz p)), ob rb 6 [.int (nI (p 1)), .int (nI (p 3)), .ref rlb], aI G rlb 10 (nF (go p)), ob xl 4 [.ref xlm, .ref xlr, .int (nI lq)], aI G xlm 4 (nF lm), aI G xlr 128 (nF lr), ob xk 5 [.ref xkf, .ref xkl], aI G xkf 9 (nF kf), aI G xkl 18 (nF kl)]
          refine wc_iconstN X 40 0 dX10_judge_40 ?_
          refine wc_istore X 41 (L' := [(0, .ref x), (1, .int (nI n)), (2, .long (lN r)), (4, .int (nI 0))]) dX10_judge_41 (by decide) rfl ?_
          have LP_7 : ∀ (fuel_6 : Nat) (k : Nat) (lqA : Nat) (lmA : Nat → Nat) (lrA : Nat → Nat) (kfA : Nat → Nat) (klA : Nat → Nat), (k ≤ n) → (∀ j, j < k → (doK (jQ p n r j) (fig n r j)).1 = true) → n - k < fuel_6 → Wc Γ 0 0 43 [(0, .ref x), (1, .int (nI n)), (2, .long (lN r)), (4, .int (nI k))] [] [ob x 10 [.ref xt, .ref xn, .ref xr, .ref xa, .ref xs, .ref xf, .ref xw, .ref xi, .int (nI sn), .long sd, .ref xe, .ref xp, .ref xg, .ref xl, .ref xk, .ref xh, .ref xv], ob xn 1 [.ref na, .ref nb], ob na 6 [.int (nI (p 0)), .int (nI (p 2)), .ref nla], aI G nla 10 (nF (gz p)), ob nb 6 [.int (nI (p 1)), .int (nI (p 3)), .ref nlb], aI G nlb 10 (nF (go p)), ob xr 1 [.ref ra, .ref rb], ob ra 6 [.int (nI ((jQ p n r k) 0)), .int (nI ((jQ p n r k) 2)), .ref rla], aI G rla 10 (nF (gz (jQ p n r k))), ob rb 6 [.int (nI ((jQ p n r k) 1)), .int (nI ((jQ p n r k) 3)), .ref rlb], aI G rlb 10 (nF (go (jQ p n r k))), ob xl 4 [.ref xlm, .ref xlr, .int (nI lqA)], aI G xlm 4 (nF lmA), aI G xlr 128 (nF lrA), ob xk 5 [.ref xkf, .ref xkl], aI G xkf 9 (nF kfA), aI G xkl 18 (nF klA)] := by
            intro fuel_6
            induction fuel_6 with
            | zero => intro k lqA lmA lrA kfA klA hk hA hm; exact absurd hm (Nat.not_lt_zero _)
            | succ fuel_6 ih_8 =>
              intro k lqA lmA lrA kfA klA hk hA hm_9
              refine wc_iload X 43 3 dX10_judge_43 rfl ?_
              refine wc_iload_n X 45 1 dX10_judge_45 rfl ?_
              refine wc_icmp_geN X 46 88 dX10_judge_46 (by decide) (by omega) (by omega) (fun c46_10 => ?_) (fun c46_10 => ?_)
              ·
                refine wc_bipush X 88 (-9) dX10_judge_88 (by decide) ?_
                exact ret 90 _ (-9) _ dX10_judge_90 (⟨_, _, _, _, _, _, by rw [jR_n (fun j hj => hA j (by omega))], rfl⟩)
              ·
                refine wc_lload_n X 49 2 dX10_judge_49 rfl ?_
                refine wc_getDOINGS X 50 q_663 dX10_judge_50 ?_
                refine wc_iload_n X 53 1 dX10_judge_53 rfl ?_
                refine wc_iconstN X 54 1 dX10_judge_54 ?_
                refine wc_isubN X 55 dX10_judge_55 (by omega) ?_
                refine wc_iload X 56 3 dX10_judge_56 rfl ?_
                refine wc_isubN X 58 dX10_judge_58 (by omega) ?_
                refine wc_doAt X 59 (by omega) dX10_judge_59 ?_
                refine wc_ldiv X 60 dX10_judge_60 (lN_ne (Nat.pow_pos (by decide)) (by have := p15 (n := n - 1 - k) (by omega); omega)) ?_
                refine wc_getDOINGS X 61 q_663 dX10_judge_61 ?_
                refine wc_iconstN X 64 1 dX10_judge_64 ?_
                refine wc_doAt X 65 (by decide) dX10_judge_65 ?_
                refine wc_lrem X 66 dX10_judge_66 (by decide) ?_
                refine wc_l2i X 67 dX10_judge_67 ?_
                refine wc_topi (nI (fig n r k)) (fig_C hrow h2 (by omega)) ?_
                refine wc_istore X 68 (L' := [(0, .ref x), (1, .int (nI n)), (2, .long (lN r)), (4, .int (nI k)), (5, .int (nI (fig n r k)))]) dX10_judge_68 (by decide) rfl ?_
                refine wc_aload_n X 70 0 dX10_judge_70 rfl ?_
                refine wc_iload X 71 4 dX10_judge_71 rfl ?_
                refine wc_mutV X Y 73 [0, 6, 7, 8, 9, 10, 11, 12, 13, 14, 15, 16] [1, 2, 3, 4, 5] 0 (c_X10_canBe l G x xt xn xr xa xs xf xw xi sn sd xe xp xg xl xk xh xv ra rla rb rlb (jQ p n r k) xlm xlr lqA lmA lrA xkf xkl kfA klA (fig n r k) (jQ_ok hr n r k) fig_lt) yv_X10_canBe kd10 rfl rfl (wr := [ob xn 1 [.ref na, .ref nb], ob na 6 [.int (nI (p 0)), .int (nI (p 2)), .ref nla], aI G nla 10 (nF (gz p)), ob nb 6 [.int (nI (p 1)), .int (nI (p 3)), .ref nlb], aI G nlb 10 (nF (go p))]) rfl ⟨rfl, rfl, rfl⟩ q_665 ⟨rfl, rfl⟩ ⟨rfl, rfl⟩ ⟨rfl, rfl⟩ rfl rfl rfl dX10_judge_73 (fun v w hp_11 => ?_)
                obtain ⟨lq2_12, lm2_13, lr2_14, kf2_15, kl2_16, rfl, rfl⟩ := hp_11
                refine wc_perm Y [5, 0, 1, 2, 3, 4, 6, 7, 8, 9, 10, 11, 12, 13, 14, 15, 16] [ob x 10 [.ref xt, .ref xn, .ref xr, .ref xa, .ref xs, .ref xf, .ref xw, .ref xi, .int (nI sn), .long sd, .ref xe, .ref xp, .ref xg, .ref xl, .ref xk, .ref xh, .ref xv], ob xn 1 [.ref na, .ref nb], ob na 6 [.int (nI (p 0)), .int (nI (p 2)), .ref nla], aI G nla 10 (nF (gz p)), ob nb 6 [.int (nI (p 1)), .int (nI (p 3)), .ref nlb], aI G nlb 10 (nF (go p)), ob xr 1 [.ref ra, .ref rb], ob ra 6 [.int (nI ((doK (jQ p n r k) (fig n r k)).2 0)), .int (nI ((doK (jQ p n r k) (fig n r k)).2 2)), .ref rla], aI G rla 10 (nF (gz (doK (jQ p n r k) (fig n r k)).2)), ob rb 6 [.int (nI ((doK (jQ p n r k) (fig n r k)).2 1)), .int (nI ((doK (jQ p n r k) (fig n r k)).2 3)), .ref rlb], aI G rlb 10 (nF (go (doK (jQ p n r k) (fig n r k)).2)), ob xl 4 [.ref xlm, .ref xlr, .int (nI lq2_12)], aI G xlm 4 (nF lm2_13), aI G xlr 128 (nF lr2_14), ob xk 5 [.ref xkf, .ref xkl], aI G xkf 9 (nF kf2_15), aI G xkl 18 (nF kl2_16)] rfl rfl ?_
                show Wc Γ 0 0 76 [(0, .ref x), (1, .int (nI n)), (2, .long (lN r)), (4, .int (nI k)), (5, .int (nI (fig n r k)))] [.int (b2i ((doK (jQ p n r k) (fig n r k)).1))] [ob x 10 [.ref xt, .ref xn, .ref xr, .ref xa, .ref xs, .ref xf, .ref xw, .ref xi, .int (nI sn), .long sd, .ref xe, .ref xp, .ref xg, .ref xl, .ref xk, .ref xh, .ref xv], ob xn 1 [.ref na, .ref nb], ob na 6 [.int (nI (p 0)), .int (nI (p 2)), .ref nla], aI G nla 10 (nF (gz p)), ob nb 6 [.int (nI (p 1)), .int (nI (p 3)), .ref nlb], aI G nlb 10 (nF (go p)), ob xr 1 [.ref ra, .ref rb], ob ra 6 [.int (nI ((doK (jQ p n r k) (fig n r k)).2 0)), .int (nI ((doK (jQ p n r k) (fig n r k)).2 2)), .ref rla], aI G rla 10 (nF (gz (doK (jQ p n r k) (fig n r k)).2)), ob rb 6 [.int (nI ((doK (jQ p n r k) (fig n r k)).2 1)), .int (nI ((doK (jQ p n r k) (fig n r k)).2 3)), .ref rlb], aI G rlb 10 (nF (go (doK (jQ p n r k) (fig n r k)).2)), ob xl 4 [.ref xlm, .ref xlr, .int (nI lq2_12)], aI G xlm 4 (nF lm2_13), aI G xlr 128 (nF lr2_14), ob xk 5 [.ref xkf, .ref xkl], aI G xkf 9 (nF kf2_15), aI G xkl 18 (nF kl2_16)]
                refine wc_if_neB X 76 82 dX10_judge_76 (by decide) (fun c76_17 => ?_) (fun c76_17 => ?_)
                ·
                  refine wc_iincN X 82 3 (L' := [(0, .ref x), (1, .int (nI n)), (2, .long (lN r)), (4, .int (nI (k + 1))), (5, .int (nI (fig n r k)))]) dX10_judge_82 rfl (by decide) rfl ?_
                  refine wc_goto X 85 43 dX10_judge_85 (by decide) ?_
                  refine wc_loc [0, 1, 2, 3] (L' := [(0, .ref x), (1, .int (nI n)), (2, .long (lN r)), (4, .int (nI (k + 1)))]) rfl ?_
                  refine wc_L (L' := [(0, .ref x), (1, .int (nI n)), (2, .long (lN r)), (4, .int (nI (k + 1)))]) (by rfl) ?_
                  refine wc_ws (ws' := [ob x 10 [.ref xt, .ref xn, .ref xr, .ref xa, .ref xs, .ref xf, .ref xw, .ref xi, .int (nI sn), .long sd, .ref xe, .ref xp, .ref xg, .ref xl, .ref xk, .ref xh, .ref xv], ob xn 1 [.ref na, .ref nb], ob na 6 [.int (nI (p 0)), .int (nI (p 2)), .ref nla], aI G nla 10 (nF (gz p)), ob nb 6 [.int (nI (p 1)), .int (nI (p 3)), .ref nlb], aI G nlb 10 (nF (go p)), ob xr 1 [.ref ra, .ref rb], ob ra 6 [.int (nI ((jQ p n r (k + 1)) 0)), .int (nI ((jQ p n r (k + 1)) 2)), .ref rla], aI G rla 10 (nF (gz (jQ p n r (k + 1)))), ob rb 6 [.int (nI ((jQ p n r (k + 1)) 1)), .int (nI ((jQ p n r (k + 1)) 3)), .ref rlb], aI G rlb 10 (nF (go (jQ p n r (k + 1)))), ob xl 4 [.ref xlm, .ref xlr, .int (nI lq2_12)], aI G xlm 4 (nF lm2_13), aI G xlr 128 (nF lr2_14), ob xk 5 [.ref xkf, .ref xkl], aI G xkf 9 (nF kf2_15), aI G xkl 18 (nF kl2_16)]) (rfl) ?_
                  exact ih_8 (k + 1) lq2_12 lm2_13 lr2_14 kf2_15 kl2_16 (by omega) (lt_ext hA c76_17) (by omega)
                ·
                  refine wc_iload X 79 3 dX10_judge_79 rfl ?_
                  exact ret 81 _ (nI k) _ dX10_judge_81 (⟨_, _, _, _, _, _, by rw [jR_s (by omega) hA c76_17], rfl⟩)
          refine wc_ws (ws' := [ob x 10 [.ref xt, .ref xn, .ref xr, .ref xa, .ref xs, .ref xf, .ref xw, .ref xi, .int (nI sn), .long sd, .ref xe, .ref xp, .ref xg, .ref xl, .ref xk, .ref xh, .ref xv], ob xn 1 [.ref na, .ref nb], ob na 6 [.int (nI (p 0)), .int (nI (p 2)), .ref nla], aI G nla 10 (nF (gz p)), ob nb 6 [.int (nI (p 1)), .int (nI (p 3)), .ref nlb], aI G nlb 10 (nF (go p)), ob xr 1 [.ref ra, .ref rb], ob ra 6 [.int (nI ((jQ p n r 0) 0)), .int (nI ((jQ p n r 0) 2)), .ref rla], aI G rla 10 (nF (gz (jQ p n r 0))), ob rb 6 [.int (nI ((jQ p n r 0) 1)), .int (nI ((jQ p n r 0) 3)), .ref rlb], aI G rlb 10 (nF (go (jQ p n r 0))), ob xl 4 [.ref xlm, .ref xlr, .int (nI lq)], aI G xlm 4 (nF lm), aI G xlr 128 (nF lr), ob xk 5 [.ref xkf, .ref xkl], aI G xkf 9 (nF kf), aI G xkl 18 (nF kl)]) (rfl) ?_
          exact LP_7 (n - 0 + 1) 0 lq lm lr kf kl (Nat.zero_le _) (fun j hj => absurd hj (Nat.not_lt_zero _)) (Nat.lt_succ_self _)
        ·
          exact absurd (row_c1 hrow h2) c23_4

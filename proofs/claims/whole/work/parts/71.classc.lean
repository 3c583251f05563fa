set_option maxHeartbeats 4000000 in
set_option maxRecDepth 100000 in
theorem c_X10_mends0 (l : Launch) (G : GG) (x xt xn xr xa xs xf xw xi sn : Nat) (sd : Int64) (xe xp xg xl xk xh xv : Nat) (ra rla rb rlb : Nat) (p : Nat → Nat) (xlm xlr lq : Nat) (lm lr : Nat → Nat) (i c j : Nat) (hr : pgOk p) (hi : i < p 0) (h1 : 1 ≤ c) (h2 : c ≤ 2) (ht : j < p 0) : MM l G yX10_mends (Cond.code yX10_mends cX10_mends 8 (some .boolean)) { frames := 4, cells := 0, slots := 0, locals := 95 } [.ref x, .int (nI 0), .int (nI i), .int (nI c), .int (nI j)] [ob x 10 [.ref xt, .ref xn, .ref xr, .ref xa, .ref xs, .ref xf, .ref xw, .ref xi, .int (nI sn), .long sd, .ref xe, .ref xp, .ref xg, .ref xl, .ref xk, .ref xh, .ref xv], ob xr 1 [.ref ra, .ref rb], ob ra 6 [.int (nI (p 0)), .int (nI (p 2)), .ref rla], aI G rla 10 (nF (gz p)), ob rb 6 [.int (nI (p 1)), .int (nI (p 3)), .ref rlb], aI G rlb 10 (nF (go p)), ob xl 4 [.ref xlm, .ref xlr, .int (nI lq)], aI G xlm 4 (nF lm), aI G xlr 128 (nF lr)] (fun (v : Option Value) (w : va_W) => ∃ (lq2 : Nat) (lm2 lr2 : Nat → Nat), v = some (.int (b2i (mEd p 0 i c j))) ∧ w = [ob x 10 [.ref xt, .ref xn, .ref xr, .ref xa, .ref xs, .ref xf, .ref xw, .ref xi, .int (nI sn), .long sd, .ref xe, .ref xp, .ref xg, .ref xl, .ref xk, .ref xh, .ref xv], ob xr 1 [.ref ra, .ref rb], ob ra 6 [.int (nI (p 0)), .int (nI (p 2)), .ref rla], aI G rla 10 (nF (gz p)), ob rb 6 [.int (nI (p 1)), .int (nI (p 3)), .ref rlb], aI G rlb 10 (nF (go p)), ob xl 4 [.ref xlm, .ref xlr, .int (nI lq2)], aI G xlm 4 (nF lm2), aI G xlr 128 (nF lr2)]) 0 0 := by
  refine MM.ofZ (by decide) rfl (fun Γ X Y hnm ret => ?_)
  show Wc Γ 0 0 0 [(0, .ref x), (1, .int (nI 0)), (2, .int (nI i)), (3, .int (nI c)), (4, .int (nI j))] [] [ob x 10 [.ref xt, .ref xn, .ref xr, .ref xa, .ref xs, .ref xf, .ref xw, .ref xi, .int (nI sn), .long sd, .ref xe, .ref xp, .ref xg, .ref xl, .ref xk, .ref xh, .ref xv], ob xr 1 [.ref ra, .ref rb], ob ra 6 [.int (nI (p 0)), .int (nI (p 2)), .ref rla], aI G rla 10 (nF (gz p)), ob rb 6 [.int (nI (p 1)), .int (nI (p 3)), .ref rlb], aI G rlb 10 (nF (go p)), ob xl 4 [.ref xlm, .ref xlr, .int (nI lq)], aI G xlm 4 (nF lm), aI G xlr 128 (nF lr)]
  have hn0 := hr.2.1
  have hn01 := hr.1
  have hn1 := hr.2.2.2.1
  have hn11 := hr.2.2.1
  have he0 := pg_e0 hr
  have he1 := hr.2.2.2.2.1 3
  have hg0 := hr.2.2.2.2.2.1
  have hg1 := (fun j => hr.2.2.2.2.1 (12 + j) : ∀ j, go p j < 32)
  have hg0n := (hr.2.2.2.2.2.2.1 0 (by decide) : ∀ j, gz p j < 2 ^ p 0)
  have hg1n := (hr.2.2.2.2.2.2.1 1 (by decide) : ∀ j, go p j < 2 ^ p 1)
  have he0n := hr.2.2.2.2.2.2.2 0 (by decide)
  have he1n := hr.2.2.2.2.2.2.2 1 (by decide)
  have hg0w := (fun j => Nat.lt_trans (hg0 j) (by decide) : ∀ j, gz p j < 32)
  have hz := flE_ok (m := 0) hr (by decide) hi h1 h2 ht
  have hn0q := hz.2.1
  have hn01q := hz.1
  have hn1q := hz.2.2.2.1
  have he0q := pg_e0 hz
  have he1q := hz.2.2.2.2.1 3
  have hg0q := hz.2.2.2.2.2.1
  have hg1q := (fun a => hz.2.2.2.2.1 (12 + a) : ∀ a, go (flE p 0 i c j) a < 32)
  have hg0nq := (hz.2.2.2.2.2.2.1 0 (by decide) : ∀ a, gz (flE p 0 i c j) a < 2 ^ (flE p 0 i c j) 0)
  have he0nq := hz.2.2.2.2.2.2.2 0 (by decide)
  refine wc_aload_n X 0 0 dX10_mends_0 rfl ?_
  refine wc_get X 1 0 2 kd10 rfl (by decide) q_235 rfl dX10_mends_1 ?_
  refine wc_iload_n X 4 1 dX10_mends_4 rfl ?_
  refine wc_callV X 5 [1] 1 (c_X1_of0 l G xr ra rb ) yv_X1_of kd1 rfl rfl q_403 ⟨rfl, rfl⟩ ⟨rfl, rfl⟩ ⟨rfl, rfl⟩ rfl rfl rfl dX10_mends_5 ?_
  refine wc_astore X 8 (L' := [(0, .ref x), (1, .int (nI 0)), (2, .int (nI i)), (3, .int (nI c)), (4, .int (nI j)), (5, .ref ra)]) dX10_mends_8 (by decide) rfl ?_
  refine wc_iload_n X 10 1 dX10_mends_10 rfl ?_
  refine wc_if_neN X 11 18 dX10_mends_11 (by decide) (by decide) (fun c11_1 => ?_) (fun c11_1 => ?_)
  ·
    exact absurd c11_1 (by decide)
  ·
    refine wc_iconstN X 14 1 dX10_mends_14 ?_
    refine wc_goto X 15 19 dX10_mends_15 (by decide) ?_
    refine wc_istore X 19 (L' := [(0, .ref x), (1, .int (nI 0)), (2, .int (nI i)), (3, .int (nI c)), (4, .int (nI j)), (5, .ref ra), (6, .int (nI 1))]) dX10_mends_19 (by decide) rfl ?_
    refine wc_aload X 21 5 dX10_mends_21 rfl ?_
    refine wc_iload_n X 23 2 dX10_mends_23 rfl ?_
    refine wc_iload_n X 24 3 dX10_mends_24 rfl ?_
    refine wc_iload X 25 4 dX10_mends_25 rfl ?_
    refine wc_callV X 27 [2, 3] 2 (c_X6_joins l G ra rla (p 0) (p 2) (gz p) i c j (by first | assumption | omega) (by first | assumption | omega) (by first | assumption | omega) (by first | assumption | omega) hg0w) yv_X6_joins kd6 rfl rfl q_409 ⟨rfl, rfl⟩ ⟨rfl, rfl⟩ ⟨rfl, rfl⟩ rfl rfl rfl dX10_mends_27 ?_
    refine wc_iload X 30 6 dX10_mends_30 rfl ?_
    refine wc_st (st' := [.int (b2i true), .int (b2i (Nat.testBit ((gz p) (i * 2 + c - 1)) j))]) rfl ?_
    refine wc_icmp_eqB X 32 37 dX10_mends_32 (by decide) (fun c32_2 => ?_) (fun c32_2 => ?_)
    ·
      refine wc_aload X 37 5 dX10_mends_37 rfl ?_
      refine wc_iload_n X 39 2 dX10_mends_39 rfl ?_
      refine wc_iload_n X 40 3 dX10_mends_40 rfl ?_
      refine wc_iload X 41 4 dX10_mends_41 rfl ?_
      refine wc_mutV X Y 43 [2, 3] [0, 1, 4, 5, 6, 7, 8] 2 (c_X6_flipEdge l G ra rla (p 0) (p 2) (gz p) i c j (by first | assumption | omega) (by first | assumption | omega) (by first | assumption | omega) (by first | assumption | omega)) yv_X6_flipEdge kd6 rfl rfl (wr := [ob x 10 [.ref xt, .ref xn, .ref xr, .ref xa, .ref xs, .ref xf, .ref xw, .ref xi, .int (nI sn), .long sd, .ref xe, .ref xp, .ref xg, .ref xl, .ref xk, .ref xh, .ref xv], ob xr 1 [.ref ra, .ref rb], ob rb 6 [.int (nI (p 1)), .int (nI (p 3)), .ref rlb], aI G rlb 10 (nF (go p)), ob xl 4 [.ref xlm, .ref xlr, .int (nI lq)], aI G xlm 4 (nF lm), aI G xlr 128 (nF lr)]) rfl ⟨rfl, rfl, rfl⟩ q_103 ⟨rfl, rfl⟩ ⟨rfl, rfl⟩ ⟨rfl, rfl⟩ rfl rfl rfl dX10_mends_43 (fun v w hp_3 => ?_)
      obtain ⟨rfl, rfl⟩ := hp_3
      refine wc_perm Y [0, 1, 7, 8, 2, 3, 4, 5, 6] [ob x 10 [.ref xt, .ref xn, .ref xr, .ref xa, .ref xs, .ref xf, .ref xw, .ref xi, .int (nI sn), .long sd, .ref xe, .ref xp, .ref xg, .ref xl, .ref xk, .ref xh, .ref xv], ob xr 1 [.ref ra, .ref rb], ob ra 6 [.int (nI (p 0)), .int (nI (p 2)), .ref rla], aI G rla 10 (nF (up (gz p) (i * 2 + c - 1) ((gz p) (i * 2 + c - 1) ^^^ 2 ^ j))), ob rb 6 [.int (nI (p 1)), .int (nI (p 3)), .ref rlb], aI G rlb 10 (nF (go p)), ob xl 4 [.ref xlm, .ref xlr, .int (nI lq)], aI G xlm 4 (nF lm), aI G xlr 128 (nF lr)] rfl rfl ?_
      show Wc Γ 0 0 46 [(0, .ref x), (1, .int (nI 0)), (2, .int (nI i)), (3, .int (nI c)), (4, .int (nI j)), (5, .ref ra), (6, .int (nI 1))] [] [ob x 10 [.ref xt, .ref xn, .ref xr, .ref xa, .ref xs, .ref xf, .ref xw, .ref xi, .int (nI sn), .long sd, .ref xe, .ref xp, .ref xg, .ref xl, .ref xk, .ref xh, .ref xv], ob xr 1 [.ref ra, .ref rb], ob ra 6 [.int (nI (p 0)), .int (nI (p 2)), .ref rla], aI G rla 10 (nF (up (gz p) (i * 2 + c - 1) ((gz p) (i * 2 + c - 1) ^^^ 2 ^ j))), ob rb 6 [.int (nI (p 1)), .int (nI (p 3)), .ref rlb], aI G rlb 10 (nF (go p)), ob xl 4 [.ref xlm, .ref xlr, .int (nI lq)], aI G xlm 4 (nF lm), aI G xlr 128 (nF lr)]
      refine wc_ws (ws' := [ob x 10 [.ref xt, .ref xn, .ref xr, .ref xa, .ref xs, .ref xf, .ref xw, .ref xi, .int (nI sn), .long sd, .ref xe, .ref xp, .ref xg, .ref xl, .ref xk, .ref xh, .ref xv], ob xr 1 [.ref ra, .ref rb], ob ra 6 [.int (nI ((flE p 0 i c j) 0)), .int (nI ((flE p 0 i c j) 2)), .ref rla], aI G rla 10 (nF (gz (flE p 0 i c j))), ob rb 6 [.int (nI ((flE p 0 i c j) 1)), .int (nI ((flE p 0 i c j) 3)), .ref rlb], aI G rlb 10 (nF (go (flE p 0 i c j))), ob xl 4 [.ref xlm, .ref xlr, .int (nI lq)], aI G xlm 4 (nF lm), aI G xlr 128 (nF lr)]) (by rw [flE_lo (p := p) (m := 0) (i := i) (c := c) (t := j) (k := 0) (by decide) h1 (by decide), flE_lo (p := p) (m := 0) (i := i) (c := c) (t := j) (k := 1) (by decide) h1 (by decide), flE_lo (p := p) (m := 0) (i := i) (c := c) (t := j) (k := 2) (by decide) h1 (by decide), flE_lo (p := p) (m := 0) (i := i) (c := c) (t := j) (k := 3) (by decide) h1 (by decide), flE_g0 (t := j) hr hi h1 h2, flE_o0 (t := j) hr hi h1 h2]) ?_
      refine wc_aload_n X 46 0 dX10_mends_46 rfl ?_
      refine wc_get X 47 0 13 kd10 rfl (by decide) q_246 rfl dX10_mends_47 ?_
      refine wc_aload_n X 50 0 dX10_mends_50 rfl ?_
      refine wc_get X 51 0 2 kd10 rfl (by decide) q_235 rfl dX10_mends_51 ?_
      refine wc_mutV X Y 54 [6, 7, 8, 1, 2, 3, 4, 5] [0] 6 (c_X4_holds l G xl xlm xlr lq lm lr xr ra rla ((flE p 0 i c j) 0) ((flE p 0 i c j) 2) (gz (flE p 0 i c j)) rb rlb ((flE p 0 i c j) 1) ((flE p 0 i c j) 3) (go (flE p 0 i c j)) (by first | assumption | omega) (by first | assumption | omega) (by first | assumption | omega) (by first | assumption | omega) (by first | assumption | omega) (by first | assumption | omega) (by first | assumption | omega) (by first | assumption | omega) (by first | assumption | omega)) yv_X4_holds kd4 rfl rfl (wr := [ob x 10 [.ref xt, .ref xn, .ref xr, .ref xa, .ref xs, .ref xf, .ref xw, .ref xi, .int (nI sn), .long sd, .ref xe, .ref xp, .ref xg, .ref xl, .ref xk, .ref xh, .ref xv]]) rfl ⟨rfl, rfl, rfl⟩ q_503 ⟨rfl, rfl⟩ ⟨rfl, rfl⟩ ⟨rfl, rfl⟩ rfl rfl rfl dX10_mends_54 (fun v w hp_4 => ?_)
      obtain ⟨mt2_5, row2_6, n2_7, rfl, rfl⟩ := hp_4
      refine wc_perm Y [0, 4, 5, 6, 7, 8, 1, 2, 3] [ob x 10 [.ref xt, .ref xn, .ref xr, .ref xa, .ref xs, .ref xf, .ref xw, .ref xi, .int (nI sn), .long sd, .ref xe, .ref xp, .ref xg, .ref xl, .ref xk, .ref xh, .ref xv], ob xr 1 [.ref ra, .ref rb], ob ra 6 [.int (nI ((flE p 0 i c j) 0)), .int (nI ((flE p 0 i c j) 2)), .ref rla], aI G rla 10 (nF (gz (flE p 0 i c j))), ob rb 6 [.int (nI ((flE p 0 i c j) 1)), .int (nI ((flE p 0 i c j) 3)), .ref rlb], aI G rlb 10 (nF (go (flE p 0 i c j))), ob xl 4 [.ref xlm, .ref xlr, .int (nI n2_7)], aI G xlm 4 (nF mt2_5), aI G xlr 128 (nF row2_6)] rfl rfl ?_
      show Wc Γ 0 0 57 [(0, .ref x), (1, .int (nI 0)), (2, .int (nI i)), (3, .int (nI c)), (4, .int (nI j)), (5, .ref ra), (6, .int (nI 1))] [.int (b2i (withB (gz (flE p 0 i c j)) ((flE p 0 i c j) 0) ((flE p 0 i c j) 2) (go (flE p 0 i c j)) ((flE p 0 i c j) 1) ((flE p 0 i c j) 3)))] [ob x 10 [.ref xt, .ref xn, .ref xr, .ref xa, .ref xs, .ref xf, .ref xw, .ref xi, .int (nI sn), .long sd, .ref xe, .ref xp, .ref xg, .ref xl, .ref xk, .ref xh, .ref xv], ob xr 1 [.ref ra, .ref rb], ob ra 6 [.int (nI ((flE p 0 i c j) 0)), .int (nI ((flE p 0 i c j) 2)), .ref rla], aI G rla 10 (nF (gz (flE p 0 i c j))), ob rb 6 [.int (nI ((flE p 0 i c j) 1)), .int (nI ((flE p 0 i c j) 3)), .ref rlb], aI G rlb 10 (nF (go (flE p 0 i c j))), ob xl 4 [.ref xlm, .ref xlr, .int (nI n2_7)], aI G xlm 4 (nF mt2_5), aI G xlr 128 (nF row2_6)]
      refine wc_istore X 57 (L' := [(0, .ref x), (1, .int (nI 0)), (2, .int (nI i)), (3, .int (nI c)), (4, .int (nI j)), (5, .ref ra), (6, .int (nI 1)), (7, .int (b2i (withB (gz (flE p 0 i c j)) ((flE p 0 i c j) 0) ((flE p 0 i c j) 2) (go (flE p 0 i c j)) ((flE p 0 i c j) 1) ((flE p 0 i c j) 3))))]) dX10_mends_57 (by decide) rfl ?_
      refine wc_aload X 59 5 dX10_mends_59 rfl ?_
      refine wc_iload_n X 61 2 dX10_mends_61 rfl ?_
      refine wc_iload_n X 62 3 dX10_mends_62 rfl ?_
      refine wc_iload X 63 4 dX10_mends_63 rfl ?_
      refine wc_mutV X Y 65 [2, 3] [0, 1, 4, 5, 6, 7, 8] 2 (c_X6_flipEdge l G ra rla ((flE p 0 i c j) 0) ((flE p 0 i c j) 2) (gz (flE p 0 i c j)) i c j (by first | assumption | omega) (by first | assumption | omega) (by first | assumption | omega) (by first | assumption | omega)) yv_X6_flipEdge kd6 rfl rfl (wr := [ob x 10 [.ref xt, .ref xn, .ref xr, .ref xa, .ref xs, .ref xf, .ref xw, .ref xi, .int (nI sn), .long sd, .ref xe, .ref xp, .ref xg, .ref xl, .ref xk, .ref xh, .ref xv], ob xr 1 [.ref ra, .ref rb], ob rb 6 [.int (nI ((flE p 0 i c j) 1)), .int (nI ((flE p 0 i c j) 3)), .ref rlb], aI G rlb 10 (nF (go (flE p 0 i c j))), ob xl 4 [.ref xlm, .ref xlr, .int (nI n2_7)], aI G xlm 4 (nF mt2_5), aI G xlr 128 (nF row2_6)]) rfl ⟨rfl, rfl, rfl⟩ q_103 ⟨rfl, rfl⟩ ⟨rfl, rfl⟩ ⟨rfl, rfl⟩ rfl rfl rfl dX10_mends_65 (fun v w hp_8 => ?_)
      obtain ⟨rfl, rfl⟩ := hp_8
      refine wc_perm Y [0, 1, 7, 8, 2, 3, 4, 5, 6] [ob x 10 [.ref xt, .ref xn, .ref xr, .ref xa, .ref xs, .ref xf, .ref xw, .ref xi, .int (nI sn), .long sd, .ref xe, .ref xp, .ref xg, .ref xl, .ref xk, .ref xh, .ref xv], ob xr 1 [.ref ra, .ref rb], ob ra 6 [.int (nI ((flE p 0 i c j) 0)), .int (nI ((flE p 0 i c j) 2)), .ref rla], aI G rla 10 (nF (up (gz (flE p 0 i c j)) (i * 2 + c - 1) ((gz (flE p 0 i c j)) (i * 2 + c - 1) ^^^ 2 ^ j))), ob rb 6 [.int (nI ((flE p 0 i c j) 1)), .int (nI ((flE p 0 i c j) 3)), .ref rlb], aI G rlb 10 (nF (go (flE p 0 i c j))), ob xl 4 [.ref xlm, .ref xlr, .int (nI n2_7)], aI G xlm 4 (nF mt2_5), aI G xlr 128 (nF row2_6)] rfl rfl ?_
      show Wc Γ 0 0 68 [(0, .ref x), (1, .int (nI 0)), (2, .int (nI i)), (3, .int (nI c)), (4, .int (nI j)), (5, .ref ra), (6, .int (nI 1)), (7, .int (b2i (withB (gz (flE p 0 i c j)) ((flE p 0 i c j) 0) ((flE p 0 i c j) 2) (go (flE p 0 i c j)) ((flE p 0 i c j) 1) ((flE p 0 i c j) 3))))] [] [ob x 10 [.ref xt, .ref xn, .ref xr, .ref xa, .ref xs, .ref xf, .ref xw, .ref xi, .int (nI sn), .long sd, .ref xe, .ref xp, .ref xg, .ref xl, .ref xk, .ref xh, .ref xv], ob xr 1 [.ref ra, .ref rb], ob ra 6 [.int (nI ((flE p 0 i c j) 0)), .int (nI ((flE p 0 i c j) 2)), .ref rla], aI G rla 10 (nF (up (gz (flE p 0 i c j)) (i * 2 + c - 1) ((gz (flE p 0 i c j)) (i * 2 + c - 1) ^^^ 2 ^ j))), ob rb 6 [.int (nI ((flE p 0 i c j) 1)), .int (nI ((flE p 0 i c j) 3)), .ref rlb], aI G rlb 10 (nF (go (flE p 0 i c j))), ob xl 4 [.ref xlm, .ref xlr, .int (nI n2_7)], aI G xlm 4 (nF mt2_5), aI G xlr 128 (nF row2_6)]
      refine wc_ws (ws' := [ob x 10 [.ref xt, .ref xn, .ref xr, .ref xa, .ref xs, .ref xf, .ref xw, .ref xi, .int (nI sn), .long sd, .ref xe, .ref xp, .ref xg, .ref xl, .ref xk, .ref xh, .ref xv], ob xr 1 [.ref ra, .ref rb], ob ra 6 [.int (nI (p 0)), .int (nI (p 2)), .ref rla], aI G rla 10 (nF (gz p)), ob rb 6 [.int (nI (p 1)), .int (nI (p 3)), .ref rlb], aI G rlb 10 (nF (go p)), ob xl 4 [.ref xlm, .ref xlr, .int (nI n2_7)], aI G xlm 4 (nF mt2_5), aI G xlr 128 (nF row2_6)]) (by rw [flE_lo (p := p) (m := 0) (i := i) (c := c) (t := j) (k := 0) (by decide) h1 (by decide), flE_lo (p := p) (m := 0) (i := i) (c := c) (t := j) (k := 1) (by decide) h1 (by decide), flE_lo (p := p) (m := 0) (i := i) (c := c) (t := j) (k := 2) (by decide) h1 (by decide), flE_lo (p := p) (m := 0) (i := i) (c := c) (t := j) (k := 3) (by decide) h1 (by decide), flE_g0 (t := j) hr hi h1 h2, flE_o0 (t := j) hr hi h1 h2, up_xx]) ?_
      refine wc_iload X 68 7 dX10_mends_68 rfl ?_
      exact ret 70 _ (withB (gz (flE p 0 i c j)) ((flE p 0 i c j) 0) ((flE p 0 i c j) 2) (go (flE p 0 i c j)) ((flE p 0 i c j) 1) ((flE p 0 i c j) 3)) _ dX10_mends_70 (⟨_, _, _, by rw [mEd_0, c32_2]; rfl, rfl⟩)
    ·
      refine wc_iconstN X 35 0 dX10_mends_35 ?_
      refine wc_st (st' := [.int (b2i false)]) rfl ?_
      exact ret 36 _ false _ dX10_mends_36 (⟨_, _, _, by rw [mEd_0, show Nat.testBit (gz p (i * 2 + c - 1)) j = false by simpa using c32_2]; rfl, rfl⟩)

set_option maxHeartbeats 4000000 in
set_option maxRecDepth 100000 in
theorem c_X10_mends1 (l : Launch) (G : GG) (x xt xn xr xa xs xf xw xi sn : Nat) (sd : Int64) (xe xp xg xl xk xh xv : Nat) (ra rla rb rlb : Nat) (p : Nat → Nat) (xlm xlr lq : Nat) (lm lr : Nat → Nat) (i c j : Nat) (hr : pgOk p) (hi : i < p 1) (h1 : 1 ≤ c) (h2 : c ≤ 2) (ht : j < p 1) : MM l G yX10_mends (Cond.code yX10_mends cX10_mends 8 (some .boolean)) { frames := 4, cells := 0, slots := 0, locals := 95 } [.ref x, .int (nI 1), .int (nI i), .int (nI c), .int (nI j)] [ob x 10 [.ref xt, .ref xn, .ref xr, .ref xa, .ref xs, .ref xf, .ref xw, .ref xi, .int (nI sn), .long sd, .ref xe, .ref xp, .ref xg, .ref xl, .ref xk, .ref xh, .ref xv], ob xr 1 [.ref ra, .ref rb], ob ra 6 [.int (nI (p 0)), .int (nI (p 2)), .ref rla], aI G rla 10 (nF (gz p)), ob rb 6 [.int (nI (p 1)), .int (nI (p 3)), .ref rlb], aI G rlb 10 (nF (go p)), ob xl 4 [.ref xlm, .ref xlr, .int (nI lq)], aI G xlm 4 (nF lm), aI G xlr 128 (nF lr)] (fun (v : Option Value) (w : va_W) => ∃ (lq2 : Nat) (lm2 lr2 : Nat → Nat), v = some (.int (b2i (mEd p 1 i c j))) ∧ w = [ob x 10 [.ref xt, .ref xn, .ref xr, .ref xa, .ref xs, .ref xf, .ref xw, .ref xi, .int (nI sn), .long sd, .ref xe, .ref xp, .ref xg, .ref xl, .ref xk, .ref xh, .ref xv], ob xr 1 [.ref ra, .ref rb], ob ra 6 [.int (nI (p 0)), .int (nI (p 2)), .ref rla], aI G rla 10 (nF (gz p)), ob rb 6 [.int (nI (p 1)), .int (nI (p 3)), .ref rlb], aI G rlb 10 (nF (go p)), ob xl 4 [.ref xlm, .ref xlr, .int (nI lq2)], aI G xlm 4 (nF lm2), aI G xlr 128 (nF lr2)]) 0 0 := by
  refine MM.ofZ (by decide) rfl (fun Γ X Y hnm ret => ?_)
  show Wc Γ 0 0 0 [(0, .ref x), (1, .int (nI 1)), (2, .int (nI i)), (3, .int (nI c)), (4, .int (nI j))] [] [ob x 10 [.ref xt, .ref xn, .ref xr, .ref xa, .ref xs, .ref xf, .ref xw, .ref xi, .int (nI sn), .long sd, .ref xe, .ref xp, .ref xg, .ref xl, .ref xk, .ref xh, .ref xv], ob xr 1 [.ref ra, .ref rb], ob ra 6 [.int (nI (p 0)), .int (nI (p 2)), .ref rla], aI G rla 10 (nF (gz p)), ob rb 6 [.int (nI (p 1)), .int (nI (p 3)), .ref rlb], aI G rlb 10 (nF (go p)), ob xl 4 [.ref xlm, .ref xlr, .int (nI lq)], aI G xlm 4 (nF lm), aI G xlr 128 (nF lr)]
  have hn0 := hr.2.1
  have hn01 := hr.1
  have hn1 := hr.2.2.2.1
  have hn11 := hr.2.2.1
  have he0 := pg_e0 hr
  have he1 := hr.2.2.2.2.1 3
  have hg0 := hr.2.2.2.2.2.1
  have hg1 := (fun j => hr.2.2.2.2.1 (12 + j) : ∀ j, go p j < 32)
  have hg0n := (hr.2.2.2.2.2.2.1 0 (by decide) : ∀ j, gz p j < 2 ^ p 0)
  have hg1n := (hr.2.2.2.2.2.2.1 1 (by decide) : ∀ j, go p j < 2 ^ p 1)
  have he0n := hr.2.2.2.2.2.2.2 0 (by decide)
  have he1n := hr.2.2.2.2.2.2.2 1 (by decide)
  have hg0w := (fun j => Nat.lt_trans (hg0 j) (by decide) : ∀ j, gz p j < 32)
  have hz := flE_ok (m := 1) hr (by decide) hi h1 h2 ht
  have hn0q := hz.2.1
  have hn01q := hz.1
  have hn1q := hz.2.2.2.1
  have he0q := pg_e0 hz
  have he1q := hz.2.2.2.2.1 3
  have hg0q := hz.2.2.2.2.2.1
  have hg1q := (fun a => hz.2.2.2.2.1 (12 + a) : ∀ a, go (flE p 1 i c j) a < 32)
  have hg0nq := (hz.2.2.2.2.2.2.1 0 (by decide) : ∀ a, gz (flE p 1 i c j) a < 2 ^ (flE p 1 i c j) 0)
  have he0nq := hz.2.2.2.2.2.2.2 0 (by decide)
  refine wc_aload_n X 0 0 dX10_mends_0 rfl ?_
  refine wc_get X 1 0 2 kd10 rfl (by decide) q_235 rfl dX10_mends_1 ?_
  refine wc_iload_n X 4 1 dX10_mends_4 rfl ?_
  refine wc_callV X 5 [1] 1 (c_X1_of1 l G xr ra rb (nI 1) (by decide)) yv_X1_of kd1 rfl rfl q_403 ⟨rfl, rfl⟩ ⟨rfl, rfl⟩ ⟨rfl, rfl⟩ rfl rfl rfl dX10_mends_5 ?_
  refine wc_astore X 8 (L' := [(0, .ref x), (1, .int (nI 1)), (2, .int (nI i)), (3, .int (nI c)), (4, .int (nI j)), (5, .ref rb)]) dX10_mends_8 (by decide) rfl ?_
  refine wc_iload_n X 10 1 dX10_mends_10 rfl ?_
  refine wc_if_neN X 11 18 dX10_mends_11 (by decide) (by decide) (fun c11_1 => ?_) (fun c11_1 => ?_)
  ·
    refine wc_iconstN X 18 0 dX10_mends_18 ?_
    refine wc_istore X 19 (L' := [(0, .ref x), (1, .int (nI 1)), (2, .int (nI i)), (3, .int (nI c)), (4, .int (nI j)), (5, .ref rb), (6, .int (nI 0))]) dX10_mends_19 (by decide) rfl ?_
    refine wc_aload X 21 5 dX10_mends_21 rfl ?_
    refine wc_iload_n X 23 2 dX10_mends_23 rfl ?_
    refine wc_iload_n X 24 3 dX10_mends_24 rfl ?_
    refine wc_iload X 25 4 dX10_mends_25 rfl ?_
    refine wc_callV X 27 [4, 5] 4 (c_X6_joins l G rb rlb (p 1) (p 3) (go p) i c j (by first | assumption | omega) (by first | assumption | omega) (by first | assumption | omega) (by first | assumption | omega) hg1) yv_X6_joins kd6 rfl rfl q_409 ⟨rfl, rfl⟩ ⟨rfl, rfl⟩ ⟨rfl, rfl⟩ rfl rfl rfl dX10_mends_27 ?_
    refine wc_iload X 30 6 dX10_mends_30 rfl ?_
    refine wc_st (st' := [.int (b2i false), .int (b2i (Nat.testBit ((go p) (i * 2 + c - 1)) j))]) rfl ?_
    refine wc_icmp_eqB X 32 37 dX10_mends_32 (by decide) (fun c32_2 => ?_) (fun c32_2 => ?_)
    ·
      refine wc_aload X 37 5 dX10_mends_37 rfl ?_
      refine wc_iload_n X 39 2 dX10_mends_39 rfl ?_
      refine wc_iload_n X 40 3 dX10_mends_40 rfl ?_
      refine wc_iload X 41 4 dX10_mends_41 rfl ?_
      refine wc_mutV X Y 43 [4, 5] [0, 1, 2, 3, 6, 7, 8] 4 (c_X6_flipEdge l G rb rlb (p 1) (p 3) (go p) i c j (by first | assumption | omega) (by first | assumption | omega) (by first | assumption | omega) (by first | assumption | omega)) yv_X6_flipEdge kd6 rfl rfl (wr := [ob x 10 [.ref xt, .ref xn, .ref xr, .ref xa, .ref xs, .ref xf, .ref xw, .ref xi, .int (nI sn), .long sd, .ref xe, .ref xp, .ref xg, .ref xl, .ref xk, .ref xh, .ref xv], ob xr 1 [.ref ra, .ref rb], ob ra 6 [.int (nI (p 0)), .int (nI (p 2)), .ref rla], aI G rla 10 (nF (gz p)), ob xl 4 [.ref xlm, .ref xlr, .int (nI lq)], aI G xlm 4 (nF lm), aI G xlr 128 (nF lr)]) rfl ⟨rfl, rfl, rfl⟩ q_103 ⟨rfl, rfl⟩ ⟨rfl, rfl⟩ ⟨rfl, rfl⟩ rfl rfl rfl dX10_mends_43 (fun v w hp_3 => ?_)
      obtain ⟨rfl, rfl⟩ := hp_3
      refine wc_perm Y [0, 1, 2, 3, 7, 8, 4, 5, 6] [ob x 10 [.ref xt, .ref xn, .ref xr, .ref xa, .ref xs, .ref xf, .ref xw, .ref xi, .int (nI sn), .long sd, .ref xe, .ref xp, .ref xg, .ref xl, .ref xk, .ref xh, .ref xv], ob xr 1 [.ref ra, .ref rb], ob ra 6 [.int (nI (p 0)), .int (nI (p 2)), .ref rla], aI G rla 10 (nF (gz p)), ob rb 6 [.int (nI (p 1)), .int (nI (p 3)), .ref rlb], aI G rlb 10 (nF (up (go p) (i * 2 + c - 1) ((go p) (i * 2 + c - 1) ^^^ 2 ^ j))), ob xl 4 [.ref xlm, .ref xlr, .int (nI lq)], aI G xlm 4 (nF lm), aI G xlr 128 (nF lr)] rfl rfl ?_
      show Wc Γ 0 0 46 [(0, .ref x), (1, .int (nI 1)), (2, .int (nI i)), (3, .int (nI c)), (4, .int (nI j)), (5, .ref rb), (6, .int (nI 0))] [] [ob x 10 [.ref xt, .ref xn, .ref xr, .ref xa, .ref xs, .ref xf, .ref xw, .ref xi, .int (nI sn), .long sd, .ref xe, .ref xp, .ref xg, .ref xl, .ref xk, .ref xh, .ref xv], ob xr 1 [.ref ra, .ref rb], ob ra 6 [.int (nI (p 0)), .int (nI (p 2)), .ref rla], aI G rla 10 (nF (gz p)), ob rb 6 [.int (nI (p 1)), .int (nI (p 3)), .ref rlb], aI G rlb 10 (nF (up (go p) (i * 2 + c - 1) ((go p) (i * 2 + c - 1) ^^^ 2 ^ j))), ob xl 4 [.ref xlm, .ref xlr, .int (nI lq)], aI G xlm 4 (nF lm), aI G xlr 128 (nF lr)]
      refine wc_ws (ws' := [ob x 10 [.ref xt, .ref xn, .ref xr, .ref xa, .ref xs, .ref xf, .ref xw, .ref xi, .int (nI sn), .long sd, .ref xe, .ref xp, .ref xg, .ref xl, .ref xk, .ref xh, .ref xv], ob xr 1 [.ref ra, .ref rb], ob ra 6 [.int (nI ((flE p 1 i c j) 0)), .int (nI ((flE p 1 i c j) 2)), .ref rla], aI G rla 10 (nF (gz (flE p 1 i c j))), ob rb 6 [.int (nI ((flE p 1 i c j) 1)), .int (nI ((flE p 1 i c j) 3)), .ref rlb], aI G rlb 10 (nF (go (flE p 1 i c j))), ob xl 4 [.ref xlm, .ref xlr, .int (nI lq)], aI G xlm 4 (nF lm), aI G xlr 128 (nF lr)]) (by rw [flE_lo (p := p) (m := 1) (i := i) (c := c) (t := j) (k := 0) (by decide) h1 (by decide), flE_lo (p := p) (m := 1) (i := i) (c := c) (t := j) (k := 1) (by decide) h1 (by decide), flE_lo (p := p) (m := 1) (i := i) (c := c) (t := j) (k := 2) (by decide) h1 (by decide), flE_lo (p := p) (m := 1) (i := i) (c := c) (t := j) (k := 3) (by decide) h1 (by decide), flE_g1 (t := j) hr hi h1 h2, flE_o1 (t := j) hr hi h1 h2]) ?_
      refine wc_aload_n X 46 0 dX10_mends_46 rfl ?_
      refine wc_get X 47 0 13 kd10 rfl (by decide) q_246 rfl dX10_mends_47 ?_
      refine wc_aload_n X 50 0 dX10_mends_50 rfl ?_
      refine wc_get X 51 0 2 kd10 rfl (by decide) q_235 rfl dX10_mends_51 ?_
      refine wc_mutV X Y 54 [6, 7, 8, 1, 2, 3, 4, 5] [0] 6 (c_X4_holds l G xl xlm xlr lq lm lr xr ra rla ((flE p 1 i c j) 0) ((flE p 1 i c j) 2) (gz (flE p 1 i c j)) rb rlb ((flE p 1 i c j) 1) ((flE p 1 i c j) 3) (go (flE p 1 i c j)) (by first | assumption | omega) (by first | assumption | omega) (by first | assumption | omega) (by first | assumption | omega) (by first | assumption | omega) (by first | assumption | omega) (by first | assumption | omega) (by first | assumption | omega) (by first | assumption | omega)) yv_X4_holds kd4 rfl rfl (wr := [ob x 10 [.ref xt, .ref xn, .ref xr, .ref xa, .ref xs, .ref xf, .ref xw, .ref xi, .int (nI sn), .long sd, .ref xe, .ref xp, .ref xg, .ref xl, .ref xk, .ref xh, .ref xv]]) rfl ⟨rfl, rfl, rfl⟩ q_503 ⟨rfl, rfl⟩ ⟨rfl, rfl⟩ ⟨rfl, rfl⟩ rfl rfl rfl dX10_mends_54 (fun v w hp_4 => ?_)
      obtain ⟨mt2_5, row2_6, n2_7, rfl, rfl⟩ := hp_4
      refine wc_perm Y [0, 4, 5, 6, 7, 8, 1, 2, 3] [ob x 10 [.ref xt, .ref xn, .ref xr, .ref xa, .ref xs, .ref xf, .ref xw, .ref xi, .int (nI sn), .long sd, .ref xe, .ref xp, .ref xg, .ref xl, .ref xk, .ref xh, .ref xv], ob xr 1 [.ref ra, .ref rb], ob ra 6 [.int (nI ((flE p 1 i c j) 0)), .int (nI ((flE p 1 i c j) 2)), .ref rla], aI G rla 10 (nF (gz (flE p 1 i c j))), ob rb 6 [.int (nI ((flE p 1 i c j) 1)), .int (nI ((flE p 1 i c j) 3)), .ref rlb], aI G rlb 10 (nF (go (flE p 1 i c j))), ob xl 4 [.ref xlm, .ref xlr, .int (nI n2_7)], aI G xlm 4 (nF mt2_5), aI G xlr 128 (nF row2_6)] rfl rfl ?_
      show Wc Γ 0 0 57 [(0, .ref x), (1, .int (nI 1)), (2, .int (nI i)), (3, .int (nI c)), (4, .int (nI j)), (5, .ref rb), (6, .int (nI 0))] [.int (b2i (withB (gz (flE p 1 i c j)) ((flE p 1 i c j) 0) ((flE p 1 i c j) 2) (go (flE p 1 i c j)) ((flE p 1 i c j) 1) ((flE p 1 i c j) 3)))] [ob x 10 [.ref xt, .ref xn, .ref xr, .ref xa, .ref xs, .ref xf, .ref xw, .ref xi, .int (nI sn), .long sd, .ref xe, .ref xp, .ref xg, .ref xl, .ref xk, .ref xh, .ref xv], ob xr 1 [.ref ra, .ref rb], ob ra 6 [.int (nI ((flE p 1 i c j) 0)), .int (nI ((flE p 1 i c j) 2)), .ref rla], aI G rla 10 (nF (gz (flE p 1 i c j))), ob rb 6 [.int (nI ((flE p 1 i c j) 1)), .int (nI ((flE p 1 i c j) 3)), .ref rlb], aI G rlb 10 (nF (go (flE p 1 i c j))), ob xl 4 [.ref xlm, .ref xlr, .int (nI n2_7)], aI G xlm 4 (nF mt2_5), aI G xlr 128 (nF row2_6)]
      refine wc_istore X 57 (L' := [(0, .ref x), (1, .int (nI 1)), (2, .int (nI i)), (3, .int (nI c)), (4, .int (nI j)), (5, .ref rb), (6, .int (nI 0)), (7, .int (b2i (withB (gz (flE p 1 i c j)) ((flE p 1 i c j) 0) ((flE p 1 i c j) 2) (go (flE p 1 i c j)) ((flE p 1 i c j) 1) ((flE p 1 i c j) 3))))]) dX10_mends_57 (by decide) rfl ?_
      refine wc_aload X 59 5 dX10_mends_59 rfl ?_
      refine wc_iload_n X 61 2 dX10_mends_61 rfl ?_
      refine wc_iload_n X 62 3 dX10_mends_62 rfl ?_
      refine wc_iload X 63 4 dX10_mends_63 rfl ?_
      refine wc_mutV X Y 65 [4, 5] [0, 1, 2, 3, 6, 7, 8] 4 (c_X6_flipEdge l G rb rlb ((flE p 1 i c j) 1) ((flE p 1 i c j) 3) (go (flE p 1 i c j)) i c j (by first | assumption | omega) (by first | assumption | omega) (by first | assumption | omega) (by first | assumption | omega)) yv_X6_flipEdge kd6 rfl rfl (wr := [ob x 10 [.ref xt, .ref xn, .ref xr, .ref xa, .ref xs, .ref xf, .ref xw, .ref xi, .int (nI sn), .long sd, .ref xe, .ref xp, .ref xg, .ref xl, .ref xk, .ref xh, .ref xv], ob xr 1 [.ref ra, .ref rb], ob ra 6 [.int (nI ((flE p 1 i c j) 0)), .int (nI ((flE p 1 i c j) 2)), .ref rla], aI G rla 10 (nF (gz (flE p 1 i c j))), ob xl 4 [.ref xlm, .ref xlr, .int (nI n2_7)], aI G xlm 4 (nF mt2_5), aI G xlr 128 (nF row2_6)]) rfl ⟨rfl, rfl, rfl⟩ q_103 ⟨rfl, rfl⟩ ⟨rfl, rfl⟩ ⟨rfl, rfl⟩ rfl rfl rfl dX10_mends_65 (fun v w hp_8 => ?_)
      obtain ⟨rfl, rfl⟩ := hp_8
      refine wc_perm Y [0, 1, 2, 3, 7, 8, 4, 5, 6] [ob x 10 [.ref xt, .ref xn, .ref xr, .ref xa, .ref xs, .ref xf, .ref xw, .ref xi, .int (nI sn), .long sd, .ref xe, .ref xp, .ref xg, .ref xl, .ref xk, .ref xh, .ref xv], ob xr 1 [.ref ra, .ref rb], ob ra 6 [.int (nI ((flE p 1 i c j) 0)), .int (nI ((flE p 1 i c j) 2)), .ref rla], aI G rla 10 (nF (gz (flE p 1 i c j))), ob rb 6 [.int (nI ((flE p 1 i c j) 1)), .int (nI ((flE p 1 i c j) 3)), .ref rlb], aI G rlb 10 (nF (up (go (flE p 1 i c j)) (i * 2 + c - 1) ((go (flE p 1 i c j)) (i * 2 + c - 1) ^^^ 2 ^ j))), ob xl 4 [.ref xlm, .ref xlr, .int (nI n2_7)], aI G xlm 4 (nF mt2_5), aI G xlr 128 (nF row2_6)] rfl rfl ?_
      show Wc Γ 0 0 68 [(0, .ref x), (1, .int (nI 1)), (2, .int (nI i)), (3, .int (nI c)), (4, .int (nI j)), (5, .ref rb), (6, .int (nI 0)), (7, .int (b2i (withB (gz (flE p 1 i c j)) ((flE p 1 i c j) 0) ((flE p 1 i c j) 2) (go (flE p 1 i c j)) ((flE p 1 i c j) 1) ((flE p 1 i c j) 3))))] [] [ob x 10 [.ref xt, .ref xn, .ref xr, .ref xa, .ref xs, .ref xf, .ref xw, .ref xi, .int (nI sn), .long sd, .ref xe, .ref xp, .ref xg, .ref xl, .ref xk, .ref xh, .ref xv], ob xr 1 [.ref ra, .ref rb], ob ra 6 [.int (nI ((flE p 1 i c j) 0)), .int (nI ((flE p 1 i c j) 2)), .ref rla], aI G rla 10 (nF (gz (flE p 1 i c j))), ob rb 6 [.int (nI ((flE p 1 i c j) 1)), .int (nI ((flE p 1 i c j) 3)), .ref rlb], aI G rlb 10 (nF (up (go (flE p 1 i c j)) (i * 2 + c - 1) ((go (flE p 1 i c j)) (i * 2 + c - 1) ^^^ 2 ^ j))), ob xl 4 [.ref xlm, .ref xlr, .int (nI n2_7)], aI G xlm 4 (nF mt2_5), aI G xlr 128 (nF row2_6)]
      refine wc_ws (ws' := [ob x 10 [.ref xt, .ref xn, .ref xr, .ref xa, .ref xs, .ref xf, .ref xw, .ref xi, .int (nI sn), .long sd, .ref xe, .ref xp, .ref xg, .ref xl, .ref xk, .ref xh, .ref xv], ob xr 1 [.ref ra, .ref rb], ob ra 6 [.int (nI (p 0)), .int (nI (p 2)), .ref rla], aI G rla 10 (nF (gz p)), ob rb 6 [.int (nI (p 1)), .int (nI (p 3)), .ref rlb], aI G rlb 10 (nF (go p)), ob xl 4 [.ref xlm, .ref xlr, .int (nI n2_7)], aI G xlm 4 (nF mt2_5), aI G xlr 128 (nF row2_6)]) (by rw [flE_lo (p := p) (m := 1) (i := i) (c := c) (t := j) (k := 0) (by decide) h1 (by decide), flE_lo (p := p) (m := 1) (i := i) (c := c) (t := j) (k := 1) (by decide) h1 (by decide), flE_lo (p := p) (m := 1) (i := i) (c := c) (t := j) (k := 2) (by decide) h1 (by decide), flE_lo (p := p) (m := 1) (i := i) (c := c) (t := j) (k := 3) (by decide) h1 (by decide), flE_g1 (t := j) hr hi h1 h2, flE_o1 (t := j) hr hi h1 h2, up_xx]) ?_
      refine wc_iload X 68 7 dX10_mends_68 rfl ?_
      exact ret 70 _ (withB (gz (flE p 1 i c j)) ((flE p 1 i c j) 0) ((flE p 1 i c j) 2) (go (flE p 1 i c j)) ((flE p 1 i c j) 1) ((flE p 1 i c j) 3)) _ dX10_mends_70 (⟨_, _, _, by rw [mEd_1, c32_2]; rfl, rfl⟩)
    ·
      refine wc_iconstN X 35 0 dX10_mends_35 ?_
      refine wc_st (st' := [.int (b2i false)]) rfl ?_
      exact ret 36 _ false _ dX10_mends_36 (⟨_, _, _, by rw [mEd_1, show Nat.testBit (go p (i * 2 + c - 1)) j = true by simpa using c32_2]; rfl, rfl⟩)
  ·
    exact absurd c11_1 (by decide)

set_option maxHeartbeats 4000000 in
set_option maxRecDepth 100000 in
theorem c_X10_mendedF (l : Launch) (G : GG) (x xt xn xr xa xs xf xw xi sn : Nat) (sd : Int64) (xe xp xg xl xk xh xv : Nat) (m k : Int32) (ho : outR m 0 1) : RM l G yX10_mended (Cond.code yX10_mended cX10_mended 9 (some .int)) { frames := 1, cells := 0, slots := 0, locals := 20 } [.ref x, .int m, .int k] [ob x 10 [.ref xt, .ref xn, .ref xr, .ref xa, .ref xs, .ref xf, .ref xw, .ref xi, .int (nI sn), .long sd, .ref xe, .ref xp, .ref xg, .ref xl, .ref xk, .ref xh, .ref xv]] (.int (-1)) := by
  refine RM.ofI (by decide) rfl (fun Γ X ret => ?_)
  show Wc Γ 0 0 0 [(0, .ref x), (1, .int m), (2, .int k)] [] [ob x 10 [.ref xt, .ref xn, .ref xr, .ref xa, .ref xs, .ref xf, .ref xw, .ref xi, .int (nI sn), .long sd, .ref xe, .ref xp, .ref xg, .ref xl, .ref xk, .ref xh, .ref xv]]
  refine wc_iload_n X 0 1 dX10_mended_0 rfl ?_
  refine wc_callS X 1 [] (c_X10_isMachine l G m ) ys_X10_isMachine rfl q_400 ⟨rfl, rfl⟩ ⟨rfl, rfl⟩ ⟨rfl, rfl⟩ rfl rfl rfl dX10_mended_1 ?_
  refine wc_if_neB X 4 9 dX10_mended_4 (by decide) (fun c4_1 => ?_) (fun c4_1 => ?_)
  ·
    exact absurd c4_1 (by rw [mach_out ho]; decide)
  ·
    refine wc_iconst X 7 (-1) dX10_mended_7 (by decide) ?_
    exact ret 8 _ (-1) dX10_mended_8 (rfl)

set_option maxHeartbeats 4000000 in
set_option maxRecDepth 100000 in
theorem c_X10_mendedG (l : Launch) (G : GG) (x xt xn xr xa xs xf xw xi sn : Nat) (sd : Int64) (xe xp xg xl xk xh xv : Nat) (m k : Int32) (hm : (decide (m = 0) || decide (m = nI 1)) = true) (ho : outR k 0 1) : RM l G yX10_mended (Cond.code yX10_mended cX10_mended 9 (some .int)) { frames := 1, cells := 0, slots := 0, locals := 20 } [.ref x, .int m, .int k] [ob x 10 [.ref xt, .ref xn, .ref xr, .ref xa, .ref xs, .ref xf, .ref xw, .ref xi, .int (nI sn), .long sd, .ref xe, .ref xp, .ref xg, .ref xl, .ref xk, .ref xh, .ref xv]] (.int (-2)) := by
  refine RM.ofI (by decide) rfl (fun Γ X ret => ?_)
  show Wc Γ 0 0 0 [(0, .ref x), (1, .int m), (2, .int k)] [] [ob x 10 [.ref xt, .ref xn, .ref xr, .ref xa, .ref xs, .ref xf, .ref xw, .ref xi, .int (nI sn), .long sd, .ref xe, .ref xp, .ref xg, .ref xl, .ref xk, .ref xh, .ref xv]]
  refine wc_iload_n X 0 1 dX10_mended_0 rfl ?_
  refine wc_callS X 1 [] (c_X10_isMachine l G m ) ys_X10_isMachine rfl q_400 ⟨rfl, rfl⟩ ⟨rfl, rfl⟩ ⟨rfl, rfl⟩ rfl rfl rfl dX10_mended_1 ?_
  refine wc_if_neB X 4 9 dX10_mended_4 (by decide) (fun c4_1 => ?_) (fun c4_1 => ?_)
  ·
    refine wc_iload_n X 9 2 dX10_mended_9 rfl ?_
    refine wc_if_lt X 10 18 dX10_mended_10 (by decide) (fun c10_2 => ?_) (fun c10_2 => ?_)
    ·
      refine wc_bipush X 18 (-2) dX10_mended_18 (by decide) ?_
      exact ret 20 _ (-2) dX10_mended_20 (rfl)
    ·
      refine wc_iload_n X 13 2 dX10_mended_13 rfl ?_
      refine wc_iconstN X 14 1 dX10_mended_14 ?_
      refine wc_icmp_le X 15 21 dX10_mended_15 (by decide) (fun c15_3 => ?_) (fun c15_3 => ?_)
      ·
        exact (out_cls ho (by decide) (by decide) c10_2 c15_3).elim
      ·
        refine wc_bipush X 18 (-2) dX10_mended_18 (by decide) ?_
        exact ret 20 _ (-2) dX10_mended_20 (rfl)
  ·
    exact absurd hm (by rw [c4_1]; decide)

set_option maxHeartbeats 4000000 in
set_option maxRecDepth 100000 in
theorem c_X10_mendedW00 (l : Launch) (G : GG) (x xt xn xr xa xs xf xw xi sn : Nat) (sd : Int64) (xe xp xg xl xk xh xv : Nat) (na nla nb nlb : Nat) (p : Nat → Nat) (xlm xlr lq : Nat) (lm lr : Nat → Nat) (hr : pgOk p) (hw : withP p = true) : MM l G yX10_mended (Cond.code yX10_mended cX10_mended 9 (some .int)) { frames := 4, cells := 0, slots := 0, locals := 95 } [.ref x, .int (nI 0), .int (nI 0)] [ob x 10 [.ref xt, .ref xn, .ref xr, .ref xa, .ref xs, .ref xf, .ref xw, .ref xi, .int (nI sn), .long sd, .ref xe, .ref xp, .ref xg, .ref xl, .ref xk, .ref xh, .ref xv], ob xn 1 [.ref na, .ref nb], ob na 6 [.int (nI (p 0)), .int (nI (p 2)), .ref nla], aI G nla 10 (nF (gz p)), ob nb 6 [.int (nI (p 1)), .int (nI (p 3)), .ref nlb], aI G nlb 10 (nF (go p)), ob xl 4 [.ref xlm, .ref xlr, .int (nI lq)], aI G xlm 4 (nF lm), aI G xlr 128 (nF lr)] (fun (v : Option Value) (w : va_W) => ∃ (lq2 : Nat) (lm2 lr2 : Nat → Nat), v = some (.int (nI 0)) ∧ w = [ob x 10 [.ref xt, .ref xn, .ref xr, .ref xa, .ref xs, .ref xf, .ref xw, .ref xi, .int (nI sn), .long sd, .ref xe, .ref xp, .ref xg, .ref xl, .ref xk, .ref xh, .ref xv], ob xn 1 [.ref na, .ref nb], ob na 6 [.int (nI (p 0)), .int (nI (p 2)), .ref nla], aI G nla 10 (nF (gz p)), ob nb 6 [.int (nI (p 1)), .int (nI (p 3)), .ref nlb], aI G nlb 10 (nF (go p)), ob xl 4 [.ref xlm, .ref xlr, .int (nI lq2)], aI G xlm 4 (nF lm2), aI G xlr 128 (nF lr2)]) 0 0 := by
  refine MM.ofI (by decide) rfl (fun Γ X Y hnm ret => ?_)
  show Wc Γ 0 0 0 [(0, .ref x), (1, .int (nI 0)), (2, .int (nI 0))] [] [ob x 10 [.ref xt, .ref xn, .ref xr, .ref xa, .ref xs, .ref xf, .ref xw, .ref xi, .int (nI sn), .long sd, .ref xe, .ref xp, .ref xg, .ref xl, .ref xk, .ref xh, .ref xv], ob xn 1 [.ref na, .ref nb], ob na 6 [.int (nI (p 0)), .int (nI (p 2)), .ref nla], aI G nla 10 (nF (gz p)), ob nb 6 [.int (nI (p 1)), .int (nI (p 3)), .ref nlb], aI G nlb 10 (nF (go p)), ob xl 4 [.ref xlm, .ref xlr, .int (nI lq)], aI G xlm 4 (nF lm), aI G xlr 128 (nF lr)]
  have hn0 := hr.2.1
  have hn01 := hr.1
  have hn1 := hr.2.2.2.1
  have hn11 := hr.2.2.1
  have he0 := pg_e0 hr
  have he1 := hr.2.2.2.2.1 3
  have hg0 := hr.2.2.2.2.2.1
  have hg1 := (fun j => hr.2.2.2.2.1 (12 + j) : ∀ j, go p j < 32)
  have hg0n := (hr.2.2.2.2.2.2.1 0 (by decide) : ∀ j, gz p j < 2 ^ p 0)
  have hg1n := (hr.2.2.2.2.2.2.1 1 (by decide) : ∀ j, go p j < 2 ^ p 1)
  have he0n := hr.2.2.2.2.2.2.2 0 (by decide)
  have he1n := hr.2.2.2.2.2.2.2 1 (by decide)
  have hg0w := (fun j => Nat.lt_trans (hg0 j) (by decide) : ∀ j, gz p j < 32)
  refine wc_iload_n X 0 1 dX10_mended_0 rfl ?_
  refine wc_callS X 1 [] (c_X10_isMachine l G (nI 0) ) ys_X10_isMachine rfl q_400 ⟨rfl, rfl⟩ ⟨rfl, rfl⟩ ⟨rfl, rfl⟩ rfl rfl rfl dX10_mended_1 ?_
  refine wc_topi (b2i true) (by decide) ?_
  refine wc_if_neB X 4 9 dX10_mended_4 (by decide) (fun c4_1 => ?_) (fun c4_1 => ?_)
  ·
    refine wc_iload_n X 9 2 dX10_mended_9 rfl ?_
    refine wc_ifltF X 10 (tgt := 18) dX10_mended_10 (by decide) (by decide) ?_
    refine wc_iload_n X 13 2 dX10_mended_13 rfl ?_
    refine wc_iconstN X 14 1 dX10_mended_14 ?_
    refine wc_icmp_leN X 15 21 dX10_mended_15 (by decide) (by decide) (by decide) (fun c15_3 => ?_) (fun c15_3 => ?_)
    ·
      refine wc_aload_n X 21 0 dX10_mended_21 rfl ?_
      refine wc_get X 22 0 13 kd10 rfl (by decide) q_246 rfl dX10_mended_22 ?_
      refine wc_aload_n X 25 0 dX10_mended_25 rfl ?_
      refine wc_get X 26 0 1 kd10 rfl (by decide) q_234 rfl dX10_mended_26 ?_
      refine wc_mutV X Y 29 [6, 7, 8, 1, 2, 3, 4, 5] [0] 6 (c_X4_holds l G xl xlm xlr lq lm lr xn na nla (p 0) (p 2) (gz p) nb nlb (p 1) (p 3) (go p) (by first | assumption | omega) (by first | assumption | omega) (by first | assumption | omega) (by first | assumption | omega) (by first | assumption | omega) (by first | assumption | omega) (by first | assumption | omega) (by first | assumption | omega) (by first | assumption | omega)) yv_X4_holds kd4 rfl rfl (wr := [ob x 10 [.ref xt, .ref xn, .ref xr, .ref xa, .ref xs, .ref xf, .ref xw, .ref xi, .int (nI sn), .long sd, .ref xe, .ref xp, .ref xg, .ref xl, .ref xk, .ref xh, .ref xv]]) rfl ⟨rfl, rfl, rfl⟩ q_503 ⟨rfl, rfl⟩ ⟨rfl, rfl⟩ ⟨rfl, rfl⟩ rfl rfl rfl dX10_mended_29 (fun v w hp_4 => ?_)
      obtain ⟨mt2_5, row2_6, n2_7, rfl, rfl⟩ := hp_4
      refine wc_perm Y [0, 4, 5, 6, 7, 8, 1, 2, 3] [ob x 10 [.ref xt, .ref xn, .ref xr, .ref xa, .ref xs, .ref xf, .ref xw, .ref xi, .int (nI sn), .long sd, .ref xe, .ref xp, .ref xg, .ref xl, .ref xk, .ref xh, .ref xv], ob xn 1 [.ref na, .ref nb], ob na 6 [.int (nI (p 0)), .int (nI (p 2)), .ref nla], aI G nla 10 (nF (gz p)), ob nb 6 [.int (nI (p 1)), .int (nI (p 3)), .ref nlb], aI G nlb 10 (nF (go p)), ob xl 4 [.ref xlm, .ref xlr, .int (nI n2_7)], aI G xlm 4 (nF mt2_5), aI G xlr 128 (nF row2_6)] rfl rfl ?_
      show Wc Γ 0 0 32 [(0, .ref x), (1, .int (nI 0)), (2, .int (nI 0))] [.int (b2i (withB (gz p) (p 0) (p 2) (go p) (p 1) (p 3)))] [ob x 10 [.ref xt, .ref xn, .ref xr, .ref xa, .ref xs, .ref xf, .ref xw, .ref xi, .int (nI sn), .long sd, .ref xe, .ref xp, .ref xg, .ref xl, .ref xk, .ref xh, .ref xv], ob xn 1 [.ref na, .ref nb], ob na 6 [.int (nI (p 0)), .int (nI (p 2)), .ref nla], aI G nla 10 (nF (gz p)), ob nb 6 [.int (nI (p 1)), .int (nI (p 3)), .ref nlb], aI G nlb 10 (nF (go p)), ob xl 4 [.ref xlm, .ref xlr, .int (nI n2_7)], aI G xlm 4 (nF mt2_5), aI G xlr 128 (nF row2_6)]
      refine wc_topi (b2i true) (congrArg b2i hw) ?_
      refine wc_if_eqB X 32 46 dX10_mended_32 (by decide) (fun c32_8 => ?_) (fun c32_8 => ?_)
      ·
        exact absurd c32_8 (by decide)
      ·
        refine wc_iload_n X 35 2 dX10_mended_35 rfl ?_
        refine wc_if_neN X 36 43 dX10_mended_36 (by decide) (by decide) (fun c36_9 => ?_) (fun c36_9 => ?_)
        ·
          exact absurd c36_9 (by decide)
        ·
          refine wc_iconstN X 39 0 dX10_mended_39 ?_
          refine wc_goto X 40 45 dX10_mended_40 (by decide) ?_
          exact ret 45 _ (nI 0) _ dX10_mended_45 (⟨_, _, _, rfl, rfl⟩)
    ·
      exact absurd c15_3 (by decide)
  ·
    exact absurd c4_1 (by decide)

set_option maxHeartbeats 4000000 in
set_option maxRecDepth 100000 in
theorem c_X10_mendedS00 (l : Launch) (G : GG) (x xt xn xr xa xs xf xw xi sn : Nat) (sd : Int64) (xe xp xg xl xk xh xv : Nat) (na nla nb nlb : Nat) (p : Nat → Nat) (ra rla r0 re : Nat) (rg : Nat → Nat) (rb rlb r1 rf : Nat) (rh : Nat → Nat) (xlm xlr lq : Nat) (lm lr : Nat → Nat) (hr : pgOk p) (hw : withP p = false) : MM l G yX10_mended (Cond.code yX10_mended cX10_mended 9 (some .int)) { frames := 5, cells := 0, slots := 0, locals := 122 } [.ref x, .int (nI 0), .int (nI 0)] [ob x 10 [.ref xt, .ref xn, .ref xr, .ref xa, .ref xs, .ref xf, .ref xw, .ref xi, .int (nI sn), .long sd, .ref xe, .ref xp, .ref xg, .ref xl, .ref xk, .ref xh, .ref xv], ob xn 1 [.ref na, .ref nb], ob na 6 [.int (nI (p 0)), .int (nI (p 2)), .ref nla], aI G nla 10 (nF (gz p)), ob nb 6 [.int (nI (p 1)), .int (nI (p 3)), .ref nlb], aI G nlb 10 (nF (go p)), ob xr 1 [.ref ra, .ref rb], ob ra 6 [.int (nI r0), .int (nI re), .ref rla], aI G rla 10 (nF rg), ob rb 6 [.int (nI r1), .int (nI rf), .ref rlb], aI G rlb 10 (nF rh), ob xl 4 [.ref xlm, .ref xlr, .int (nI lq)], aI G xlm 4 (nF lm), aI G xlr 128 (nF lr)] (fun (v : Option Value) (w : va_W) => ∃ (lq2 : Nat) (lm2 lr2 : Nat → Nat), v = some (.int (nI (cnt (mB p 0) (2 * p 0 * p 0)))) ∧ w = [ob x 10 [.ref xt, .ref xn, .ref xr, .ref xa, .ref xs, .ref xf, .ref xw, .ref xi, .int (nI sn), .long sd, .ref xe, .ref xp, .ref xg, .ref xl, .ref xk, .ref xh, .ref xv], ob xn 1 [.ref na, .ref nb], ob na 6 [.int (nI (p 0)), .int (nI (p 2)), .ref nla], aI G nla 10 (nF (gz p)), ob nb 6 [.int (nI (p 1)), .int (nI (p 3)), .ref nlb], aI G nlb 10 (nF (go p)), ob xr 1 [.ref ra, .ref rb], ob ra 6 [.int (nI (p 0)), .int (nI (p 2)), .ref rla], aI G rla 10 (nF (gz p)), ob rb 6 [.int (nI (p 1)), .int (nI (p 3)), .ref rlb], aI G rlb 10 (nF (go p)), ob xl 4 [.ref xlm, .ref xlr, .int (nI lq2)], aI G xlm 4 (nF lm2), aI G xlr 128 (nF lr2)]) 0 0 := by
  refine MM.ofI (by decide) rfl (fun Γ X Y hnm ret => ?_)
  show Wc Γ 0 0 0 [(0, .ref x), (1, .int (nI 0)), (2, .int (nI 0))] [] [ob x 10 [.ref xt, .ref xn, .ref xr, .ref xa, .ref xs, .ref xf, .ref xw, .ref xi, .int (nI sn), .long sd, .ref xe, .ref xp, .ref xg, .ref xl, .ref xk, .ref xh, .ref xv], ob xn 1 [.ref na, .ref nb], ob na 6 [.int (nI (p 0)), .int (nI (p 2)), .ref nla], aI G nla 10 (nF (gz p)), ob nb 6 [.int (nI (p 1)), .int (nI (p 3)), .ref nlb], aI G nlb 10 (nF (go p)), ob xr 1 [.ref ra, .ref rb], ob ra 6 [.int (nI r0), .int (nI re), .ref rla], aI G rla 10 (nF rg), ob rb 6 [.int (nI r1), .int (nI rf), .ref rlb], aI G rlb 10 (nF rh), ob xl 4 [.ref xlm, .ref xlr, .int (nI lq)], aI G xlm 4 (nF lm), aI G xlr 128 (nF lr)]
  have hn0 := hr.2.1
  have hn01 := hr.1
  have hn1 := hr.2.2.2.1
  have hn11 := hr.2.2.1
  have he0 := pg_e0 hr
  have he1 := hr.2.2.2.2.1 3
  have hg0 := hr.2.2.2.2.2.1
  have hg1 := (fun j => hr.2.2.2.2.1 (12 + j) : ∀ j, go p j < 32)
  have hg0n := (hr.2.2.2.2.2.2.1 0 (by decide) : ∀ j, gz p j < 2 ^ p 0)
  have hg1n := (hr.2.2.2.2.2.2.1 1 (by decide) : ∀ j, go p j < 2 ^ p 1)
  have he0n := hr.2.2.2.2.2.2.2 0 (by decide)
  have he1n := hr.2.2.2.2.2.2.2 1 (by decide)
  have hg0w := (fun j => Nat.lt_trans (hg0 j) (by decide) : ∀ j, gz p j < 32)
  have hbm := pgOk_m hr (show 0 < 2 by decide)
  refine wc_iload_n X 0 1 dX10_mended_0 rfl ?_
  refine wc_callS X 1 [] (c_X10_isMachine l G (nI 0) ) ys_X10_isMachine rfl q_400 ⟨rfl, rfl⟩ ⟨rfl, rfl⟩ ⟨rfl, rfl⟩ rfl rfl rfl dX10_mended_1 ?_
  refine wc_topi (b2i true) (by decide) ?_
  refine wc_if_neB X 4 9 dX10_mended_4 (by decide) (fun c4_1 => ?_) (fun c4_1 => ?_)
  ·
    refine wc_iload_n X 9 2 dX10_mended_9 rfl ?_
    refine wc_ifltF X 10 (tgt := 18) dX10_mended_10 (by decide) (by decide) ?_
    refine wc_iload_n X 13 2 dX10_mended_13 rfl ?_
    refine wc_iconstN X 14 1 dX10_mended_14 ?_
    refine wc_icmp_leN X 15 21 dX10_mended_15 (by decide) (by decide) (by decide) (fun c15_3 => ?_) (fun c15_3 => ?_)
    ·
      refine wc_aload_n X 21 0 dX10_mended_21 rfl ?_
      refine wc_get X 22 0 13 kd10 rfl (by decide) q_246 rfl dX10_mended_22 ?_
      refine wc_aload_n X 25 0 dX10_mended_25 rfl ?_
      refine wc_get X 26 0 1 kd10 rfl (by decide) q_234 rfl dX10_mended_26 ?_
      refine wc_mutV X Y 29 [11, 12, 13, 1, 2, 3, 4, 5] [0, 6, 7, 8, 9, 10] 11 (c_X4_holds l G xl xlm xlr lq lm lr xn na nla (p 0) (p 2) (gz p) nb nlb (p 1) (p 3) (go p) (by first | assumption | omega) (by first | assumption | omega) (by first | assumption | omega) (by first | assumption | omega) (by first | assumption | omega) (by first | assumption | omega) (by first | assumption | omega) (by first | assumption | omega) (by first | assumption | omega)) yv_X4_holds kd4 rfl rfl (wr := [ob x 10 [.ref xt, .ref xn, .ref xr, .ref xa, .ref xs, .ref xf, .ref xw, .ref xi, .int (nI sn), .long sd, .ref xe, .ref xp, .ref xg, .ref xl, .ref xk, .ref xh, .ref xv], ob xr 1 [.ref ra, .ref rb], ob ra 6 [.int (nI r0), .int (nI re), .ref rla], aI G rla 10 (nF rg), ob rb 6 [.int (nI r1), .int (nI rf), .ref rlb], aI G rlb 10 (nF rh)]) rfl ⟨rfl, rfl, rfl⟩ q_503 ⟨rfl, rfl⟩ ⟨rfl, rfl⟩ ⟨rfl, rfl⟩ rfl rfl rfl dX10_mended_29 (fun v w hp_4 => ?_)
      obtain ⟨mt2_5, row2_6, n2_7, rfl, rfl⟩ := hp_4
      refine wc_perm Y [0, 9, 10, 11, 12, 13, 1, 2, 3, 4, 5, 6, 7, 8] [ob x 10 [.ref xt, .ref xn, .ref xr, .ref xa, .ref xs, .ref xf, .ref xw, .ref xi, .int (nI sn), .long sd, .ref xe, .ref xp, .ref xg, .ref xl, .ref xk, .ref xh, .ref xv], ob xn 1 [.ref na, .ref nb], ob na 6 [.int (nI (p 0)), .int (nI (p 2)), .ref nla], aI G nla 10 (nF (gz p)), ob nb 6 [.int (nI (p 1)), .int (nI (p 3)), .ref nlb], aI G nlb 10 (nF (go p)), ob xr 1 [.ref ra, .ref rb], ob ra 6 [.int (nI r0), .int (nI re), .ref rla], aI G rla 10 (nF rg), ob rb 6 [.int (nI r1), .int (nI rf), .ref rlb], aI G rlb 10 (nF rh), ob xl 4 [.ref xlm, .ref xlr, .int (nI n2_7)], aI G xlm 4 (nF mt2_5), aI G xlr 128 (nF row2_6)] rfl rfl ?_
      show Wc Γ 0 0 32 [(0, .ref x), (1, .int (nI 0)), (2, .int (nI 0))] [.int (b2i (withB (gz p) (p 0) (p 2) (go p) (p 1) (p 3)))] [ob x 10 [.ref xt, .ref xn, .ref xr, .ref xa, .ref xs, .ref xf, .ref xw, .ref xi, .int (nI sn), .long sd, .ref xe, .ref xp, .ref xg, .ref xl, .ref xk, .ref xh, .ref xv], ob xn 1 [.ref na, .ref nb], ob na 6 [.int (nI (p 0)), .int (nI (p 2)), .ref nla], aI G nla 10 (nF (gz p)), ob nb 6 [.int (nI (p 1)), .int (nI (p 3)), .ref nlb], aI G nlb 10 (nF (go p)), ob xr 1 [.ref ra, .ref rb], ob ra 6 [.int (nI r0), .int (nI re), .ref rla], aI G rla 10 (nF rg), ob rb 6 [.int (nI r1), .int (nI rf), .ref rlb], aI G rlb 10 (nF rh), ob xl 4 [.ref xlm, .ref xlr, .int (nI n2_7)], aI G xlm 4 (nF mt2_5), aI G xlr 128 (nF row2_6)]
      refine wc_topi (b2i false) (congrArg b2i hw) ?_
      refine wc_if_eqB X 32 46 dX10_mended_32 (by decide) (fun c32_8 => ?_) (fun c32_8 => ?_)
      ·
        refine wc_aload_n X 46 0 dX10_mended_46 rfl ?_
        refine wc_get X 47 0 2 kd10 rfl (by decide) q_235 rfl dX10_mended_47 ?_
        refine wc_aload_n X 50 0 dX10_mended_50 rfl ?_
        refine wc_get X 51 0 1 kd10 rfl (by decide) q_234 rfl dX10_mended_51 ?_
        refine wc_mutV X Y 54 [6, 7, 8, 9, 10, 1, 2, 3, 4, 5] [0, 11, 12, 13] 6 (c_X1_copyFrom l G xr ra rla r0 re rg rb rlb r1 rf rh xn na nla (p 0) (p 2) (gz p) nb nlb (p 1) (p 3) (go p) ) yv_X1_copyFrom kd1 rfl rfl (wr := [ob x 10 [.ref xt, .ref xn, .ref xr, .ref xa, .ref xs, .ref xf, .ref xw, .ref xi, .int (nI sn), .long sd, .ref xe, .ref xp, .ref xg, .ref xl, .ref xk, .ref xh, .ref xv], ob xl 4 [.ref xlm, .ref xlr, .int (nI n2_7)], aI G xlm 4 (nF mt2_5), aI G xlr 128 (nF row2_6)]) rfl ⟨rfl, rfl, rfl⟩ q_374 ⟨rfl, rfl⟩ ⟨rfl, rfl⟩ ⟨rfl, rfl⟩ rfl rfl rfl dX10_mended_54 (fun v w hp_9 => ?_)
        obtain ⟨rfl, rfl⟩ := hp_9
        refine wc_perm Y [0, 9, 10, 11, 12, 13, 4, 5, 6, 7, 8, 1, 2, 3] [ob x 10 [.ref xt, .ref xn, .ref xr, .ref xa, .ref xs, .ref xf, .ref xw, .ref xi, .int (nI sn), .long sd, .ref xe, .ref xp, .ref xg, .ref xl, .ref xk, .ref xh, .ref xv], ob xn 1 [.ref na, .ref nb], ob na 6 [.int (nI (p 0)), .int (nI (p 2)), .ref nla], aI G nla 10 (nF (gz p)), ob nb 6 [.int (nI (p 1)), .int (nI (p 3)), .ref nlb], aI G nlb 10 (nF (go p)), ob xr 1 [.ref ra, .ref rb], ob ra 6 [.int (nI (p 0)), .int (nI (p 2)), .ref rla], aI G rla 10 (nF (gz p)), ob rb 6 [.int (nI (p 1)), .int (nI (p 3)), .ref rlb], aI G rlb 10 (nF (go p)), ob xl 4 [.ref xlm, .ref xlr, .int (nI n2_7)], aI G xlm 4 (nF mt2_5), aI G xlr 128 (nF row2_6)] rfl rfl ?_
        show Wc Γ 0 0 57 [(0, .ref x), (1, .int (nI 0)), (2, .int (nI 0))] [] [ob x 10 [.ref xt, .ref xn, .ref xr, .ref xa, .ref xs, .ref xf, .ref xw, .ref xi, .int (nI sn), .long sd, .ref xe, .ref xp, .ref xg, .ref xl, .ref xk, .ref xh, .ref xv], ob xn 1 [.ref na, .ref nb], ob na 6 [.int (nI (p 0)), .int (nI (p 2)), .ref nla], aI G nla 10 (nF (gz p)), ob nb 6 [.int (nI (p 1)), .int (nI (p 3)), .ref nlb], aI G nlb 10 (nF (go p)), ob xr 1 [.ref ra, .ref rb], ob ra 6 [.int (nI (p 0)), .int (nI (p 2)), .ref rla], aI G rla 10 (nF (gz p)), ob rb 6 [.int (nI (p 1)), .int (nI (p 3)), .ref rlb], aI G rlb 10 (nF (go p)), ob xl 4 [.ref xlm, .ref xlr, .int (nI n2_7)], aI G xlm 4 (nF mt2_5), aI G xlr 128 (nF row2_6)]
        refine wc_aload_n X 57 0 dX10_mended_57 rfl ?_
        refine wc_get X 58 0 1 kd10 rfl (by decide) q_234 rfl dX10_mended_58 ?_
        refine wc_iload_n X 61 1 dX10_mended_61 rfl ?_
        refine wc_callV X 62 [1] 1 (c_X1_of0 l G xn na nb ) yv_X1_of kd1 rfl rfl q_403 ⟨rfl, rfl⟩ ⟨rfl, rfl⟩ ⟨rfl, rfl⟩ rfl rfl rfl dX10_mended_62 ?_
        refine wc_get X 65 2 0 kd6 rfl (by decide) q_53 rfl dX10_mended_65 ?_
        refine wc_istore_n X 68 (L' := [(0, .ref x), (1, .int (nI 0)), (2, .int (nI 0)), (3, .int (nI (p 0)))]) dX10_mended_68 (by decide) rfl ?_
        refine wc_iconstN X 69 0 dX10_mended_69 ?_
        refine wc_istore X 70 (L' := [(0, .ref x), (1, .int (nI 0)), (2, .int (nI 0)), (3, .int (nI (p 0))), (4, .int (nI 0))]) dX10_mended_70 (by decide) rfl ?_
        refine wc_bipush X 72 (-9) dX10_mended_72 (by decide) ?_
        refine wc_istore X 74 (L' := [(0, .ref x), (1, .int (nI 0)), (2, .int (nI 0)), (3, .int (nI (p 0))), (4, .int (nI 0)), (5, .int (-9))]) dX10_mended_74 (by decide) rfl ?_
        refine wc_iconstN X 76 0 dX10_mended_76 ?_
        refine wc_istore X 77 (L' := [(0, .ref x), (1, .int (nI 0)), (2, .int (nI 0)), (3, .int (nI (p 0))), (4, .int (nI 0)), (5, .int (-9)), (6, .int (nI 0))]) dX10_mended_77 (by decide) rfl ?_
        have LP_11 : ∀ (fuel_10 : Nat) (i : Nat) (K : Nat) (lqA : Nat) (lmA : Nat → Nat) (lrA : Nat → Nat), (i ≤ p 0) → (K = i * (2 * p 0)) → p 0 - i < fuel_10 → Wc Γ 0 0 79 [(0, .ref x), (1, .int (nI 0)), (2, .int (nI 0)), (3, .int (nI (p 0))), (4, .int (nI (cnt (mB p 0) K))), (5, .int (fsA (mB p 0) (mCd (p 0)) K)), (6, .int (nI i))] [] [ob x 10 [.ref xt, .ref xn, .ref xr, .ref xa, .ref xs, .ref xf, .ref xw, .ref xi, .int (nI sn), .long sd, .ref xe, .ref xp, .ref xg, .ref xl, .ref xk, .ref xh, .ref xv], ob xn 1 [.ref na, .ref nb], ob na 6 [.int (nI (p 0)), .int (nI (p 2)), .ref nla], aI G nla 10 (nF (gz p)), ob nb 6 [.int (nI (p 1)), .int (nI (p 3)), .ref nlb], aI G nlb 10 (nF (go p)), ob xr 1 [.ref ra, .ref rb], ob ra 6 [.int (nI (p 0)), .int (nI (p 2)), .ref rla], aI G rla 10 (nF (gz p)), ob rb 6 [.int (nI (p 1)), .int (nI (p 3)), .ref rlb], aI G rlb 10 (nF (go p)), ob xl 4 [.ref xlm, .ref xlr, .int (nI lqA)], aI G xlm 4 (nF lmA), aI G xlr 128 (nF lrA)] := by
          intro fuel_10
          induction fuel_10 with
          | zero => intro i K lqA lmA lrA hi hK hm; exact absurd hm (Nat.not_lt_zero _)
          | succ fuel_10 ih_12 =>
            intro i K lqA lmA lrA hi hK hm_13
            refine wc_iload X 79 6 dX10_mended_79 rfl ?_
            refine wc_iload_n X 81 3 dX10_mended_81 rfl ?_
            refine wc_icmp_geN X 82 164 dX10_mended_82 (by decide) (by omega) (by omega) (fun c82_14 => ?_) (fun c82_14 => ?_)
            ·
              refine wc_iload_n X 164 2 dX10_mended_164 rfl ?_
              refine wc_if_neN X 165 173 dX10_mended_165 (by decide) (by decide) (fun c165_15 => ?_) (fun c165_15 => ?_)
              ·
                exact absurd c165_15 (by decide)
              ·
                refine wc_iload X 168 4 dX10_mended_168 rfl ?_
                refine wc_goto X 170 175 dX10_mended_170 (by decide) ?_
                exact ret 175 _ (nI (cnt (mB p 0) K)) _ dX10_mended_175 (⟨_, _, _, by rw [show K = 2 * p 0 * p 0 by rw [hK, show i = p 0 by omega]; exact md_n], rfl⟩)
            ·
              refine wc_iconstN X 85 1 dX10_mended_85 ?_
              refine wc_istore X 86 (L' := [(0, .ref x), (1, .int (nI 0)), (2, .int (nI 0)), (3, .int (nI (p 0))), (4, .int (nI (cnt (mB p 0) K))), (5, .int (fsA (mB p 0) (mCd (p 0)) K)), (6, .int (nI i)), (7, .int (nI 1))]) dX10_mended_86 (by decide) rfl ?_
              have LP_17 : ∀ (fuel_16 : Nat) (c : Nat) (K2 : Nat) (lqB : Nat) (lmB : Nat → Nat) (lrB : Nat → Nat), (1 ≤ c) → (c ≤ 3) → (K2 = i * (2 * p 0) + (c - 1) * p 0) → 3 - c < fuel_16 → Wc Γ 0 0 88 [(0, .ref x), (1, .int (nI 0)), (2, .int (nI 0)), (3, .int (nI (p 0))), (4, .int (nI (cnt (mB p 0) K2))), (5, .int (fsA (mB p 0) (mCd (p 0)) K2)), (6, .int (nI i)), (7, .int (nI c))] [] [ob x 10 [.ref xt, .ref xn, .ref xr, .ref xa, .ref xs, .ref xf, .ref xw, .ref xi, .int (nI sn), .long sd, .ref xe, .ref xp, .ref xg, .ref xl, .ref xk, .ref xh, .ref xv], ob xn 1 [.ref na, .ref nb], ob na 6 [.int (nI (p 0)), .int (nI (p 2)), .ref nla], aI G nla 10 (nF (gz p)), ob nb 6 [.int (nI (p 1)), .int (nI (p 3)), .ref nlb], aI G nlb 10 (nF (go p)), ob xr 1 [.ref ra, .ref rb], ob ra 6 [.int (nI (p 0)), .int (nI (p 2)), .ref rla], aI G rla 10 (nF (gz p)), ob rb 6 [.int (nI (p 1)), .int (nI (p 3)), .ref rlb], aI G rlb 10 (nF (go p)), ob xl 4 [.ref xlm, .ref xlr, .int (nI lqB)], aI G xlm 4 (nF lmB), aI G xlr 128 (nF lrB)] := by
                intro fuel_16
                induction fuel_16 with
                | zero => intro c K2 lqB lmB lrB hc1 hc3 hK2 hm; exact absurd hm (Nat.not_lt_zero _)
                | succ fuel_16 ih_18 =>
                  intro c K2 lqB lmB lrB hc1 hc3 hK2 hm_19
                  refine wc_iload X 88 7 dX10_mended_88 rfl ?_
                  refine wc_iconstN X 90 2 dX10_mended_90 ?_
                  refine wc_icmp_gtN X 91 158 dX10_mended_91 (by decide) (by omega) (by decide) (fun c91_20 => ?_) (fun c91_20 => ?_)
                  ·
                    refine wc_iincN X 158 6 (L' := [(0, .ref x), (1, .int (nI 0)), (2, .int (nI 0)), (3, .int (nI (p 0))), (4, .int (nI (cnt (mB p 0) K2))), (5, .int (fsA (mB p 0) (mCd (p 0)) K2)), (6, .int (nI (i + 1))), (7, .int (nI c))]) dX10_mended_158 rfl (by decide) rfl ?_
                    refine wc_goto X 161 79 dX10_mended_161 (by decide) ?_
                    refine wc_loc [0, 1, 2, 3, 4, 5, 6] (L' := [(0, .ref x), (1, .int (nI 0)), (2, .int (nI 0)), (3, .int (nI (p 0))), (4, .int (nI (cnt (mB p 0) K2))), (5, .int (fsA (mB p 0) (mCd (p 0)) K2)), (6, .int (nI (i + 1)))]) rfl ?_
                    refine wc_L (L' := [(0, .ref x), (1, .int (nI 0)), (2, .int (nI 0)), (3, .int (nI (p 0))), (4, .int (nI (cnt (mB p 0) K2))), (5, .int (fsA (mB p 0) (mCd (p 0)) K2)), (6, .int (nI (i + 1)))]) (by rfl) ?_
                    exact ih_12 (i + 1) K2 lqB lmB lrB (by omega) (by rw [hK2, show c = 3 by omega]; exact md_c) (by omega)
                  ·
                    refine wc_iconstN X 94 0 dX10_mended_94 ?_
                    refine wc_istore X 95 (L' := [(0, .ref x), (1, .int (nI 0)), (2, .int (nI 0)), (3, .int (nI (p 0))), (4, .int (nI (cnt (mB p 0) K2))), (5, .int (fsA (mB p 0) (mCd (p 0)) K2)), (6, .int (nI i)), (7, .int (nI c)), (8, .int (nI 0))]) dX10_mended_95 (by decide) rfl ?_
                    have LP_22 : ∀ (fuel_21 : Nat) (t : Nat) (K3 : Nat) (lqC : Nat) (lmC : Nat → Nat) (lrC : Nat → Nat), (t ≤ p 0) → (K3 = i * (2 * p 0) + (c - 1) * p 0 + t) → p 0 - t < fuel_21 → Wc Γ 0 0 97 [(0, .ref x), (1, .int (nI 0)), (2, .int (nI 0)), (3, .int (nI (p 0))), (4, .int (nI (cnt (mB p 0) K3))), (5, .int (fsA (mB p 0) (mCd (p 0)) K3)), (6, .int (nI i)), (7, .int (nI c)), (8, .int (nI t))] [] [ob x 10 [.ref xt, .ref xn, .ref xr, .ref xa, .ref xs, .ref xf, .ref xw, .ref xi, .int (nI sn), .long sd, .ref xe, .ref xp, .ref xg, .ref xl, .ref xk, .ref xh, .ref xv], ob xn 1 [.ref na, .ref nb], ob na 6 [.int (nI (p 0)), .int (nI (p 2)), .ref nla], aI G nla 10 (nF (gz p)), ob nb 6 [.int (nI (p 1)), .int (nI (p 3)), .ref nlb], aI G nlb 10 (nF (go p)), ob xr 1 [.ref ra, .ref rb], ob ra 6 [.int (nI (p 0)), .int (nI (p 2)), .ref rla], aI G rla 10 (nF (gz p)), ob rb 6 [.int (nI (p 1)), .int (nI (p 3)), .ref rlb], aI G rlb 10 (nF (go p)), ob xl 4 [.ref xlm, .ref xlr, .int (nI lqC)], aI G xlm 4 (nF lmC), aI G xlr 128 (nF lrC)] := by
                      intro fuel_21
                      induction fuel_21 with
                      | zero => intro t K3 lqC lmC lrC ht hK3 hm; exact absurd hm (Nat.not_lt_zero _)
                      | succ fuel_21 ih_23 =>
                        intro t K3 lqC lmC lrC ht hK3 hm_24
                        refine wc_iload X 97 8 dX10_mended_97 rfl ?_
                        refine wc_iload_n X 99 3 dX10_mended_99 rfl ?_
                        refine wc_icmp_geN X 100 152 dX10_mended_100 (by decide) (by omega) (by omega) (fun c100_25 => ?_) (fun c100_25 => ?_)
                        ·
                          refine wc_iincN X 152 7 (L' := [(0, .ref x), (1, .int (nI 0)), (2, .int (nI 0)), (3, .int (nI (p 0))), (4, .int (nI (cnt (mB p 0) K3))), (5, .int (fsA (mB p 0) (mCd (p 0)) K3)), (6, .int (nI i)), (7, .int (nI (c + 1))), (8, .int (nI t))]) dX10_mended_152 rfl (by decide) rfl ?_
                          refine wc_goto X 155 88 dX10_mended_155 (by decide) ?_
                          refine wc_loc [0, 1, 2, 3, 4, 5, 6, 7] (L' := [(0, .ref x), (1, .int (nI 0)), (2, .int (nI 0)), (3, .int (nI (p 0))), (4, .int (nI (cnt (mB p 0) K3))), (5, .int (fsA (mB p 0) (mCd (p 0)) K3)), (6, .int (nI i)), (7, .int (nI (c + 1)))]) rfl ?_
                          refine wc_L (L' := [(0, .ref x), (1, .int (nI 0)), (2, .int (nI 0)), (3, .int (nI (p 0))), (4, .int (nI (cnt (mB p 0) K3))), (5, .int (fsA (mB p 0) (mCd (p 0)) K3)), (6, .int (nI i)), (7, .int (nI (c + 1)))]) (by rfl) ?_
                          exact ih_18 (c + 1) K3 lqC lmC lrC (by omega) (by omega) (by rw [hK3, show t = p 0 by omega]; exact md_t hc1) (by omega)
                        ·
                          have hd := md_dec hc1 (show c ≤ 2 by omega) (show t < p 0 by omega) hK3
                          refine wc_aload_n X 103 0 dX10_mended_103 rfl ?_
                          refine wc_iload_n X 104 1 dX10_mended_104 rfl ?_
                          refine wc_iload X 105 6 dX10_mended_105 rfl ?_
                          refine wc_iload X 107 7 dX10_mended_107 rfl ?_
                          refine wc_iload X 109 8 dX10_mended_109 rfl ?_
                          refine wc_mutV X Y 111 [0, 6, 7, 8, 9, 10, 11, 12, 13] [1, 2, 3, 4, 5] 0 (c_X10_mends0 l G x xt xn xr xa xs xf xw xi sn sd xe xp xg xl xk xh xv ra rla rb rlb p xlm xlr lqC lmC lrC i c t (by first | assumption | omega) (by omega) (by first | assumption | omega) (by omega) (by omega)) yv_X10_mends kd10 rfl rfl (wr := [ob xn 1 [.ref na, .ref nb], ob na 6 [.int (nI (p 0)), .int (nI (p 2)), .ref nla], aI G nla 10 (nF (gz p)), ob nb 6 [.int (nI (p 1)), .int (nI (p 3)), .ref nlb], aI G nlb 10 (nF (go p))]) rfl ⟨rfl, rfl, rfl⟩ q_655 ⟨rfl, rfl⟩ ⟨rfl, rfl⟩ ⟨rfl, rfl⟩ rfl rfl rfl dX10_mended_111 (fun v w hp_26 => ?_)
                          obtain ⟨lq2_27, lm2_28, lr2_29, rfl, rfl⟩ := hp_26
                          refine wc_perm Y [5, 0, 1, 2, 3, 4, 6, 7, 8, 9, 10, 11, 12, 13] [ob x 10 [.ref xt, .ref xn, .ref xr, .ref xa, .ref xs, .ref xf, .ref xw, .ref xi, .int (nI sn), .long sd, .ref xe, .ref xp, .ref xg, .ref xl, .ref xk, .ref xh, .ref xv], ob xn 1 [.ref na, .ref nb], ob na 6 [.int (nI (p 0)), .int (nI (p 2)), .ref nla], aI G nla 10 (nF (gz p)), ob nb 6 [.int (nI (p 1)), .int (nI (p 3)), .ref nlb], aI G nlb 10 (nF (go p)), ob xr 1 [.ref ra, .ref rb], ob ra 6 [.int (nI (p 0)), .int (nI (p 2)), .ref rla], aI G rla 10 (nF (gz p)), ob rb 6 [.int (nI (p 1)), .int (nI (p 3)), .ref rlb], aI G rlb 10 (nF (go p)), ob xl 4 [.ref xlm, .ref xlr, .int (nI lq2_27)], aI G xlm 4 (nF lm2_28), aI G xlr 128 (nF lr2_29)] rfl rfl ?_
                          show Wc Γ 0 0 114 [(0, .ref x), (1, .int (nI 0)), (2, .int (nI 0)), (3, .int (nI (p 0))), (4, .int (nI (cnt (mB p 0) K3))), (5, .int (fsA (mB p 0) (mCd (p 0)) K3)), (6, .int (nI i)), (7, .int (nI c)), (8, .int (nI t))] [.int (b2i (mEd p 0 i c t))] [ob x 10 [.ref xt, .ref xn, .ref xr, .ref xa, .ref xs, .ref xf, .ref xw, .ref xi, .int (nI sn), .long sd, .ref xe, .ref xp, .ref xg, .ref xl, .ref xk, .ref xh, .ref xv], ob xn 1 [.ref na, .ref nb], ob na 6 [.int (nI (p 0)), .int (nI (p 2)), .ref nla], aI G nla 10 (nF (gz p)), ob nb 6 [.int (nI (p 1)), .int (nI (p 3)), .ref nlb], aI G nlb 10 (nF (go p)), ob xr 1 [.ref ra, .ref rb], ob ra 6 [.int (nI (p 0)), .int (nI (p 2)), .ref rla], aI G rla 10 (nF (gz p)), ob rb 6 [.int (nI (p 1)), .int (nI (p 3)), .ref rlb], aI G rlb 10 (nF (go p)), ob xl 4 [.ref xlm, .ref xlr, .int (nI lq2_27)], aI G xlm 4 (nF lm2_28), aI G xlr 128 (nF lr2_29)]
                          have heq : mEd p 0 i c t = mB p 0 K3 := by unfold mB; rw [hd.1, hd.2.1, hd.2.2]
                          have hcode : 100 * i + 10 * c + t = mCd (p 0) K3 := by unfold mCd; rw [hd.1, hd.2.1, hd.2.2]
                          refine wc_if_eqB X 114 146 dX10_mended_114 (by decide) (fun c114_30 => ?_) (fun c114_30 => ?_)
                          ·
                            refine wc_iincN X 146 8 (L' := [(0, .ref x), (1, .int (nI 0)), (2, .int (nI 0)), (3, .int (nI (p 0))), (4, .int (nI (cnt (mB p 0) K3))), (5, .int (fsA (mB p 0) (mCd (p 0)) K3)), (6, .int (nI i)), (7, .int (nI c)), (8, .int (nI (t + 1)))]) dX10_mended_146 rfl (by decide) rfl ?_
                            refine wc_goto X 149 97 dX10_mended_149 (by decide) ?_
                            have e_31 : cnt (mB p 0) K3 = cnt (mB p 0) (K3 + 1) := cnt_no heq c114_30
                            have e_32 : fsA (mB p 0) (mCd (p 0)) K3 = fsA (mB p 0) (mCd (p 0)) (K3 + 1) := fs_no heq c114_30
                            refine wc_L (L' := [(0, .ref x), (1, .int (nI 0)), (2, .int (nI 0)), (3, .int (nI (p 0))), (4, .int (nI (cnt (mB p 0) (K3 + 1)))), (5, .int (fsA (mB p 0) (mCd (p 0)) (K3 + 1))), (6, .int (nI i)), (7, .int (nI c)), (8, .int (nI (t + 1)))]) (by first | (rw [e_31, e_32]; done) | (rw [e_31, e_32]; rfl) | (rw [← e_31, ← e_32]; done) | rfl) ?_
                            exact ih_23 (t + 1) (K3 + 1) lq2_27 lm2_28 lr2_29 (by omega) (by rw [hK3]; rfl) (by omega)
                          ·
                            refine wc_iload X 117 4 dX10_mended_117 rfl ?_
                            refine wc_if_neN X 119 139 dX10_mended_119 (by decide) (Nat.lt_of_le_of_lt (cnt_all _ _) (md_bd (by omega) (by omega) hc1 (by omega) (by omega) hK3)) (fun c119_33 => ?_) (fun c119_33 => ?_)
                            ·
                              refine wc_iload X 139 5 dX10_mended_139 rfl ?_
                              refine wc_istore X 141 (L' := [(0, .ref x), (1, .int (nI 0)), (2, .int (nI 0)), (3, .int (nI (p 0))), (4, .int (nI (cnt (mB p 0) K3))), (5, .int (fsA (mB p 0) (mCd (p 0)) K3)), (6, .int (nI i)), (7, .int (nI c)), (8, .int (nI t))]) dX10_mended_141 (by decide) rfl ?_
                              refine wc_iincN X 143 4 (L' := [(0, .ref x), (1, .int (nI 0)), (2, .int (nI 0)), (3, .int (nI (p 0))), (4, .int (nI ((cnt (mB p 0) K3) + 1))), (5, .int (fsA (mB p 0) (mCd (p 0)) K3)), (6, .int (nI i)), (7, .int (nI c)), (8, .int (nI t))]) dX10_mended_143 rfl (by decide) rfl ?_
                              refine wc_iincN X 146 8 (L' := [(0, .ref x), (1, .int (nI 0)), (2, .int (nI 0)), (3, .int (nI (p 0))), (4, .int (nI ((cnt (mB p 0) K3) + 1))), (5, .int (fsA (mB p 0) (mCd (p 0)) K3)), (6, .int (nI i)), (7, .int (nI c)), (8, .int (nI (t + 1)))]) dX10_mended_146 rfl (by decide) rfl ?_
                              refine wc_goto X 149 97 dX10_mended_149 (by decide) ?_
                              have e_34 : (cnt (mB p 0) K3) + 1 = cnt (mB p 0) (K3 + 1) := cnt_ye heq c114_30
                              have e_35 : fsA (mB p 0) (mCd (p 0)) K3 = fsA (mB p 0) (mCd (p 0)) (K3 + 1) := fs_y1 heq c114_30 c119_33
                              refine wc_L (L' := [(0, .ref x), (1, .int (nI 0)), (2, .int (nI 0)), (3, .int (nI (p 0))), (4, .int (nI (cnt (mB p 0) (K3 + 1)))), (5, .int (fsA (mB p 0) (mCd (p 0)) (K3 + 1))), (6, .int (nI i)), (7, .int (nI c)), (8, .int (nI (t + 1)))]) (by first | (rw [e_34, e_35]; done) | (rw [e_34, e_35]; rfl) | (rw [← e_34, ← e_35]; done) | rfl) ?_
                              exact ih_23 (t + 1) (K3 + 1) lq2_27 lm2_28 lr2_29 (by omega) (by rw [hK3]; rfl) (by omega)
                            ·
                              refine wc_bipush X 122 (nI 100) dX10_mended_122 (by decide) ?_
                              refine wc_iload X 124 6 dX10_mended_124 rfl ?_
                              refine wc_imulN X 126 dX10_mended_126 ?_
                              refine wc_bipush X 127 (nI 10) dX10_mended_127 (by decide) ?_
                              refine wc_iload X 129 7 dX10_mended_129 rfl ?_
                              refine wc_imulN X 131 dX10_mended_131 ?_
                              refine wc_iaddN X 132 dX10_mended_132 ?_
                              refine wc_iload X 133 8 dX10_mended_133 rfl ?_
                              refine wc_iaddN X 135 dX10_mended_135 ?_
                              refine wc_goto X 136 141 dX10_mended_136 (by decide) ?_
                              refine wc_istore X 141 (L' := [(0, .ref x), (1, .int (nI 0)), (2, .int (nI 0)), (3, .int (nI (p 0))), (4, .int (nI (cnt (mB p 0) K3))), (5, .int (nI (((100 * i) + (10 * c)) + t))), (6, .int (nI i)), (7, .int (nI c)), (8, .int (nI t))]) dX10_mended_141 (by decide) rfl ?_
                              refine wc_iincN X 143 4 (L' := [(0, .ref x), (1, .int (nI 0)), (2, .int (nI 0)), (3, .int (nI (p 0))), (4, .int (nI ((cnt (mB p 0) K3) + 1))), (5, .int (nI (((100 * i) + (10 * c)) + t))), (6, .int (nI i)), (7, .int (nI c)), (8, .int (nI t))]) dX10_mended_143 rfl (by decide) rfl ?_
                              refine wc_iincN X 146 8 (L' := [(0, .ref x), (1, .int (nI 0)), (2, .int (nI 0)), (3, .int (nI (p 0))), (4, .int (nI ((cnt (mB p 0) K3) + 1))), (5, .int (nI (((100 * i) + (10 * c)) + t))), (6, .int (nI i)), (7, .int (nI c)), (8, .int (nI (t + 1)))]) dX10_mended_146 rfl (by decide) rfl ?_
                              refine wc_goto X 149 97 dX10_mended_149 (by decide) ?_
                              have e_36 : (cnt (mB p 0) K3) + 1 = cnt (mB p 0) (K3 + 1) := cnt_ye heq c114_30
                              have e_37 : (.int (nI (((100 * i) + (10 * c)) + t)) : Value) = .int (fsA (mB p 0) (mCd (p 0)) (K3 + 1)) := congrArg Value.int (fs_y0 heq c114_30 c119_33 hcode)
                              refine wc_L (L' := [(0, .ref x), (1, .int (nI 0)), (2, .int (nI 0)), (3, .int (nI (p 0))), (4, .int (nI (cnt (mB p 0) (K3 + 1)))), (5, .int (fsA (mB p 0) (mCd (p 0)) (K3 + 1))), (6, .int (nI i)), (7, .int (nI c)), (8, .int (nI (t + 1)))]) (by first | (rw [e_36, e_37]; done) | (rw [e_36, e_37]; rfl) | (rw [← e_36, ← e_37]; done) | rfl) ?_
                              exact ih_23 (t + 1) (K3 + 1) lq2_27 lm2_28 lr2_29 (by omega) (by rw [hK3]; rfl) (by omega)
                    exact LP_22 (p 0 - 0 + 1) 0 K2 lqB lmB lrB (Nat.zero_le _) (by rw [hK2]; rfl) (Nat.lt_succ_self _)
              exact LP_17 (3 - 1 + 1) 1 K lqA lmA lrA (by decide) (by decide) (by rw [hK]; simp) (Nat.lt_succ_self _)
        have e_38 : 0 = cnt (mB p 0) 0 := rfl
        have e_39 : (-9) = fsA (mB p 0) (mCd (p 0)) 0 := rfl
        refine wc_L (L' := [(0, .ref x), (1, .int (nI 0)), (2, .int (nI 0)), (3, .int (nI (p 0))), (4, .int (nI (cnt (mB p 0) 0))), (5, .int (fsA (mB p 0) (mCd (p 0)) 0)), (6, .int (nI 0))]) (by first | (rw [e_38, e_39]; done) | (rw [e_38, e_39]; rfl) | (rw [← e_38, ← e_39]; done) | rfl) ?_
        exact LP_11 (p 0 - 0 + 1) 0 0 n2_7 mt2_5 row2_6 (Nat.zero_le _) (Nat.zero_mul _).symm (Nat.lt_succ_self _)
      ·
        exact absurd c32_8 (by decide)
    ·
      exact absurd c15_3 (by decide)
  ·
    exact absurd c4_1 (by decide)

set_option maxHeartbeats 4000000 in
set_option maxRecDepth 100000 in
theorem c_X10_mendedW01 (l : Launch) (G : GG) (x xt xn xr xa xs xf xw xi sn : Nat) (sd : Int64) (xe xp xg xl xk xh xv : Nat) (na nla nb nlb : Nat) (p : Nat → Nat) (xlm xlr lq : Nat) (lm lr : Nat → Nat) (hr : pgOk p) (hw : withP p = true) : MM l G yX10_mended (Cond.code yX10_mended cX10_mended 9 (some .int)) { frames := 4, cells := 0, slots := 0, locals := 95 } [.ref x, .int (nI 0), .int (nI 1)] [ob x 10 [.ref xt, .ref xn, .ref xr, .ref xa, .ref xs, .ref xf, .ref xw, .ref xi, .int (nI sn), .long sd, .ref xe, .ref xp, .ref xg, .ref xl, .ref xk, .ref xh, .ref xv], ob xn 1 [.ref na, .ref nb], ob na 6 [.int (nI (p 0)), .int (nI (p 2)), .ref nla], aI G nla 10 (nF (gz p)), ob nb 6 [.int (nI (p 1)), .int (nI (p 3)), .ref nlb], aI G nlb 10 (nF (go p)), ob xl 4 [.ref xlm, .ref xlr, .int (nI lq)], aI G xlm 4 (nF lm), aI G xlr 128 (nF lr)] (fun (v : Option Value) (w : va_W) => ∃ (lq2 : Nat) (lm2 lr2 : Nat → Nat), v = some (.int (-9)) ∧ w = [ob x 10 [.ref xt, .ref xn, .ref xr, .ref xa, .ref xs, .ref xf, .ref xw, .ref xi, .int (nI sn), .long sd, .ref xe, .ref xp, .ref xg, .ref xl, .ref xk, .ref xh, .ref xv], ob xn 1 [.ref na, .ref nb], ob na 6 [.int (nI (p 0)), .int (nI (p 2)), .ref nla], aI G nla 10 (nF (gz p)), ob nb 6 [.int (nI (p 1)), .int (nI (p 3)), .ref nlb], aI G nlb 10 (nF (go p)), ob xl 4 [.ref xlm, .ref xlr, .int (nI lq2)], aI G xlm 4 (nF lm2), aI G xlr 128 (nF lr2)]) 0 0 := by
  refine MM.ofI (by decide) rfl (fun Γ X Y hnm ret => ?_)
  show Wc Γ 0 0 0 [(0, .ref x), (1, .int (nI 0)), (2, .int (nI 1))] [] [ob x 10 [.ref xt, .ref xn, .ref xr, .ref xa, .ref xs, .ref xf, .ref xw, .ref xi, .int (nI sn), .long sd, .ref xe, .ref xp, .ref xg, .ref xl, .ref xk, .ref xh, .ref xv], ob xn 1 [.ref na, .ref nb], ob na 6 [.int (nI (p 0)), .int (nI (p 2)), .ref nla], aI G nla 10 (nF (gz p)), ob nb 6 [.int (nI (p 1)), .int (nI (p 3)), .ref nlb], aI G nlb 10 (nF (go p)), ob xl 4 [.ref xlm, .ref xlr, .int (nI lq)], aI G xlm 4 (nF lm), aI G xlr 128 (nF lr)]
  have hn0 := hr.2.1
  have hn01 := hr.1
  have hn1 := hr.2.2.2.1
  have hn11 := hr.2.2.1
  have he0 := pg_e0 hr
  have he1 := hr.2.2.2.2.1 3
  have hg0 := hr.2.2.2.2.2.1
  have hg1 := (fun j => hr.2.2.2.2.1 (12 + j) : ∀ j, go p j < 32)
  have hg0n := (hr.2.2.2.2.2.2.1 0 (by decide) : ∀ j, gz p j < 2 ^ p 0)
  have hg1n := (hr.2.2.2.2.2.2.1 1 (by decide) : ∀ j, go p j < 2 ^ p 1)
  have he0n := hr.2.2.2.2.2.2.2 0 (by decide)
  have he1n := hr.2.2.2.2.2.2.2 1 (by decide)
  have hg0w := (fun j => Nat.lt_trans (hg0 j) (by decide) : ∀ j, gz p j < 32)
  refine wc_iload_n X 0 1 dX10_mended_0 rfl ?_
  refine wc_callS X 1 [] (c_X10_isMachine l G (nI 0) ) ys_X10_isMachine rfl q_400 ⟨rfl, rfl⟩ ⟨rfl, rfl⟩ ⟨rfl, rfl⟩ rfl rfl rfl dX10_mended_1 ?_
  refine wc_topi (b2i true) (by decide) ?_
  refine wc_if_neB X 4 9 dX10_mended_4 (by decide) (fun c4_1 => ?_) (fun c4_1 => ?_)
  ·
    refine wc_iload_n X 9 2 dX10_mended_9 rfl ?_
    refine wc_ifltF X 10 (tgt := 18) dX10_mended_10 (by decide) (by decide) ?_
    refine wc_iload_n X 13 2 dX10_mended_13 rfl ?_
    refine wc_iconstN X 14 1 dX10_mended_14 ?_
    refine wc_icmp_leN X 15 21 dX10_mended_15 (by decide) (by decide) (by decide) (fun c15_3 => ?_) (fun c15_3 => ?_)
    ·
      refine wc_aload_n X 21 0 dX10_mended_21 rfl ?_
      refine wc_get X 22 0 13 kd10 rfl (by decide) q_246 rfl dX10_mended_22 ?_
      refine wc_aload_n X 25 0 dX10_mended_25 rfl ?_
      refine wc_get X 26 0 1 kd10 rfl (by decide) q_234 rfl dX10_mended_26 ?_
      refine wc_mutV X Y 29 [6, 7, 8, 1, 2, 3, 4, 5] [0] 6 (c_X4_holds l G xl xlm xlr lq lm lr xn na nla (p 0) (p 2) (gz p) nb nlb (p 1) (p 3) (go p) (by first | assumption | omega) (by first | assumption | omega) (by first | assumption | omega) (by first | assumption | omega) (by first | assumption | omega) (by first | assumption | omega) (by first | assumption | omega) (by first | assumption | omega) (by first | assumption | omega)) yv_X4_holds kd4 rfl rfl (wr := [ob x 10 [.ref xt, .ref xn, .ref xr, .ref xa, .ref xs, .ref xf, .ref xw, .ref xi, .int (nI sn), .long sd, .ref xe, .ref xp, .ref xg, .ref xl, .ref xk, .ref xh, .ref xv]]) rfl ⟨rfl, rfl, rfl⟩ q_503 ⟨rfl, rfl⟩ ⟨rfl, rfl⟩ ⟨rfl, rfl⟩ rfl rfl rfl dX10_mended_29 (fun v w hp_4 => ?_)
      obtain ⟨mt2_5, row2_6, n2_7, rfl, rfl⟩ := hp_4
      refine wc_perm Y [0, 4, 5, 6, 7, 8, 1, 2, 3] [ob x 10 [.ref xt, .ref xn, .ref xr, .ref xa, .ref xs, .ref xf, .ref xw, .ref xi, .int (nI sn), .long sd, .ref xe, .ref xp, .ref xg, .ref xl, .ref xk, .ref xh, .ref xv], ob xn 1 [.ref na, .ref nb], ob na 6 [.int (nI (p 0)), .int (nI (p 2)), .ref nla], aI G nla 10 (nF (gz p)), ob nb 6 [.int (nI (p 1)), .int (nI (p 3)), .ref nlb], aI G nlb 10 (nF (go p)), ob xl 4 [.ref xlm, .ref xlr, .int (nI n2_7)], aI G xlm 4 (nF mt2_5), aI G xlr 128 (nF row2_6)] rfl rfl ?_
      show Wc Γ 0 0 32 [(0, .ref x), (1, .int (nI 0)), (2, .int (nI 1))] [.int (b2i (withB (gz p) (p 0) (p 2) (go p) (p 1) (p 3)))] [ob x 10 [.ref xt, .ref xn, .ref xr, .ref xa, .ref xs, .ref xf, .ref xw, .ref xi, .int (nI sn), .long sd, .ref xe, .ref xp, .ref xg, .ref xl, .ref xk, .ref xh, .ref xv], ob xn 1 [.ref na, .ref nb], ob na 6 [.int (nI (p 0)), .int (nI (p 2)), .ref nla], aI G nla 10 (nF (gz p)), ob nb 6 [.int (nI (p 1)), .int (nI (p 3)), .ref nlb], aI G nlb 10 (nF (go p)), ob xl 4 [.ref xlm, .ref xlr, .int (nI n2_7)], aI G xlm 4 (nF mt2_5), aI G xlr 128 (nF row2_6)]
      refine wc_topi (b2i true) (congrArg b2i hw) ?_
      refine wc_if_eqB X 32 46 dX10_mended_32 (by decide) (fun c32_8 => ?_) (fun c32_8 => ?_)
      ·
        exact absurd c32_8 (by decide)
      ·
        refine wc_iload_n X 35 2 dX10_mended_35 rfl ?_
        refine wc_if_neN X 36 43 dX10_mended_36 (by decide) (by decide) (fun c36_9 => ?_) (fun c36_9 => ?_)
        ·
          refine wc_bipush X 43 (-9) dX10_mended_43 (by decide) ?_
          exact ret 45 _ (-9) _ dX10_mended_45 (⟨_, _, _, rfl, rfl⟩)
        ·
          exact absurd c36_9 (by decide)
    ·
      exact absurd c15_3 (by decide)
  ·
    exact absurd c4_1 (by decide)

set_option maxHeartbeats 4000000 in
set_option maxRecDepth 100000 in
theorem c_X10_mendedS01 (l : Launch) (G : GG) (x xt xn xr xa xs xf xw xi sn : Nat) (sd : Int64) (xe xp xg xl xk xh xv : Nat) (na nla nb nlb : Nat) (p : Nat → Nat) (ra rla r0 re : Nat) (rg : Nat → Nat) (rb rlb r1 rf : Nat) (rh : Nat → Nat) (xlm xlr lq : Nat) (lm lr : Nat → Nat) (hr : pgOk p) (hw : withP p = false) : MM l G yX10_mended (Cond.code yX10_mended cX10_mended 9 (some .int)) { frames := 5, cells := 0, slots := 0, locals := 122 } [.ref x, .int (nI 0), .int (nI 1)] [ob x 10 [.ref xt, .ref xn, .ref xr, .ref xa, .ref xs, .ref xf, .ref xw, .ref xi, .int (nI sn), .long sd, .ref xe, .ref xp, .ref xg, .ref xl, .ref xk, .ref xh, .ref xv], ob xn 1 [.ref na, .ref nb], ob na 6 [.int (nI (p 0)), .int (nI (p 2)), .ref nla], aI G nla 10 (nF (gz p)), ob nb 6 [.int (nI (p 1)), .int (nI (p 3)), .ref nlb], aI G nlb 10 (nF (go p)), ob xr 1 [.ref ra, .ref rb], ob ra 6 [.int (nI r0), .int (nI re), .ref rla], aI G rla 10 (nF rg), ob rb 6 [.int (nI r1), .int (nI rf), .ref rlb], aI G rlb 10 (nF rh), ob xl 4 [.ref xlm, .ref xlr, .int (nI lq)], aI G xlm 4 (nF lm), aI G xlr 128 (nF lr)] (fun (v : Option Value) (w : va_W) => ∃ (lq2 : Nat) (lm2 lr2 : Nat → Nat), v = some (.int (fsA (mB p 0) (mCd (p 0)) (2 * p 0 * p 0))) ∧ w = [ob x 10 [.ref xt, .ref xn, .ref xr, .ref xa, .ref xs, .ref xf, .ref xw, .ref xi, .int (nI sn), .long sd, .ref xe, .ref xp, .ref xg, .ref xl, .ref xk, .ref xh, .ref xv], ob xn 1 [.ref na, .ref nb], ob na 6 [.int (nI (p 0)), .int (nI (p 2)), .ref nla], aI G nla 10 (nF (gz p)), ob nb 6 [.int (nI (p 1)), .int (nI (p 3)), .ref nlb], aI G nlb 10 (nF (go p)), ob xr 1 [.ref ra, .ref rb], ob ra 6 [.int (nI (p 0)), .int (nI (p 2)), .ref rla], aI G rla 10 (nF (gz p)), ob rb 6 [.int (nI (p 1)), .int (nI (p 3)), .ref rlb], aI G rlb 10 (nF (go p)), ob xl 4 [.ref xlm, .ref xlr, .int (nI lq2)], aI G xlm 4 (nF lm2), aI G xlr 128 (nF lr2)]) 0 0 := by
  refine MM.ofI (by decide) rfl (fun Γ X Y hnm ret => ?_)
  show Wc Γ 0 0 0 [(0, .ref x), (1, .int (nI 0)), (2, .int (nI 1))] [] [ob x 10 [.ref xt, .ref xn, .ref xr, .ref xa, .ref xs, .ref xf, .ref xw, .ref xi, .int (nI sn), .long sd, .ref xe, .ref xp, .ref xg, .ref xl, .ref xk, .ref xh, .ref xv], ob xn 1 [.ref na, .ref nb], ob na 6 [.int (nI (p 0)), .int (nI (p 2)), .ref nla], aI G nla 10 (nF (gz p)), ob nb 6 [.int (nI (p 1)), .int (nI (p 3)), .ref nlb], aI G nlb 10 (nF (go p)), ob xr 1 [.ref ra, .ref rb], ob ra 6 [.int (nI r0), .int (nI re), .ref rla], aI G rla 10 (nF rg), ob rb 6 [.int (nI r1), .int (nI rf), .ref rlb], aI G rlb 10 (nF rh), ob xl 4 [.ref xlm, .ref xlr, .int (nI lq)], aI G xlm 4 (nF lm), aI G xlr 128 (nF lr)]
  have hn0 := hr.2.1
  have hn01 := hr.1
  have hn1 := hr.2.2.2.1
  have hn11 := hr.2.2.1
  have he0 := pg_e0 hr
  have he1 := hr.2.2.2.2.1 3
  have hg0 := hr.2.2.2.2.2.1
  have hg1 := (fun j => hr.2.2.2.2.1 (12 + j) : ∀ j, go p j < 32)
  have hg0n := (hr.2.2.2.2.2.2.1 0 (by decide) : ∀ j, gz p j < 2 ^ p 0)
  have hg1n := (hr.2.2.2.2.2.2.1 1 (by decide) : ∀ j, go p j < 2 ^ p 1)
  have he0n := hr.2.2.2.2.2.2.2 0 (by decide)
  have he1n := hr.2.2.2.2.2.2.2 1 (by decide)
  have hg0w := (fun j => Nat.lt_trans (hg0 j) (by decide) : ∀ j, gz p j < 32)
  have hbm := pgOk_m hr (show 0 < 2 by decide)
  refine wc_iload_n X 0 1 dX10_mended_0 rfl ?_
  refine wc_callS X 1 [] (c_X10_isMachine l G (nI 0) ) ys_X10_isMachine rfl q_400 ⟨rfl, rfl⟩ ⟨rfl, rfl⟩ ⟨rfl, rfl⟩ rfl rfl rfl dX10_mended_1 ?_
  refine wc_topi (b2i true) (by decide) ?_
  refine wc_if_neB X 4 9 dX10_mended_4 (by decide) (fun c4_1 => ?_) (fun c4_1 => ?_)
  ·
    refine wc_iload_n X 9 2 dX10_mended_9 rfl ?_
    refine wc_ifltF X 10 (tgt := 18) dX10_mended_10 (by decide) (by decide) ?_
    refine wc_iload_n X 13 2 dX10_mended_13 rfl ?_
    refine wc_iconstN X 14 1 dX10_mended_14 ?_
    refine wc_icmp_leN X 15 21 dX10_mended_15 (by decide) (by decide) (by decide) (fun c15_3 => ?_) (fun c15_3 => ?_)
    ·
      refine wc_aload_n X 21 0 dX10_mended_21 rfl ?_
      refine wc_get X 22 0 13 kd10 rfl (by decide) q_246 rfl dX10_mended_22 ?_
      refine wc_aload_n X 25 0 dX10_mended_25 rfl ?_
      refine wc_get X 26 0 1 kd10 rfl (by decide) q_234 rfl dX10_mended_26 ?_
      refine wc_mutV X Y 29 [11, 12, 13, 1, 2, 3, 4, 5] [0, 6, 7, 8, 9, 10] 11 (c_X4_holds l G xl xlm xlr lq lm lr xn na nla (p 0) (p 2) (gz p) nb nlb (p 1) (p 3) (go p) (by first | assumption | omega) (by first | assumption | omega) (by first | assumption | omega) (by first | assumption | omega) (by first | assumption | omega) (by first | assumption | omega) (by first | assumption | omega) (by first | assumption | omega) (by first | assumption | omega)) yv_X4_holds kd4 rfl rfl (wr := [ob x 10 [.ref xt, .ref xn, .ref xr, .ref xa, .ref xs, .ref xf, .ref xw, .ref xi, .int (nI sn), .long sd, .ref xe, .ref xp, .ref xg, .ref xl, .ref xk, .ref xh, .ref xv], ob xr 1 [.ref ra, .ref rb], ob ra 6 [.int (nI r0), .int (nI re), .ref rla], aI G rla 10 (nF rg), ob rb 6 [.int (nI r1), .int (nI rf), .ref rlb], aI G rlb 10 (nF rh)]) rfl ⟨rfl, rfl, rfl⟩ q_503 ⟨rfl, rfl⟩ ⟨rfl, rfl⟩ ⟨rfl, rfl⟩ rfl rfl rfl dX10_mended_29 (fun v w hp_4 => ?_)
      obtain ⟨mt2_5, row2_6, n2_7, rfl, rfl⟩ := hp_4
      refine wc_perm Y [0, 9, 10, 11, 12, 13, 1, 2, 3, 4, 5, 6, 7, 8] [ob x 10 [.ref xt, .ref xn, .ref xr, .ref xa, .ref xs, .ref xf, .ref xw, .ref xi, .int (nI sn), .long sd, .ref xe, .ref xp, .ref xg, .ref xl, .ref xk, .ref xh, .ref xv], ob xn 1 [.ref na, .ref nb], ob na 6 [.int (nI (p 0)), .int (nI (p 2)), .ref nla], aI G nla 10 (nF (gz p)), ob nb 6 [.int (nI (p 1)), .int (nI (p 3)), .ref nlb], aI G nlb 10 (nF (go p)), ob xr 1 [.ref ra, .ref rb], ob ra 6 [.int (nI r0), .int (nI re), .ref rla], aI G rla 10 (nF rg), ob rb 6 [.int (nI r1), .int (nI rf), .ref rlb], aI G rlb 10 (nF rh), ob xl 4 [.ref xlm, .ref xlr, .int (nI n2_7)], aI G xlm 4 (nF mt2_5), aI G xlr 128 (nF row2_6)] rfl rfl ?_
      show Wc Γ 0 0 32 [(0, .ref x), (1, .int (nI 0)), (2, .int (nI 1))] [.int (b2i (withB (gz p) (p 0) (p 2) (go p) (p 1) (p 3)))] [ob x 10 [.ref xt, .ref xn, .ref xr, .ref xa, .ref xs, .ref xf, .ref xw, .ref xi, .int (nI sn), .long sd, .ref xe, .ref xp, .ref xg, .ref xl, .ref xk, .ref xh, .ref xv], ob xn 1 [.ref na, .ref nb], ob na 6 [.int (nI (p 0)), .int (nI (p 2)), .ref nla], aI G nla 10 (nF (gz p)), ob nb 6 [.int (nI (p 1)), .int (nI (p 3)), .ref nlb], aI G nlb 10 (nF (go p)), ob xr 1 [.ref ra, .ref rb], ob ra 6 [.int (nI r0), .int (nI re), .ref rla], aI G rla 10 (nF rg), ob rb 6 [.int (nI r1), .int (nI rf), .ref rlb], aI G rlb 10 (nF rh), ob xl 4 [.ref xlm, .ref xlr, .int (nI n2_7)], aI G xlm 4 (nF mt2_5), aI G xlr 128 (nF row2_6)]
      refine wc_topi (b2i false) (congrArg b2i hw) ?_
      refine wc_if_eqB X 32 46 dX10_mended_32 (by decide) (fun c32_8 => ?_) (fun c32_8 => ?_)
      ·
        refine wc_aload_n X 46 0 dX10_mended_46 rfl ?_
        refine wc_get X 47 0 2 kd10 rfl (by decide) q_235 rfl dX10_mended_47 ?_
        refine wc_aload_n X 50 0 dX10_mended_50 rfl ?_
        refine wc_get X 51 0 1 kd10 rfl (by decide) q_234 rfl dX10_mended_51 ?_
        refine wc_mutV X Y 54 [6, 7, 8, 9, 10, 1, 2, 3, 4, 5] [0, 11, 12, 13] 6 (c_X1_copyFrom l G xr ra rla r0 re rg rb rlb r1 rf rh xn na nla (p 0) (p 2) (gz p) nb nlb (p 1) (p 3) (go p) ) yv_X1_copyFrom kd1 rfl rfl (wr := [ob x 10 [.ref xt, .ref xn, .ref xr, .ref xa, .ref xs, .ref xf, .ref xw, .ref xi, .int (nI sn), .long sd, .ref xe, .ref xp, .ref xg, .ref xl, .ref xk, .ref xh, .ref xv], ob xl 4 [.ref xlm, .ref xlr, .int (nI n2_7)], aI G xlm 4 (nF mt2_5), aI G xlr 128 (nF row2_6)]) rfl ⟨rfl, rfl, rfl⟩ q_374 ⟨rfl, rfl⟩ ⟨rfl, rfl⟩ ⟨rfl, rfl⟩ rfl rfl rfl dX10_mended_54 (fun v w hp_9 => ?_)
        obtain ⟨rfl, rfl⟩ := hp_9
        refine wc_perm Y [0, 9, 10, 11, 12, 13, 4, 5, 6, 7, 8, 1, 2, 3] [ob x 10 [.ref xt, .ref xn, .ref xr, .ref xa, .ref xs, .ref xf, .ref xw, .ref xi, .int (nI sn), .long sd, .ref xe, .ref xp, .ref xg, .ref xl, .ref xk, .ref xh, .ref xv], ob xn 1 [.ref na, .ref nb], ob na 6 [.int (nI (p 0)), .int (nI (p 2)), .ref nla], aI G nla 10 (nF (gz p)), ob nb 6 [.int (nI (p 1)), .int (nI (p 3)), .ref nlb], aI G nlb 10 (nF (go p)), ob xr 1 [.ref ra, .ref rb], ob ra 6 [.int (nI (p 0)), .int (nI (p 2)), .ref rla], aI G rla 10 (nF (gz p)), ob rb 6 [.int (nI (p 1)), .int (nI (p 3)), .ref rlb], aI G rlb 10 (nF (go p)), ob xl 4 [.ref xlm, .ref xlr, .int (nI n2_7)], aI G xlm 4 (nF mt2_5), aI G xlr 128 (nF row2_6)] rfl rfl ?_
        show Wc Γ 0 0 57 [(0, .ref x), (1, .int (nI 0)), (2, .int (nI 1))] [] [ob x 10 [.ref xt, .ref xn, .ref xr, .ref xa, .ref xs, .ref xf, .ref xw, .ref xi, .int (nI sn), .long sd, .ref xe, .ref xp, .ref xg, .ref xl, .ref xk, .ref xh, .ref xv], ob xn 1 [.ref na, .ref nb], ob na 6 [.int (nI (p 0)), .int (nI (p 2)), .ref nla], aI G nla 10 (nF (gz p)), ob nb 6 [.int (nI (p 1)), .int (nI (p 3)), .ref nlb], aI G nlb 10 (nF (go p)), ob xr 1 [.ref ra, .ref rb], ob ra 6 [.int (nI (p 0)), .int (nI (p 2)), .ref rla], aI G rla 10 (nF (gz p)), ob rb 6 [.int (nI (p 1)), .int (nI (p 3)), .ref rlb], aI G rlb 10 (nF (go p)), ob xl 4 [.ref xlm, .ref xlr, .int (nI n2_7)], aI G xlm 4 (nF mt2_5), aI G xlr 128 (nF row2_6)]
        refine wc_aload_n X 57 0 dX10_mended_57 rfl ?_
        refine wc_get X 58 0 1 kd10 rfl (by decide) q_234 rfl dX10_mended_58 ?_
        refine wc_iload_n X 61 1 dX10_mended_61 rfl ?_
        refine wc_callV X 62 [1] 1 (c_X1_of0 l G xn na nb ) yv_X1_of kd1 rfl rfl q_403 ⟨rfl, rfl⟩ ⟨rfl, rfl⟩ ⟨rfl, rfl⟩ rfl rfl rfl dX10_mended_62 ?_
        refine wc_get X 65 2 0 kd6 rfl (by decide) q_53 rfl dX10_mended_65 ?_
        refine wc_istore_n X 68 (L' := [(0, .ref x), (1, .int (nI 0)), (2, .int (nI 1)), (3, .int (nI (p 0)))]) dX10_mended_68 (by decide) rfl ?_
        refine wc_iconstN X 69 0 dX10_mended_69 ?_
        refine wc_istore X 70 (L' := [(0, .ref x), (1, .int (nI 0)), (2, .int (nI 1)), (3, .int (nI (p 0))), (4, .int (nI 0))]) dX10_mended_70 (by decide) rfl ?_
        refine wc_bipush X 72 (-9) dX10_mended_72 (by decide) ?_
        refine wc_istore X 74 (L' := [(0, .ref x), (1, .int (nI 0)), (2, .int (nI 1)), (3, .int (nI (p 0))), (4, .int (nI 0)), (5, .int (-9))]) dX10_mended_74 (by decide) rfl ?_
        refine wc_iconstN X 76 0 dX10_mended_76 ?_
        refine wc_istore X 77 (L' := [(0, .ref x), (1, .int (nI 0)), (2, .int (nI 1)), (3, .int (nI (p 0))), (4, .int (nI 0)), (5, .int (-9)), (6, .int (nI 0))]) dX10_mended_77 (by decide) rfl ?_
        have LP_11 : ∀ (fuel_10 : Nat) (i : Nat) (K : Nat) (lqA : Nat) (lmA : Nat → Nat) (lrA : Nat → Nat), (i ≤ p 0) → (K = i * (2 * p 0)) → p 0 - i < fuel_10 → Wc Γ 0 0 79 [(0, .ref x), (1, .int (nI 0)), (2, .int (nI 1)), (3, .int (nI (p 0))), (4, .int (nI (cnt (mB p 0) K))), (5, .int (fsA (mB p 0) (mCd (p 0)) K)), (6, .int (nI i))] [] [ob x 10 [.ref xt, .ref xn, .ref xr, .ref xa, .ref xs, .ref xf, .ref xw, .ref xi, .int (nI sn), .long sd, .ref xe, .ref xp, .ref xg, .ref xl, .ref xk, .ref xh, .ref xv], ob xn 1 [.ref na, .ref nb], ob na 6 [.int (nI (p 0)), .int (nI (p 2)), .ref nla], aI G nla 10 (nF (gz p)), ob nb 6 [.int (nI (p 1)), .int (nI (p 3)), .ref nlb], aI G nlb 10 (nF (go p)), ob xr 1 [.ref ra, .ref rb], ob ra 6 [.int (nI (p 0)), .int (nI (p 2)), .ref rla], aI G rla 10 (nF (gz p)), ob rb 6 [.int (nI (p 1)), .int (nI (p 3)), .ref rlb], aI G rlb 10 (nF (go p)), ob xl 4 [.ref xlm, .ref xlr, .int (nI lqA)], aI G xlm 4 (nF lmA), aI G xlr 128 (nF lrA)] := by
          intro fuel_10
          induction fuel_10 with
          | zero => intro i K lqA lmA lrA hi hK hm; exact absurd hm (Nat.not_lt_zero _)
          | succ fuel_10 ih_12 =>
            intro i K lqA lmA lrA hi hK hm_13
            refine wc_iload X 79 6 dX10_mended_79 rfl ?_
            refine wc_iload_n X 81 3 dX10_mended_81 rfl ?_
            refine wc_icmp_geN X 82 164 dX10_mended_82 (by decide) (by omega) (by omega) (fun c82_14 => ?_) (fun c82_14 => ?_)
            ·
              refine wc_iload_n X 164 2 dX10_mended_164 rfl ?_
              refine wc_if_neN X 165 173 dX10_mended_165 (by decide) (by decide) (fun c165_15 => ?_) (fun c165_15 => ?_)
              ·
                refine wc_iload X 173 5 dX10_mended_173 rfl ?_
                exact ret 175 _ (fsA (mB p 0) (mCd (p 0)) K) _ dX10_mended_175 (⟨_, _, _, by rw [show K = 2 * p 0 * p 0 by rw [hK, show i = p 0 by omega]; exact md_n], rfl⟩)
              ·
                exact absurd c165_15 (by decide)
            ·
              refine wc_iconstN X 85 1 dX10_mended_85 ?_
              refine wc_istore X 86 (L' := [(0, .ref x), (1, .int (nI 0)), (2, .int (nI 1)), (3, .int (nI (p 0))), (4, .int (nI (cnt (mB p 0) K))), (5, .int (fsA (mB p 0) (mCd (p 0)) K)), (6, .int (nI i)), (7, .int (nI 1))]) dX10_mended_86 (by decide) rfl ?_
              have LP_17 : ∀ (fuel_16 : Nat) (c : Nat) (K2 : Nat) (lqB : Nat) (lmB : Nat → Nat) (lrB : Nat → Nat), (1 ≤ c) → (c ≤ 3) → (K2 = i * (2 * p 0) + (c - 1) * p 0) → 3 - c < fuel_16 → Wc Γ 0 0 88 [(0, .ref x), (1, .int (nI 0)), (2, .int (nI 1)), (3, .int (nI (p 0))), (4, .int (nI (cnt (mB p 0) K2))), (5, .int (fsA (mB p 0) (mCd (p 0)) K2)), (6, .int (nI i)), (7, .int (nI c))] [] [ob x 10 [.ref xt, .ref xn, .ref xr, .ref xa, .ref xs, .ref xf, .ref xw, .ref xi, .int (nI sn), .long sd, .ref xe, .ref xp, .ref xg, .ref xl, .ref xk, .ref xh, .ref xv], ob xn 1 [.ref na, .ref nb], ob na 6 [.int (nI (p 0)), .int (nI (p 2)), .ref nla], aI G nla 10 (nF (gz p)), ob nb 6 [.int (nI (p 1)), .int (nI (p 3)), .ref nlb], aI G nlb 10 (nF (go p)), ob xr 1 [.ref ra, .ref rb], ob ra 6 [.int (nI (p 0)), .int (nI (p 2)), .ref rla], aI G rla 10 (nF (gz p)), ob rb 6 [.int (nI (p 1)), .int (nI (p 3)), .ref rlb], aI G rlb 10 (nF (go p)), ob xl 4 [.ref xlm, .ref xlr, .int (nI lqB)], aI G xlm 4 (nF lmB), aI G xlr 128 (nF lrB)] := by
                intro fuel_16
                induction fuel_16 with
                | zero => intro c K2 lqB lmB lrB hc1 hc3 hK2 hm; exact absurd hm (Nat.not_lt_zero _)
                | succ fuel_16 ih_18 =>
                  intro c K2 lqB lmB lrB hc1 hc3 hK2 hm_19
                  refine wc_iload X 88 7 dX10_mended_88 rfl ?_
                  refine wc_iconstN X 90 2 dX10_mended_90 ?_
                  refine wc_icmp_gtN X 91 158 dX10_mended_91 (by decide) (by omega) (by decide) (fun c91_20 => ?_) (fun c91_20 => ?_)
                  ·
                    refine wc_iincN X 158 6 (L' := [(0, .ref x), (1, .int (nI 0)), (2, .int (nI 1)), (3, .int (nI (p 0))), (4, .int (nI (cnt (mB p 0) K2))), (5, .int (fsA (mB p 0) (mCd (p 0)) K2)), (6, .int (nI (i + 1))), (7, .int (nI c))]) dX10_mended_158 rfl (by decide) rfl ?_
                    refine wc_goto X 161 79 dX10_mended_161 (by decide) ?_
                    refine wc_loc [0, 1, 2, 3, 4, 5, 6] (L' := [(0, .ref x), (1, .int (nI 0)), (2, .int (nI 1)), (3, .int (nI (p 0))), (4, .int (nI (cnt (mB p 0) K2))), (5, .int (fsA (mB p 0) (mCd (p 0)) K2)), (6, .int (nI (i + 1)))]) rfl ?_
                    refine wc_L (L' := [(0, .ref x), (1, .int (nI 0)), (2, .int (nI 1)), (3, .int (nI (p 0))), (4, .int (nI (cnt (mB p 0) K2))), (5, .int (fsA (mB p 0) (mCd (p 0)) K2)), (6, .int (nI (i + 1)))]) (by rfl) ?_
                    exact ih_12 (i + 1) K2 lqB lmB lrB (by omega) (by rw [hK2, show c = 3 by omega]; exact md_c) (by omega)
                  ·
                    refine wc_iconstN X 94 0 dX10_mended_94 ?_
                    refine wc_istore X 95 (L' := [(0, .ref x), (1, .int (nI 0)), (2, .int (nI 1)), (3, .int (nI (p 0))), (4, .int (nI (cnt (mB p 0) K2))), (5, .int (fsA (mB p 0) (mCd (p 0)) K2)), (6, .int (nI i)), (7, .int (nI c)), (8, .int (nI 0))]) dX10_mended_95 (by decide) rfl ?_
                    have LP_22 : ∀ (fuel_21 : Nat) (t : Nat) (K3 : Nat) (lqC : Nat) (lmC : Nat → Nat) (lrC : Nat → Nat), (t ≤ p 0) → (K3 = i * (2 * p 0) + (c - 1) * p 0 + t) → p 0 - t < fuel_21 → Wc Γ 0 0 97 [(0, .ref x), (1, .int (nI 0)), (2, .int (nI 1)), (3, .int (nI (p 0))), (4, .int (nI (cnt (mB p 0) K3))), (5, .int (fsA (mB p 0) (mCd (p 0)) K3)), (6, .int (nI i)), (7, .int (nI c)), (8, .int (nI t))] [] [ob x 10 [.ref xt, .ref xn, .ref xr, .ref xa, .ref xs, .ref xf, .ref xw, .ref xi, .int (nI sn), .long sd, .ref xe, .ref xp, .ref xg, .ref xl, .ref xk, .ref xh, .ref xv], ob xn 1 [.ref na, .ref nb], ob na 6 [.int (nI (p 0)), .int (nI (p 2)), .ref nla], aI G nla 10 (nF (gz p)), ob nb 6 [.int (nI (p 1)), .int (nI (p 3)), .ref nlb], aI G nlb 10 (nF (go p)), ob xr 1 [.ref ra, .ref rb], ob ra 6 [.int (nI (p 0)), .int (nI (p 2)), .ref rla], aI G rla 10 (nF (gz p)), ob rb 6 [.int (nI (p 1)), .int (nI (p 3)), .ref rlb], aI G rlb 10 (nF (go p)), ob xl 4 [.ref xlm, .ref xlr, .int (nI lqC)], aI G xlm 4 (nF lmC), aI G xlr 128 (nF lrC)] := by
                      intro fuel_21
                      induction fuel_21 with
                      | zero => intro t K3 lqC lmC lrC ht hK3 hm; exact absurd hm (Nat.not_lt_zero _)
                      | succ fuel_21 ih_23 =>
                        intro t K3 lqC lmC lrC ht hK3 hm_24
                        refine wc_iload X 97 8 dX10_mended_97 rfl ?_
                        refine wc_iload_n X 99 3 dX10_mended_99 rfl ?_
                        refine wc_icmp_geN X 100 152 dX10_mended_100 (by decide) (by omega) (by omega) (fun c100_25 => ?_) (fun c100_25 => ?_)
                        ·
                          refine wc_iincN X 152 7 (L' := [(0, .ref x), (1, .int (nI 0)), (2, .int (nI 1)), (3, .int (nI (p 0))), (4, .int (nI (cnt (mB p 0) K3))), (5, .int (fsA (mB p 0) (mCd (p 0)) K3)), (6, .int (nI i)), (7, .int (nI (c + 1))), (8, .int (nI t))]) dX10_mended_152 rfl (by decide) rfl ?_
                          refine wc_goto X 155 88 dX10_mended_155 (by decide) ?_
                          refine wc_loc [0, 1, 2, 3, 4, 5, 6, 7] (L' := [(0, .ref x), (1, .int (nI 0)), (2, .int (nI 1)), (3, .int (nI (p 0))), (4, .int (nI (cnt (mB p 0) K3))), (5, .int (fsA (mB p 0) (mCd (p 0)) K3)), (6, .int (nI i)), (7, .int (nI (c + 1)))]) rfl ?_
                          refine wc_L (L' := [(0, .ref x), (1, .int (nI 0)), (2, .int (nI 1)), (3, .int (nI (p 0))), (4, .int (nI (cnt (mB p 0) K3))), (5, .int (fsA (mB p 0) (mCd (p 0)) K3)), (6, .int (nI i)), (7, .int (nI (c + 1)))]) (by rfl) ?_
                          exact ih_18 (c + 1) K3 lqC lmC lrC (by omega) (by omega) (by rw [hK3, show t = p 0 by omega]; exact md_t hc1) (by omega)
                        ·
                          have hd := md_dec hc1 (show c ≤ 2 by omega) (show t < p 0 by omega) hK3
                          refine wc_aload_n X 103 0 dX10_mended_103 rfl ?_
                          refine wc_iload_n X 104 1 dX10_mended_104 rfl ?_
                          refine wc_iload X 105 6 dX10_mended_105 rfl ?_
                          refine wc_iload X 107 7 dX10_mended_107 rfl ?_
                          refine wc_iload X 109 8 dX10_mended_109 rfl ?_
                          refine wc_mutV X Y 111 [0, 6, 7, 8, 9, 10, 11, 12, 13] [1, 2, 3, 4, 5] 0 (c_X10_mends0 l G x xt xn xr xa xs xf xw xi sn sd xe xp xg xl xk xh xv ra rla rb rlb p xlm xlr lqC lmC lrC i c t (by first | assumption | omega) (by omega) (by first | assumption | omega) (by omega) (by omega)) yv_X10_mends kd10 rfl rfl (wr := [ob xn 1 [.ref na, .ref nb], ob na 6 [.int (nI (p 0)), .int (nI (p 2)), .ref nla], aI G nla 10 (nF (gz p)), ob nb 6 [.int (nI (p 1)), .int (nI (p 3)), .ref nlb], aI G nlb 10 (nF (go p))]) rfl ⟨rfl, rfl, rfl⟩ q_655 ⟨rfl, rfl⟩ ⟨rfl, rfl⟩ ⟨rfl, rfl⟩ rfl rfl rfl dX10_mended_111 (fun v w hp_26 => ?_)
                          obtain ⟨lq2_27, lm2_28, lr2_29, rfl, rfl⟩ := hp_26
                          refine wc_perm Y [5, 0, 1, 2, 3, 4, 6, 7, 8, 9, 10, 11, 12, 13] [ob x 10 [.ref xt, .ref xn, .ref xr, .ref xa, .ref xs, .ref xf, .ref xw, .ref xi, .int (nI sn), .long sd, .ref xe, .ref xp, .ref xg, .ref xl, .ref xk, .ref xh, .ref xv], ob xn 1 [.ref na, .ref nb], ob na 6 [.int (nI (p 0)), .int (nI (p 2)), .ref nla], aI G nla 10 (nF (gz p)), ob nb 6 [.int (nI (p 1)), .int (nI (p 3)), .ref nlb], aI G nlb 10 (nF (go p)), ob xr 1 [.ref ra, .ref rb], ob ra 6 [.int (nI (p 0)), .int (nI (p 2)), .ref rla], aI G rla 10 (nF (gz p)), ob rb 6 [.int (nI (p 1)), .int (nI (p 3)), .ref rlb], aI G rlb 10 (nF (go p)), ob xl 4 [.ref xlm, .ref xlr, .int (nI lq2_27)], aI G xlm 4 (nF lm2_28), aI G xlr 128 (nF lr2_29)] rfl rfl ?_
                          show Wc Γ 0 0 114 [(0, .ref x), (1, .int (nI 0)), (2, .int (nI 1)), (3, .int (nI (p 0))), (4, .int (nI (cnt (mB p 0) K3))), (5, .int (fsA (mB p 0) (mCd (p 0)) K3)), (6, .int (nI i)), (7, .int (nI c)), (8, .int (nI t))] [.int (b2i (mEd p 0 i c t))] [ob x 10 [.ref xt, .ref xn, .ref xr, .ref xa, .ref xs, .ref xf, .ref xw, .ref xi, .int (nI sn), .long sd, .ref xe, .ref xp, .ref xg, .ref xl, .ref xk, .ref xh, .ref xv], ob xn 1 [.ref na, .ref nb], ob na 6 [.int (nI (p 0)), .int (nI (p 2)), .ref nla], aI G nla 10 (nF (gz p)), ob nb 6 [.int (nI (p 1)), .int (nI (p 3)), .ref nlb], aI G nlb 10 (nF (go p)), ob xr 1 [.ref ra, .ref rb], ob ra 6 [.int (nI (p 0)), .int (nI (p 2)), .ref rla], aI G rla 10 (nF (gz p)), ob rb 6 [.int (nI (p 1)), .int (nI (p 3)), .ref rlb], aI G rlb 10 (nF (go p)), ob xl 4 [.ref xlm, .ref xlr, .int (nI lq2_27)], aI G xlm 4 (nF lm2_28), aI G xlr 128 (nF lr2_29)]
                          have heq : mEd p 0 i c t = mB p 0 K3 := by unfold mB; rw [hd.1, hd.2.1, hd.2.2]
                          have hcode : 100 * i + 10 * c + t = mCd (p 0) K3 := by unfold mCd; rw [hd.1, hd.2.1, hd.2.2]
                          refine wc_if_eqB X 114 146 dX10_mended_114 (by decide) (fun c114_30 => ?_) (fun c114_30 => ?_)
                          ·
                            refine wc_iincN X 146 8 (L' := [(0, .ref x), (1, .int (nI 0)), (2, .int (nI 1)), (3, .int (nI (p 0))), (4, .int (nI (cnt (mB p 0) K3))), (5, .int (fsA (mB p 0) (mCd (p 0)) K3)), (6, .int (nI i)), (7, .int (nI c)), (8, .int (nI (t + 1)))]) dX10_mended_146 rfl (by decide) rfl ?_
                            refine wc_goto X 149 97 dX10_mended_149 (by decide) ?_
                            have e_31 : cnt (mB p 0) K3 = cnt (mB p 0) (K3 + 1) := cnt_no heq c114_30
                            have e_32 : fsA (mB p 0) (mCd (p 0)) K3 = fsA (mB p 0) (mCd (p 0)) (K3 + 1) := fs_no heq c114_30
                            refine wc_L (L' := [(0, .ref x), (1, .int (nI 0)), (2, .int (nI 1)), (3, .int (nI (p 0))), (4, .int (nI (cnt (mB p 0) (K3 + 1)))), (5, .int (fsA (mB p 0) (mCd (p 0)) (K3 + 1))), (6, .int (nI i)), (7, .int (nI c)), (8, .int (nI (t + 1)))]) (by first | (rw [e_31, e_32]; done) | (rw [e_31, e_32]; rfl) | (rw [← e_31, ← e_32]; done) | rfl) ?_
                            exact ih_23 (t + 1) (K3 + 1) lq2_27 lm2_28 lr2_29 (by omega) (by rw [hK3]; rfl) (by omega)
                          ·
                            refine wc_iload X 117 4 dX10_mended_117 rfl ?_
                            refine wc_if_neN X 119 139 dX10_mended_119 (by decide) (Nat.lt_of_le_of_lt (cnt_all _ _) (md_bd (by omega) (by omega) hc1 (by omega) (by omega) hK3)) (fun c119_33 => ?_) (fun c119_33 => ?_)
                            ·
                              refine wc_iload X 139 5 dX10_mended_139 rfl ?_
                              refine wc_istore X 141 (L' := [(0, .ref x), (1, .int (nI 0)), (2, .int (nI 1)), (3, .int (nI (p 0))), (4, .int (nI (cnt (mB p 0) K3))), (5, .int (fsA (mB p 0) (mCd (p 0)) K3)), (6, .int (nI i)), (7, .int (nI c)), (8, .int (nI t))]) dX10_mended_141 (by decide) rfl ?_
                              refine wc_iincN X 143 4 (L' := [(0, .ref x), (1, .int (nI 0)), (2, .int (nI 1)), (3, .int (nI (p 0))), (4, .int (nI ((cnt (mB p 0) K3) + 1))), (5, .int (fsA (mB p 0) (mCd (p 0)) K3)), (6, .int (nI i)), (7, .int (nI c)), (8, .int (nI t))]) dX10_mended_143 rfl (by decide) rfl ?_
                              refine wc_iincN X 146 8 (L' := [(0, .ref x), (1, .int (nI 0)), (2, .int (nI 1)), (3, .int (nI (p 0))), (4, .int (nI ((cnt (mB p 0) K3) + 1))), (5, .int (fsA (mB p 0) (mCd (p 0)) K3)), (6, .int (nI i)), (7, .int (nI c)), (8, .int (nI (t + 1)))]) dX10_mended_146 rfl (by decide) rfl ?_
                              refine wc_goto X 149 97 dX10_mended_149 (by decide) ?_
                              have e_34 : (cnt (mB p 0) K3) + 1 = cnt (mB p 0) (K3 + 1) := cnt_ye heq c114_30
                              have e_35 : fsA (mB p 0) (mCd (p 0)) K3 = fsA (mB p 0) (mCd (p 0)) (K3 + 1) := fs_y1 heq c114_30 c119_33
                              refine wc_L (L' := [(0, .ref x), (1, .int (nI 0)), (2, .int (nI 1)), (3, .int (nI (p 0))), (4, .int (nI (cnt (mB p 0) (K3 + 1)))), (5, .int (fsA (mB p 0) (mCd (p 0)) (K3 + 1))), (6, .int (nI i)), (7, .int (nI c)), (8, .int (nI (t + 1)))]) (by first | (rw [e_34, e_35]; done) | (rw [e_34, e_35]; rfl) | (rw [← e_34, ← e_35]; done) | rfl) ?_
                              exact ih_23 (t + 1) (K3 + 1) lq2_27 lm2_28 lr2_29 (by omega) (by rw [hK3]; rfl) (by omega)
                            ·
                              refine wc_bipush X 122 (nI 100) dX10_mended_122 (by decide) ?_
                              refine wc_iload X 124 6 dX10_mended_124 rfl ?_
                              refine wc_imulN X 126 dX10_mended_126 ?_
                              refine wc_bipush X 127 (nI 10) dX10_mended_127 (by decide) ?_
                              refine wc_iload X 129 7 dX10_mended_129 rfl ?_
                              refine wc_imulN X 131 dX10_mended_131 ?_
                              refine wc_iaddN X 132 dX10_mended_132 ?_
                              refine wc_iload X 133 8 dX10_mended_133 rfl ?_
                              refine wc_iaddN X 135 dX10_mended_135 ?_
                              refine wc_goto X 136 141 dX10_mended_136 (by decide) ?_
                              refine wc_istore X 141 (L' := [(0, .ref x), (1, .int (nI 0)), (2, .int (nI 1)), (3, .int (nI (p 0))), (4, .int (nI (cnt (mB p 0) K3))), (5, .int (nI (((100 * i) + (10 * c)) + t))), (6, .int (nI i)), (7, .int (nI c)), (8, .int (nI t))]) dX10_mended_141 (by decide) rfl ?_
                              refine wc_iincN X 143 4 (L' := [(0, .ref x), (1, .int (nI 0)), (2, .int (nI 1)), (3, .int (nI (p 0))), (4, .int (nI ((cnt (mB p 0) K3) + 1))), (5, .int (nI (((100 * i) + (10 * c)) + t))), (6, .int (nI i)), (7, .int (nI c)), (8, .int (nI t))]) dX10_mended_143 rfl (by decide) rfl ?_
                              refine wc_iincN X 146 8 (L' := [(0, .ref x), (1, .int (nI 0)), (2, .int (nI 1)), (3, .int (nI (p 0))), (4, .int (nI ((cnt (mB p 0) K3) + 1))), (5, .int (nI (((100 * i) + (10 * c)) + t))), (6, .int (nI i)), (7, .int (nI c)), (8, .int (nI (t + 1)))]) dX10_mended_146 rfl (by decide) rfl ?_
                              refine wc_goto X 149 97 dX10_mended_149 (by decide) ?_
                              have e_36 : (cnt (mB p 0) K3) + 1 = cnt (mB p 0) (K3 + 1) := cnt_ye heq c114_30
                              have e_37 : (.int (nI (((100 * i) + (10 * c)) + t)) : Value) = .int (fsA (mB p 0) (mCd (p 0)) (K3 + 1)) := congrArg Value.int (fs_y0 heq c114_30 c119_33 hcode)
                              refine wc_L (L' := [(0, .ref x), (1, .int (nI 0)), (2, .int (nI 1)), (3, .int (nI (p 0))), (4, .int (nI (cnt (mB p 0) (K3 + 1)))), (5, .int (fsA (mB p 0) (mCd (p 0)) (K3 + 1))), (6, .int (nI i)), (7, .int (nI c)), (8, .int (nI (t + 1)))]) (by first | (rw [e_36, e_37]; done) | (rw [e_36, e_37]; rfl) | (rw [← e_36, ← e_37]; done) | rfl) ?_
                              exact ih_23 (t + 1) (K3 + 1) lq2_27 lm2_28 lr2_29 (by omega) (by rw [hK3]; rfl) (by omega)
                    exact LP_22 (p 0 - 0 + 1) 0 K2 lqB lmB lrB (Nat.zero_le _) (by rw [hK2]; rfl) (Nat.lt_succ_self _)
              exact LP_17 (3 - 1 + 1) 1 K lqA lmA lrA (by decide) (by decide) (by rw [hK]; simp) (Nat.lt_succ_self _)
        have e_38 : 0 = cnt (mB p 0) 0 := rfl
        have e_39 : (-9) = fsA (mB p 0) (mCd (p 0)) 0 := rfl
        refine wc_L (L' := [(0, .ref x), (1, .int (nI 0)), (2, .int (nI 1)), (3, .int (nI (p 0))), (4, .int (nI (cnt (mB p 0) 0))), (5, .int (fsA (mB p 0) (mCd (p 0)) 0)), (6, .int (nI 0))]) (by first | (rw [e_38, e_39]; done) | (rw [e_38, e_39]; rfl) | (rw [← e_38, ← e_39]; done) | rfl) ?_
        exact LP_11 (p 0 - 0 + 1) 0 0 n2_7 mt2_5 row2_6 (Nat.zero_le _) (Nat.zero_mul _).symm (Nat.lt_succ_self _)
      ·
        exact absurd c32_8 (by decide)
    ·
      exact absurd c15_3 (by decide)
  ·
    exact absurd c4_1 (by decide)

set_option maxHeartbeats 4000000 in
set_option maxRecDepth 100000 in
theorem c_X10_mendedW10 (l : Launch) (G : GG) (x xt xn xr xa xs xf xw xi sn : Nat) (sd : Int64) (xe xp xg xl xk xh xv : Nat) (na nla nb nlb : Nat) (p : Nat → Nat) (xlm xlr lq : Nat) (lm lr : Nat → Nat) (hr : pgOk p) (hw : withP p = true) : MM l G yX10_mended (Cond.code yX10_mended cX10_mended 9 (some .int)) { frames := 4, cells := 0, slots := 0, locals := 95 } [.ref x, .int (nI 1), .int (nI 0)] [ob x 10 [.ref xt, .ref xn, .ref xr, .ref xa, .ref xs, .ref xf, .ref xw, .ref xi, .int (nI sn), .long sd, .ref xe, .ref xp, .ref xg, .ref xl, .ref xk, .ref xh, .ref xv], ob xn 1 [.ref na, .ref nb], ob na 6 [.int (nI (p 0)), .int (nI (p 2)), .ref nla], aI G nla 10 (nF (gz p)), ob nb 6 [.int (nI (p 1)), .int (nI (p 3)), .ref nlb], aI G nlb 10 (nF (go p)), ob xl 4 [.ref xlm, .ref xlr, .int (nI lq)], aI G xlm 4 (nF lm), aI G xlr 128 (nF lr)] (fun (v : Option Value) (w : va_W) => ∃ (lq2 : Nat) (lm2 lr2 : Nat → Nat), v = some (.int (nI 0)) ∧ w = [ob x 10 [.ref xt, .ref xn, .ref xr, .ref xa, .ref xs, .ref xf, .ref xw, .ref xi, .int (nI sn), .long sd, .ref xe, .ref xp, .ref xg, .ref xl, .ref xk, .ref xh, .ref xv], ob xn 1 [.ref na, .ref nb], ob na 6 [.int (nI (p 0)), .int (nI (p 2)), .ref nla], aI G nla 10 (nF (gz p)), ob nb 6 [.int (nI (p 1)), .int (nI (p 3)), .ref nlb], aI G nlb 10 (nF (go p)), ob xl 4 [.ref xlm, .ref xlr, .int (nI lq2)], aI G xlm 4 (nF lm2), aI G xlr 128 (nF lr2)]) 0 0 := by
  refine MM.ofI (by decide) rfl (fun Γ X Y hnm ret => ?_)
  show Wc Γ 0 0 0 [(0, .ref x), (1, .int (nI 1)), (2, .int (nI 0))] [] [ob x 10 [.ref xt, .ref xn, .ref xr, .ref xa, .ref xs, .ref xf, .ref xw, .ref xi, .int (nI sn), .long sd, .ref xe, .ref xp, .ref xg, .ref xl, .ref xk, .ref xh, .ref xv], ob xn 1 [.ref na, .ref nb], ob na 6 [.int (nI (p 0)), .int (nI (p 2)), .ref nla], aI G nla 10 (nF (gz p)), ob nb 6 [.int (nI (p 1)), .int (nI (p 3)), .ref nlb], aI G nlb 10 (nF (go p)), ob xl 4 [.ref xlm, .ref xlr, .int (nI lq)], aI G xlm 4 (nF lm), aI G xlr 128 (nF lr)]
  have hn0 := hr.2.1
  have hn01 := hr.1
  have hn1 := hr.2.2.2.1
  have hn11 := hr.2.2.1
  have he0 := pg_e0 hr
  have he1 := hr.2.2.2.2.1 3
  have hg0 := hr.2.2.2.2.2.1
  have hg1 := (fun j => hr.2.2.2.2.1 (12 + j) : ∀ j, go p j < 32)
  have hg0n := (hr.2.2.2.2.2.2.1 0 (by decide) : ∀ j, gz p j < 2 ^ p 0)
  have hg1n := (hr.2.2.2.2.2.2.1 1 (by decide) : ∀ j, go p j < 2 ^ p 1)
  have he0n := hr.2.2.2.2.2.2.2 0 (by decide)
  have he1n := hr.2.2.2.2.2.2.2 1 (by decide)
  have hg0w := (fun j => Nat.lt_trans (hg0 j) (by decide) : ∀ j, gz p j < 32)
  refine wc_iload_n X 0 1 dX10_mended_0 rfl ?_
  refine wc_callS X 1 [] (c_X10_isMachine l G (nI 1) ) ys_X10_isMachine rfl q_400 ⟨rfl, rfl⟩ ⟨rfl, rfl⟩ ⟨rfl, rfl⟩ rfl rfl rfl dX10_mended_1 ?_
  refine wc_topi (b2i true) (by decide) ?_
  refine wc_if_neB X 4 9 dX10_mended_4 (by decide) (fun c4_1 => ?_) (fun c4_1 => ?_)
  ·
    refine wc_iload_n X 9 2 dX10_mended_9 rfl ?_
    refine wc_ifltF X 10 (tgt := 18) dX10_mended_10 (by decide) (by decide) ?_
    refine wc_iload_n X 13 2 dX10_mended_13 rfl ?_
    refine wc_iconstN X 14 1 dX10_mended_14 ?_
    refine wc_icmp_leN X 15 21 dX10_mended_15 (by decide) (by decide) (by decide) (fun c15_3 => ?_) (fun c15_3 => ?_)
    ·
      refine wc_aload_n X 21 0 dX10_mended_21 rfl ?_
      refine wc_get X 22 0 13 kd10 rfl (by decide) q_246 rfl dX10_mended_22 ?_
      refine wc_aload_n X 25 0 dX10_mended_25 rfl ?_
      refine wc_get X 26 0 1 kd10 rfl (by decide) q_234 rfl dX10_mended_26 ?_
      refine wc_mutV X Y 29 [6, 7, 8, 1, 2, 3, 4, 5] [0] 6 (c_X4_holds l G xl xlm xlr lq lm lr xn na nla (p 0) (p 2) (gz p) nb nlb (p 1) (p 3) (go p) (by first | assumption | omega) (by first | assumption | omega) (by first | assumption | omega) (by first | assumption | omega) (by first | assumption | omega) (by first | assumption | omega) (by first | assumption | omega) (by first | assumption | omega) (by first | assumption | omega)) yv_X4_holds kd4 rfl rfl (wr := [ob x 10 [.ref xt, .ref xn, .ref xr, .ref xa, .ref xs, .ref xf, .ref xw, .ref xi, .int (nI sn), .long sd, .ref xe, .ref xp, .ref xg, .ref xl, .ref xk, .ref xh, .ref xv]]) rfl ⟨rfl, rfl, rfl⟩ q_503 ⟨rfl, rfl⟩ ⟨rfl, rfl⟩ ⟨rfl, rfl⟩ rfl rfl rfl dX10_mended_29 (fun v w hp_4 => ?_)
      obtain ⟨mt2_5, row2_6, n2_7, rfl, rfl⟩ := hp_4
      refine wc_perm Y [0, 4, 5, 6, 7, 8, 1, 2, 3] [ob x 10 [.ref xt, .ref xn, .ref xr, .ref xa, .ref xs, .ref xf, .ref xw, .ref xi, .int (nI sn), .long sd, .ref xe, .ref xp, .ref xg, .ref xl, .ref xk, .ref xh, .ref xv], ob xn 1 [.ref na, .ref nb], ob na 6 [.int (nI (p 0)), .int (nI (p 2)), .ref nla], aI G nla 10 (nF (gz p)), ob nb 6 [.int (nI (p 1)), .int (nI (p 3)), .ref nlb], aI G nlb 10 (nF (go p)), ob xl 4 [.ref xlm, .ref xlr, .int (nI n2_7)], aI G xlm 4 (nF mt2_5), aI G xlr 128 (nF row2_6)] rfl rfl ?_
      show Wc Γ 0 0 32 [(0, .ref x), (1, .int (nI 1)), (2, .int (nI 0))] [.int (b2i (withB (gz p) (p 0) (p 2) (go p) (p 1) (p 3)))] [ob x 10 [.ref xt, .ref xn, .ref xr, .ref xa, .ref xs, .ref xf, .ref xw, .ref xi, .int (nI sn), .long sd, .ref xe, .ref xp, .ref xg, .ref xl, .ref xk, .ref xh, .ref xv], ob xn 1 [.ref na, .ref nb], ob na 6 [.int (nI (p 0)), .int (nI (p 2)), .ref nla], aI G nla 10 (nF (gz p)), ob nb 6 [.int (nI (p 1)), .int (nI (p 3)), .ref nlb], aI G nlb 10 (nF (go p)), ob xl 4 [.ref xlm, .ref xlr, .int (nI n2_7)], aI G xlm 4 (nF mt2_5), aI G xlr 128 (nF row2_6)]
      refine wc_topi (b2i true) (congrArg b2i hw) ?_
      refine wc_if_eqB X 32 46 dX10_mended_32 (by decide) (fun c32_8 => ?_) (fun c32_8 => ?_)
      ·
        exact absurd c32_8 (by decide)
      ·
        refine wc_iload_n X 35 2 dX10_mended_35 rfl ?_
        refine wc_if_neN X 36 43 dX10_mended_36 (by decide) (by decide) (fun c36_9 => ?_) (fun c36_9 => ?_)
        ·
          exact absurd c36_9 (by decide)
        ·
          refine wc_iconstN X 39 0 dX10_mended_39 ?_
          refine wc_goto X 40 45 dX10_mended_40 (by decide) ?_
          exact ret 45 _ (nI 0) _ dX10_mended_45 (⟨_, _, _, rfl, rfl⟩)
    ·
      exact absurd c15_3 (by decide)
  ·
    exact absurd c4_1 (by decide)

set_option maxHeartbeats 4000000 in
set_option maxRecDepth 100000 in
theorem c_X10_mendedS10 (l : Launch) (G : GG) (x xt xn xr xa xs xf xw xi sn : Nat) (sd : Int64) (xe xp xg xl xk xh xv : Nat) (na nla nb nlb : Nat) (p : Nat → Nat) (ra rla r0 re : Nat) (rg : Nat → Nat) (rb rlb r1 rf : Nat) (rh : Nat → Nat) (xlm xlr lq : Nat) (lm lr : Nat → Nat) (hr : pgOk p) (hw : withP p = false) : MM l G yX10_mended (Cond.code yX10_mended cX10_mended 9 (some .int)) { frames := 5, cells := 0, slots := 0, locals := 122 } [.ref x, .int (nI 1), .int (nI 0)] [ob x 10 [.ref xt, .ref xn, .ref xr, .ref xa, .ref xs, .ref xf, .ref xw, .ref xi, .int (nI sn), .long sd, .ref xe, .ref xp, .ref xg, .ref xl, .ref xk, .ref xh, .ref xv], ob xn 1 [.ref na, .ref nb], ob na 6 [.int (nI (p 0)), .int (nI (p 2)), .ref nla], aI G nla 10 (nF (gz p)), ob nb 6 [.int (nI (p 1)), .int (nI (p 3)), .ref nlb], aI G nlb 10 (nF (go p)), ob xr 1 [.ref ra, .ref rb], ob ra 6 [.int (nI r0), .int (nI re), .ref rla], aI G rla 10 (nF rg), ob rb 6 [.int (nI r1), .int (nI rf), .ref rlb], aI G rlb 10 (nF rh), ob xl 4 [.ref xlm, .ref xlr, .int (nI lq)], aI G xlm 4 (nF lm), aI G xlr 128 (nF lr)] (fun (v : Option Value) (w : va_W) => ∃ (lq2 : Nat) (lm2 lr2 : Nat → Nat), v = some (.int (nI (cnt (mB p 1) (2 * p 1 * p 1)))) ∧ w = [ob x 10 [.ref xt, .ref xn, .ref xr, .ref xa, .ref xs, .ref xf, .ref xw, .ref xi, .int (nI sn), .long sd, .ref xe, .ref xp, .ref xg, .ref xl, .ref xk, .ref xh, .ref xv], ob xn 1 [.ref na, .ref nb], ob na 6 [.int (nI (p 0)), .int (nI (p 2)), .ref nla], aI G nla 10 (nF (gz p)), ob nb 6 [.int (nI (p 1)), .int (nI (p 3)), .ref nlb], aI G nlb 10 (nF (go p)), ob xr 1 [.ref ra, .ref rb], ob ra 6 [.int (nI (p 0)), .int (nI (p 2)), .ref rla], aI G rla 10 (nF (gz p)), ob rb 6 [.int (nI (p 1)), .int (nI (p 3)), .ref rlb], aI G rlb 10 (nF (go p)), ob xl 4 [.ref xlm, .ref xlr, .int (nI lq2)], aI G xlm 4 (nF lm2), aI G xlr 128 (nF lr2)]) 0 0 := by
  refine MM.ofI (by decide) rfl (fun Γ X Y hnm ret => ?_)
  show Wc Γ 0 0 0 [(0, .ref x), (1, .int (nI 1)), (2, .int (nI 0))] [] [ob x 10 [.ref xt, .ref xn, .ref xr, .ref xa, .ref xs, .ref xf, .ref xw, .ref xi, .int (nI sn), .long sd, .ref xe, .ref xp, .ref xg, .ref xl, .ref xk, .ref xh, .ref xv], ob xn 1 [.ref na, .ref nb], ob na 6 [.int (nI (p 0)), .int (nI (p 2)), .ref nla], aI G nla 10 (nF (gz p)), ob nb 6 [.int (nI (p 1)), .int (nI (p 3)), .ref nlb], aI G nlb 10 (nF (go p)), ob xr 1 [.ref ra, .ref rb], ob ra 6 [.int (nI r0), .int (nI re), .ref rla], aI G rla 10 (nF rg), ob rb 6 [.int (nI r1), .int (nI rf), .ref rlb], aI G rlb 10 (nF rh), ob xl 4 [.ref xlm, .ref xlr, .int (nI lq)], aI G xlm 4 (nF lm), aI G xlr 128 (nF lr)]
  have hn0 := hr.2.1
  have hn01 := hr.1
  have hn1 := hr.2.2.2.1
  have hn11 := hr.2.2.1
  have he0 := pg_e0 hr
  have he1 := hr.2.2.2.2.1 3
  have hg0 := hr.2.2.2.2.2.1
  have hg1 := (fun j => hr.2.2.2.2.1 (12 + j) : ∀ j, go p j < 32)
  have hg0n := (hr.2.2.2.2.2.2.1 0 (by decide) : ∀ j, gz p j < 2 ^ p 0)
  have hg1n := (hr.2.2.2.2.2.2.1 1 (by decide) : ∀ j, go p j < 2 ^ p 1)
  have he0n := hr.2.2.2.2.2.2.2 0 (by decide)
  have he1n := hr.2.2.2.2.2.2.2 1 (by decide)
  have hg0w := (fun j => Nat.lt_trans (hg0 j) (by decide) : ∀ j, gz p j < 32)
  have hbm := pgOk_m hr (show 1 < 2 by decide)
  refine wc_iload_n X 0 1 dX10_mended_0 rfl ?_
  refine wc_callS X 1 [] (c_X10_isMachine l G (nI 1) ) ys_X10_isMachine rfl q_400 ⟨rfl, rfl⟩ ⟨rfl, rfl⟩ ⟨rfl, rfl⟩ rfl rfl rfl dX10_mended_1 ?_
  refine wc_topi (b2i true) (by decide) ?_
  refine wc_if_neB X 4 9 dX10_mended_4 (by decide) (fun c4_1 => ?_) (fun c4_1 => ?_)
  ·
    refine wc_iload_n X 9 2 dX10_mended_9 rfl ?_
    refine wc_ifltF X 10 (tgt := 18) dX10_mended_10 (by decide) (by decide) ?_
    refine wc_iload_n X 13 2 dX10_mended_13 rfl ?_
    refine wc_iconstN X 14 1 dX10_mended_14 ?_
    refine wc_icmp_leN X 15 21 dX10_mended_15 (by decide) (by decide) (by decide) (fun c15_3 => ?_) (fun c15_3 => ?_)
    ·
      refine wc_aload_n X 21 0 dX10_mended_21 rfl ?_
      refine wc_get X 22 0 13 kd10 rfl (by decide) q_246 rfl dX10_mended_22 ?_
      refine wc_aload_n X 25 0 dX10_mended_25 rfl ?_
      refine wc_get X 26 0 1 kd10 rfl (by decide) q_234 rfl dX10_mended_26 ?_
      refine wc_mutV X Y 29 [11, 12, 13, 1, 2, 3, 4, 5] [0, 6, 7, 8, 9, 10] 11 (c_X4_holds l G xl xlm xlr lq lm lr xn na nla (p 0) (p 2) (gz p) nb nlb (p 1) (p 3) (go p) (by first | assumption | omega) (by first | assumption | omega) (by first | assumption | omega) (by first | assumption | omega) (by first | assumption | omega) (by first | assumption | omega) (by first | assumption | omega) (by first | assumption | omega) (by first | assumption | omega)) yv_X4_holds kd4 rfl rfl (wr := [ob x 10 [.ref xt, .ref xn, .ref xr, .ref xa, .ref xs, .ref xf, .ref xw, .ref xi, .int (nI sn), .long sd, .ref xe, .ref xp, .ref xg, .ref xl, .ref xk, .ref xh, .ref xv], ob xr 1 [.ref ra, .ref rb], ob ra 6 [.int (nI r0), .int (nI re), .ref rla], aI G rla 10 (nF rg), ob rb 6 [.int (nI r1), .int (nI rf), .ref rlb], aI G rlb 10 (nF rh)]) rfl ⟨rfl, rfl, rfl⟩ q_503 ⟨rfl, rfl⟩ ⟨rfl, rfl⟩ ⟨rfl, rfl⟩ rfl rfl rfl dX10_mended_29 (fun v w hp_4 => ?_)
      obtain ⟨mt2_5, row2_6, n2_7, rfl, rfl⟩ := hp_4
      refine wc_perm Y [0, 9, 10, 11, 12, 13, 1, 2, 3, 4, 5, 6, 7, 8] [ob x 10 [.ref xt, .ref xn, .ref xr, .ref xa, .ref xs, .ref xf, .ref xw, .ref xi, .int (nI sn), .long sd, .ref xe, .ref xp, .ref xg, .ref xl, .ref xk, .ref xh, .ref xv], ob xn 1 [.ref na, .ref nb], ob na 6 [.int (nI (p 0)), .int (nI (p 2)), .ref nla], aI G nla 10 (nF (gz p)), ob nb 6 [.int (nI (p 1)), .int (nI (p 3)), .ref nlb], aI G nlb 10 (nF (go p)), ob xr 1 [.ref ra, .ref rb], ob ra 6 [.int (nI r0), .int (nI re), .ref rla], aI G rla 10 (nF rg), ob rb 6 [.int (nI r1), .int (nI rf), .ref rlb], aI G rlb 10 (nF rh), ob xl 4 [.ref xlm, .ref xlr, .int (nI n2_7)], aI G xlm 4 (nF mt2_5), aI G xlr 128 (nF row2_6)] rfl rfl ?_
      show Wc Γ 0 0 32 [(0, .ref x), (1, .int (nI 1)), (2, .int (nI 0))] [.int (b2i (withB (gz p) (p 0) (p 2) (go p) (p 1) (p 3)))] [ob x 10 [.ref xt, .ref xn, .ref xr, .ref xa, .ref xs, .ref xf, .ref xw, .ref xi, .int (nI sn), .long sd, .ref xe, .ref xp, .ref xg, .ref xl, .ref xk, .ref xh, .ref xv], ob xn 1 [.ref na, .ref nb], ob na 6 [.int (nI (p 0)), .int (nI (p 2)), .ref nla], aI G nla 10 (nF (gz p)), ob nb 6 [.int (nI (p 1)), .int (nI (p 3)), .ref nlb], aI G nlb 10 (nF (go p)), ob xr 1 [.ref ra, .ref rb], ob ra 6 [.int (nI r0), .int (nI re), .ref rla], aI G rla 10 (nF rg), ob rb 6 [.int (nI r1), .int (nI rf), .ref rlb], aI G rlb 10 (nF rh), ob xl 4 [.ref xlm, .ref xlr, .int (nI n2_7)], aI G xlm 4 (nF mt2_5), aI G xlr 128 (nF row2_6)]
      refine wc_topi (b2i false) (congrArg b2i hw) ?_
      refine wc_if_eqB X 32 46 dX10_mended_32 (by decide) (fun c32_8 => ?_) (fun c32_8 => ?_)
      ·
        refine wc_aload_n X 46 0 dX10_mended_46 rfl ?_
        refine wc_get X 47 0 2 kd10 rfl (by decide) q_235 rfl dX10_mended_47 ?_
        refine wc_aload_n X 50 0 dX10_mended_50 rfl ?_
        refine wc_get X 51 0 1 kd10 rfl (by decide) q_234 rfl dX10_mended_51 ?_
        refine wc_mutV X Y 54 [6, 7, 8, 9, 10, 1, 2, 3, 4, 5] [0, 11, 12, 13] 6 (c_X1_copyFrom l G xr ra rla r0 re rg rb rlb r1 rf rh xn na nla (p 0) (p 2) (gz p) nb nlb (p 1) (p 3) (go p) ) yv_X1_copyFrom kd1 rfl rfl (wr := [ob x 10 [.ref xt, .ref xn, .ref xr, .ref xa, .ref xs, .ref xf, .ref xw, .ref xi, .int (nI sn), .long sd, .ref xe, .ref xp, .ref xg, .ref xl, .ref xk, .ref xh, .ref xv], ob xl 4 [.ref xlm, .ref xlr, .int (nI n2_7)], aI G xlm 4 (nF mt2_5), aI G xlr 128 (nF row2_6)]) rfl ⟨rfl, rfl, rfl⟩ q_374 ⟨rfl, rfl⟩ ⟨rfl, rfl⟩ ⟨rfl, rfl⟩ rfl rfl rfl dX10_mended_54 (fun v w hp_9 => ?_)
        obtain ⟨rfl, rfl⟩ := hp_9
        refine wc_perm Y [0, 9, 10, 11, 12, 13, 4, 5, 6, 7, 8, 1, 2, 3] [ob x 10 [.ref xt, .ref xn, .ref xr, .ref xa, .ref xs, .ref xf, .ref xw, .ref xi, .int (nI sn), .long sd, .ref xe, .ref xp, .ref xg, .ref xl, .ref xk, .ref xh, .ref xv], ob xn 1 [.ref na, .ref nb], ob na 6 [.int (nI (p 0)), .int (nI (p 2)), .ref nla], aI G nla 10 (nF (gz p)), ob nb 6 [.int (nI (p 1)), .int (nI (p 3)), .ref nlb], aI G nlb 10 (nF (go p)), ob xr 1 [.ref ra, .ref rb], ob ra 6 [.int (nI (p 0)), .int (nI (p 2)), .ref rla], aI G rla 10 (nF (gz p)), ob rb 6 [.int (nI (p 1)), .int (nI (p 3)), .ref rlb], aI G rlb 10 (nF (go p)), ob xl 4 [.ref xlm, .ref xlr, .int (nI n2_7)], aI G xlm 4 (nF mt2_5), aI G xlr 128 (nF row2_6)] rfl rfl ?_
        show Wc Γ 0 0 57 [(0, .ref x), (1, .int (nI 1)), (2, .int (nI 0))] [] [ob x 10 [.ref xt, .ref xn, .ref xr, .ref xa, .ref xs, .ref xf, .ref xw, .ref xi, .int (nI sn), .long sd, .ref xe, .ref xp, .ref xg, .ref xl, .ref xk, .ref xh, .ref xv], ob xn 1 [.ref na, .ref nb], ob na 6 [.int (nI (p 0)), .int (nI (p 2)), .ref nla], aI G nla 10 (nF (gz p)), ob nb 6 [.int (nI (p 1)), .int (nI (p 3)), .ref nlb], aI G nlb 10 (nF (go p)), ob xr 1 [.ref ra, .ref rb], ob ra 6 [.int (nI (p 0)), .int (nI (p 2)), .ref rla], aI G rla 10 (nF (gz p)), ob rb 6 [.int (nI (p 1)), .int (nI (p 3)), .ref rlb], aI G rlb 10 (nF (go p)), ob xl 4 [.ref xlm, .ref xlr, .int (nI n2_7)], aI G xlm 4 (nF mt2_5), aI G xlr 128 (nF row2_6)]
        refine wc_aload_n X 57 0 dX10_mended_57 rfl ?_
        refine wc_get X 58 0 1 kd10 rfl (by decide) q_234 rfl dX10_mended_58 ?_
        refine wc_iload_n X 61 1 dX10_mended_61 rfl ?_
        refine wc_callV X 62 [1] 1 (c_X1_of1 l G xn na nb (nI 1) (by decide)) yv_X1_of kd1 rfl rfl q_403 ⟨rfl, rfl⟩ ⟨rfl, rfl⟩ ⟨rfl, rfl⟩ rfl rfl rfl dX10_mended_62 ?_
        refine wc_get X 65 4 0 kd6 rfl (by decide) q_53 rfl dX10_mended_65 ?_
        refine wc_istore_n X 68 (L' := [(0, .ref x), (1, .int (nI 1)), (2, .int (nI 0)), (3, .int (nI (p 1)))]) dX10_mended_68 (by decide) rfl ?_
        refine wc_iconstN X 69 0 dX10_mended_69 ?_
        refine wc_istore X 70 (L' := [(0, .ref x), (1, .int (nI 1)), (2, .int (nI 0)), (3, .int (nI (p 1))), (4, .int (nI 0))]) dX10_mended_70 (by decide) rfl ?_
        refine wc_bipush X 72 (-9) dX10_mended_72 (by decide) ?_
        refine wc_istore X 74 (L' := [(0, .ref x), (1, .int (nI 1)), (2, .int (nI 0)), (3, .int (nI (p 1))), (4, .int (nI 0)), (5, .int (-9))]) dX10_mended_74 (by decide) rfl ?_
        refine wc_iconstN X 76 0 dX10_mended_76 ?_
        refine wc_istore X 77 (L' := [(0, .ref x), (1, .int (nI 1)), (2, .int (nI 0)), (3, .int (nI (p 1))), (4, .int (nI 0)), (5, .int (-9)), (6, .int (nI 0))]) dX10_mended_77 (by decide) rfl ?_
        have LP_11 : ∀ (fuel_10 : Nat) (i : Nat) (K : Nat) (lqA : Nat) (lmA : Nat → Nat) (lrA : Nat → Nat), (i ≤ p 1) → (K = i * (2 * p 1)) → p 1 - i < fuel_10 → Wc Γ 0 0 79 [(0, .ref x), (1, .int (nI 1)), (2, .int (nI 0)), (3, .int (nI (p 1))), (4, .int (nI (cnt (mB p 1) K))), (5, .int (fsA (mB p 1) (mCd (p 1)) K)), (6, .int (nI i))] [] [ob x 10 [.ref xt, .ref xn, .ref xr, .ref xa, .ref xs, .ref xf, .ref xw, .ref xi, .int (nI sn), .long sd, .ref xe, .ref xp, .ref xg, .ref xl, .ref xk, .ref xh, .ref xv], ob xn 1 [.ref na, .ref nb], ob na 6 [.int (nI (p 0)), .int (nI (p 2)), .ref nla], aI G nla 10 (nF (gz p)), ob nb 6 [.int (nI (p 1)), .int (nI (p 3)), .ref nlb], aI G nlb 10 (nF (go p)), ob xr 1 [.ref ra, .ref rb], ob ra 6 [.int (nI (p 0)), .int (nI (p 2)), .ref rla], aI G rla 10 (nF (gz p)), ob rb 6 [.int (nI (p 1)), .int (nI (p 3)), .ref rlb], aI G rlb 10 (nF (go p)), ob xl 4 [.ref xlm, .ref xlr, .int (nI lqA)], aI G xlm 4 (nF lmA), aI G xlr 128 (nF lrA)] := by
          intro fuel_10
          induction fuel_10 with
          | zero => intro i K lqA lmA lrA hi hK hm; exact absurd hm (Nat.not_lt_zero _)
          | succ fuel_10 ih_12 =>
            intro i K lqA lmA lrA hi hK hm_13
            refine wc_iload X 79 6 dX10_mended_79 rfl ?_
            refine wc_iload_n X 81 3 dX10_mended_81 rfl ?_
            refine wc_icmp_geN X 82 164 dX10_mended_82 (by decide) (by omega) (by omega) (fun c82_14 => ?_) (fun c82_14 => ?_)
            ·
              refine wc_iload_n X 164 2 dX10_mended_164 rfl ?_
              refine wc_if_neN X 165 173 dX10_mended_165 (by decide) (by decide) (fun c165_15 => ?_) (fun c165_15 => ?_)
              ·
                exact absurd c165_15 (by decide)
              ·
                refine wc_iload X 168 4 dX10_mended_168 rfl ?_
                refine wc_goto X 170 175 dX10_mended_170 (by decide) ?_
                exact ret 175 _ (nI (cnt (mB p 1) K)) _ dX10_mended_175 (⟨_, _, _, by rw [show K = 2 * p 1 * p 1 by rw [hK, show i = p 1 by omega]; exact md_n], rfl⟩)
            ·
              refine wc_iconstN X 85 1 dX10_mended_85 ?_
              refine wc_istore X 86 (L' := [(0, .ref x), (1, .int (nI 1)), (2, .int (nI 0)), (3, .int (nI (p 1))), (4, .int (nI (cnt (mB p 1) K))), (5, .int (fsA (mB p 1) (mCd (p 1)) K)), (6, .int (nI i)), (7, .int (nI 1))]) dX10_mended_86 (by decide) rfl ?_
              have LP_17 : ∀ (fuel_16 : Nat) (c : Nat) (K2 : Nat) (lqB : Nat) (lmB : Nat → Nat) (lrB : Nat → Nat), (1 ≤ c) → (c ≤ 3) → (K2 = i * (2 * p 1) + (c - 1) * p 1) → 3 - c < fuel_16 → Wc Γ 0 0 88 [(0, .ref x), (1, .int (nI 1)), (2, .int (nI 0)), (3, .int (nI (p 1))), (4, .int (nI (cnt (mB p 1) K2))), (5, .int (fsA (mB p 1) (mCd (p 1)) K2)), (6, .int (nI i)), (7, .int (nI c))] [] [ob x 10 [.ref xt, .ref xn, .ref xr, .ref xa, .ref xs, .ref xf, .ref xw, .ref xi, .int (nI sn), .long sd, .ref xe, .ref xp, .ref xg, .ref xl, .ref xk, .ref xh, .ref xv], ob xn 1 [.ref na, .ref nb], ob na 6 [.int (nI (p 0)), .int (nI (p 2)), .ref nla], aI G nla 10 (nF (gz p)), ob nb 6 [.int (nI (p 1)), .int (nI (p 3)), .ref nlb], aI G nlb 10 (nF (go p)), ob xr 1 [.ref ra, .ref rb], ob ra 6 [.int (nI (p 0)), .int (nI (p 2)), .ref rla], aI G rla 10 (nF (gz p)), ob rb 6 [.int (nI (p 1)), .int (nI (p 3)), .ref rlb], aI G rlb 10 (nF (go p)), ob xl 4 [.ref xlm, .ref xlr, .int (nI lqB)], aI G xlm 4 (nF lmB), aI G xlr 128 (nF lrB)] := by
                intro fuel_16
                induction fuel_16 with
                | zero => intro c K2 lqB lmB lrB hc1 hc3 hK2 hm; exact absurd hm (Nat.not_lt_zero _)
                | succ fuel_16 ih_18 =>
                  intro c K2 lqB lmB lrB hc1 hc3 hK2 hm_19
                  refine wc_iload X 88 7 dX10_mended_88 rfl ?_
                  refine wc_iconstN X 90 2 dX10_mended_90 ?_
                  refine wc_icmp_gtN X 91 158 dX10_mended_91 (by decide) (by omega) (by decide) (fun c91_20 => ?_) (fun c91_20 => ?_)
                  ·
                    refine wc_iincN X 158 6 (L' := [(0, .ref x), (1, .int (nI 1)), (2, .int (nI 0)), (3, .int (nI (p 1))), (4, .int (nI (cnt (mB p 1) K2))), (5, .int (fsA (mB p 1) (mCd (p 1)) K2)), (6, .int (nI (i + 1))), (7, .int (nI c))]) dX10_mended_158 rfl (by decide) rfl ?_
                    refine wc_goto X 161 79 dX10_mended_161 (by decide) ?_
                    refine wc_loc [0, 1, 2, 3, 4, 5, 6] (L' := [(0, .ref x), (1, .int (nI 1)), (2, .int (nI 0)), (3, .int (nI (p 1))), (4, .int (nI (cnt (mB p 1) K2))), (5, .int (fsA (mB p 1) (mCd (p 1)) K2)), (6, .int (nI (i + 1)))]) rfl ?_
                    refine wc_L (L' := [(0, .ref x), (1, .int (nI 1)), (2, .int (nI 0)), (3, .int (nI (p 1))), (4, .int (nI (cnt (mB p 1) K2))), (5, .int (fsA (mB p 1) (mCd (p 1)) K2)), (6, .int (nI (i + 1)))]) (by rfl) ?_
                    exact ih_12 (i + 1) K2 lqB lmB lrB (by omega) (by rw [hK2, show c = 3 by omega]; exact md_c) (by omega)
                  ·
                    refine wc_iconstN X 94 0 dX10_mended_94 ?_
                    refine wc_istore X 95 (L' := [(0, .ref x), (1, .int (nI 1)), (2, .int (nI 0)), (3, .int (nI (p 1))), (4, .int (nI (cnt (mB p 1) K2))), (5, .int (fsA (mB p 1) (mCd (p 1)) K2)), (6, .int (nI i)), (7, .int (nI c)), (8, .int (nI 0))]) dX10_mended_95 (by decide) rfl ?_
                    have LP_22 : ∀ (fuel_21 : Nat) (t : Nat) (K3 : Nat) (lqC : Nat) (lmC : Nat → Nat) (lrC : Nat → Nat), (t ≤ p 1) → (K3 = i * (2 * p 1) + (c - 1) * p 1 + t) → p 1 - t < fuel_21 → Wc Γ 0 0 97 [(0, .ref x), (1, .int (nI 1)), (2, .int (nI 0)), (3, .int (nI (p 1))), (4, .int (nI (cnt (mB p 1) K3))), (5, .int (fsA (mB p 1) (mCd (p 1)) K3)), (6, .int (nI i)), (7, .int (nI c)), (8, .int (nI t))] [] [ob x 10 [.ref xt, .ref xn, .ref xr, .ref xa, .ref xs, .ref xf, .ref xw, .ref xi, .int (nI sn), .long sd, .ref xe, .ref xp, .ref xg, .ref xl, .ref xk, .ref xh, .ref xv], ob xn 1 [.ref na, .ref nb], ob na 6 [.int (nI (p 0)), .int (nI (p 2)), .ref nla], aI G nla 10 (nF (gz p)), ob nb 6 [.int (nI (p 1)), .int (nI (p 3)), .ref nlb], aI G nlb 10 (nF (go p)), ob xr 1 [.ref ra, .ref rb], ob ra 6 [.int (nI (p 0)), .int (nI (p 2)), .ref rla], aI G rla 10 (nF (gz p)), ob rb 6 [.int (nI (p 1)), .int (nI (p 3)), .ref rlb], aI G rlb 10 (nF (go p)), ob xl 4 [.ref xlm, .ref xlr, .int (nI lqC)], aI G xlm 4 (nF lmC), aI G xlr 128 (nF lrC)] := by
                      intro fuel_21
                      induction fuel_21 with
                      | zero => intro t K3 lqC lmC lrC ht hK3 hm; exact absurd hm (Nat.not_lt_zero _)
                      | succ fuel_21 ih_23 =>
                        intro t K3 lqC lmC lrC ht hK3 hm_24
                        refine wc_iload X 97 8 dX10_mended_97 rfl ?_
                        refine wc_iload_n X 99 3 dX10_mended_99 rfl ?_
                        refine wc_icmp_geN X 100 152 dX10_mended_100 (by decide) (by omega) (by omega) (fun c100_25 => ?_) (fun c100_25 => ?_)
                        ·
                          refine wc_iincN X 152 7 (L' := [(0, .ref x), (1, .int (nI 1)), (2, .int (nI 0)), (3, .int (nI (p 1))), (4, .int (nI (cnt (mB p 1) K3))), (5, .int (fsA (mB p 1) (mCd (p 1)) K3)), (6, .int (nI i)), (7, .int (nI (c + 1))), (8, .int (nI t))]) dX10_mended_152 rfl (by decide) rfl ?_
                          refine wc_goto X 155 88 dX10_mended_155 (by decide) ?_
                          refine wc_loc [0, 1, 2, 3, 4, 5, 6, 7] (L' := [(0, .ref x), (1, .int (nI 1)), (2, .int (nI 0)), (3, .int (nI (p 1))), (4, .int (nI (cnt (mB p 1) K3))), (5, .int (fsA (mB p 1) (mCd (p 1)) K3)), (6, .int (nI i)), (7, .int (nI (c + 1)))]) rfl ?_
                          refine wc_L (L' := [(0, .ref x), (1, .int (nI 1)), (2, .int (nI 0)), (3, .int (nI (p 1))), (4, .int (nI (cnt (mB p 1) K3))), (5, .int (fsA (mB p 1) (mCd (p 1)) K3)), (6, .int (nI i)), (7, .int (nI (c + 1)))]) (by rfl) ?_
                          exact ih_18 (c + 1) K3 lqC lmC lrC (by omega) (by omega) (by rw [hK3, show t = p 1 by omega]; exact md_t hc1) (by omega)
                        ·
                          have hd := md_dec hc1 (show c ≤ 2 by omega) (show t < p 1 by omega) hK3
                          refine wc_aload_n X 103 0 dX10_mended_103 rfl ?_
                          refine wc_iload_n X 104 1 dX10_mended_104 rfl ?_
                          refine wc_iload X 105 6 dX10_mended_105 rfl ?_
                          refine wc_iload X 107 7 dX10_mended_107 rfl ?_
                          refine wc_iload X 109 8 dX10_mended_109 rfl ?_
                          refine wc_mutV X Y 111 [0, 6, 7, 8, 9, 10, 11, 12, 13] [1, 2, 3, 4, 5] 0 (c_X10_mends1 l G x xt xn xr xa xs xf xw xi sn sd xe xp xg xl xk xh xv ra rla rb rlb p xlm xlr lqC lmC lrC i c t (by first | assumption | omega) (by omega) (by first | assumption | omega) (by omega) (by omega)) yv_X10_mends kd10 rfl rfl (wr := [ob xn 1 [.ref na, .ref nb], ob na 6 [.int (nI (p 0)), .int (nI (p 2)), .ref nla], aI G nla 10 (nF (gz p)), ob nb 6 [.int (nI (p 1)), .int (nI (p 3)), .ref nlb], aI G nlb 10 (nF (go p))]) rfl ⟨rfl, rfl, rfl⟩ q_655 ⟨rfl, rfl⟩ ⟨rfl, rfl⟩ ⟨rfl, rfl⟩ rfl rfl rfl dX10_mended_111 (fun v w hp_26 => ?_)
                          obtain ⟨lq2_27, lm2_28, lr2_29, rfl, rfl⟩ := hp_26
                          refine wc_perm Y [5, 0, 1, 2, 3, 4, 6, 7, 8, 9, 10, 11, 12, 13] [ob x 10 [.ref xt, .ref xn, .ref xr, .ref xa, .ref xs, .ref xf, .ref xw, .ref xi, .int (nI sn), .long sd, .ref xe, .ref xp, .ref xg, .ref xl, .ref xk, .ref xh, .ref xv], ob xn 1 [.ref na, .ref nb], ob na 6 [.int (nI (p 0)), .int (nI (p 2)), .ref nla], aI G nla 10 (nF (gz p)), ob nb 6 [.int (nI (p 1)), .int (nI (p 3)), .ref nlb], aI G nlb 10 (nF (go p)), ob xr 1 [.ref ra, .ref rb], ob ra 6 [.int (nI (p 0)), .int (nI (p 2)), .ref rla], aI G rla 10 (nF (gz p)), ob rb 6 [.int (nI (p 1)), .int (nI (p 3)), .ref rlb], aI G rlb 10 (nF (go p)), ob xl 4 [.ref xlm, .ref xlr, .int (nI lq2_27)], aI G xlm 4 (nF lm2_28), aI G xlr 128 (nF lr2_29)] rfl rfl ?_
                          show Wc Γ 0 0 114 [(0, .ref x), (1, .int (nI 1)), (2, .int (nI 0)), (3, .int (nI (p 1))), (4, .int (nI (cnt (mB p 1) K3))), (5, .int (fsA (mB p 1) (mCd (p 1)) K3)), (6, .int (nI i)), (7, .int (nI c)), (8, .int (nI t))] [.int (b2i (mEd p 1 i c t))] [ob x 10 [.ref xt, .ref xn, .ref xr, .ref xa, .ref xs, .ref xf, .ref xw, .ref xi, .int (nI sn), .long sd, .ref xe, .ref xp, .ref xg, .ref xl, .ref xk, .ref xh, .ref xv], ob xn 1 [.ref na, .ref nb], ob na 6 [.int (nI (p 0)), .int (nI (p 2)), .ref nla], aI G nla 10 (nF (gz p)), ob nb 6 [.int (nI (p 1)), .int (nI (p 3)), .ref nlb], aI G nlb 10 (nF (go p)), ob xr 1 [.ref ra, .ref rb], ob ra 6 [.int (nI (p 0)), .int (nI (p 2)), .ref rla], aI G rla 10 (nF (gz p)), ob rb 6 [.int (nI (p 1)), .int (nI (p 3)), .ref rlb], aI G rlb 10 (nF (go p)), ob xl 4 [.ref xlm, .ref xlr, .int (nI lq2_27)], aI G xlm 4 (nF lm2_28), aI G xlr 128 (nF lr2_29)]
                          have heq : mEd p 1 i c t = mB p 1 K3 := by unfold mB; rw [hd.1, hd.2.1, hd.2.2]
                          have hcode : 100 * i + 10 * c + t = mCd (p 1) K3 := by unfold mCd; rw [hd.1, hd.2.1, hd.2.2]
                          refine wc_if_eqB X 114 146 dX10_mended_114 (by decide) (fun c114_30 => ?_) (fun c114_30 => ?_)
                          ·
                            refine wc_iincN X 146 8 (L' := [(0, .ref x), (1, .int (nI 1)), (2, .int (nI 0)), (3, .int (nI (p 1))), (4, .int (nI (cnt (mB p 1) K3))), (5, .int (fsA (mB p 1) (mCd (p 1)) K3)), (6, .int (nI i)), (7, .int (nI c)), (8, .int (nI (t + 1)))]) dX10_mended_146 rfl (by decide) rfl ?_
                            refine wc_goto X 149 97 dX10_mended_149 (by decide) ?_
                            have e_31 : cnt (mB p 1) K3 = cnt (mB p 1) (K3 + 1) := cnt_no heq c114_30
                            have e_32 : fsA (mB p 1) (mCd (p 1)) K3 = fsA (mB p 1) (mCd (p 1)) (K3 + 1) := fs_no heq c114_30
                            refine wc_L (L' := [(0, .ref x), (1, .int (nI 1)), (2, .int (nI 0)), (3, .int (nI (p 1))), (4, .int (nI (cnt (mB p 1) (K3 + 1)))), (5, .int (fsA (mB p 1) (mCd (p 1)) (K3 + 1))), (6, .int (nI i)), (7, .int (nI c)), (8, .int (nI (t + 1)))]) (by first | (rw [e_31, e_32]; done) | (rw [e_31, e_32]; rfl) | (rw [← e_31, ← e_32]; done) | rfl) ?_
                            exact ih_23 (t + 1) (K3 + 1) lq2_27 lm2_28 lr2_29 (by omega) (by rw [hK3]; rfl) (by omega)
                          ·
                            refine wc_iload X 117 4 dX10_mended_117 rfl ?_
                            refine wc_if_neN X 119 139 dX10_mended_119 (by decide) (Nat.lt_of_le_of_lt (cnt_all _ _) (md_bd (by omega) (by omega) hc1 (by omega) (by omega) hK3)) (fun c119_33 => ?_) (fun c119_33 => ?_)
                            ·
                              refine wc_iload X 139 5 dX10_mended_139 rfl ?_
                              refine wc_istore X 141 (L' := [(0, .ref x), (1, .int (nI 1)), (2, .int (nI 0)), (3, .int (nI (p 1))), (4, .int (nI (cnt (mB p 1) K3))), (5, .int (fsA (mB p 1) (mCd (p 1)) K3)), (6, .int (nI i)), (7, .int (nI c)), (8, .int (nI t))]) dX10_mended_141 (by decide) rfl ?_
                              refine wc_iincN X 143 4 (L' := [(0, .ref x), (1, .int (nI 1)), (2, .int (nI 0)), (3, .int (nI (p 1))), (4, .int (nI ((cnt (mB p 1) K3) + 1))), (5, .int (fsA (mB p 1) (mCd (p 1)) K3)), (6, .int (nI i)), (7, .int (nI c)), (8, .int (nI t))]) dX10_mended_143 rfl (by decide) rfl ?_
                              refine wc_iincN X 146 8 (L' := [(0, .ref x), (1, .int (nI 1)), (2, .int (nI 0)), (3, .int (nI (p 1))), (4, .int (nI ((cnt (mB p 1) K3) + 1))), (5, .int (fsA (mB p 1) (mCd (p 1)) K3)), (6, .int (nI i)), (7, .int (nI c)), (8, .int (nI (t + 1)))]) dX10_mended_146 rfl (by decide) rfl ?_
                              refine wc_goto X 149 97 dX10_mended_149 (by decide) ?_
                              have e_34 : (cnt (mB p 1) K3) + 1 = cnt (mB p 1) (K3 + 1) := cnt_ye heq c114_30
                              have e_35 : fsA (mB p 1) (mCd (p 1)) K3 = fsA (mB p 1) (mCd (p 1)) (K3 + 1) := fs_y1 heq c114_30 c119_33
                              refine wc_L (L' := [(0, .ref x), (1, .int (nI 1)), (2, .int (nI 0)), (3, .int (nI (p 1))), (4, .int (nI (cnt (mB p 1) (K3 + 1)))), (5, .int (fsA (mB p 1) (mCd (p 1)) (K3 + 1))), (6, .int (nI i)), (7, .int (nI c)), (8, .int (nI (t + 1)))]) (by first | (rw [e_34, e_35]; done) | (rw [e_34, e_35]; rfl) | (rw [← e_34, ← e_35]; done) | rfl) ?_
                              exact ih_23 (t + 1) (K3 + 1) lq2_27 lm2_28 lr2_29 (by omega) (by rw [hK3]; rfl) (by omega)
                            ·
                              refine wc_bipush X 122 (nI 100) dX10_mended_122 (by decide) ?_
                              refine wc_iload X 124 6 dX10_mended_124 rfl ?_
                              refine wc_imulN X 126 dX10_mended_126 ?_
                              refine wc_bipush X 127 (nI 10) dX10_mended_127 (by decide) ?_
                              refine wc_iload X 129 7 dX10_mended_129 rfl ?_
                              refine wc_imulN X 131 dX10_mended_131 ?_
                              refine wc_iaddN X 132 dX10_mended_132 ?_
                              refine wc_iload X 133 8 dX10_mended_133 rfl ?_
                              refine wc_iaddN X 135 dX10_mended_135 ?_
                              refine wc_goto X 136 141 dX10_mended_136 (by decide) ?_
                              refine wc_istore X 141 (L' := [(0, .ref x), (1, .int (nI 1)), (2, .int (nI 0)), (3, .int (nI (p 1))), (4, .int (nI (cnt (mB p 1) K3))), (5, .int (nI (((100 * i) + (10 * c)) + t))), (6, .int (nI i)), (7, .int (nI c)), (8, .int (nI t))]) dX10_mended_141 (by decide) rfl ?_
                              refine wc_iincN X 143 4 (L' := [(0, .ref x), (1, .int (nI 1)), (2, .int (nI 0)), (3, .int (nI (p 1))), (4, .int (nI ((cnt (mB p 1) K3) + 1))), (5, .int (nI (((100 * i) + (10 * c)) + t))), (6, .int (nI i)), (7, .int (nI c)), (8, .int (nI t))]) dX10_mended_143 rfl (by decide) rfl ?_
                              refine wc_iincN X 146 8 (L' := [(0, .ref x), (1, .int (nI 1)), (2, .int (nI 0)), (3, .int (nI (p 1))), (4, .int (nI ((cnt (mB p 1) K3) + 1))), (5, .int (nI (((100 * i) + (10 * c)) + t))), (6, .int (nI i)), (7, .int (nI c)), (8, .int (nI (t + 1)))]) dX10_mended_146 rfl (by decide) rfl ?_
                              refine wc_goto X 149 97 dX10_mended_149 (by decide) ?_
                              have e_36 : (cnt (mB p 1) K3) + 1 = cnt (mB p 1) (K3 + 1) := cnt_ye heq c114_30
                              have e_37 : (.int (nI (((100 * i) + (10 * c)) + t)) : Value) = .int (fsA (mB p 1) (mCd (p 1)) (K3 + 1)) := congrArg Value.int (fs_y0 heq c114_30 c119_33 hcode)
                              refine wc_L (L' := [(0, .ref x), (1, .int (nI 1)), (2, .int (nI 0)), (3, .int (nI (p 1))), (4, .int (nI (cnt (mB p 1) (K3 + 1)))), (5, .int (fsA (mB p 1) (mCd (p 1)) (K3 + 1))), (6, .int (nI i)), (7, .int (nI c)), (8, .int (nI (t + 1)))]) (by first | (rw [e_36, e_37]; done) | (rw [e_36, e_37]; rfl) | (rw [← e_36, ← e_37]; done) | rfl) ?_
                              exact ih_23 (t + 1) (K3 + 1) lq2_27 lm2_28 lr2_29 (by omega) (by rw [hK3]; rfl) (by omega)
                    exact LP_22 (p 1 - 0 + 1) 0 K2 lqB lmB lrB (Nat.zero_le _) (by rw [hK2]; rfl) (Nat.lt_succ_self _)
              exact LP_17 (3 - 1 + 1) 1 K lqA lmA lrA (by decide) (by decide) (by rw [hK]; simp) (Nat.lt_succ_self _)
        have e_38 : 0 = cnt (mB p 1) 0 := rfl
        have e_39 : (-9) = fsA (mB p 1) (mCd (p 1)) 0 := rfl
        refine wc_L (L' := [(0, .ref x), (1, .int (nI 1)), (2, .int (nI 0)), (3, .int (nI (p 1))), (4, .int (nI (cnt (mB p 1) 0))), (5, .int (fsA (mB p 1) (mCd (p 1)) 0)), (6, .int (nI 0))]) (by first | (rw [e_38, e_39]; done) | (rw [e_38, e_39]; rfl) | (rw [← e_38, ← e_39]; done) | rfl) ?_
        exact LP_11 (p 1 - 0 + 1) 0 0 n2_7 mt2_5 row2_6 (Nat.zero_le _) (Nat.zero_mul _).symm (Nat.lt_succ_self _)
      ·
        exact absurd c32_8 (by decide)
    ·
      exact absurd c15_3 (by decide)
  ·
    exact absurd c4_1 (by decide)

set_option maxHeartbeats 4000000 in
set_option maxRecDepth 100000 in
theorem c_X10_mendedW11 (l : Launch) (G : GG) (x xt xn xr xa xs xf xw xi sn : Nat) (sd : Int64) (xe xp xg xl xk xh xv : Nat) (na nla nb nlb : Nat) (p : Nat → Nat) (xlm xlr lq : Nat) (lm lr : Nat → Nat) (hr : pgOk p) (hw : withP p = true) : MM l G yX10_mended (Cond.code yX10_mended cX10_mended 9 (some .int)) { frames := 4, cells := 0, slots := 0, locals := 95 } [.ref x, .int (nI 1), .int (nI 1)] [ob x 10 [.ref xt, .ref xn, .ref xr, .ref xa, .ref xs, .ref xf, .ref xw, .ref xi, .int (nI sn), .long sd, .ref xe, .ref xp, .ref xg, .ref xl, .ref xk, .ref xh, .ref xv], ob xn 1 [.ref na, .ref nb], ob na 6 [.int (nI (p 0)), .int (nI (p 2)), .ref nla], aI G nla 10 (nF (gz p)), ob nb 6 [.int (nI (p 1)), .int (nI (p 3)), .ref nlb], aI G nlb 10 (nF (go p)), ob xl 4 [.ref xlm, .ref xlr, .int (nI lq)], aI G xlm 4 (nF lm), aI G xlr 128 (nF lr)] (fun (v : Option Value) (w : va_W) => ∃ (lq2 : Nat) (lm2 lr2 : Nat → Nat), v = some (.int (-9)) ∧ w = [ob x 10 [.ref xt, .ref xn, .ref xr, .ref xa, .ref xs, .ref xf, .ref xw, .ref xi, .int (nI sn), .long sd, .ref xe, .ref xp, .ref xg, .ref xl, .ref xk, .ref xh, .ref xv], ob xn 1 [.ref na, .ref nb], ob na 6 [.int (nI (p 0)), .int (nI (p 2)), .ref nla], aI G nla 10 (nF (gz p)), ob nb 6 [.int (nI (p 1)), .int (nI (p 3)), .ref nlb], aI G nlb 10 (nF (go p)), ob xl 4 [.ref xlm, .ref xlr, .int (nI lq2)], aI G xlm 4 (nF lm2), aI G xlr 128 (nF lr2)]) 0 0 := by
  refine MM.ofI (by decide) rfl (fun Γ X Y hnm ret => ?_)
  show Wc Γ 0 0 0 [(0, .ref x), (1, .int (nI 1)), (2, .int (nI 1))] [] [ob x 10 [.ref xt, .ref xn, .ref xr, .ref xa, .ref xs, .ref xf, .ref xw, .ref xi, .int (nI sn), .long sd, .ref xe, .ref xp, .ref xg, .ref xl, .ref xk, .ref xh, .ref xv], ob xn 1 [.ref na, .ref nb], ob na 6 [.int (nI (p 0)), .int (nI (p 2)), .ref nla], aI G nla 10 (nF (gz p)), ob nb 6 [.int (nI (p 1)), .int (nI (p 3)), .ref nlb], aI G nlb 10 (nF (go p)), ob xl 4 [.ref xlm, .ref xlr, .int (nI lq)], aI G xlm 4 (nF lm), aI G xlr 128 (nF lr)]
  have hn0 := hr.2.1
  have hn01 := hr.1
  have hn1 := hr.2.2.2.1
  have hn11 := hr.2.2.1
  have he0 := pg_e0 hr
  have he1 := hr.2.2.2.2.1 3
  have hg0 := hr.2.2.2.2.2.1
  have hg1 := (fun j => hr.2.2.2.2.1 (12 + j) : ∀ j, go p j < 32)
  have hg0n := (hr.2.2.2.2.2.2.1 0 (by decide) : ∀ j, gz p j < 2 ^ p 0)
  have hg1n := (hr.2.2.2.2.2.2.1 1 (by decide) : ∀ j, go p j < 2 ^ p 1)
  have he0n := hr.2.2.2.2.2.2.2 0 (by decide)
  have he1n := hr.2.2.2.2.2.2.2 1 (by decide)
  have hg0w := (fun j => Nat.lt_trans (hg0 j) (by decide) : ∀ j, gz p j < 32)
  refine wc_iload_n X 0 1 dX10_mended_0 rfl ?_
  refine wc_callS X 1 [] (c_X10_isMachine l G (nI 1) ) ys_X10_isMachine rfl q_400 ⟨rfl, rfl⟩ ⟨rfl, rfl⟩ ⟨rfl, rfl⟩ rfl rfl rfl dX10_mended_1 ?_
  refine wc_topi (b2i true) (by decide) ?_
  refine wc_if_neB X 4 9 dX10_mended_4 (by decide) (fun c4_1 => ?_) (fun c4_1 => ?_)
  ·
    refine wc_iload_n X 9 2 dX10_mended_9 rfl ?_
    refine wc_ifltF X 10 (tgt := 18) dX10_mended_10 (by decide) (by decide) ?_
    refine wc_iload_n X 13 2 dX10_mended_13 rfl ?_
    refine wc_iconstN X 14 1 dX10_mended_14 ?_
    refine wc_icmp_leN X 15 21 dX10_mended_15 (by decide) (by decide) (by decide) (fun c15_3 => ?_) (fun c15_3 => ?_)
    ·
      refine wc_aload_n X 21 0 dX10_mended_21 rfl ?_
      refine wc_get X 22 0 13 kd10 rfl (by decide) q_246 rfl dX10_mended_22 ?_
      refine wc_aload_n X 25 0 dX10_mended_25 rfl ?_
      refine wc_get X 26 0 1 kd10 rfl (by decide) q_234 rfl dX10_mended_26 ?_
      refine wc_mutV X Y 29 [6, 7, 8, 1, 2, 3, 4, 5] [0] 6 (c_X4_holds l G xl xlm xlr lq lm lr xn na nla (p 0) (p 2) (gz p) nb nlb (p 1) (p 3) (go p) (by first | assumption | omega) (by first | assumption | omega) (by first | assumption | omega) (by first | assumption | omega) (by first | assumption | omega) (by first | assumption | omega) (by first | assumption | omega) (by first | assumption | omega) (by first | assumption | omega)) yv_X4_holds kd4 rfl rfl (wr := [ob x 10 [.ref xt, .ref xn, .ref xr, .ref xa, .ref xs, .ref xf, .ref xw, .ref xi, .int (nI sn), .long sd, .ref xe, .ref xp, .ref xg, .ref xl, .ref xk, .ref xh, .ref xv]]) rfl ⟨rfl, rfl, rfl⟩ q_503 ⟨rfl, rfl⟩ ⟨rfl, rfl⟩ ⟨rfl, rfl⟩ rfl rfl rfl dX10_mended_29 (fun v w hp_4 => ?_)
      obtain ⟨mt2_5, row2_6, n2_7, rfl, rfl⟩ := hp_4
      refine wc_perm Y [0, 4, 5, 6, 7, 8, 1, 2, 3] [ob x 10 [.ref xt, .ref xn, .ref xr, .ref xa, .ref xs, .ref xf, .ref xw, .ref xi, .int (nI sn), .long sd, .ref xe, .ref xp, .ref xg, .ref xl, .ref xk, .ref xh, .ref xv], ob xn 1 [.ref na, .ref nb], ob na 6 [.int (nI (p 0)), .int (nI (p 2)), .ref nla], aI G nla 10 (nF (gz p)), ob nb 6 [.int (nI (p 1)), .int (nI (p 3)), .ref nlb], aI G nlb 10 (nF (go p)), ob xl 4 [.ref xlm, .ref xlr, .int (nI n2_7)], aI G xlm 4 (nF mt2_5), aI G xlr 128 (nF row2_6)] rfl rfl ?_
      show Wc Γ 0 0 32 [(0, .ref x), (1, .int (nI 1)), (2, .int (nI 1))] [.int (b2i (withB (gz p) (p 0) (p 2) (go p) (p 1) (p 3)))] [ob x 10 [.ref xt, .ref xn, .ref xr, .ref xa, .ref xs, .ref xf, .ref xw, .ref xi, .int (nI sn), .long sd, .ref xe, .ref xp, .ref xg, .ref xl, .ref xk, .ref xh, .ref xv], ob xn 1 [.ref na, .ref nb], ob na 6 [.int (nI (p 0)), .int (nI (p 2)), .ref nla], aI G nla 10 (nF (gz p)), ob nb 6 [.int (nI (p 1)), .int (nI (p 3)), .ref nlb], aI G nlb 10 (nF (go p)), ob xl 4 [.ref xlm, .ref xlr, .int (nI n2_7)], aI G xlm 4 (nF mt2_5), aI G xlr 128 (nF row2_6)]
      refine wc_topi (b2i true) (congrArg b2i hw) ?_
      refine wc_if_eqB X 32 46 dX10_mended_32 (by decide) (fun c32_8 => ?_) (fun c32_8 => ?_)
      ·
        exact absurd c32_8 (by decide)
      ·
        refine wc_iload_n X 35 2 dX10_mended_35 rfl ?_
        refine wc_if_neN X 36 43 dX10_mended_36 (by decide) (by decide) (fun c36_9 => ?_) (fun c36_9 => ?_)
        ·
          refine wc_bipush X 43 (-9) dX10_mended_43 (by decide) ?_
          exact ret 45 _ (-9) _ dX10_mended_45 (⟨_, _, _, rfl, rfl⟩)
        ·
          exact absurd c36_9 (by decide)
    ·
      exact absurd c15_3 (by decide)
  ·
    exact absurd c4_1 (by decide)

set_option maxHeartbeats 4000000 in
set_option maxRecDepth 100000 in
theorem c_X10_mendedS11 (l : Launch) (G : GG) (x xt xn xr xa xs xf xw xi sn : Nat) (sd : Int64) (xe xp xg xl xk xh xv : Nat) (na nla nb nlb : Nat) (p : Nat → Nat) (ra rla r0 re : Nat) (rg : Nat → Nat) (rb rlb r1 rf : Nat) (rh : Nat → Nat) (xlm xlr lq : Nat) (lm lr : Nat → Nat) (hr : pgOk p) (hw : withP p = false) : MM l G yX10_mended (Cond.code yX10_mended cX10_mended 9 (some .int)) { frames := 5, cells := 0, slots := 0, locals := 122 } [.ref x, .int (nI 1), .int (nI 1)] [ob x 10 [.ref xt, .ref xn, .ref xr, .ref xa, .ref xs, .ref xf, .ref xw, .ref xi, .int (nI sn), .long sd, .ref xe, .ref xp, .ref xg, .ref xl, .ref xk, .ref xh, .ref xv], ob xn 1 [.ref na, .ref nb], ob na 6 [.int (nI (p 0)), .int (nI (p 2)), .ref nla], aI G nla 10 (nF (gz p)), ob nb 6 [.int (nI (p 1)), .int (nI (p 3)), .ref nlb], aI G nlb 10 (nF (go p)), ob xr 1 [.ref ra, .ref rb], ob ra 6 [.int (nI r0), .int (nI re), .ref rla], aI G rla 10 (nF rg), ob rb 6 [.int (nI r1), .int (nI rf), .ref rlb], aI G rlb 10 (nF rh), ob xl 4 [.ref xlm, .ref xlr, .int (nI lq)], aI G xlm 4 (nF lm), aI G xlr 128 (nF lr)] (fun (v : Option Value) (w : va_W) => ∃ (lq2 : Nat) (lm2 lr2 : Nat → Nat), v = some (.int (fsA (mB p 1) (mCd (p 1)) (2 * p 1 * p 1))) ∧ w = [ob x 10 [.ref xt, .ref xn, .ref xr, .ref xa, .ref xs, .ref xf, .ref xw, .ref xi, .int (nI sn), .long sd, .ref xe, .ref xp, .ref xg, .ref xl, .ref xk, .ref xh, .ref xv], ob xn 1 [.ref na, .ref nb], ob na 6 [.int (nI (p 0)), .int (nI (p 2)), .ref nla], aI G nla 10 (nF (gz p)), ob nb 6 [.int (nI (p 1)), .int (nI (p 3)), .ref nlb], aI G nlb 10 (nF (go p)), ob xr 1 [.ref ra, .ref rb], ob ra 6 [.int (nI (p 0)), .int (nI (p 2)), .ref rla], aI G rla 10 (nF (gz p)), ob rb 6 [.int (nI (p 1)), .int (nI (p 3)), .ref rlb], aI G rlb 10 (nF (go p)), ob xl 4 [.ref xlm, .ref xlr, .int (nI lq2)], aI G xlm 4 (nF lm2), aI G xlr 128 (nF lr2)]) 0 0 := by
  refine MM.ofI (by decide) rfl (fun Γ X Y hnm ret => ?_)
  show Wc Γ 0 0 0 [(0, .ref x), (1, .int (nI 1)), (2, .int (nI 1))] [] [ob x 10 [.ref xt, .ref xn, .ref xr, .ref xa, .ref xs, .ref xf, .ref xw, .ref xi, .int (nI sn), .long sd, .ref xe, .ref xp, .ref xg, .ref xl, .ref xk, .ref xh, .ref xv], ob xn 1 [.ref na, .ref nb], ob na 6 [.int (nI (p 0)), .int (nI (p 2)), .ref nla], aI G nla 10 (nF (gz p)), ob nb 6 [.int (nI (p 1)), .int (nI (p 3)), .ref nlb], aI G nlb 10 (nF (go p)), ob xr 1 [.ref ra, .ref rb], ob ra 6 [.int (nI r0), .int (nI re), .ref rla], aI G rla 10 (nF rg), ob rb 6 [.int (nI r1), .int (nI rf), .ref rlb], aI G rlb 10 (nF rh), ob xl 4 [.ref xlm, .ref xlr, .int (nI lq)], aI G xlm 4 (nF lm), aI G xlr 128 (nF lr)]
  have hn0 := hr.2.1
  have hn01 := hr.1
  have hn1 := hr.2.2.2.1
  have hn11 := hr.2.2.1
  have he0 := pg_e0 hr
  have he1 := hr.2.2.2.2.1 3
  have hg0 := hr.2.2.2.2.2.1
  have hg1 := (fun j => hr.2.2.2.2.1 (12 + j) : ∀ j, go p j < 32)
  have hg0n := (hr.2.2.2.2.2.2.1 0 (by decide) : ∀ j, gz p j < 2 ^ p 0)
  have hg1n := (hr.2.2.2.2.2.2.1 1 (by decide) : ∀ j, go p j < 2 ^ p 1)
  have he0n := hr.2.2.2.2.2.2.2 0 (by decide)
  have he1n := hr.2.2.2.2.2.2.2 1 (by decide)
  have hg0w := (fun j => Nat.lt_trans (hg0 j) (by decide) : ∀ j, gz p j < 32)
  have hbm := pgOk_m hr (show 1 < 2 by decide)
  refine wc_iload_n X 0 1 dX10_mended_0 rfl ?_
  refine wc_callS X 1 [] (c_X10_isMachine l G (nI 1) ) ys_X10_isMachine rfl q_400 ⟨rfl, rfl⟩ ⟨rfl, rfl⟩ ⟨rfl, rfl⟩ rfl rfl rfl dX10_mended_1 ?_
  refine wc_topi (b2i true) (by decide) ?_
  refine wc_if_neB X 4 9 dX10_mended_4 (by decide) (fun c4_1 => ?_) (fun c4_1 => ?_)
  ·
    refine wc_iload_n X 9 2 dX10_mended_9 rfl ?_
    refine wc_ifltF X 10 (tgt := 18) dX10_mended_10 (by decide) (by decide) ?_
    refine wc_iload_n X 13 2 dX10_mended_13 rfl ?_
    refine wc_iconstN X 14 1 dX10_mended_14 ?_
    refine wc_icmp_leN X 15 21 dX10_mended_15 (by decide) (by decide) (by decide) (fun c15_3 => ?_) (fun c15_3 => ?_)
    ·
      refine wc_aload_n X 21 0 dX10_mended_21 rfl ?_
      refine wc_get X 22 0 13 kd10 rfl (by decide) q_246 rfl dX10_mended_22 ?_
      refine wc_aload_n X 25 0 dX10_mended_25 rfl ?_
      refine wc_get X 26 0 1 kd10 rfl (by decide) q_234 rfl dX10_mended_26 ?_
      refine wc_mutV X Y 29 [11, 12, 13, 1, 2, 3, 4, 5] [0, 6, 7, 8, 9, 10] 11 (c_X4_holds l G xl xlm xlr lq lm lr xn na nla (p 0) (p 2) (gz p) nb nlb (p 1) (p 3) (go p) (by first | assumption | omega) (by first | assumption | omega) (by first | assumption | omega) (by first | assumption | omega) (by first | assumption | omega) (by first | assumption | omega) (by first | assumption | omega) (by first | assumption | omega) (by first | assumption | omega)) yv_X4_holds kd4 rfl rfl (wr := [ob x 10 [.ref xt, .ref xn, .ref xr, .ref xa, .ref xs, .ref xf, .ref xw, .ref xi, .int (nI sn), .long sd, .ref xe, .ref xp, .ref xg, .ref xl, .ref xk, .ref xh, .ref xv], ob xr 1 [.ref ra, .ref rb], ob ra 6 [.int (nI r0), .int (nI re), .ref rla], aI G rla 10 (nF rg), ob rb 6 [.int (nI r1), .int (nI rf), .ref rlb], aI G rlb 10 (nF rh)]) rfl ⟨rfl, rfl, rfl⟩ q_503 ⟨rfl, rfl⟩ ⟨rfl, rfl⟩ ⟨rfl, rfl⟩ rfl rfl rfl dX10_mended_29 (fun v w hp_4 => ?_)
      obtain ⟨mt2_5, row2_6, n2_7, rfl, rfl⟩ := hp_4
      refine wc_perm Y [0, 9, 10, 11, 12, 13, 1, 2, 3, 4, 5, 6, 7, 8] [ob x 10 [.ref xt, .ref xn, .ref xr, .ref xa, .ref xs, .ref xf, .ref xw, .ref xi, .int (nI sn), .long sd, .ref xe, .ref xp, .ref xg, .ref xl, .ref xk, .ref xh, .ref xv], ob xn 1 [.ref na, .ref nb], ob na 6 [.int (nI (p 0)), .int (nI (p 2)), .ref nla], aI G nla 10 (nF (gz p)), ob nb 6 [.int (nI (p 1)), .int (nI (p 3)), .ref nlb], aI G nlb 10 (nF (go p)), ob xr 1 [.ref ra, .ref rb], ob ra 6 [.int (nI r0), .int (nI re), .ref rla], aI G rla 10 (nF rg), ob rb 6 [.int (nI r1), .int (nI rf), .ref rlb], aI G rlb 10 (nF rh), ob xl 4 [.ref xlm, .ref xlr, .int (nI n2_7)], aI G xlm 4 (nF mt2_5), aI G xlr 128 (nF row2_6)] rfl rfl ?_
      show Wc Γ 0 0 32 [(0, .ref x), (1, .int (nI 1)), (2, .int (nI 1))] [.int (b2i (withB (gz p) (p 0) (p 2) (go p) (p 1) (p 3)))] [ob x 10 [.ref xt, .ref xn, .ref xr, .ref xa, .ref xs, .ref xf, .ref xw, .ref xi, .int (nI sn), .long sd, .ref xe, .ref xp, .ref xg, .ref xl, .ref xk, .ref xh, .ref xv], ob xn 1 [.ref na, .ref nb], ob na 6 [.int (nI (p 0)), .int (nI (p 2)), .ref nla], aI G nla 10 (nF (gz p)), ob nb 6 [.int (nI (p 1)), .int (nI (p 3)), .ref nlb], aI G nlb 10 (nF (go p)), ob xr 1 [.ref ra, .ref rb], ob ra 6 [.int (nI r0), .int (nI re), .ref rla], aI G rla 10 (nF rg), ob rb 6 [.int (nI r1), .int (nI rf), .ref rlb], aI G rlb 10 (nF rh), ob xl 4 [.ref xlm, .ref xlr, .int (nI n2_7)], aI G xlm 4 (nF mt2_5), aI G xlr 128 (nF row2_6)]
      refine wc_topi (b2i false) (congrArg b2i hw) ?_
      refine wc_if_eqB X 32 46 dX10_mended_32 (by decide) (fun c32_8 => ?_) (fun c32_8 => ?_)
      ·
        refine wc_aload_n X 46 0 dX10_mended_46 rfl ?_
        refine wc_get X 47 0 2 kd10 rfl (by decide) q_235 rfl dX10_mended_47 ?_
        refine wc_aload_n X 50 0 dX10_mended_50 rfl ?_
        refine wc_get X 51 0 1 kd10 rfl (by decide) q_234 rfl dX10_mended_51 ?_
        refine wc_mutV X Y 54 [6, 7, 8, 9, 10, 1, 2, 3, 4, 5] [0, 11, 12, 13] 6 (c_X1_copyFrom l G xr ra rla r0 re rg rb rlb r1 rf rh xn na nla (p 0) (p 2) (gz p) nb nlb (p 1) (p 3) (go p) ) yv_X1_copyFrom kd1 rfl rfl (wr := [ob x 10 [.ref xt, .ref xn, .ref xr, .ref xa, .ref xs, .ref xf, .ref xw, .ref xi, .int (nI sn), .long sd, .ref xe, .ref xp, .ref xg, .ref xl, .ref xk, .ref xh, .ref xv], ob xl 4 [.ref xlm, .ref xlr, .int (nI n2_7)], aI G xlm 4 (nF mt2_5), aI G xlr 128 (nF row2_6)]) rfl ⟨rfl, rfl, rfl⟩ q_374 ⟨rfl, rfl⟩ ⟨rfl, rfl⟩ ⟨rfl, rfl⟩ rfl rfl rfl dX10_mended_54 (fun v w hp_9 => ?_)
        obtain ⟨rfl, rfl⟩ := hp_9
        refine wc_perm Y [0, 9, 10, 11, 12, 13, 4, 5, 6, 7, 8, 1, 2, 3] [ob x 10 [.ref xt, .ref xn, .ref xr, .ref xa, .ref xs, .ref xf, .ref xw, .ref xi, .int (nI sn), .long sd, .ref xe, .ref xp, .ref xg, .ref xl, .ref xk, .ref xh, .ref xv], ob xn 1 [.ref na, .ref nb], ob na 6 [.int (nI (p 0)), .int (nI (p 2)), .ref nla], aI G nla 10 (nF (gz p)), ob nb 6 [.int (nI (p 1)), .int (nI (p 3)), .ref nlb], aI G nlb 10 (nF (go p)), ob xr 1 [.ref ra, .ref rb], ob ra 6 [.int (nI (p 0)), .int (nI (p 2)), .ref rla], aI G rla 10 (nF (gz p)), ob rb 6 [.int (nI (p 1)), .int (nI (p 3)), .ref rlb], aI G rlb 10 (nF (go p)), ob xl 4 [.ref xlm, .ref xlr, .int (nI n2_7)], aI G xlm 4 (nF mt2_5), aI G xlr 128 (nF row2_6)] rfl rfl ?_
        show Wc Γ 0 0 57 [(0, .ref x), (1, .int (nI 1)), (2, .int (nI 1))] [] [ob x 10 [.ref xt, .ref xn, .ref xr, .ref xa, .ref xs, .ref xf, .ref xw, .ref xi, .int (nI sn), .long sd, .ref xe, .ref xp, .ref xg, .ref xl, .ref xk, .ref xh, .ref xv], ob xn 1 [.ref na, .ref nb], ob na 6 [.int (nI (p 0)), .int (nI (p 2)), .ref nla], aI G nla 10 (nF (gz p)), ob nb 6 [.int (nI (p 1)), .int (nI (p 3)), .ref nlb], aI G nlb 10 (nF (go p)), ob xr 1 [.ref ra, .ref rb], ob ra 6 [.int (nI (p 0)), .int (nI (p 2)), .ref rla], aI G rla 10 (nF (gz p)), ob rb 6 [.int (nI (p 1)), .int (nI (p 3)), .ref rlb], aI G rlb 10 (nF (go p)), ob xl 4 [.ref xlm, .ref xlr, .int (nI n2_7)], aI G xlm 4 (nF mt2_5), aI G xlr 128 (nF row2_6)]
        refine wc_aload_n X 57 0 dX10_mended_57 rfl ?_
        refine wc_get X 58 0 1 kd10 rfl (by decide) q_234 rfl dX10_mended_58 ?_
        refine wc_iload_n X 61 1 dX10_mended_61 rfl ?_
        refine wc_callV X 62 [1] 1 (c_X1_of1 l G xn na nb (nI 1) (by decide)) yv_X1_of kd1 rfl rfl q_403 ⟨rfl, rfl⟩ ⟨rfl, rfl⟩ ⟨rfl, rfl⟩ rfl rfl rfl dX10_mended_62 ?_
        refine wc_get X 65 4 0 kd6 rfl (by decide) q_53 rfl dX10_mended_65 ?_
        refine wc_istore_n X 68 (L' := [(0, .ref x), (1, .int (nI 1)), (2, .int (nI 1)), (3, .int (nI (p 1)))]) dX10_mended_68 (by decide) rfl ?_
        refine wc_iconstN X 69 0 dX10_mended_69 ?_
        refine wc_istore X 70 (L' := [(0, .ref x), (1, .int (nI 1)), (2, .int (nI 1)), (3, .int (nI (p 1))), (4, .int (nI 0))]) dX10_mended_70 (by decide) rfl ?_
        refine wc_bipush X 72 (-9) dX10_mended_72 (by decide) ?_
        refine wc_istore X 74 (L' := [(0, .ref x), (1, .int (nI 1)), (2, .int (nI 1)), (3, .int (nI (p 1))), (4, .int (nI 0)), (5, .int (-9))]) dX10_mended_74 (by decide) rfl ?_
        refine wc_iconstN X 76 0 dX10_mended_76 ?_
        refine wc_istore X 77 (L' := [(0, .ref x), (1, .int (nI 1)), (2, .int (nI 1)), (3, .int (nI (p 1))), (4, .int (nI 0)), (5, .int (-9)), (6, .int (nI 0))]) dX10_mended_77 (by decide) rfl ?_
        have LP_11 : ∀ (fuel_10 : Nat) (i : Nat) (K : Nat) (lqA : Nat) (lmA : Nat → Nat) (lrA : Nat → Nat), (i ≤ p 1) → (K = i * (2 * p 1)) → p 1 - i < fuel_10 → Wc Γ 0 0 79 [(0, .ref x), (1, .int (nI 1)), (2, .int (nI 1)), (3, .int (nI (p 1))), (4, .int (nI (cnt (mB p 1) K))), (5, .int (fsA (mB p 1) (mCd (p 1)) K)), (6, .int (nI i))] [] [ob x 10 [.ref xt, .ref xn, .ref xr, .ref xa, .ref xs, .ref xf, .ref xw, .ref xi, .int (nI sn), .long sd, .ref xe, .ref xp, .ref xg, .ref xl, .ref xk, .ref xh, .ref xv], ob xn 1 [.ref na, .ref nb], ob na 6 [.int (nI (p 0)), .int (nI (p 2)), .ref nla], aI G nla 10 (nF (gz p)), ob nb 6 [.int (nI (p 1)), .int (nI (p 3)), .ref nlb], aI G nlb 10 (nF (go p)), ob xr 1 [.ref ra, .ref rb], ob ra 6 [.int (nI (p 0)), .int (nI (p 2)), .ref rla], aI G rla 10 (nF (gz p)), ob rb 6 [.int (nI (p 1)), .int (nI (p 3)), .ref rlb], aI G rlb 10 (nF (go p)), ob xl 4 [.ref xlm, .ref xlr, .int (nI lqA)], aI G xlm 4 (nF lmA), aI G xlr 128 (nF lrA)] := by
          intro fuel_10
          induction fuel_10 with
          | zero => intro i K lqA lmA lrA hi hK hm; exact absurd hm (Nat.not_lt_zero _)
          | succ fuel_10 ih_12 =>
            intro i K lqA lmA lrA hi hK hm_13
            refine wc_iload X 79 6 dX10_mended_79 rfl ?_
            refine wc_iload_n X 81 3 dX10_mended_81 rfl ?_
            refine wc_icmp_geN X 82 164 dX10_mended_82 (by decide) (by omega) (by omega) (fun c82_14 => ?_) (fun c82_14 => ?_)
            ·
              refine wc_iload_n X 164 2 dX10_mended_164 rfl ?_
              refine wc_if_neN X 165 173 dX10_mended_165 (by decide) (by decide) (fun c165_15 => ?_) (fun c165_15 => ?_)
              ·
                refine wc_iload X 173 5 dX10_mended_173 rfl ?_
                exact ret 175 _ (fsA (mB p 1) (mCd (p 1)) K) _ dX10_mended_175 (⟨_, _, _, by rw [show K = 2 * p 1 * p 1 by rw [hK, show i = p 1 by omega]; exact md_n], rfl⟩)
              ·
                exact absurd c165_15 (by decide)
            ·
              refine wc_iconstN X 85 1 dX10_mended_85 ?_
              refine wc_istore X 86 (L' := [(0, .ref x), (1, .int (nI 1)), (2, .int (nI 1)), (3, .int (nI (p 1))), (4, .int (nI (cnt (mB p 1) K))), (5, .int (fsA (mB p 1) (mCd (p 1)) K)), (6, .int (nI i)), (7, .int (nI 1))]) dX10_mended_86 (by decide) rfl ?_
              have LP_17 : ∀ (fuel_16 : Nat) (c : Nat) (K2 : Nat) (lqB : Nat) (lmB : Nat → Nat) (lrB : Nat → Nat), (1 ≤ c) → (c ≤ 3) → (K2 = i * (2 * p 1) + (c - 1) * p 1) → 3 - c < fuel_16 → Wc Γ 0 0 88 [(0, .ref x), (1, .int (nI 1)), (2, .int (nI 1)), (3, .int (nI (p 1))), (4, .int (nI (cnt (mB p 1) K2))), (5, .int (fsA (mB p 1) (mCd (p 1)) K2)), (6, .int (nI i)), (7, .int (nI c))] [] [ob x 10 [.ref xt, .ref xn, .ref xr, .ref xa, .ref xs, .ref xf, .ref xw, .ref xi, .int (nI sn), .long sd, .ref xe, .ref xp, .ref xg, .ref xl, .ref xk, .ref xh, .ref xv], ob xn 1 [.ref na, .ref nb], ob na 6 [.int (nI (p 0)), .int (nI (p 2)), .ref nla], aI G nla 10 (nF (gz p)), ob nb 6 [.int (nI (p 1)), .int (nI (p 3)), .ref nlb], aI G nlb 10 (nF (go p)), ob xr 1 [.ref ra, .ref rb], ob ra 6 [.int (nI (p 0)), .int (nI (p 2)), .ref rla], aI G rla 10 (nF (gz p)), ob rb 6 [.int (nI (p 1)), .int (nI (p 3)), .ref rlb], aI G rlb 10 (nF (go p)), ob xl 4 [.ref xlm, .ref xlr, .int (nI lqB)], aI G xlm 4 (nF lmB), aI G xlr 128 (nF lrB)] := by
                intro fuel_16
                induction fuel_16 with
                | zero => intro c K2 lqB lmB lrB hc1 hc3 hK2 hm; exact absurd hm (Nat.not_lt_zero _)
                | succ fuel_16 ih_18 =>
                  intro c K2 lqB lmB lrB hc1 hc3 hK2 hm_19
                  refine wc_iload X 88 7 dX10_mended_88 rfl ?_
                  refine wc_iconstN X 90 2 dX10_mended_90 ?_
                  refine wc_icmp_gtN X 91 158 dX10_mended_91 (by decide) (by omega) (by decide) (fun c91_20 => ?_) (fun c91_20 => ?_)
                  ·
                    refine wc_iincN X 158 6 (L' := [(0, .ref x), (1, .int (nI 1)), (2, .int (nI 1)), (3, .int (nI (p 1))), (4, .int (nI (cnt (mB p 1) K2))), (5, .int (fsA (mB p 1) (mCd (p 1)) K2)), (6, .int (nI (i + 1))), (7, .int (nI c))]) dX10_mended_158 rfl (by decide) rfl ?_
                    refine wc_goto X 161 79 dX10_mended_161 (by decide) ?_
                    refine wc_loc [0, 1, 2, 3, 4, 5, 6] (L' := [(0, .ref x), (1, .int (nI 1)), (2, .int (nI 1)), (3, .int (nI (p 1))), (4, .int (nI (cnt (mB p 1) K2))), (5, .int (fsA (mB p 1) (mCd (p 1)) K2)), (6, .int (nI (i + 1)))]) rfl ?_
                    refine wc_L (L' := [(0, .ref x), (1, .int (nI 1)), (2, .int (nI 1)), (3, .int (nI (p 1))), (4, .int (nI (cnt (mB p 1) K2))), (5, .int (fsA (mB p 1) (mCd (p 1)) K2)), (6, .int (nI (i + 1)))]) (by rfl) ?_
                    exact ih_12 (i + 1) K2 lqB lmB lrB (by omega) (by rw [hK2, show c = 3 by omega]; exact md_c) (by omega)
                  ·
                    refine wc_iconstN X 94 0 dX10_mended_94 ?_
                    refine wc_istore X 95 (L' := [(0, .ref x), (1, .int (nI 1)), (2, .int (nI 1)), (3, .int (nI (p 1))), (4, .int (nI (cnt (mB p 1) K2))), (5, .int (fsA (mB p 1) (mCd (p 1)) K2)), (6, .int (nI i)), (7, .int (nI c)), (8, .int (nI 0))]) dX10_mended_95 (by decide) rfl ?_
                    have LP_22 : ∀ (fuel_21 : Nat) (t : Nat) (K3 : Nat) (lqC : Nat) (lmC : Nat → Nat) (lrC : Nat → Nat), (t ≤ p 1) → (K3 = i * (2 * p 1) + (c - 1) * p 1 + t) → p 1 - t < fuel_21 → Wc Γ 0 0 97 [(0, .ref x), (1, .int (nI 1)), (2, .int (nI 1)), (3, .int (nI (p 1))), (4, .int (nI (cnt (mB p 1) K3))), (5, .int (fsA (mB p 1) (mCd (p 1)) K3)), (6, .int (nI i)), (7, .int (nI c)), (8, .int (nI t))] [] [ob x 10 [.ref xt, .ref xn, .ref xr, .ref xa, .ref xs, .ref xf, .ref xw, .ref xi, .int (nI sn), .long sd, .ref xe, .ref xp, .ref xg, .ref xl, .ref xk, .ref xh, .ref xv], ob xn 1 [.ref na, .ref nb], ob na 6 [.int (nI (p 0)), .int (nI (p 2)), .ref nla], aI G nla 10 (nF (gz p)), ob nb 6 [.int (nI (p 1)), .int (nI (p 3)), .ref nlb], aI G nlb 10 (nF (go p)), ob xr 1 [.ref ra, .ref rb], ob ra 6 [.int (nI (p 0)), .int (nI (p 2)), .ref rla], aI G rla 10 (nF (gz p)), ob rb 6 [.int (nI (p 1)), .int (nI (p 3)), .ref rlb], aI G rlb 10 (nF (go p)), ob xl 4 [.ref xlm, .ref xlr, .int (nI lqC)], aI G xlm 4 (nF lmC), aI G xlr 128 (nF lrC)] := by
                      intro fuel_21
                      induction fuel_21 with
                      | zero => intro t K3 lqC lmC lrC ht hK3 hm; exact absurd hm (Nat.not_lt_zero _)
                      | succ fuel_21 ih_23 =>
                        intro t K3 lqC lmC lrC ht hK3 hm_24
                        refine wc_iload X 97 8 dX10_mended_97 rfl ?_
                        refine wc_iload_n X 99 3 dX10_mended_99 rfl ?_
                        refine wc_icmp_geN X 100 152 dX10_mended_100 (by decide) (by omega) (by omega) (fun c100_25 => ?_) (fun c100_25 => ?_)
                        ·
                          refine wc_iincN X 152 7 (L' := [(0, .ref x), (1, .int (nI 1)), (2, .int (nI 1)), (3, .int (nI (p 1))), (4, .int (nI (cnt (mB p 1) K3))), (5, .int (fsA (mB p 1) (mCd (p 1)) K3)), (6, .int (nI i)), (7, .int (nI (c + 1))), (8, .int (nI t))]) dX10_mended_152 rfl (by decide) rfl ?_
                          refine wc_goto X 155 88 dX10_mended_155 (by decide) ?_
                          refine wc_loc [0, 1, 2, 3, 4, 5, 6, 7] (L' := [(0, .ref x), (1, .int (nI 1)), (2, .int (nI 1)), (3, .int (nI (p 1))), (4, .int (nI (cnt (mB p 1) K3))), (5, .int (fsA (mB p 1) (mCd (p 1)) K3)), (6, .int (nI i)), (7, .int (nI (c + 1)))]) rfl ?_
                          refine wc_L (L' := [(0, .ref x), (1, .int (nI 1)), (2, .int (nI 1)), (3, .int (nI (p 1))), (4, .int (nI (cnt (mB p 1) K3))), (5, .int (fsA (mB p 1) (mCd (p 1)) K3)), (6, .int (nI i)), (7, .int (nI (c + 1)))]) (by rfl) ?_
                          exact ih_18 (c + 1) K3 lqC lmC lrC (by omega) (by omega) (by rw [hK3, show t = p 1 by omega]; exact md_t hc1) (by omega)
                        ·
                          have hd := md_dec hc1 (show c ≤ 2 by omega) (show t < p 1 by omega) hK3
                          refine wc_aload_n X 103 0 dX10_mended_103 rfl ?_
                          refine wc_iload_n X 104 1 dX10_mended_104 rfl ?_
                          refine wc_iload X 105 6 dX10_mended_105 rfl ?_
                          refine wc_iload X 107 7 dX10_mended_107 rfl ?_
                          refine wc_iload X 109 8 dX10_mended_109 rfl ?_
                          refine wc_mutV X Y 111 [0, 6, 7, 8, 9, 10, 11, 12, 13] [1, 2, 3, 4, 5] 0 (c_X10_mends1 l G x xt xn xr xa xs xf xw xi sn sd xe xp xg xl xk xh xv ra rla rb rlb p xlm xlr lqC lmC lrC i c t (by first | assumption | omega) (by omega) (by first | assumption | omega) (by omega) (by omega)) yv_X10_mends kd10 rfl rfl (wr := [ob xn 1 [.ref na, .ref nb], ob na 6 [.int (nI (p 0)), .int (nI (p 2)), .ref nla], aI G nla 10 (nF (gz p)), ob nb 6 [.int (nI (p 1)), .int (nI (p 3)), .ref nlb], aI G nlb 10 (nF (go p))]) rfl ⟨rfl, rfl, rfl⟩ q_655 ⟨rfl, rfl⟩ ⟨rfl, rfl⟩ ⟨rfl, rfl⟩ rfl rfl rfl dX10_mended_111 (fun v w hp_26 => ?_)
                          obtain ⟨lq2_27, lm2_28, lr2_29, rfl, rfl⟩ := hp_26
                          refine wc_perm Y [5, 0, 1, 2, 3, 4, 6, 7, 8, 9, 10, 11, 12, 13] [ob x 10 [.ref xt, .ref xn, .ref xr, .ref xa, .ref xs, .ref xf, .ref xw, .ref xi, .int (nI sn), .long sd, .ref xe, .ref xp, .ref xg, .ref xl, .ref xk, .ref xh, .ref xv], ob xn 1 [.ref na, .ref nb], ob na 6 [.int (nI (p 0)), .int (nI (p 2)), .ref nla], aI G nla 10 (nF (gz p)), ob nb 6 [.int (nI (p 1)), .int (nI (p 3)), .ref nlb], aI G nlb 10 (nF (go p)), ob xr 1 [.ref ra, .ref rb], ob ra 6 [.int (nI (p 0)), .int (nI (p 2)), .ref rla], aI G rla 10 (nF (gz p)), ob rb 6 [.int (nI (p 1)), .int (nI (p 3)), .ref rlb], aI G rlb 10 (nF (go p)), ob xl 4 [.ref xlm, .ref xlr, .int (nI lq2_27)], aI G xlm 4 (nF lm2_28), aI G xlr 128 (nF lr2_29)] rfl rfl ?_
                          show Wc Γ 0 0 114 [(0, .ref x), (1, .int (nI 1)), (2, .int (nI 1)), (3, .int (nI (p 1))), (4, .int (nI (cnt (mB p 1) K3))), (5, .int (fsA (mB p 1) (mCd (p 1)) K3)), (6, .int (nI i)), (7, .int (nI c)), (8, .int (nI t))] [.int (b2i (mEd p 1 i c t))] [ob x 10 [.ref xt, .ref xn, .ref xr, .ref xa, .ref xs, .ref xf, .ref xw, .ref xi, .int (nI sn), .long sd, .ref xe, .ref xp, .ref xg, .ref xl, .ref xk, .ref xh, .ref xv], ob xn 1 [.ref na, .ref nb], ob na 6 [.int (nI (p 0)), .int (nI (p 2)), .ref nla], aI G nla 10 (nF (gz p)), ob nb 6 [.int (nI (p 1)), .int (nI (p 3)), .ref nlb], aI G nlb 10 (nF (go p)), ob xr 1 [.ref ra, .ref rb], ob ra 6 [.int (nI (p 0)), .int (nI (p 2)), .ref rla], aI G rla 10 (nF (gz p)), ob rb 6 [.int (nI (p 1)), .int (nI (p 3)), .ref rlb], aI G rlb 10 (nF (go p)), ob xl 4 [.ref xlm, .ref xlr, .int (nI lq2_27)], aI G xlm 4 (nF lm2_28), aI G xlr 128 (nF lr2_29)]
                          have heq : mEd p 1 i c t = mB p 1 K3 := by unfold mB; rw [hd.1, hd.2.1, hd.2.2]
                          have hcode : 100 * i + 10 * c + t = mCd (p 1) K3 := by unfold mCd; rw [hd.1, hd.2.1, hd.2.2]
                          refine wc_if_eqB X 114 146 dX10_mended_114 (by decide) (fun c114_30 => ?_) (fun c114_30 => ?_)
                          ·
                            refine wc_iincN X 146 8 (L' := [(0, .ref x), (1, .int (nI 1)), (2, .int (nI 1)), (3, .int (nI (p 1))), (4, .int (nI (cnt (mB p 1) K3))), (5, .int (fsA (mB p 1) (mCd (p 1)) K3)), (6, .int (nI i)), (7, .int (nI c)), (8, .int (nI (t + 1)))]) dX10_mended_146 rfl (by decide) rfl ?_
                            refine wc_goto X 149 97 dX10_mended_149 (by decide) ?_
                            have e_31 : cnt (mB p 1) K3 = cnt (mB p 1) (K3 + 1) := cnt_no heq c114_30
                            have e_32 : fsA (mB p 1) (mCd (p 1)) K3 = fsA (mB p 1) (mCd (p 1)) (K3 + 1) := fs_no heq c114_30
                            refine wc_L (L' := [(0, .ref x), (1, .int (nI 1)), (2, .int (nI 1)), (3, .int (nI (p 1))), (4, .int (nI (cnt (mB p 1) (K3 + 1)))), (5, .int (fsA (mB p 1) (mCd (p 1)) (K3 + 1))), (6, .int (nI i)), (7, .int (nI c)), (8, .int (nI (t + 1)))]) (by first | (rw [e_31, e_32]; done) | (rw [e_31, e_32]; rfl) | (rw [← e_31, ← e_32]; done) | rfl) ?_
                            exact ih_23 (t + 1) (K3 + 1) lq2_27 lm2_28 lr2_29 (by omega) (by rw [hK3]; rfl) (by omega)
                          ·
                            refine wc_iload X 117 4 dX10_mended_117 rfl ?_
                            refine wc_if_neN X 119 139 dX10_mended_119 (by decide) (Nat.lt_of_le_of_lt (cnt_all _ _) (md_bd (by omega) (by omega) hc1 (by omega) (by omega) hK3)) (fun c119_33 => ?_) (fun c119_33 => ?_)
                            ·
                              refine wc_iload X 139 5 dX10_mended_139 rfl ?_
                              refine wc_istore X 141 (L' := [(0, .ref x), (1, .int (nI 1)), (2, .int (nI 1)), (3, .int (nI (p 1))), (4, .int (nI (cnt (mB p 1) K3))), (5, .int (fsA (mB p 1) (mCd (p 1)) K3)), (6, .int (nI i)), (7, .int (nI c)), (8, .int (nI t))]) dX10_mended_141 (by decide) rfl ?_
                              refine wc_iincN X 143 4 (L' := [(0, .ref x), (1, .int (nI 1)), (2, .int (nI 1)), (3, .int (nI (p 1))), (4, .int (nI ((cnt (mB p 1) K3) + 1))), (5, .int (fsA (mB p 1) (mCd (p 1)) K3)), (6, .int (nI i)), (7, .int (nI c)), (8, .int (nI t))]) dX10_mended_143 rfl (by decide) rfl ?_
                              refine wc_iincN X 146 8 (L' := [(0, .ref x), (1, .int (nI 1)), (2, .int (nI 1)), (3, .int (nI (p 1))), (4, .int (nI ((cnt (mB p 1) K3) + 1))), (5, .int (fsA (mB p 1) (mCd (p 1)) K3)), (6, .int (nI i)), (7, .int (nI c)), (8, .int (nI (t + 1)))]) dX10_mended_146 rfl (by decide) rfl ?_
                              refine wc_goto X 149 97 dX10_mended_149 (by decide) ?_
                              have e_34 : (cnt (mB p 1) K3) + 1 = cnt (mB p 1) (K3 + 1) := cnt_ye heq c114_30
                              have e_35 : fsA (mB p 1) (mCd (p 1)) K3 = fsA (mB p 1) (mCd (p 1)) (K3 + 1) := fs_y1 heq c114_30 c119_33
                              refine wc_L (L' := [(0, .ref x), (1, .int (nI 1)), (2, .int (nI 1)), (3, .int (nI (p 1))), (4, .int (nI (cnt (mB p 1) (K3 + 1)))), (5, .int (fsA (mB p 1) (mCd (p 1)) (K3 + 1))), (6, .int (nI i)), (7, .int (nI c)), (8, .int (nI (t + 1)))]) (by first | (rw [e_34, e_35]; done) | (rw [e_34, e_35]; rfl) | (rw [← e_34, ← e_35]; done) | rfl) ?_
                              exact ih_23 (t + 1) (K3 + 1) lq2_27 lm2_28 lr2_29 (by omega) (by rw [hK3]; rfl) (by omega)
                            ·
                              refine wc_bipush X 122 (nI 100) dX10_mended_122 (by decide) ?_
                              refine wc_iload X 124 6 dX10_mended_124 rfl ?_
                              refine wc_imulN X 126 dX10_mended_126 ?_
                              refine wc_bipush X 127 (nI 10) dX10_mended_127 (by decide) ?_
                              refine wc_iload X 129 7 dX10_mended_129 rfl ?_
                              refine wc_imulN X 131 dX10_mended_131 ?_
                              refine wc_iaddN X 132 dX10_mended_132 ?_
                              refine wc_iload X 133 8 dX10_mended_133 rfl ?_
                              refine wc_iaddN X 135 dX10_mended_135 ?_
                              refine wc_goto X 136 141 dX10_mended_136 (by decide) ?_
                              refine wc_istore X 141 (L' := [(0, .ref x), (1, .int (nI 1)), (2, .int (nI 1)), (3, .int (nI (p 1))), (4, .int (nI (cnt (mB p 1) K3))), (5, .int (nI (((100 * i) + (10 * c)) + t))), (6, .int (nI i)), (7, .int (nI c)), (8, .int (nI t))]) dX10_mended_141 (by decide) rfl ?_
                              refine wc_iincN X 143 4 (L' := [(0, .ref x), (1, .int (nI 1)), (2, .int (nI 1)), (3, .int (nI (p 1))), (4, .int (nI ((cnt (mB p 1) K3) + 1))), (5, .int (nI (((100 * i) + (10 * c)) + t))), (6, .int (nI i)), (7, .int (nI c)), (8, .int (nI t))]) dX10_mended_143 rfl (by decide) rfl ?_
                              refine wc_iincN X 146 8 (L' := [(0, .ref x), (1, .int (nI 1)), (2, .int (nI 1)), (3, .int (nI (p 1))), (4, .int (nI ((cnt (mB p 1) K3) + 1))), (5, .int (nI (((100 * i) + (10 * c)) + t))), (6, .int (nI i)), (7, .int (nI c)), (8, .int (nI (t + 1)))]) dX10_mended_146 rfl (by decide) rfl ?_
                              refine wc_goto X 149 97 dX10_mended_149 (by decide) ?_
                              have e_36 : (cnt (mB p 1) K3) + 1 = cnt (mB p 1) (K3 + 1) := cnt_ye heq c114_30
                              have e_37 : (.int (nI (((100 * i) + (10 * c)) + t)) : Value) = .int (fsA (mB p 1) (mCd (p 1)) (K3 + 1)) := congrArg Value.int (fs_y0 heq c114_30 c119_33 hcode)
                              refine wc_L (L' := [(0, .ref x), (1, .int (nI 1)), (2, .int (nI 1)), (3, .int (nI (p 1))), (4, .int (nI (cnt (mB p 1) (K3 + 1)))), (5, .int (fsA (mB p 1) (mCd (p 1)) (K3 + 1))), (6, .int (nI i)), (7, .int (nI c)), (8, .int (nI (t + 1)))]) (by first | (rw [e_36, e_37]; done) | (rw [e_36, e_37]; rfl) | (rw [← e_36, ← e_37]; done) | rfl) ?_
                              exact ih_23 (t + 1) (K3 + 1) lq2_27 lm2_28 lr2_29 (by omega) (by rw [hK3]; rfl) (by omega)
                    exact LP_22 (p 1 - 0 + 1) 0 K2 lqB lmB lrB (Nat.zero_le _) (by rw [hK2]; rfl) (Nat.lt_succ_self _)
              exact LP_17 (3 - 1 + 1) 1 K lqA lmA lrA (by decide) (by decide) (by rw [hK]; simp) (Nat.lt_succ_self _)
        have e_38 : 0 = cnt (mB p 1) 0 := rfl
        have e_39 : (-9) = fsA (mB p 1) (mCd (p 1)) 0 := rfl
        refine wc_L (L' := [(0, .ref x), (1, .int (nI 1)), (2, .int (nI 1)), (3, .int (nI (p 1))), (4, .int (nI (cnt (mB p 1) 0))), (5, .int (fsA (mB p 1) (mCd (p 1)) 0)), (6, .int (nI 0))]) (by first | (rw [e_38, e_39]; done) | (rw [e_38, e_39]; rfl) | (rw [← e_38, ← e_39]; done) | rfl) ?_
        exact LP_11 (p 1 - 0 + 1) 0 0 n2_7 mt2_5 row2_6 (Nat.zero_le _) (Nat.zero_mul _).symm (Nat.lt_succ_self _)
      ·
        exact absurd c32_8 (by decide)
    ·
      exact absurd c15_3 (by decide)
  ·
    exact absurd c4_1 (by decide)

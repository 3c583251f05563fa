set_option maxHeartbeats 4000000 in
set_option maxRecDepth 100000 in
theorem c_X10_writeF (l : Launch) (G : GG) (x xt xn xr xa xs xf xw xi sn : Nat) (sd : Int64) (xe xp xg xl xk xh xv : Nat) (c : Int32) (ho : outR c 0 255) : RM l G yX10_write (Cond.code yX10_write cX10_write 2 (some .int)) { frames := 0, cells := 0, slots := 0, locals := 0 } [.ref x, .int c] [ob x 10 [.ref xt, .ref xn, .ref xr, .ref xa, .ref xs, .ref xf, .ref xw, .ref xi, .int (nI sn), .long sd, .ref xe, .ref xp, .ref xg, .ref xl, .ref xk, .ref xh, .ref xv]] (.int (-2)) := by
  refine RM.ofI (by decide) rfl (fun Γ X ret => ?_)
  show Wc Γ 0 0 0 [(0, .ref x), (1, .int c)] [] [ob x 10 [.ref xt, .ref xn, .ref xr, .ref xa, .ref xs, .ref xf, .ref xw, .ref xi, .int (nI sn), .long sd, .ref xe, .ref xp, .ref xg, .ref xl, .ref xk, .ref xh, .ref xv]]
  refine wc_iload_n X 0 1 dX10_write_0 rfl ?_
  refine wc_if_lt X 1 11 dX10_write_1 (by decide) (fun c1_1 => ?_) (fun c1_1 => ?_)
  ·
    refine wc_bipush X 11 (-2) dX10_write_11 (by decide) ?_
    exact ret 13 _ (-2) dX10_write_13 (rfl)
  ·
    refine wc_iload_n X 4 1 dX10_write_4 rfl ?_
    refine wc_sipush X 5 (nI 255) dX10_write_5 (by decide) ?_
    refine wc_icmp_le X 8 14 dX10_write_8 (by decide) (fun c8_2 => ?_) (fun c8_2 => ?_)
    ·
      exact (out_cls ho (by decide) (by decide) c1_1 c8_2).elim
    ·
      refine wc_bipush X 11 (-2) dX10_write_11 (by decide) ?_
      exact ret 13 _ (-2) dX10_write_13 (rfl)

set_option maxHeartbeats 4000000 in
set_option maxRecDepth 100000 in
theorem c_X10_writeU (l : Launch) (G : GG) (x xt xn xr xa xs xf xw xi sn : Nat) (sd : Int64) (xe xp xg xl xk xh xv : Nat) (xtl ts : Nat) (t : Nat → Nat) (c : Nat) (hc : c ≤ 255) (hts : ts = 80) : RM l G yX10_write (Cond.code yX10_write cX10_write 2 (some .int)) { frames := 0, cells := 0, slots := 0, locals := 0 } [.ref x, .int (nI c)] [ob x 10 [.ref xt, .ref xn, .ref xr, .ref xa, .ref xs, .ref xf, .ref xw, .ref xi, .int (nI sn), .long sd, .ref xe, .ref xp, .ref xg, .ref xl, .ref xk, .ref xh, .ref xv], ob xt 7 [.int (nI ts), .ref xtl], aI G xtl 80 (nF t)] (.int (-4)) := by
  refine RM.ofI (by decide) rfl (fun Γ X ret => ?_)
  show Wc Γ 0 0 0 [(0, .ref x), (1, .int (nI c))] [] [ob x 10 [.ref xt, .ref xn, .ref xr, .ref xa, .ref xs, .ref xf, .ref xw, .ref xi, .int (nI sn), .long sd, .ref xe, .ref xp, .ref xg, .ref xl, .ref xk, .ref xh, .ref xv], ob xt 7 [.int (nI ts), .ref xtl], aI G xtl 80 (nF t)]
  refine wc_iload_n X 0 1 dX10_write_0 rfl ?_
  refine wc_ifltF X 1 (tgt := 11) dX10_write_1 (by decide) (by omega) ?_
  refine wc_iload_n X 4 1 dX10_write_4 rfl ?_
  refine wc_sipush X 5 (nI 255) dX10_write_5 (by decide) ?_
  refine wc_icmp_leN X 8 14 dX10_write_8 (by decide) (by omega) (by decide) (fun c8_2 => ?_) (fun c8_2 => ?_)
  ·
    refine wc_aload_n X 14 0 dX10_write_14 rfl ?_
    refine wc_get X 15 0 0 kd10 rfl (by decide) q_233 rfl dX10_write_15 ?_
    refine wc_get X 18 1 0 kd7 rfl (by decide) q_31 rfl dX10_write_18 ?_
    refine wc_bipush X 21 (nI 80) dX10_write_21 (by decide) ?_
    refine wc_icmp_ltN X 23 29 dX10_write_23 (by decide) (by omega) (by decide) (fun c23_3 => ?_) (fun c23_3 => ?_)
    ·
      exact absurd c23_3 (by omega)
    ·
      refine wc_bipush X 26 (-4) dX10_write_26 (by decide) ?_
      exact ret 28 _ (-4) dX10_write_28 (rfl)
  ·
    exact absurd c8_2 (by omega)

set_option maxHeartbeats 4000000 in
set_option maxRecDepth 100000 in
theorem c_X10_writeS (l : Launch) (G : GG) (x xt xn xr xa xs xf xw xi sn : Nat) (sd : Int64) (xe xp xg xl xk xh xv : Nat) (xtl ts : Nat) (t : Nat → Nat) (c : Nat) (hc : c ≤ 255) (hts : ts < 80) : MM l G yX10_write (Cond.code yX10_write cX10_write 2 (some .int)) { frames := 1, cells := 0, slots := 0, locals := 21 } [.ref x, .int (nI c)] [ob x 10 [.ref xt, .ref xn, .ref xr, .ref xa, .ref xs, .ref xf, .ref xw, .ref xi, .int (nI sn), .long sd, .ref xe, .ref xp, .ref xg, .ref xl, .ref xk, .ref xh, .ref xv], ob xt 7 [.int (nI ts), .ref xtl], aI G xtl 80 (nF t)] (fun (v : Option Value) (w : va_W) => v = some (.int (nI (ts + 1))) ∧ w = [ob x 10 [.ref xt, .ref xn, .ref xr, .ref xa, .ref xs, .ref xf, .ref xw, .ref xi, .int (nI sn), .long sd, .ref xe, .ref xp, .ref xg, .ref xl, .ref xk, .ref xh, .ref xv], ob xt 7 [.int (nI (ts + 1)), .ref xtl], aI G xtl 80 (nF (up t ts c))]) 0 0 := by
  refine MM.ofI (by decide) rfl (fun Γ X Y hnm ret => ?_)
  show Wc Γ 0 0 0 [(0, .ref x), (1, .int (nI c))] [] [ob x 10 [.ref xt, .ref xn, .ref xr, .ref xa, .ref xs, .ref xf, .ref xw, .ref xi, .int (nI sn), .long sd, .ref xe, .ref xp, .ref xg, .ref xl, .ref xk, .ref xh, .ref xv], ob xt 7 [.int (nI ts), .ref xtl], aI G xtl 80 (nF t)]
  refine wc_iload_n X 0 1 dX10_write_0 rfl ?_
  refine wc_ifltF X 1 (tgt := 11) dX10_write_1 (by decide) (by omega) ?_
  refine wc_iload_n X 4 1 dX10_write_4 rfl ?_
  refine wc_sipush X 5 (nI 255) dX10_write_5 (by decide) ?_
  refine wc_icmp_leN X 8 14 dX10_write_8 (by decide) (by omega) (by decide) (fun c8_2 => ?_) (fun c8_2 => ?_)
  ·
    refine wc_aload_n X 14 0 dX10_write_14 rfl ?_
    refine wc_get X 15 0 0 kd10 rfl (by decide) q_233 rfl dX10_write_15 ?_
    refine wc_get X 18 1 0 kd7 rfl (by decide) q_31 rfl dX10_write_18 ?_
    refine wc_bipush X 21 (nI 80) dX10_write_21 (by decide) ?_
    refine wc_icmp_ltN X 23 29 dX10_write_23 (by decide) (by omega) (by decide) (fun c23_3 => ?_) (fun c23_3 => ?_)
    ·
      refine wc_aload_n X 29 0 dX10_write_29 rfl ?_
      refine wc_get X 30 0 0 kd10 rfl (by decide) q_233 rfl dX10_write_30 ?_
      refine wc_iload_n X 33 1 dX10_write_33 rfl ?_
      refine wc_mutV X Y 34 [1, 2] [0] 1 (c_X7_append l G xt xtl ts t c (by first | assumption | omega)) yv_X7_append kd7 rfl rfl (wr := [ob x 10 [.ref xt, .ref xn, .ref xr, .ref xa, .ref xs, .ref xf, .ref xw, .ref xi, .int (nI sn), .long sd, .ref xe, .ref xp, .ref xg, .ref xl, .ref xk, .ref xh, .ref xv]]) rfl ⟨rfl, rfl, rfl⟩ q_289 ⟨rfl, rfl⟩ ⟨rfl, rfl⟩ ⟨rfl, rfl⟩ rfl rfl rfl dX10_write_34 (fun v w hp_4 => ?_)
      obtain ⟨rfl, rfl⟩ := hp_4
      refine wc_perm Y [0, 1, 2] [ob x 10 [.ref xt, .ref xn, .ref xr, .ref xa, .ref xs, .ref xf, .ref xw, .ref xi, .int (nI sn), .long sd, .ref xe, .ref xp, .ref xg, .ref xl, .ref xk, .ref xh, .ref xv], ob xt 7 [.int (nI (ts + 1)), .ref xtl], aI G xtl 80 (nF (up t ts c))] rfl rfl ?_
      show Wc Γ 0 0 37 [(0, .ref x), (1, .int (nI c))] [] [ob x 10 [.ref xt, .ref xn, .ref xr, .ref xa, .ref xs, .ref xf, .ref xw, .ref xi, .int (nI sn), .long sd, .ref xe, .ref xp, .ref xg, .ref xl, .ref xk, .ref xh, .ref xv], ob xt 7 [.int (nI (ts + 1)), .ref xtl], aI G xtl 80 (nF (up t ts c))]
      refine wc_aload_n X 37 0 dX10_write_37 rfl ?_
      refine wc_get X 38 0 0 kd10 rfl (by decide) q_233 rfl dX10_write_38 ?_
      refine wc_get X 41 1 0 kd7 rfl (by decide) q_31 rfl dX10_write_41 ?_
      exact ret 44 _ (nI (ts + 1)) _ dX10_write_44 (⟨rfl, rfl⟩)
    ·
      exact absurd c23_3 (by omega)
  ·
    exact absurd c8_2 (by omega)

set_option maxHeartbeats 4000000 in
set_option maxRecDepth 100000 in
theorem c_X10_wipe (l : Launch) (G : GG) (x xt xn xr xa xs xf xw xi sn : Nat) (sd : Int64) (xe xp xg xl xk xh xv : Nat) (xtl ts : Nat) (t : Nat → Nat)  : MM l G yX10_wipe (Cond.code yX10_wipe cX10_wipe 2 (some .int)) { frames := 0, cells := 0, slots := 0, locals := 0 } [.ref x] [ob x 10 [.ref xt, .ref xn, .ref xr, .ref xa, .ref xs, .ref xf, .ref xw, .ref xi, .int (nI sn), .long sd, .ref xe, .ref xp, .ref xg, .ref xl, .ref xk, .ref xh, .ref xv], ob xt 7 [.int (nI ts), .ref xtl], aI G xtl 80 (nF t)] (fun (v : Option Value) (w : va_W) => v = some (.int (nI ts)) ∧ w = [ob x 10 [.ref xt, .ref xn, .ref xr, .ref xa, .ref xs, .ref xf, .ref xw, .ref xi, .int (nI sn), .long sd, .ref xe, .ref xp, .ref xg, .ref xl, .ref xk, .ref xh, .ref xv], ob xt 7 [.int (nI 0), .ref xtl], aI G xtl 80 (nF t)]) 0 0 := by
  refine MM.ofI (by decide) rfl (fun Γ X Y hnm ret => ?_)
  show Wc Γ 0 0 0 [(0, .ref x)] [] [ob x 10 [.ref xt, .ref xn, .ref xr, .ref xa, .ref xs, .ref xf, .ref xw, .ref xi, .int (nI sn), .long sd, .ref xe, .ref xp, .ref xg, .ref xl, .ref xk, .ref xh, .ref xv], ob xt 7 [.int (nI ts), .ref xtl], aI G xtl 80 (nF t)]
  refine wc_aload_n X 0 0 dX10_wipe_0 rfl ?_
  refine wc_get X 1 0 0 kd10 rfl (by decide) q_233 rfl dX10_wipe_1 ?_
  refine wc_get X 4 1 0 kd7 rfl (by decide) q_31 rfl dX10_wipe_4 ?_
  refine wc_istore_n X 7 (L' := [(0, .ref x), (1, .int (nI ts))]) dX10_wipe_7 (by decide) rfl ?_
  refine wc_aload_n X 8 0 dX10_wipe_8 rfl ?_
  refine wc_get X 9 0 0 kd10 rfl (by decide) q_233 rfl dX10_wipe_9 ?_
  refine wc_iconstN X 12 0 dX10_wipe_12 ?_
  refine wc_put X Y 13 1 0 kd7 rfl (by decide) q_31 rfl rfl rfl (Nat.le_of_ble_eq_true rfl) (ws' := [ob x 10 [.ref xt, .ref xn, .ref xr, .ref xa, .ref xs, .ref xf, .ref xw, .ref xi, .int (nI sn), .long sd, .ref xe, .ref xp, .ref xg, .ref xl, .ref xk, .ref xh, .ref xv], ob xt 7 [.int (nI 0), .ref xtl], aI G xtl 80 (nF t)]) rfl dX10_wipe_13 ?_
  refine wc_iload_n X 16 1 dX10_wipe_16 rfl ?_
  exact ret 17 _ (nI ts) _ dX10_wipe_17 (⟨rfl, rfl⟩)

set_option maxHeartbeats 4000000 in
set_option maxRecDepth 100000 in
theorem c_X10_fault (l : Launch) (G : GG) (x xt xn xr xa xs xf xw xi sn : Nat) (sd : Int64) (xe xp xg xl xk xh xv : Nat) (xtl ts : Nat) (t : Nat → Nat) (ra rla r0 re : Nat) (rg : Nat → Nat) (rb rlb r1 rf : Nat) (rh : Nat → Nat) (hts : ts ≤ 80) (ht : ∀ j, t j < 256) : MM l G yX10_fault (Cond.code yX10_fault cX10_fault 1 (some .int)) { frames := 5, cells := 0, slots := 0, locals := 120 } [.ref x] [ob x 10 [.ref xt, .ref xn, .ref xr, .ref xa, .ref xs, .ref xf, .ref xw, .ref xi, .int (nI sn), .long sd, .ref xe, .ref xp, .ref xg, .ref xl, .ref xk, .ref xh, .ref xv], ob xt 7 [.int (nI ts), .ref xtl], aI G xtl 80 (nF t), ob xr 1 [.ref ra, .ref rb], ob ra 6 [.int (nI r0), .int (nI re), .ref rla], aI G rla 10 (nF rg), ob rb 6 [.int (nI r1), .int (nI rf), .ref rlb], aI G rlb 10 (nF rh)] (fun (v : Option Value) (w : va_W) => ∃ (m0 d0 : Nat) (f0 : Nat → Nat) (m1 d1 : Nat) (f1 : Nat → Nat), v = some (.int (optI (parseP t ts).1)) ∧ w = [ob x 10 [.ref xt, .ref xn, .ref xr, .ref xa, .ref xs, .ref xf, .ref xw, .ref xi, .int (nI sn), .long sd, .ref xe, .ref xp, .ref xg, .ref xl, .ref xk, .ref xh, .ref xv], ob xt 7 [.int (nI ts), .ref xtl], aI G xtl 80 (nF t), ob xr 1 [.ref ra, .ref rb], ob ra 6 [.int (nI m0), .int (nI d0), .ref rla], aI G rla 10 (nF f0), ob rb 6 [.int (nI m1), .int (nI d1), .ref rlb], aI G rlb 10 (nF f1)]) 0 0 := by
  refine MM.ofI (by decide) rfl (fun Γ X Y hnm ret => ?_)
  show Wc Γ 0 0 0 [(0, .ref x)] [] [ob x 10 [.ref xt, .ref xn, .ref xr, .ref xa, .ref xs, .ref xf, .ref xw, .ref xi, .int (nI sn), .long sd, .ref xe, .ref xp, .ref xg, .ref xl, .ref xk, .ref xh, .ref xv], ob xt 7 [.int (nI ts), .ref xtl], aI G xtl 80 (nF t), ob xr 1 [.ref ra, .ref rb], ob ra 6 [.int (nI r0), .int (nI re), .ref rla], aI G rla 10 (nF rg), ob rb 6 [.int (nI r1), .int (nI rf), .ref rlb], aI G rlb 10 (nF rh)]
  refine wc_aload_n X 0 0 dX10_fault_0 rfl ?_
  refine wc_get X 1 0 0 kd10 rfl (by decide) q_233 rfl dX10_fault_1 ?_
  refine wc_aload_n X 4 0 dX10_fault_4 rfl ?_
  refine wc_get X 5 0 2 kd10 rfl (by decide) q_235 rfl dX10_fault_5 ?_
  refine wc_mutV X Y 8 [1, 2, 3, 4, 5, 6, 7] [0] 1 (c_X7_read l G xt xtl ts t xr ra rla r0 re rg rb rlb r1 rf rh (by first | assumption | omega) (by first | assumption | omega)) yv_X7_read kd7 rfl rfl (wr := [ob x 10 [.ref xt, .ref xn, .ref xr, .ref xa, .ref xs, .ref xf, .ref xw, .ref xi, .int (nI sn), .long sd, .ref xe, .ref xp, .ref xg, .ref xl, .ref xk, .ref xh, .ref xv]]) rfl ⟨rfl, rfl, rfl⟩ q_301 ⟨rfl, rfl⟩ ⟨rfl, rfl⟩ ⟨rfl, rfl⟩ rfl rfl rfl dX10_fault_8 (fun v w hp_1 => ?_)
  obtain ⟨m0_2, d0_3, f0_4, m1_5, d1_6, f1_7, rfl, rfl, hf_8⟩ := hp_1
  refine wc_perm Y [0, 1, 2, 3, 4, 5, 6, 7] [ob x 10 [.ref xt, .ref xn, .ref xr, .ref xa, .ref xs, .ref xf, .ref xw, .ref xi, .int (nI sn), .long sd, .ref xe, .ref xp, .ref xg, .ref xl, .ref xk, .ref xh, .ref xv], ob xt 7 [.int (nI ts), .ref xtl], aI G xtl 80 (nF t), ob xr 1 [.ref ra, .ref rb], ob ra 6 [.int (nI m0_2), .int (nI d0_3), .ref rla], aI G rla 10 (nF f0_4), ob rb 6 [.int (nI m1_5), .int (nI d1_6), .ref rlb], aI G rlb 10 (nF f1_7)] rfl rfl ?_
  show Wc Γ 0 0 11 [(0, .ref x)] [.int (optI (parseP t ts).1)] [ob x 10 [.ref xt, .ref xn, .ref xr, .ref xa, .ref xs, .ref xf, .ref xw, .ref xi, .int (nI sn), .long sd, .ref xe, .ref xp, .ref xg, .ref xl, .ref xk, .ref xh, .ref xv], ob xt 7 [.int (nI ts), .ref xtl], aI G xtl 80 (nF t), ob xr 1 [.ref ra, .ref rb], ob ra 6 [.int (nI m0_2), .int (nI d0_3), .ref rla], aI G rla 10 (nF f0_4), ob rb 6 [.int (nI m1_5), .int (nI d1_6), .ref rlb], aI G rlb 10 (nF f1_7)]
  exact ret 11 _ (optI (parseP t ts).1) _ dX10_fault_11 (⟨_, _, _, _, _, _, rfl, rfl⟩)

set_option maxHeartbeats 4000000 in
set_option maxRecDepth 100000 in
theorem c_X10_machinesF (l : Launch) (G : GG) (x xt xn xr xa xs xf xw xi sn : Nat) (sd : Int64) (xe xp xg xl xk xh xv : Nat) (xtl ts : Nat) (t : Nat → Nat) (ra rla r0 re : Nat) (rg : Nat → Nat) (rb rlb r1 rf : Nat) (rh : Nat → Nat) (hts : ts ≤ 80) (ht : ∀ j, t j < 256) (hq : ∃ k, (parseP t ts).1 = some k) : MM l G yX10_machines (Cond.code yX10_machines cX10_machines 2 (some .int)) { frames := 5, cells := 0, slots := 0, locals := 120 } [.ref x] [ob x 10 [.ref xt, .ref xn, .ref xr, .ref xa, .ref xs, .ref xf, .ref xw, .ref xi, .int (nI sn), .long sd, .ref xe, .ref xp, .ref xg, .ref xl, .ref xk, .ref xh, .ref xv], ob xt 7 [.int (nI ts), .ref xtl], aI G xtl 80 (nF t), ob xr 1 [.ref ra, .ref rb], ob ra 6 [.int (nI r0), .int (nI re), .ref rla], aI G rla 10 (nF rg), ob rb 6 [.int (nI r1), .int (nI rf), .ref rlb], aI G rlb 10 (nF rh)] (fun (v : Option Value) (w : va_W) => ∃ (m0 d0 : Nat) (f0 : Nat → Nat) (m1 d1 : Nat) (f1 : Nat → Nat), v = some (.int (-3)) ∧ w = [ob x 10 [.ref xt, .ref xn, .ref xr, .ref xa, .ref xs, .ref xf, .ref xw, .ref xi, .int (nI sn), .long sd, .ref xe, .ref xp, .ref xg, .ref xl, .ref xk, .ref xh, .ref xv], ob xt 7 [.int (nI ts), .ref xtl], aI G xtl 80 (nF t), ob xr 1 [.ref ra, .ref rb], ob ra 6 [.int (nI m0), .int (nI d0), .ref rla], aI G rla 10 (nF f0), ob rb 6 [.int (nI m1), .int (nI d1), .ref rlb], aI G rlb 10 (nF f1)]) 0 0 := by
  refine MM.ofI (by decide) rfl (fun Γ X Y hnm ret => ?_)
  show Wc Γ 0 0 0 [(0, .ref x)] [] [ob x 10 [.ref xt, .ref xn, .ref xr, .ref xa, .ref xs, .ref xf, .ref xw, .ref xi, .int (nI sn), .long sd, .ref xe, .ref xp, .ref xg, .ref xl, .ref xk, .ref xh, .ref xv], ob xt 7 [.int (nI ts), .ref xtl], aI G xtl 80 (nF t), ob xr 1 [.ref ra, .ref rb], ob ra 6 [.int (nI r0), .int (nI re), .ref rla], aI G rla 10 (nF rg), ob rb 6 [.int (nI r1), .int (nI rf), .ref rlb], aI G rlb 10 (nF rh)]
  refine wc_aload_n X 0 0 dX10_machines_0 rfl ?_
  refine wc_get X 1 0 0 kd10 rfl (by decide) q_233 rfl dX10_machines_1 ?_
  refine wc_aload_n X 4 0 dX10_machines_4 rfl ?_
  refine wc_get X 5 0 2 kd10 rfl (by decide) q_235 rfl dX10_machines_5 ?_
  refine wc_mutV X Y 8 [1, 2, 3, 4, 5, 6, 7] [0] 1 (c_X7_read l G xt xtl ts t xr ra rla r0 re rg rb rlb r1 rf rh (by first | assumption | omega) (by first | assumption | omega)) yv_X7_read kd7 rfl rfl (wr := [ob x 10 [.ref xt, .ref xn, .ref xr, .ref xa, .ref xs, .ref xf, .ref xw, .ref xi, .int (nI sn), .long sd, .ref xe, .ref xp, .ref xg, .ref xl, .ref xk, .ref xh, .ref xv]]) rfl ⟨rfl, rfl, rfl⟩ q_301 ⟨rfl, rfl⟩ ⟨rfl, rfl⟩ ⟨rfl, rfl⟩ rfl rfl rfl dX10_machines_8 (fun v w hp_1 => ?_)
  obtain ⟨m0_2, d0_3, f0_4, m1_5, d1_6, f1_7, rfl, rfl, hf_8⟩ := hp_1
  refine wc_perm Y [0, 1, 2, 3, 4, 5, 6, 7] [ob x 10 [.ref xt, .ref xn, .ref xr, .ref xa, .ref xs, .ref xf, .ref xw, .ref xi, .int (nI sn), .long sd, .ref xe, .ref xp, .ref xg, .ref xl, .ref xk, .ref xh, .ref xv], ob xt 7 [.int (nI ts), .ref xtl], aI G xtl 80 (nF t), ob xr 1 [.ref ra, .ref rb], ob ra 6 [.int (nI m0_2), .int (nI d0_3), .ref rla], aI G rla 10 (nF f0_4), ob rb 6 [.int (nI m1_5), .int (nI d1_6), .ref rlb], aI G rlb 10 (nF f1_7)] rfl rfl ?_
  show Wc Γ 0 0 11 [(0, .ref x)] [.int (optI (parseP t ts).1)] [ob x 10 [.ref xt, .ref xn, .ref xr, .ref xa, .ref xs, .ref xf, .ref xw, .ref xi, .int (nI sn), .long sd, .ref xe, .ref xp, .ref xg, .ref xl, .ref xk, .ref xh, .ref xv], ob xt 7 [.int (nI ts), .ref xtl], aI G xtl 80 (nF t), ob xr 1 [.ref ra, .ref rb], ob ra 6 [.int (nI m0_2), .int (nI d0_3), .ref rla], aI G rla 10 (nF f0_4), ob rb 6 [.int (nI m1_5), .int (nI d1_6), .ref rlb], aI G rlb 10 (nF f1_7)]
  refine wc_bipush X 11 (-9) dX10_machines_11 (by decide) ?_
  refine wc_icmp_eq X 13 19 dX10_machines_13 (by decide) (fun c13_9 => ?_) (fun c13_9 => ?_)
  ·
    obtain ⟨k, hk⟩ := hq
    rw [hk] at c13_9
    exact (nI_ne_neg (parse_bd hts hk) (x := -9) (by decide) c13_9).elim
  ·
    refine wc_bipush X 16 (-3) dX10_machines_16 (by decide) ?_
    exact ret 18 _ (-3) _ dX10_machines_18 (⟨_, _, _, _, _, _, rfl, rfl⟩)

set_option maxHeartbeats 4000000 in
set_option maxRecDepth 100000 in
theorem c_X10_machinesS (l : Launch) (G : GG) (x xt xn xr xa xs xf xw xi sn : Nat) (sd : Int64) (xe xp xg xl xk xh xv : Nat) (xtl ts : Nat) (t : Nat → Nat) (na nla nb nlb : Nat) (p : Nat → Nat) (ra rla r0 re : Nat) (rg : Nat → Nat) (rb rlb r1 rf : Nat) (rh : Nat → Nat) (xal dn : Nat) (ac : Nat → Nat) (fi : Nat → Bool) (hts : ts ≤ 80) (ht : ∀ j, t j < 256) (hq : (parseP t ts).1 = none) : MM l G yX10_machines (Cond.code yX10_machines cX10_machines 2 (some .int)) { frames := 5, cells := 0, slots := 0, locals := 120 } [.ref x] [ob x 10 [.ref xt, .ref xn, .ref xr, .ref xa, .ref xs, .ref xf, .ref xw, .ref xi, .int (nI sn), .long sd, .ref xe, .ref xp, .ref xg, .ref xl, .ref xk, .ref xh, .ref xv], ob xt 7 [.int (nI ts), .ref xtl], aI G xtl 80 (nF t), ob xn 1 [.ref na, .ref nb], ob na 6 [.int (nI (p 0)), .int (nI (p 2)), .ref nla], aI G nla 10 (nF (gz p)), ob nb 6 [.int (nI (p 1)), .int (nI (p 3)), .ref nlb], aI G nlb 10 (nF (go p)), ob xr 1 [.ref ra, .ref rb], ob ra 6 [.int (nI r0), .int (nI re), .ref rla], aI G rla 10 (nF rg), ob rb 6 [.int (nI r1), .int (nI rf), .ref rlb], aI G rlb 10 (nF rh), ob xa 0 [.int (nI dn), .ref xal], aI G xal 14 (nF ac), aZ G xf 2 (bF fi)] (fun (v : Option Value) (w : va_W) => v = some (.int (nI (edgN (gz (parseP t ts).2) ((parseP t ts).2 0) + edgN (go (parseP t ts).2) ((parseP t ts).2 1)))) ∧ w = [ob x 10 [.ref xt, .ref xn, .ref xr, .ref xa, .ref xs, .ref xf, .ref xw, .ref xi, .int (nI sn), .long sd, .ref xe, .ref xp, .ref xg, .ref xl, .ref xk, .ref xh, .ref xv], ob xt 7 [.int (nI ts), .ref xtl], aI G xtl 80 (nF t), ob xn 1 [.ref na, .ref nb], ob na 6 [.int (nI ((parseP t ts).2 0)), .int (nI ((parseP t ts).2 2)), .ref nla], aI G nla 10 (nF (gz (parseP t ts).2)), ob nb 6 [.int (nI ((parseP t ts).2 1)), .int (nI ((parseP t ts).2 3)), .ref nlb], aI G nlb 10 (nF (go (parseP t ts).2)), ob xr 1 [.ref ra, .ref rb], ob ra 6 [.int (nI ((parseP t ts).2 0)), .int (nI ((parseP t ts).2 2)), .ref rla], aI G rla 10 (nF (gz (parseP t ts).2)), ob rb 6 [.int (nI ((parseP t ts).2 1)), .int (nI ((parseP t ts).2 3)), .ref rlb], aI G rlb 10 (nF (go (parseP t ts).2)), ob xa 0 [.int (nI 0), .ref xal], aI G xal 14 (nF ac), aZ G xf 2 (bF (fun _ => false))]) 0 0 := by
  refine MM.ofI (by decide) rfl (fun Γ X Y hnm ret => ?_)
  show Wc Γ 0 0 0 [(0, .ref x)] [] [ob x 10 [.ref xt, .ref xn, .ref xr, .ref xa, .ref xs, .ref xf, .ref xw, .ref xi, .int (nI sn), .long sd, .ref xe, .ref xp, .ref xg, .ref xl, .ref xk, .ref xh, .ref xv], ob xt 7 [.int (nI ts), .ref xtl], aI G xtl 80 (nF t), ob xn 1 [.ref na, .ref nb], ob na 6 [.int (nI (p 0)), .int (nI (p 2)), .ref nla], aI G nla 10 (nF (gz p)), ob nb 6 [.int (nI (p 1)), .int (nI (p 3)), .ref nlb], aI G nlb 10 (nF (go p)), ob xr 1 [.ref ra, .ref rb], ob ra 6 [.int (nI r0), .int (nI re), .ref rla], aI G rla 10 (nF rg), ob rb 6 [.int (nI r1), .int (nI rf), .ref rlb], aI G rlb 10 (nF rh), ob xa 0 [.int (nI dn), .ref xal], aI G xal 14 (nF ac), aZ G xf 2 (bF fi)]
  have hr := parseP_ok hq
  have hn0 := hr.2.1
  have hn1 := hr.2.2.2.1
  have he0 := pg_e0 hr
  have he1 := hr.2.2.2.2.1 3
  have hg0 := hr.2.2.2.2.2.1
  have hg1 := (fun j => hr.2.2.2.2.1 (12 + j) : ∀ j, go (parseP t ts).2 j < 32)
  refine wc_aload_n X 0 0 dX10_machines_0 rfl ?_
  refine wc_get X 1 0 0 kd10 rfl (by decide) q_233 rfl dX10_machines_1 ?_
  refine wc_aload_n X 4 0 dX10_machines_4 rfl ?_
  refine wc_get X 5 0 2 kd10 rfl (by decide) q_235 rfl dX10_machines_5 ?_
  refine wc_mutV X Y 8 [1, 2, 8, 9, 10, 11, 12] [0, 3, 4, 5, 6, 7, 13, 14, 15] 1 (c_X7_read l G xt xtl ts t xr ra rla r0 re rg rb rlb r1 rf rh (by first | assumption | omega) (by first | assumption | omega)) yv_X7_read kd7 rfl rfl (wr := [ob x 10 [.ref xt, .ref xn, .ref xr, .ref xa, .ref xs, .ref xf, .ref xw, .ref xi, .int (nI sn), .long sd, .ref xe, .ref xp, .ref xg, .ref xl, .ref xk, .ref xh, .ref xv], ob xn 1 [.ref na, .ref nb], ob na 6 [.int (nI (p 0)), .int (nI (p 2)), .ref nla], aI G nla 10 (nF (gz p)), ob nb 6 [.int (nI (p 1)), .int (nI (p 3)), .ref nlb], aI G nlb 10 (nF (go p)), ob xa 0 [.int (nI dn), .ref xal], aI G xal 14 (nF ac), aZ G xf 2 (bF fi)]) rfl ⟨rfl, rfl, rfl⟩ q_301 ⟨rfl, rfl⟩ ⟨rfl, rfl⟩ ⟨rfl, rfl⟩ rfl rfl rfl dX10_machines_8 (fun v w hp_1 => ?_)
  obtain ⟨m0_9, d0_9, f0_9, m1_9, d1_9, f1_9, rfl, rfl, hpq⟩ := hp_1
  refine wc_perm Y [0, 9, 10, 1, 2, 3, 4, 5, 11, 12, 13, 14, 15, 6, 7, 8] [ob x 10 [.ref xt, .ref xn, .ref xr, .ref xa, .ref xs, .ref xf, .ref xw, .ref xi, .int (nI sn), .long sd, .ref xe, .ref xp, .ref xg, .ref xl, .ref xk, .ref xh, .ref xv], ob xt 7 [.int (nI ts), .ref xtl], aI G xtl 80 (nF t), ob xn 1 [.ref na, .ref nb], ob na 6 [.int (nI (p 0)), .int (nI (p 2)), .ref nla], aI G nla 10 (nF (gz p)), ob nb 6 [.int (nI (p 1)), .int (nI (p 3)), .ref nlb], aI G nlb 10 (nF (go p)), ob xr 1 [.ref ra, .ref rb], ob ra 6 [.int (nI m0_9), .int (nI d0_9), .ref rla], aI G rla 10 (nF f0_9), ob rb 6 [.int (nI m1_9), .int (nI d1_9), .ref rlb], aI G rlb 10 (nF f1_9), ob xa 0 [.int (nI dn), .ref xal], aI G xal 14 (nF ac), aZ G xf 2 (bF fi)] rfl rfl ?_
  show Wc Γ 0 0 11 [(0, .ref x)] [.int (optI (parseP t ts).1)] [ob x 10 [.ref xt, .ref xn, .ref xr, .ref xa, .ref xs, .ref xf, .ref xw, .ref xi, .int (nI sn), .long sd, .ref xe, .ref xp, .ref xg, .ref xl, .ref xk, .ref xh, .ref xv], ob xt 7 [.int (nI ts), .ref xtl], aI G xtl 80 (nF t), ob xn 1 [.ref na, .ref nb], ob na 6 [.int (nI (p 0)), .int (nI (p 2)), .ref nla], aI G nla 10 (nF (gz p)), ob nb 6 [.int (nI (p 1)), .int (nI (p 3)), .ref nlb], aI G nlb 10 (nF (go p)), ob xr 1 [.ref ra, .ref rb], ob ra 6 [.int (nI m0_9), .int (nI d0_9), .ref rla], aI G rla 10 (nF f0_9), ob rb 6 [.int (nI m1_9), .int (nI d1_9), .ref rlb], aI G rlb 10 (nF f1_9), ob xa 0 [.int (nI dn), .ref xal], aI G xal 14 (nF ac), aZ G xf 2 (bF fi)]
  obtain ⟨rfl, rfl, rfl, rfl, rfl, rfl⟩ := hpq hq
  refine wc_bipush X 11 (-9) dX10_machines_11 (by decide) ?_
  refine wc_st (st' := [.int (-9), .int (-9)]) (by rw [hq]; rfl) ?_
  refine wc_icmp_eq X 13 19 dX10_machines_13 (by decide) (fun c13_2 => ?_) (fun c13_2 => ?_)
  ·
    refine wc_aload_n X 19 0 dX10_machines_19 rfl ?_
    refine wc_get X 20 0 1 kd10 rfl (by decide) q_234 rfl dX10_machines_20 ?_
    refine wc_aload_n X 23 0 dX10_machines_23 rfl ?_
    refine wc_get X 24 0 2 kd10 rfl (by decide) q_235 rfl dX10_machines_24 ?_
    refine wc_mutV X Y 27 [3, 4, 5, 6, 7, 8, 9, 10, 11, 12] [0, 1, 2, 13, 14, 15] 3 (c_X1_copyFrom l G xn na nla (p 0) (p 2) (gz p) nb nlb (p 1) (p 3) (go p) xr ra rla ((parseP t ts).2 0) ((parseP t ts).2 2) (gz (parseP t ts).2) rb rlb ((parseP t ts).2 1) ((parseP t ts).2 3) (go (parseP t ts).2) ) yv_X1_copyFrom kd1 rfl rfl (wr := [ob x 10 [.ref xt, .ref xn, .ref xr, .ref xa, .ref xs, .ref xf, .ref xw, .ref xi, .int (nI sn), .long sd, .ref xe, .ref xp, .ref xg, .ref xl, .ref xk, .ref xh, .ref xv], ob xt 7 [.int (nI ts), .ref xtl], aI G xtl 80 (nF t), ob xa 0 [.int (nI dn), .ref xal], aI G xal 14 (nF ac), aZ G xf 2 (bF fi)]) rfl ⟨rfl, rfl, rfl⟩ q_374 ⟨rfl, rfl⟩ ⟨rfl, rfl⟩ ⟨rfl, rfl⟩ rfl rfl rfl dX10_machines_27 (fun v w hp_3 => ?_)
    obtain ⟨rfl, rfl⟩ := hp_3
    refine wc_perm Y [0, 1, 2, 6, 7, 8, 9, 10, 11, 12, 13, 14, 15, 3, 4, 5] [ob x 10 [.ref xt, .ref xn, .ref xr, .ref xa, .ref xs, .ref xf, .ref xw, .ref xi, .int (nI sn), .long sd, .ref xe, .ref xp, .ref xg, .ref xl, .ref xk, .ref xh, .ref xv], ob xt 7 [.int (nI ts), .ref xtl], aI G xtl 80 (nF t), ob xn 1 [.ref na, .ref nb], ob na 6 [.int (nI ((parseP t ts).2 0)), .int (nI ((parseP t ts).2 2)), .ref nla], aI G nla 10 (nF (gz (parseP t ts).2)), ob nb 6 [.int (nI ((parseP t ts).2 1)), .int (nI ((parseP t ts).2 3)), .ref nlb], aI G nlb 10 (nF (go (parseP t ts).2)), ob xr 1 [.ref ra, .ref rb], ob ra 6 [.int (nI ((parseP t ts).2 0)), .int (nI ((parseP t ts).2 2)), .ref rla], aI G rla 10 (nF (gz (parseP t ts).2)), ob rb 6 [.int (nI ((parseP t ts).2 1)), .int (nI ((parseP t ts).2 3)), .ref rlb], aI G rlb 10 (nF (go (parseP t ts).2)), ob xa 0 [.int (nI dn), .ref xal], aI G xal 14 (nF ac), aZ G xf 2 (bF fi)] rfl rfl ?_
    show Wc Γ 0 0 30 [(0, .ref x)] [] [ob x 10 [.ref xt, .ref xn, .ref xr, .ref xa, .ref xs, .ref xf, .ref xw, .ref xi, .int (nI sn), .long sd, .ref xe, .ref xp, .ref xg, .ref xl, .ref xk, .ref xh, .ref xv], ob xt 7 [.int (nI ts), .ref xtl], aI G xtl 80 (nF t), ob xn 1 [.ref na, .ref nb], ob na 6 [.int (nI ((parseP t ts).2 0)), .int (nI ((parseP t ts).2 2)), .ref nla], aI G nla 10 (nF (gz (parseP t ts).2)), ob nb 6 [.int (nI ((parseP t ts).2 1)), .int (nI ((parseP t ts).2 3)), .ref nlb], aI G nlb 10 (nF (go (parseP t ts).2)), ob xr 1 [.ref ra, .ref rb], ob ra 6 [.int (nI ((parseP t ts).2 0)), .int (nI ((parseP t ts).2 2)), .ref rla], aI G rla 10 (nF (gz (parseP t ts).2)), ob rb 6 [.int (nI ((parseP t ts).2 1)), .int (nI ((parseP t ts).2 3)), .ref rlb], aI G rlb 10 (nF (go (parseP t ts).2)), ob xa 0 [.int (nI dn), .ref xal], aI G xal 14 (nF ac), aZ G xf 2 (bF fi)]
    refine wc_aload_n X 30 0 dX10_machines_30 rfl ?_
    refine wc_get X 31 0 3 kd10 rfl (by decide) q_236 rfl dX10_machines_31 ?_
    refine wc_iconstN X 34 0 dX10_machines_34 ?_
    refine wc_put X Y 35 13 0 kd0 rfl (by decide) q_93 rfl rfl rfl (Nat.le_of_ble_eq_true rfl) (ws' := [ob x 10 [.ref xt, .ref xn, .ref xr, .ref xa, .ref xs, .ref xf, .ref xw, .ref xi, .int (nI sn), .long sd, .ref xe, .ref xp, .ref xg, .ref xl, .ref xk, .ref xh, .ref xv], ob xt 7 [.int (nI ts), .ref xtl], aI G xtl 80 (nF t), ob xn 1 [.ref na, .ref nb], ob na 6 [.int (nI ((parseP t ts).2 0)), .int (nI ((parseP t ts).2 2)), .ref nla], aI G nla 10 (nF (gz (parseP t ts).2)), ob nb 6 [.int (nI ((parseP t ts).2 1)), .int (nI ((parseP t ts).2 3)), .ref nlb], aI G nlb 10 (nF (go (parseP t ts).2)), ob xr 1 [.ref ra, .ref rb], ob ra 6 [.int (nI ((parseP t ts).2 0)), .int (nI ((parseP t ts).2 2)), .ref rla], aI G rla 10 (nF (gz (parseP t ts).2)), ob rb 6 [.int (nI ((parseP t ts).2 1)), .int (nI ((parseP t ts).2 3)), .ref rlb], aI G rlb 10 (nF (go (parseP t ts).2)), ob xa 0 [.int (nI 0), .ref xal], aI G xal 14 (nF ac), aZ G xf 2 (bF fi)]) rfl dX10_machines_35 ?_
    refine wc_iconstN X 38 0 dX10_machines_38 ?_
    refine wc_istore_n X 39 (L' := [(0, .ref x), (1, .int (nI 0))]) dX10_machines_39 (by decide) rfl ?_
    have LP_5 : ∀ (fuel_4 : Nat) (i : Nat) (f : Nat → Bool), (i ≤ 2) → (∀ j, j < i → f j = false) → 2 - i < fuel_4 → Wc Γ 0 0 40 [(0, .ref x), (1, .int (nI i))] [] [ob x 10 [.ref xt, .ref xn, .ref xr, .ref xa, .ref xs, .ref xf, .ref xw, .ref xi, .int (nI sn), .long sd, .ref xe, .ref xp, .ref xg, .ref xl, .ref xk, .ref xh, .ref xv], ob xt 7 [.int (nI ts), .ref xtl], aI G xtl 80 (nF t), ob xn 1 [.ref na, .ref nb], ob na 6 [.int (nI ((parseP t ts).2 0)), .int (nI ((parseP t ts).2 2)), .ref nla], aI G nla 10 (nF (gz (parseP t ts).2)), ob nb 6 [.int (nI ((parseP t ts).2 1)), .int (nI ((parseP t ts).2 3)), .ref nlb], aI G nlb 10 (nF (go (parseP t ts).2)), ob xr 1 [.ref ra, .ref rb], ob ra 6 [.int (nI ((parseP t ts).2 0)), .int (nI ((parseP t ts).2 2)), .ref rla], aI G rla 10 (nF (gz (parseP t ts).2)), ob rb 6 [.int (nI ((parseP t ts).2 1)), .int (nI ((parseP t ts).2 3)), .ref rlb], aI G rlb 10 (nF (go (parseP t ts).2)), ob xa 0 [.int (nI 0), .ref xal], aI G xal 14 (nF ac), aZ G xf 2 (bF f)] := by
      intro fuel_4
      induction fuel_4 with
      | zero => intro i f hi hf hm; exact absurd hm (Nat.not_lt_zero _)
      | succ fuel_4 ih_6 =>
        intro i f hi hf hm_7
        refine wc_iload_n X 40 1 dX10_machines_40 rfl ?_
        refine wc_iconstN X 41 2 dX10_machines_41 ?_
        refine wc_icmp_geN X 42 58 dX10_machines_42 (by decide) (by omega) (by decide) (fun c42_8 => ?_) (fun c42_8 => ?_)
        ·
          refine wc_ext X Y 15 (f' := bF (fun _ => false)) rfl (fun j hj => congrArg b2i (hf j (by omega))) (ws' := [ob x 10 [.ref xt, .ref xn, .ref xr, .ref xa, .ref xs, .ref xf, .ref xw, .ref xi, .int (nI sn), .long sd, .ref xe, .ref xp, .ref xg, .ref xl, .ref xk, .ref xh, .ref xv], ob xt 7 [.int (nI ts), .ref xtl], aI G xtl 80 (nF t), ob xn 1 [.ref na, .ref nb], ob na 6 [.int (nI ((parseP t ts).2 0)), .int (nI ((parseP t ts).2 2)), .ref nla], aI G nla 10 (nF (gz (parseP t ts).2)), ob nb 6 [.int (nI ((parseP t ts).2 1)), .int (nI ((parseP t ts).2 3)), .ref nlb], aI G nlb 10 (nF (go (parseP t ts).2)), ob xr 1 [.ref ra, .ref rb], ob ra 6 [.int (nI ((parseP t ts).2 0)), .int (nI ((parseP t ts).2 2)), .ref rla], aI G rla 10 (nF (gz (parseP t ts).2)), ob rb 6 [.int (nI ((parseP t ts).2 1)), .int (nI ((parseP t ts).2 3)), .ref rlb], aI G rlb 10 (nF (go (parseP t ts).2)), ob xa 0 [.int (nI 0), .ref xal], aI G xal 14 (nF ac), aZ G xf 2 (bF (fun _ => false))]) rfl ?_
          refine wc_aload_n X 58 0 dX10_machines_58 rfl ?_
          refine wc_get X 59 0 1 kd10 rfl (by decide) q_234 rfl dX10_machines_59 ?_
          refine wc_callV X 62 [3, 4, 5, 6, 7] 3 (c_X1_edges l G xn na nla ((parseP t ts).2 0) ((parseP t ts).2 2) (gz (parseP t ts).2) nb nlb ((parseP t ts).2 1) ((parseP t ts).2 3) (go (parseP t ts).2) (by first | assumption | omega) (by first | assumption | omega) (by first | assumption | omega) (by first | assumption | omega) (by first | assumption | omega) (by first | assumption | omega)) yv_X1_edges kd1 rfl rfl q_385 ⟨rfl, rfl⟩ ⟨rfl, rfl⟩ ⟨rfl, rfl⟩ rfl rfl rfl dX10_machines_62 ?_
          exact ret 65 _ (nI (edgN (gz (parseP t ts).2) ((parseP t ts).2 0) + edgN (go (parseP t ts).2) ((parseP t ts).2 1))) _ dX10_machines_65 (⟨rfl, rfl⟩)
        ·
          refine wc_aload_n X 45 0 dX10_machines_45 rfl ?_
          refine wc_get X 46 0 5 kd10 rfl (by decide) q_238 rfl dX10_machines_46 ?_
          refine wc_iload_n X 49 1 dX10_machines_49 rfl ?_
          refine wc_iconstN X 50 0 dX10_machines_50 ?_
          refine wc_st (st' := [.int (b2i false), .int (nI i), .ref xf]) rfl ?_
          refine wc_zastG X Y 51 15 rfl (by omega) (by decide) (ws' := [ob x 10 [.ref xt, .ref xn, .ref xr, .ref xa, .ref xs, .ref xf, .ref xw, .ref xi, .int (nI sn), .long sd, .ref xe, .ref xp, .ref xg, .ref xl, .ref xk, .ref xh, .ref xv], ob xt 7 [.int (nI ts), .ref xtl], aI G xtl 80 (nF t), ob xn 1 [.ref na, .ref nb], ob na 6 [.int (nI ((parseP t ts).2 0)), .int (nI ((parseP t ts).2 2)), .ref nla], aI G nla 10 (nF (gz (parseP t ts).2)), ob nb 6 [.int (nI ((parseP t ts).2 1)), .int (nI ((parseP t ts).2 3)), .ref nlb], aI G nlb 10 (nF (go (parseP t ts).2)), ob xr 1 [.ref ra, .ref rb], ob ra 6 [.int (nI ((parseP t ts).2 0)), .int (nI ((parseP t ts).2 2)), .ref rla], aI G rla 10 (nF (gz (parseP t ts).2)), ob rb 6 [.int (nI ((parseP t ts).2 1)), .int (nI ((parseP t ts).2 3)), .ref rlb], aI G rlb 10 (nF (go (parseP t ts).2)), ob xa 0 [.int (nI 0), .ref xal], aI G xal 14 (nF ac), aZ G xf 2 (bF (up f i false))]) rfl dX10_machines_51 ?_
          refine wc_iincN X 52 1 (L' := [(0, .ref x), (1, .int (nI (i + 1)))]) dX10_machines_52 rfl (by decide) rfl ?_
          refine wc_goto X 55 40 dX10_machines_55 (by decide) ?_
          refine wc_L (L' := [(0, .ref x), (1, .int (nI (i + 1)))]) (by rfl) ?_
          exact ih_6 (i + 1) (up f i false) (by omega) (up_ltB (f := fun _ => false) hf rfl) (by omega)
    exact LP_5 (2 - 0 + 1) 0 fi (by decide) (fun j hj => absurd hj (Nat.not_lt_zero _)) (Nat.lt_succ_self _)
  ·
    exact absurd rfl c13_2

set_option maxHeartbeats 4000000 in
set_option maxRecDepth 100000 in
theorem c_X10_edgeF (l : Launch) (G : GG) (x xt xn xr xa xs xf xw xi sn : Nat) (sd : Int64) (xe xp xg xl xk xh xv : Nat) (na nla nb nlb : Nat) (p : Nat → Nat) (m i c j : Int32) (hb : (stOf (p 0) (p 1) m i && (decide (c = nI 1) || decide (c = nI 2)) && stOf (p 0) (p 1) m j) = false) : RM l G yX10_edge (Cond.code yX10_edge cX10_edge 5 (some .int)) { frames := 3, cells := 0, slots := 0, locals := 67 } [.ref x, .int m, .int i, .int c, .int j] [ob x 10 [.ref xt, .ref xn, .ref xr, .ref xa, .ref xs, .ref xf, .ref xw, .ref xi, .int (nI sn), .long sd, .ref xe, .ref xp, .ref xg, .ref xl, .ref xk, .ref xh, .ref xv], ob xn 1 [.ref na, .ref nb], ob na 6 [.int (nI (p 0)), .int (nI (p 2)), .ref nla], aI G nla 10 (nF (gz p)), ob nb 6 [.int (nI (p 1)), .int (nI (p 3)), .ref nlb], aI G nlb 10 (nF (go p))] (.int (-1)) := by
  refine RM.ofI (by decide) rfl (fun Γ X ret => ?_)
  show Wc Γ 0 0 0 [(0, .ref x), (1, .int m), (2, .int i), (3, .int c), (4, .int j)] [] [ob x 10 [.ref xt, .ref xn, .ref xr, .ref xa, .ref xs, .ref xf, .ref xw, .ref xi, .int (nI sn), .long sd, .ref xe, .ref xp, .ref xg, .ref xl, .ref xk, .ref xh, .ref xv], ob xn 1 [.ref na, .ref nb], ob na 6 [.int (nI (p 0)), .int (nI (p 2)), .ref nla], aI G nla 10 (nF (gz p)), ob nb 6 [.int (nI (p 1)), .int (nI (p 3)), .ref nlb], aI G nlb 10 (nF (go p))]
  refine wc_aload_n X 0 0 dX10_edge_0 rfl ?_
  refine wc_get X 1 0 1 kd10 rfl (by decide) q_234 rfl dX10_edge_1 ?_
  refine wc_iload_n X 4 1 dX10_edge_4 rfl ?_
  refine wc_iload_n X 5 2 dX10_edge_5 rfl ?_
  refine wc_iload_n X 6 3 dX10_edge_6 rfl ?_
  refine wc_iload X 7 4 dX10_edge_7 rfl ?_
  refine wc_callS X 9 [1, 2, 4] (c_X10_isEdgeOf l G xn na nla (p 0) (p 2) nb nlb (p 1) (p 3) m i c j ) ys_X10_isEdgeOf rfl q_394 ⟨rfl, rfl⟩ ⟨rfl, rfl⟩ ⟨rfl, rfl⟩ rfl rfl rfl dX10_edge_9 ?_
  refine wc_if_neB X 12 17 dX10_edge_12 (by decide) (fun c12_1 => ?_) (fun c12_1 => ?_)
  ·
    exact absurd c12_1 (by rw [hb]; decide)
  ·
    refine wc_iconst X 15 (-1) dX10_edge_15 (by decide) ?_
    exact ret 16 _ (-1) dX10_edge_16 (rfl)

set_option maxHeartbeats 4000000 in
set_option maxRecDepth 100000 in
theorem c_X10_turnF (l : Launch) (G : GG) (x xt xn xr xa xs xf xw xi sn : Nat) (sd : Int64) (xe xp xg xl xk xh xv : Nat) (na nla nb nlb : Nat) (p : Nat → Nat) (m i c j : Int32) (hb : (stOf (p 0) (p 1) m i && (decide (c = nI 1) || decide (c = nI 2)) && stOf (p 0) (p 1) m j) = false) : RM l G yX10_turn (Cond.code yX10_turn cX10_turn 5 (some .int)) { frames := 3, cells := 0, slots := 0, locals := 67 } [.ref x, .int m, .int i, .int c, .int j] [ob x 10 [.ref xt, .ref xn, .ref xr, .ref xa, .ref xs, .ref xf, .ref xw, .ref xi, .int (nI sn), .long sd, .ref xe, .ref xp, .ref xg, .ref xl, .ref xk, .ref xh, .ref xv], ob xn 1 [.ref na, .ref nb], ob na 6 [.int (nI (p 0)), .int (nI (p 2)), .ref nla], aI G nla 10 (nF (gz p)), ob nb 6 [.int (nI (p 1)), .int (nI (p 3)), .ref nlb], aI G nlb 10 (nF (go p))] (.int (-1)) := by
  refine RM.ofI (by decide) rfl (fun Γ X ret => ?_)
  show Wc Γ 0 0 0 [(0, .ref x), (1, .int m), (2, .int i), (3, .int c), (4, .int j)] [] [ob x 10 [.ref xt, .ref xn, .ref xr, .ref xa, .ref xs, .ref xf, .ref xw, .ref xi, .int (nI sn), .long sd, .ref xe, .ref xp, .ref xg, .ref xl, .ref xk, .ref xh, .ref xv], ob xn 1 [.ref na, .ref nb], ob na 6 [.int (nI (p 0)), .int (nI (p 2)), .ref nla], aI G nla 10 (nF (gz p)), ob nb 6 [.int (nI (p 1)), .int (nI (p 3)), .ref nlb], aI G nlb 10 (nF (go p))]
  refine wc_aload_n X 0 0 dX10_turn_0 rfl ?_
  refine wc_get X 1 0 1 kd10 rfl (by decide) q_234 rfl dX10_turn_1 ?_
  refine wc_iload_n X 4 1 dX10_turn_4 rfl ?_
  refine wc_iload_n X 5 2 dX10_turn_5 rfl ?_
  refine wc_iload_n X 6 3 dX10_turn_6 rfl ?_
  refine wc_iload X 7 4 dX10_turn_7 rfl ?_
  refine wc_callS X 9 [1, 2, 4] (c_X10_isEdgeOf l G xn na nla (p 0) (p 2) nb nlb (p 1) (p 3) m i c j ) ys_X10_isEdgeOf rfl q_394 ⟨rfl, rfl⟩ ⟨rfl, rfl⟩ ⟨rfl, rfl⟩ rfl rfl rfl dX10_turn_9 ?_
  refine wc_if_neB X 12 17 dX10_turn_12 (by decide) (fun c12_1 => ?_) (fun c12_1 => ?_)
  ·
    exact absurd c12_1 (by rw [hb]; decide)
  ·
    refine wc_iconst X 15 (-1) dX10_turn_15 (by decide) ?_
    exact ret 16 _ (-1) dX10_turn_16 (rfl)

set_option maxHeartbeats 4000000 in
set_option maxRecDepth 100000 in
theorem c_X10_edge0 (l : Launch) (G : GG) (x xt xn xr xa xs xf xw xi sn : Nat) (sd : Int64) (xe xp xg xl xk xh xv : Nat) (na nla nb nlb : Nat) (p : Nat → Nat) (i c j : Nat) (hr : pgOk p) (hi : i < p 0) (h1 : 1 ≤ c) (h2 : c ≤ 2) (ht : j < p 0) : RM l G yX10_edge (Cond.code yX10_edge cX10_edge 5 (some .int)) { frames := 3, cells := 0, slots := 0, locals := 67 } [.ref x, .int (nI 0), .int (nI i), .int (nI c), .int (nI j)] [ob x 10 [.ref xt, .ref xn, .ref xr, .ref xa, .ref xs, .ref xf, .ref xw, .ref xi, .int (nI sn), .long sd, .ref xe, .ref xp, .ref xg, .ref xl, .ref xk, .ref xh, .ref xv], ob xn 1 [.ref na, .ref nb], ob na 6 [.int (nI (p 0)), .int (nI (p 2)), .ref nla], aI G nla 10 (nF (gz p)), ob nb 6 [.int (nI (p 1)), .int (nI (p 3)), .ref nlb], aI G nlb 10 (nF (go p))] (.int (nI ((Nat.testBit (gz p (i * 2 + c - 1)) j).toNat))) := by
  refine RM.ofI (by decide) rfl (fun Γ X ret => ?_)
  show Wc Γ 0 0 0 [(0, .ref x), (1, .int (nI 0)), (2, .int (nI i)), (3, .int (nI c)), (4, .int (nI j))] [] [ob x 10 [.ref xt, .ref xn, .ref xr, .ref xa, .ref xs, .ref xf, .ref xw, .ref xi, .int (nI sn), .long sd, .ref xe, .ref xp, .ref xg, .ref xl, .ref xk, .ref xh, .ref xv], ob xn 1 [.ref na, .ref nb], ob na 6 [.int (nI (p 0)), .int (nI (p 2)), .ref nla], aI G nla 10 (nF (gz p)), ob nb 6 [.int (nI (p 1)), .int (nI (p 3)), .ref nlb], aI G nlb 10 (nF (go p))]
  have hn0 := hr.2.1
  have hn01 := hr.1
  have hn1 := hr.2.2.2.1
  have hn11 := hr.2.2.1
  have he0 := pg_e0 hr
  have he1 := hr.2.2.2.2.1 3
  have hg0 := hr.2.2.2.2.2.1
  have hg1 := (fun j => hr.2.2.2.2.1 (12 + j) : ∀ j, go p j < 32)
  have hg0n := (hr.2.2.2.2.2.2.1 0 (by decide) : ∀ j, gz p j < 2 ^ p 0)
  have hg1n := (hr.2.2.2.2.2.2.1 1 (by decide) : ∀ j, go p j < 2 ^ p 1)
  have he0n := hr.2.2.2.2.2.2.2 0 (by decide)
  have he1n := hr.2.2.2.2.2.2.2 1 (by decide)
  have hg0w := (fun j => Nat.lt_trans (hg0 j) (by decide) : ∀ j, gz p j < 32)
  refine wc_aload_n X 0 0 dX10_edge_0 rfl ?_
  refine wc_get X 1 0 1 kd10 rfl (by decide) q_234 rfl dX10_edge_1 ?_
  refine wc_iload_n X 4 1 dX10_edge_4 rfl ?_
  refine wc_iload_n X 5 2 dX10_edge_5 rfl ?_
  refine wc_iload_n X 6 3 dX10_edge_6 rfl ?_
  refine wc_iload X 7 4 dX10_edge_7 rfl ?_
  refine wc_callS X 9 [1, 2, 4] (c_X10_isEdgeOf l G xn na nla (p 0) (p 2) nb nlb (p 1) (p 3) (nI 0) (nI i) (nI c) (nI j) ) ys_X10_isEdgeOf rfl q_394 ⟨rfl, rfl⟩ ⟨rfl, rfl⟩ ⟨rfl, rfl⟩ rfl rfl rfl dX10_edge_9 ?_
  refine wc_topi (b2i true) (congrArg b2i (edO_p (m := 0) hr (by decide) hi h1 h2 ht)) ?_
  refine wc_if_neB X 12 17 dX10_edge_12 (by decide) (fun c12_1 => ?_) (fun c12_1 => ?_)
  ·
    refine wc_aload_n X 17 0 dX10_edge_17 rfl ?_
    refine wc_get X 18 0 1 kd10 rfl (by decide) q_234 rfl dX10_edge_18 ?_
    refine wc_iload_n X 21 1 dX10_edge_21 rfl ?_
    refine wc_callV X 22 [1] 1 (c_X1_of0 l G xn na nb ) yv_X1_of kd1 rfl rfl q_403 ⟨rfl, rfl⟩ ⟨rfl, rfl⟩ ⟨rfl, rfl⟩ rfl rfl rfl dX10_edge_22 ?_
    refine wc_iload_n X 25 2 dX10_edge_25 rfl ?_
    refine wc_iload_n X 26 3 dX10_edge_26 rfl ?_
    refine wc_iload X 27 4 dX10_edge_27 rfl ?_
    refine wc_callV X 29 [2, 3] 2 (c_X6_joins l G na nla (p 0) (p 2) (gz p) i c j (by first | assumption | omega) (by first | assumption | omega) (by first | assumption | omega) (by first | assumption | omega) hg0w) yv_X6_joins kd6 rfl rfl q_409 ⟨rfl, rfl⟩ ⟨rfl, rfl⟩ ⟨rfl, rfl⟩ rfl rfl rfl dX10_edge_29 ?_
    refine wc_callS X 32 [] (c_X10_bit l G (Nat.testBit ((gz p) (i * 2 + c - 1)) j) ) ys_X10_bit rfl q_410 ⟨rfl, rfl⟩ ⟨rfl, rfl⟩ ⟨rfl, rfl⟩ rfl rfl rfl dX10_edge_32 ?_
    exact ret 35 _ (nI ((Nat.testBit ((gz p) (i * 2 + c - 1)) j).toNat)) dX10_edge_35 (rfl)
  ·
    exact absurd c12_1 (by decide)

set_option maxHeartbeats 4000000 in
set_option maxRecDepth 100000 in
theorem c_X10_turn0A (l : Launch) (G : GG) (x xt xn xr xa xs xf xw xi sn : Nat) (sd : Int64) (xe xp xg xl xk xh xv : Nat) (na nla nb nlb : Nat) (p : Nat → Nat) (xal dn : Nat) (ac : Nat → Nat) (i c j : Nat) (hr : pgOk p) (hi : i < p 0) (h1 : 1 ≤ c) (h2 : c ≤ 2) (ht : j < p 0) (hl : dn < 14) : MM l G yX10_turn (Cond.code yX10_turn cX10_turn 5 (some .int)) { frames := 3, cells := 0, slots := 0, locals := 67 } [.ref x, .int (nI 0), .int (nI i), .int (nI c), .int (nI j)] [ob x 10 [.ref xt, .ref xn, .ref xr, .ref xa, .ref xs, .ref xf, .ref xw, .ref xi, .int (nI sn), .long sd, .ref xe, .ref xp, .ref xg, .ref xl, .ref xk, .ref xh, .ref xv], ob xn 1 [.ref na, .ref nb], ob na 6 [.int (nI (p 0)), .int (nI (p 2)), .ref nla], aI G nla 10 (nF (gz p)), ob nb 6 [.int (nI (p 1)), .int (nI (p 3)), .ref nlb], aI G nlb 10 (nF (go p)), ob xa 0 [.int (nI dn), .ref xal], aI G xal 14 (nF ac)] (fun (v : Option Value) (w : va_W) => v = some (.int (nI ((Nat.testBit (gz (flE p 0 i c j) (i * 2 + c - 1)) j).toNat))) ∧ w = [ob x 10 [.ref xt, .ref xn, .ref xr, .ref xa, .ref xs, .ref xf, .ref xw, .ref xi, .int (nI sn), .long sd, .ref xe, .ref xp, .ref xg, .ref xl, .ref xk, .ref xh, .ref xv], ob xn 1 [.ref na, .ref nb], ob na 6 [.int (nI ((flE p 0 i c j) 0)), .int (nI ((flE p 0 i c j) 2)), .ref nla], aI G nla 10 (nF (gz (flE p 0 i c j))), ob nb 6 [.int (nI ((flE p 0 i c j) 1)), .int (nI ((flE p 0 i c j) 3)), .ref nlb], aI G nlb 10 (nF (go (flE p 0 i c j))), ob xa 0 [.int (nI (dn + 1)), .ref xal], aI G xal 14 (nF (up ac dn (0 * 1000 + i * 100 + c * 10 + j)))]) 0 0 := by
  refine MM.ofI (by decide) rfl (fun Γ X Y hnm ret => ?_)
  show Wc Γ 0 0 0 [(0, .ref x), (1, .int (nI 0)), (2, .int (nI i)), (3, .int (nI c)), (4, .int (nI j))] [] [ob x 10 [.ref xt, .ref xn, .ref xr, .ref xa, .ref xs, .ref xf, .ref xw, .ref xi, .int (nI sn), .long sd, .ref xe, .ref xp, .ref xg, .ref xl, .ref xk, .ref xh, .ref xv], ob xn 1 [.ref na, .ref nb], ob na 6 [.int (nI (p 0)), .int (nI (p 2)), .ref nla], aI G nla 10 (nF (gz p)), ob nb 6 [.int (nI (p 1)), .int (nI (p 3)), .ref nlb], aI G nlb 10 (nF (go p)), ob xa 0 [.int (nI dn), .ref xal], aI G xal 14 (nF ac)]
  have hn0 := hr.2.1
  have hn01 := hr.1
  have hn1 := hr.2.2.2.1
  have hn11 := hr.2.2.1
  have he0 := pg_e0 hr
  have he1 := hr.2.2.2.2.1 3
  have hg0 := hr.2.2.2.2.2.1
  have hg1 := (fun j => hr.2.2.2.2.1 (12 + j) : ∀ j, go p j < 32)
  have hg0n := (hr.2.2.2.2.2.2.1 0 (by decide) : ∀ j, gz p j < 2 ^ p 0)
  have hg1n := (hr.2.2.2.2.2.2.1 1 (by decide) : ∀ j, go p j < 2 ^ p 1)
  have he0n := hr.2.2.2.2.2.2.2 0 (by decide)
  have he1n := hr.2.2.2.2.2.2.2 1 (by decide)
  have hg0w := (fun j => Nat.lt_trans (hg0 j) (by decide) : ∀ j, gz p j < 32)
  have hgu : ∀ a, up (gz p) (i * 2 + c - 1) (gz p (i * 2 + c - 1) ^^^ 2 ^ j) a < 32 := fun a => by rw [← flE_g0 hr hi h1 h2]; have hz := flE_ok (m := 0) hr (by decide) hi h1 h2 ht; exact Nat.lt_trans (hz.2.2.2.2.2.1 a) (by decide)
  refine wc_aload_n X 0 0 dX10_turn_0 rfl ?_
  refine wc_get X 1 0 1 kd10 rfl (by decide) q_234 rfl dX10_turn_1 ?_
  refine wc_iload_n X 4 1 dX10_turn_4 rfl ?_
  refine wc_iload_n X 5 2 dX10_turn_5 rfl ?_
  refine wc_iload_n X 6 3 dX10_turn_6 rfl ?_
  refine wc_iload X 7 4 dX10_turn_7 rfl ?_
  refine wc_callS X 9 [1, 2, 4] (c_X10_isEdgeOf l G xn na nla (p 0) (p 2) nb nlb (p 1) (p 3) (nI 0) (nI i) (nI c) (nI j) ) ys_X10_isEdgeOf rfl q_394 ⟨rfl, rfl⟩ ⟨rfl, rfl⟩ ⟨rfl, rfl⟩ rfl rfl rfl dX10_turn_9 ?_
  refine wc_topi (b2i true) (congrArg b2i (edO_p (m := 0) hr (by decide) hi h1 h2 ht)) ?_
  refine wc_if_neB X 12 17 dX10_turn_12 (by decide) (fun c12_1 => ?_) (fun c12_1 => ?_)
  ·
    refine wc_aload_n X 17 0 dX10_turn_17 rfl ?_
    refine wc_get X 18 0 3 kd10 rfl (by decide) q_236 rfl dX10_turn_18 ?_
    refine wc_iload_n X 21 1 dX10_turn_21 rfl ?_
    refine wc_iload_n X 22 2 dX10_turn_22 rfl ?_
    refine wc_iload_n X 23 3 dX10_turn_23 rfl ?_
    refine wc_iload X 24 4 dX10_turn_24 rfl ?_
    refine wc_callS X 26 [] (c_X0_edgeAct l G 0 i c j ) ys_X0_edgeAct rfl q_417 ⟨rfl, rfl⟩ ⟨rfl, rfl⟩ ⟨rfl, rfl⟩ rfl rfl rfl dX10_turn_26 ?_
    refine wc_mutV X Y 29 [6, 7] [0, 1, 2, 3, 4, 5] 6 (c_X0_appendA l G xa xal dn ac (0 * 1000 + i * 100 + c * 10 + j) (by first | assumption | omega)) yv_X0_append kd0 rfl rfl (wr := [ob x 10 [.ref xt, .ref xn, .ref xr, .ref xa, .ref xs, .ref xf, .ref xw, .ref xi, .int (nI sn), .long sd, .ref xe, .ref xp, .ref xg, .ref xl, .ref xk, .ref xh, .ref xv], ob xn 1 [.ref na, .ref nb], ob na 6 [.int (nI (p 0)), .int (nI (p 2)), .ref nla], aI G nla 10 (nF (gz p)), ob nb 6 [.int (nI (p 1)), .int (nI (p 3)), .ref nlb], aI G nlb 10 (nF (go p))]) rfl ⟨rfl, rfl, rfl⟩ q_420 ⟨rfl, rfl⟩ ⟨rfl, rfl⟩ ⟨rfl, rfl⟩ rfl rfl rfl dX10_turn_29 (fun v w hp_2 => ?_)
    obtain ⟨rfl, rfl⟩ := hp_2
    refine wc_perm Y [0, 1, 2, 3, 4, 5, 6, 7] [ob x 10 [.ref xt, .ref xn, .ref xr, .ref xa, .ref xs, .ref xf, .ref xw, .ref xi, .int (nI sn), .long sd, .ref xe, .ref xp, .ref xg, .ref xl, .ref xk, .ref xh, .ref xv], ob xn 1 [.ref na, .ref nb], ob na 6 [.int (nI (p 0)), .int (nI (p 2)), .ref nla], aI G nla 10 (nF (gz p)), ob nb 6 [.int (nI (p 1)), .int (nI (p 3)), .ref nlb], aI G nlb 10 (nF (go p)), ob xa 0 [.int (nI (dn + 1)), .ref xal], aI G xal 14 (nF (up ac dn (0 * 1000 + i * 100 + c * 10 + j)))] rfl rfl ?_
    show Wc Γ 0 0 32 [(0, .ref x), (1, .int (nI 0)), (2, .int (nI i)), (3, .int (nI c)), (4, .int (nI j))] [] [ob x 10 [.ref xt, .ref xn, .ref xr, .ref xa, .ref xs, .ref xf, .ref xw, .ref xi, .int (nI sn), .long sd, .ref xe, .ref xp, .ref xg, .ref xl, .ref xk, .ref xh, .ref xv], ob xn 1 [.ref na, .ref nb], ob na 6 [.int (nI (p 0)), .int (nI (p 2)), .ref nla], aI G nla 10 (nF (gz p)), ob nb 6 [.int (nI (p 1)), .int (nI (p 3)), .ref nlb], aI G nlb 10 (nF (go p)), ob xa 0 [.int (nI (dn + 1)), .ref xal], aI G xal 14 (nF (up ac dn (0 * 1000 + i * 100 + c * 10 + j)))]
    refine wc_aload_n X 32 0 dX10_turn_32 rfl ?_
    refine wc_get X 33 0 1 kd10 rfl (by decide) q_234 rfl dX10_turn_33 ?_
    refine wc_iload_n X 36 1 dX10_turn_36 rfl ?_
    refine wc_callV X 37 [1] 1 (c_X1_of0 l G xn na nb ) yv_X1_of kd1 rfl rfl q_403 ⟨rfl, rfl⟩ ⟨rfl, rfl⟩ ⟨rfl, rfl⟩ rfl rfl rfl dX10_turn_37 ?_
    refine wc_iload_n X 40 2 dX10_turn_40 rfl ?_
    refine wc_iload_n X 41 3 dX10_turn_41 rfl ?_
    refine wc_iload X 42 4 dX10_turn_42 rfl ?_
    refine wc_mutV X Y 44 [2, 3] [0, 1, 4, 5, 6, 7] 2 (c_X6_flipEdge l G na nla (p 0) (p 2) (gz p) i c j (by first | assumption | omega) (by first | assumption | omega) (by first | assumption | omega) (by first | assumption | omega)) yv_X6_flipEdge kd6 rfl rfl (wr := [ob x 10 [.ref xt, .ref xn, .ref xr, .ref xa, .ref xs, .ref xf, .ref xw, .ref xi, .int (nI sn), .long sd, .ref xe, .ref xp, .ref xg, .ref xl, .ref xk, .ref xh, .ref xv], ob xn 1 [.ref na, .ref nb], ob nb 6 [.int (nI (p 1)), .int (nI (p 3)), .ref nlb], aI G nlb 10 (nF (go p)), ob xa 0 [.int (nI (dn + 1)), .ref xal], aI G xal 14 (nF (up ac dn (0 * 1000 + i * 100 + c * 10 + j)))]) rfl ⟨rfl, rfl, rfl⟩ q_103 ⟨rfl, rfl⟩ ⟨rfl, rfl⟩ ⟨rfl, rfl⟩ rfl rfl rfl dX10_turn_44 (fun v w hp_3 => ?_)
    obtain ⟨rfl, rfl⟩ := hp_3
    refine wc_perm Y [0, 1, 6, 7, 2, 3, 4, 5] [ob x 10 [.ref xt, .ref xn, .ref xr, .ref xa, .ref xs, .ref xf, .ref xw, .ref xi, .int (nI sn), .long sd, .ref xe, .ref xp, .ref xg, .ref xl, .ref xk, .ref xh, .ref xv], ob xn 1 [.ref na, .ref nb], ob na 6 [.int (nI (p 0)), .int (nI (p 2)), .ref nla], aI G nla 10 (nF (up (gz p) (i * 2 + c - 1) ((gz p) (i * 2 + c - 1) ^^^ 2 ^ j))), ob nb 6 [.int (nI (p 1)), .int (nI (p 3)), .ref nlb], aI G nlb 10 (nF (go p)), ob xa 0 [.int (nI (dn + 1)), .ref xal], aI G xal 14 (nF (up ac dn (0 * 1000 + i * 100 + c * 10 + j)))] rfl rfl ?_
    show Wc Γ 0 0 47 [(0, .ref x), (1, .int (nI 0)), (2, .int (nI i)), (3, .int (nI c)), (4, .int (nI j))] [] [ob x 10 [.ref xt, .ref xn, .ref xr, .ref xa, .ref xs, .ref xf, .ref xw, .ref xi, .int (nI sn), .long sd, .ref xe, .ref xp, .ref xg, .ref xl, .ref xk, .ref xh, .ref xv], ob xn 1 [.ref na, .ref nb], ob na 6 [.int (nI (p 0)), .int (nI (p 2)), .ref nla], aI G nla 10 (nF (up (gz p) (i * 2 + c - 1) ((gz p) (i * 2 + c - 1) ^^^ 2 ^ j))), ob nb 6 [.int (nI (p 1)), .int (nI (p 3)), .ref nlb], aI G nlb 10 (nF (go p)), ob xa 0 [.int (nI (dn + 1)), .ref xal], aI G xal 14 (nF (up ac dn (0 * 1000 + i * 100 + c * 10 + j)))]
    refine wc_aload_n X 47 0 dX10_turn_47 rfl ?_
    refine wc_get X 48 0 1 kd10 rfl (by decide) q_234 rfl dX10_turn_48 ?_
    refine wc_iload_n X 51 1 dX10_turn_51 rfl ?_
    refine wc_callV X 52 [1] 1 (c_X1_of0 l G xn na nb ) yv_X1_of kd1 rfl rfl q_403 ⟨rfl, rfl⟩ ⟨rfl, rfl⟩ ⟨rfl, rfl⟩ rfl rfl rfl dX10_turn_52 ?_
    refine wc_iload_n X 55 2 dX10_turn_55 rfl ?_
    refine wc_iload_n X 56 3 dX10_turn_56 rfl ?_
    refine wc_iload X 57 4 dX10_turn_57 rfl ?_
    refine wc_callV X 59 [2, 3] 2 (c_X6_joins l G na nla (p 0) (p 2) (up (gz p) (i * 2 + c - 1) ((gz p) (i * 2 + c - 1) ^^^ 2 ^ j)) i c j (by first | assumption | omega) (by first | assumption | omega) (by first | assumption | omega) (by first | assumption | omega) hgu) yv_X6_joins kd6 rfl rfl q_409 ⟨rfl, rfl⟩ ⟨rfl, rfl⟩ ⟨rfl, rfl⟩ rfl rfl rfl dX10_turn_59 ?_
    refine wc_callS X 62 [] (c_X10_bit l G (Nat.testBit ((up (gz p) (i * 2 + c - 1) ((gz p) (i * 2 + c - 1) ^^^ 2 ^ j)) (i * 2 + c - 1)) j) ) ys_X10_bit rfl q_410 ⟨rfl, rfl⟩ ⟨rfl, rfl⟩ ⟨rfl, rfl⟩ rfl rfl rfl dX10_turn_62 ?_
    exact ret 65 _ (nI ((Nat.testBit ((up (gz p) (i * 2 + c - 1) ((gz p) (i * 2 + c - 1) ^^^ 2 ^ j)) (i * 2 + c - 1)) j).toNat)) _ dX10_turn_65 (⟨by rw [flE_g0 (t := j) hr hi h1 h2], by rw [flE_lo (p := p) (m := 0) (i := i) (c := c) (t := j) (k := 0) (by decide) h1 (by decide), flE_lo (p := p) (m := 0) (i := i) (c := c) (t := j) (k := 1) (by decide) h1 (by decide), flE_lo (p := p) (m := 0) (i := i) (c := c) (t := j) (k := 2) (by decide) h1 (by decide), flE_lo (p := p) (m := 0) (i := i) (c := c) (t := j) (k := 3) (by decide) h1 (by decide), flE_g0 (t := j) hr hi h1 h2, flE_o0 (t := j) hr hi h1 h2]⟩)
  ·
    exact absurd c12_1 (by decide)

set_option maxHeartbeats 4000000 in
set_option maxRecDepth 100000 in
theorem c_X10_turn0B (l : Launch) (G : GG) (x xt xn xr xa xs xf xw xi sn : Nat) (sd : Int64) (xe xp xg xl xk xh xv : Nat) (na nla nb nlb : Nat) (p : Nat → Nat) (xal : Nat) (ac : Nat → Nat) (i c j : Nat) (hr : pgOk p) (hi : i < p 0) (h1 : 1 ≤ c) (h2 : c ≤ 2) (ht : j < p 0) : MM l G yX10_turn (Cond.code yX10_turn cX10_turn 5 (some .int)) { frames := 3, cells := 0, slots := 0, locals := 67 } [.ref x, .int (nI 0), .int (nI i), .int (nI c), .int (nI j)] [ob x 10 [.ref xt, .ref xn, .ref xr, .ref xa, .ref xs, .ref xf, .ref xw, .ref xi, .int (nI sn), .long sd, .ref xe, .ref xp, .ref xg, .ref xl, .ref xk, .ref xh, .ref xv], ob xn 1 [.ref na, .ref nb], ob na 6 [.int (nI (p 0)), .int (nI (p 2)), .ref nla], aI G nla 10 (nF (gz p)), ob nb 6 [.int (nI (p 1)), .int (nI (p 3)), .ref nlb], aI G nlb 10 (nF (go p)), ob xa 0 [.int (nI 14), .ref xal], aI G xal 14 (nF ac)] (fun (v : Option Value) (w : va_W) => v = some (.int (nI ((Nat.testBit (gz (flE p 0 i c j) (i * 2 + c - 1)) j).toNat))) ∧ w = [ob x 10 [.ref xt, .ref xn, .ref xr, .ref xa, .ref xs, .ref xf, .ref xw, .ref xi, .int (nI sn), .long sd, .ref xe, .ref xp, .ref xg, .ref xl, .ref xk, .ref xh, .ref xv], ob xn 1 [.ref na, .ref nb], ob na 6 [.int (nI ((flE p 0 i c j) 0)), .int (nI ((flE p 0 i c j) 2)), .ref nla], aI G nla 10 (nF (gz (flE p 0 i c j))), ob nb 6 [.int (nI ((flE p 0 i c j) 1)), .int (nI ((flE p 0 i c j) 3)), .ref nlb], aI G nlb 10 (nF (go (flE p 0 i c j))), ob xa 0 [.int (nI 14), .ref xal], aI G xal 14 (nF (shAct ac (0 * 1000 + i * 100 + c * 10 + j)))]) 0 0 := by
  refine MM.ofI (by decide) rfl (fun Γ X Y hnm ret => ?_)
  show Wc Γ 0 0 0 [(0, .ref x), (1, .int (nI 0)), (2, .int (nI i)), (3, .int (nI c)), (4, .int (nI j))] [] [ob x 10 [.ref xt, .ref xn, .ref xr, .ref xa, .ref xs, .ref xf, .ref xw, .ref xi, .int (nI sn), .long sd, .ref xe, .ref xp, .ref xg, .ref xl, .ref xk, .ref xh, .ref xv], ob xn 1 [.ref na, .ref nb], ob na 6 [.int (nI (p 0)), .int (nI (p 2)), .ref nla], aI G nla 10 (nF (gz p)), ob nb 6 [.int (nI (p 1)), .int (nI (p 3)), .ref nlb], aI G nlb 10 (nF (go p)), ob xa 0 [.int (nI 14), .ref xal], aI G xal 14 (nF ac)]
  have hn0 := hr.2.1
  have hn01 := hr.1
  have hn1 := hr.2.2.2.1
  have hn11 := hr.2.2.1
  have he0 := pg_e0 hr
  have he1 := hr.2.2.2.2.1 3
  have hg0 := hr.2.2.2.2.2.1
  have hg1 := (fun j => hr.2.2.2.2.1 (12 + j) : ∀ j, go p j < 32)
  have hg0n := (hr.2.2.2.2.2.2.1 0 (by decide) : ∀ j, gz p j < 2 ^ p 0)
  have hg1n := (hr.2.2.2.2.2.2.1 1 (by decide) : ∀ j, go p j < 2 ^ p 1)
  have he0n := hr.2.2.2.2.2.2.2 0 (by decide)
  have he1n := hr.2.2.2.2.2.2.2 1 (by decide)
  have hg0w := (fun j => Nat.lt_trans (hg0 j) (by decide) : ∀ j, gz p j < 32)
  have hgu : ∀ a, up (gz p) (i * 2 + c - 1) (gz p (i * 2 + c - 1) ^^^ 2 ^ j) a < 32 := fun a => by rw [← flE_g0 hr hi h1 h2]; have hz := flE_ok (m := 0) hr (by decide) hi h1 h2 ht; exact Nat.lt_trans (hz.2.2.2.2.2.1 a) (by decide)
  refine wc_aload_n X 0 0 dX10_turn_0 rfl ?_
  refine wc_get X 1 0 1 kd10 rfl (by decide) q_234 rfl dX10_turn_1 ?_
  refine wc_iload_n X 4 1 dX10_turn_4 rfl ?_
  refine wc_iload_n X 5 2 dX10_turn_5 rfl ?_
  refine wc_iload_n X 6 3 dX10_turn_6 rfl ?_
  refine wc_iload X 7 4 dX10_turn_7 rfl ?_
  refine wc_callS X 9 [1, 2, 4] (c_X10_isEdgeOf l G xn na nla (p 0) (p 2) nb nlb (p 1) (p 3) (nI 0) (nI i) (nI c) (nI j) ) ys_X10_isEdgeOf rfl q_394 ⟨rfl, rfl⟩ ⟨rfl, rfl⟩ ⟨rfl, rfl⟩ rfl rfl rfl dX10_turn_9 ?_
  refine wc_topi (b2i true) (congrArg b2i (edO_p (m := 0) hr (by decide) hi h1 h2 ht)) ?_
  refine wc_if_neB X 12 17 dX10_turn_12 (by decide) (fun c12_1 => ?_) (fun c12_1 => ?_)
  ·
    refine wc_aload_n X 17 0 dX10_turn_17 rfl ?_
    refine wc_get X 18 0 3 kd10 rfl (by decide) q_236 rfl dX10_turn_18 ?_
    refine wc_iload_n X 21 1 dX10_turn_21 rfl ?_
    refine wc_iload_n X 22 2 dX10_turn_22 rfl ?_
    refine wc_iload_n X 23 3 dX10_turn_23 rfl ?_
    refine wc_iload X 24 4 dX10_turn_24 rfl ?_
    refine wc_callS X 26 [] (c_X0_edgeAct l G 0 i c j ) ys_X0_edgeAct rfl q_417 ⟨rfl, rfl⟩ ⟨rfl, rfl⟩ ⟨rfl, rfl⟩ rfl rfl rfl dX10_turn_26 ?_
    refine wc_mutV X Y 29 [6, 7] [0, 1, 2, 3, 4, 5] 6 (c_X0_appendB l G xa xal ac (0 * 1000 + i * 100 + c * 10 + j) ) yv_X0_append kd0 rfl rfl (wr := [ob x 10 [.ref xt, .ref xn, .ref xr, .ref xa, .ref xs, .ref xf, .ref xw, .ref xi, .int (nI sn), .long sd, .ref xe, .ref xp, .ref xg, .ref xl, .ref xk, .ref xh, .ref xv], ob xn 1 [.ref na, .ref nb], ob na 6 [.int (nI (p 0)), .int (nI (p 2)), .ref nla], aI G nla 10 (nF (gz p)), ob nb 6 [.int (nI (p 1)), .int (nI (p 3)), .ref nlb], aI G nlb 10 (nF (go p))]) rfl ⟨rfl, rfl, rfl⟩ q_420 ⟨rfl, rfl⟩ ⟨rfl, rfl⟩ ⟨rfl, rfl⟩ rfl rfl rfl dX10_turn_29 (fun v w hp_2 => ?_)
    obtain ⟨rfl, rfl⟩ := hp_2
    refine wc_perm Y [0, 1, 2, 3, 4, 5, 6, 7] [ob x 10 [.ref xt, .ref xn, .ref xr, .ref xa, .ref xs, .ref xf, .ref xw, .ref xi, .int (nI sn), .long sd, .ref xe, .ref xp, .ref xg, .ref xl, .ref xk, .ref xh, .ref xv], ob xn 1 [.ref na, .ref nb], ob na 6 [.int (nI (p 0)), .int (nI (p 2)), .ref nla], aI G nla 10 (nF (gz p)), ob nb 6 [.int (nI (p 1)), .int (nI (p 3)), .ref nlb], aI G nlb 10 (nF (go p)), ob xa 0 [.int (nI 14), .ref xal], aI G xal 14 (nF (shAct ac (0 * 1000 + i * 100 + c * 10 + j)))] rfl rfl ?_
    show Wc Γ 0 0 32 [(0, .ref x), (1, .int (nI 0)), (2, .int (nI i)), (3, .int (nI c)), (4, .int (nI j))] [] [ob x 10 [.ref xt, .ref xn, .ref xr, .ref xa, .ref xs, .ref xf, .ref xw, .ref xi, .int (nI sn), .long sd, .ref xe, .ref xp, .ref xg, .ref xl, .ref xk, .ref xh, .ref xv], ob xn 1 [.ref na, .ref nb], ob na 6 [.int (nI (p 0)), .int (nI (p 2)), .ref nla], aI G nla 10 (nF (gz p)), ob nb 6 [.int (nI (p 1)), .int (nI (p 3)), .ref nlb], aI G nlb 10 (nF (go p)), ob xa 0 [.int (nI 14), .ref xal], aI G xal 14 (nF (shAct ac (0 * 1000 + i * 100 + c * 10 + j)))]
    refine wc_aload_n X 32 0 dX10_turn_32 rfl ?_
    refine wc_get X 33 0 1 kd10 rfl (by decide) q_234 rfl dX10_turn_33 ?_
    refine wc_iload_n X 36 1 dX10_turn_36 rfl ?_
    refine wc_callV X 37 [1] 1 (c_X1_of0 l G xn na nb ) yv_X1_of kd1 rfl rfl q_403 ⟨rfl, rfl⟩ ⟨rfl, rfl⟩ ⟨rfl, rfl⟩ rfl rfl rfl dX10_turn_37 ?_
    refine wc_iload_n X 40 2 dX10_turn_40 rfl ?_
    refine wc_iload_n X 41 3 dX10_turn_41 rfl ?_
    refine wc_iload X 42 4 dX10_turn_42 rfl ?_
    refine wc_mutV X Y 44 [2, 3] [0, 1, 4, 5, 6, 7] 2 (c_X6_flipEdge l G na nla (p 0) (p 2) (gz p) i c j (by first | assumption | omega) (by first | assumption | omega) (by first | assumption | omega) (by first | assumption | omega)) yv_X6_flipEdge kd6 rfl rfl (wr := [ob x 10 [.ref xt, .ref xn, .ref xr, .ref xa, .ref xs, .ref xf, .ref xw, .ref xi, .int (nI sn), .long sd, .ref xe, .ref xp, .ref xg, .ref xl, .ref xk, .ref xh, .ref xv], ob xn 1 [.ref na, .ref nb], ob nb 6 [.int (nI (p 1)), .int (nI (p 3)), .ref nlb], aI G nlb 10 (nF (go p)), ob xa 0 [.int (nI 14), .ref xal], aI G xal 14 (nF (shAct ac (0 * 1000 + i * 100 + c * 10 + j)))]) rfl ⟨rfl, rfl, rfl⟩ q_103 ⟨rfl, rfl⟩ ⟨rfl, rfl⟩ ⟨rfl, rfl⟩ rfl rfl rfl dX10_turn_44 (fun v w hp_3 => ?_)
    obtain ⟨rfl, rfl⟩ := hp_3
    refine wc_perm Y [0, 1, 6, 7, 2, 3, 4, 5] [ob x 10 [.ref xt, .ref xn, .ref xr, .ref xa, .ref xs, .ref xf, .ref xw, .ref xi, .int (nI sn), .long sd, .ref xe, .ref xp, .ref xg, .ref xl, .ref xk, .ref xh, .ref xv], ob xn 1 [.ref na, .ref nb], ob na 6 [.int (nI (p 0)), .int (nI (p 2)), .ref nla], aI G nla 10 (nF (up (gz p) (i * 2 + c - 1) ((gz p) (i * 2 + c - 1) ^^^ 2 ^ j))), ob nb 6 [.int (nI (p 1)), .int (nI (p 3)), .ref nlb], aI G nlb 10 (nF (go p)), ob xa 0 [.int (nI 14), .ref xal], aI G xal 14 (nF (shAct ac (0 * 1000 + i * 100 + c * 10 + j)))] rfl rfl ?_
    show Wc Γ 0 0 47 [(0, .ref x), (1, .int (nI 0)), (2, .int (nI i)), (3, .int (nI c)), (4, .int (nI j))] [] [ob x 10 [.ref xt, .ref xn, .ref xr, .ref xa, .ref xs, .ref xf, .ref xw, .ref xi, .int (nI sn), .long sd, .ref xe, .ref xp, .ref xg, .ref xl, .ref xk, .ref xh, .ref xv], ob xn 1 [.ref na, .ref nb], ob na 6 [.int (nI (p 0)), .int (nI (p 2)), .ref nla], aI G nla 10 (nF (up (gz p) (i * 2 + c - 1) ((gz p) (i * 2 + c - 1) ^^^ 2 ^ j))), ob nb 6 [.int (nI (p 1)), .int (nI (p 3)), .ref nlb], aI G nlb 10 (nF (go p)), ob xa 0 [.int (nI 14), .ref xal], aI G xal 14 (nF (shAct ac (0 * 1000 + i * 100 + c * 10 + j)))]
    refine wc_aload_n X 47 0 dX10_turn_47 rfl ?_
    refine wc_get X 48 0 1 kd10 rfl (by decide) q_234 rfl dX10_turn_48 ?_
    refine wc_iload_n X 51 1 dX10_turn_51 rfl ?_
    refine wc_callV X 52 [1] 1 (c_X1_of0 l G xn na nb ) yv_X1_of kd1 rfl rfl q_403 ⟨rfl, rfl⟩ ⟨rfl, rfl⟩ ⟨rfl, rfl⟩ rfl rfl rfl dX10_turn_52 ?_
    refine wc_iload_n X 55 2 dX10_turn_55 rfl ?_
    refine wc_iload_n X 56 3 dX10_turn_56 rfl ?_
    refine wc_iload X 57 4 dX10_turn_57 rfl ?_
    refine wc_callV X 59 [2, 3] 2 (c_X6_joins l G na nla (p 0) (p 2) (up (gz p) (i * 2 + c - 1) ((gz p) (i * 2 + c - 1) ^^^ 2 ^ j)) i c j (by first | assumption | omega) (by first | assumption | omega) (by first | assumption | omega) (by first | assumption | omega) hgu) yv_X6_joins kd6 rfl rfl q_409 ⟨rfl, rfl⟩ ⟨rfl, rfl⟩ ⟨rfl, rfl⟩ rfl rfl rfl dX10_turn_59 ?_
    refine wc_callS X 62 [] (c_X10_bit l G (Nat.testBit ((up (gz p) (i * 2 + c - 1) ((gz p) (i * 2 + c - 1) ^^^ 2 ^ j)) (i * 2 + c - 1)) j) ) ys_X10_bit rfl q_410 ⟨rfl, rfl⟩ ⟨rfl, rfl⟩ ⟨rfl, rfl⟩ rfl rfl rfl dX10_turn_62 ?_
    exact ret 65 _ (nI ((Nat.testBit ((up (gz p) (i * 2 + c - 1) ((gz p) (i * 2 + c - 1) ^^^ 2 ^ j)) (i * 2 + c - 1)) j).toNat)) _ dX10_turn_65 (⟨by rw [flE_g0 (t := j) hr hi h1 h2], by rw [flE_lo (p := p) (m := 0) (i := i) (c := c) (t := j) (k := 0) (by decide) h1 (by decide), flE_lo (p := p) (m := 0) (i := i) (c := c) (t := j) (k := 1) (by decide) h1 (by decide), flE_lo (p := p) (m := 0) (i := i) (c := c) (t := j) (k := 2) (by decide) h1 (by decide), flE_lo (p := p) (m := 0) (i := i) (c := c) (t := j) (k := 3) (by decide) h1 (by decide), flE_g0 (t := j) hr hi h1 h2, flE_o0 (t := j) hr hi h1 h2]⟩)
  ·
    exact absurd c12_1 (by decide)

set_option maxHeartbeats 4000000 in
set_option maxRecDepth 100000 in
theorem c_X10_edge1 (l : Launch) (G : GG) (x xt xn xr xa xs xf xw xi sn : Nat) (sd : Int64) (xe xp xg xl xk xh xv : Nat) (na nla nb nlb : Nat) (p : Nat → Nat) (i c j : Nat) (hr : pgOk p) (hi : i < p 1) (h1 : 1 ≤ c) (h2 : c ≤ 2) (ht : j < p 1) : RM l G yX10_edge (Cond.code yX10_edge cX10_edge 5 (some .int)) { frames := 3, cells := 0, slots := 0, locals := 67 } [.ref x, .int (nI 1), .int (nI i), .int (nI c), .int (nI j)] [ob x 10 [.ref xt, .ref xn, .ref xr, .ref xa, .ref xs, .ref xf, .ref xw, .ref xi, .int (nI sn), .long sd, .ref xe, .ref xp, .ref xg, .ref xl, .ref xk, .ref xh, .ref xv], ob xn 1 [.ref na, .ref nb], ob na 6 [.int (nI (p 0)), .int (nI (p 2)), .ref nla], aI G nla 10 (nF (gz p)), ob nb 6 [.int (nI (p 1)), .int (nI (p 3)), .ref nlb], aI G nlb 10 (nF (go p))] (.int (nI ((Nat.testBit (go p (i * 2 + c - 1)) j).toNat))) := by
  refine RM.ofI (by decide) rfl (fun Γ X ret => ?_)
  show Wc Γ 0 0 0 [(0, .ref x), (1, .int (nI 1)), (2, .int (nI i)), (3, .int (nI c)), (4, .int (nI j))] [] [ob x 10 [.ref xt, .ref xn, .ref xr, .ref xa, .ref xs, .ref xf, .ref xw, .ref xi, .int (nI sn), .long sd, .ref xe, .ref xp, .ref xg, .ref xl, .ref xk, .ref xh, .ref xv], ob xn 1 [.ref na, .ref nb], ob na 6 [.int (nI (p 0)), .int (nI (p 2)), .ref nla], aI G nla 10 (nF (gz p)), ob nb 6 [.int (nI (p 1)), .int (nI (p 3)), .ref nlb], aI G nlb 10 (nF (go p))]
  have hn0 := hr.2.1
  have hn01 := hr.1
  have hn1 := hr.2.2.2.1
  have hn11 := hr.2.2.1
  have he0 := pg_e0 hr
  have he1 := hr.2.2.2.2.1 3
  have hg0 := hr.2.2.2.2.2.1
  have hg1 := (fun j => hr.2.2.2.2.1 (12 + j) : ∀ j, go p j < 32)
  have hg0n := (hr.2.2.2.2.2.2.1 0 (by decide) : ∀ j, gz p j < 2 ^ p 0)
  have hg1n := (hr.2.2.2.2.2.2.1 1 (by decide) : ∀ j, go p j < 2 ^ p 1)
  have he0n := hr.2.2.2.2.2.2.2 0 (by decide)
  have he1n := hr.2.2.2.2.2.2.2 1 (by decide)
  have hg0w := (fun j => Nat.lt_trans (hg0 j) (by decide) : ∀ j, gz p j < 32)
  refine wc_aload_n X 0 0 dX10_edge_0 rfl ?_
  refine wc_get X 1 0 1 kd10 rfl (by decide) q_234 rfl dX10_edge_1 ?_
  refine wc_iload_n X 4 1 dX10_edge_4 rfl ?_
  refine wc_iload_n X 5 2 dX10_edge_5 rfl ?_
  refine wc_iload_n X 6 3 dX10_edge_6 rfl ?_
  refine wc_iload X 7 4 dX10_edge_7 rfl ?_
  refine wc_callS X 9 [1, 2, 4] (c_X10_isEdgeOf l G xn na nla (p 0) (p 2) nb nlb (p 1) (p 3) (nI 1) (nI i) (nI c) (nI j) ) ys_X10_isEdgeOf rfl q_394 ⟨rfl, rfl⟩ ⟨rfl, rfl⟩ ⟨rfl, rfl⟩ rfl rfl rfl dX10_edge_9 ?_
  refine wc_topi (b2i true) (congrArg b2i (edO_p (m := 1) hr (by decide) hi h1 h2 ht)) ?_
  refine wc_if_neB X 12 17 dX10_edge_12 (by decide) (fun c12_1 => ?_) (fun c12_1 => ?_)
  ·
    refine wc_aload_n X 17 0 dX10_edge_17 rfl ?_
    refine wc_get X 18 0 1 kd10 rfl (by decide) q_234 rfl dX10_edge_18 ?_
    refine wc_iload_n X 21 1 dX10_edge_21 rfl ?_
    refine wc_callV X 22 [1] 1 (c_X1_of1 l G xn na nb (nI 1) (by decide)) yv_X1_of kd1 rfl rfl q_403 ⟨rfl, rfl⟩ ⟨rfl, rfl⟩ ⟨rfl, rfl⟩ rfl rfl rfl dX10_edge_22 ?_
    refine wc_iload_n X 25 2 dX10_edge_25 rfl ?_
    refine wc_iload_n X 26 3 dX10_edge_26 rfl ?_
    refine wc_iload X 27 4 dX10_edge_27 rfl ?_
    refine wc_callV X 29 [4, 5] 4 (c_X6_joins l G nb nlb (p 1) (p 3) (go p) i c j (by first | assumption | omega) (by first | assumption | omega) (by first | assumption | omega) (by first | assumption | omega) hg1) yv_X6_joins kd6 rfl rfl q_409 ⟨rfl, rfl⟩ ⟨rfl, rfl⟩ ⟨rfl, rfl⟩ rfl rfl rfl dX10_edge_29 ?_
    refine wc_callS X 32 [] (c_X10_bit l G (Nat.testBit ((go p) (i * 2 + c - 1)) j) ) ys_X10_bit rfl q_410 ⟨rfl, rfl⟩ ⟨rfl, rfl⟩ ⟨rfl, rfl⟩ rfl rfl rfl dX10_edge_32 ?_
    exact ret 35 _ (nI ((Nat.testBit ((go p) (i * 2 + c - 1)) j).toNat)) dX10_edge_35 (rfl)
  ·
    exact absurd c12_1 (by decide)

set_option maxHeartbeats 4000000 in
set_option maxRecDepth 100000 in
theorem c_X10_turn1A (l : Launch) (G : GG) (x xt xn xr xa xs xf xw xi sn : Nat) (sd : Int64) (xe xp xg xl xk xh xv : Nat) (na nla nb nlb : Nat) (p : Nat → Nat) (xal dn : Nat) (ac : Nat → Nat) (i c j : Nat) (hr : pgOk p) (hi : i < p 1) (h1 : 1 ≤ c) (h2 : c ≤ 2) (ht : j < p 1) (hl : dn < 14) : MM l G yX10_turn (Cond.code yX10_turn cX10_turn 5 (some .int)) { frames := 3, cells := 0, slots := 0, locals := 67 } [.ref x, .int (nI 1), .int (nI i), .int (nI c), .int (nI j)] [ob x 10 [.ref xt, .ref xn, .ref xr, .ref xa, .ref xs, .ref xf, .ref xw, .ref xi, .int (nI sn), .long sd, .ref xe, .ref xp, .ref xg, .ref xl, .ref xk, .ref xh, .ref xv], ob xn 1 [.ref na, .ref nb], ob na 6 [.int (nI (p 0)), .int (nI (p 2)), .ref nla], aI G nla 10 (nF (gz p)), ob nb 6 [.int (nI (p 1)), .int (nI (p 3)), .ref nlb], aI G nlb 10 (nF (go p)), ob xa 0 [.int (nI dn), .ref xal], aI G xal 14 (nF ac)] (fun (v : Option Value) (w : va_W) => v = some (.int (nI ((Nat.testBit (go (flE p 1 i c j) (i * 2 + c - 1)) j).toNat))) ∧ w = [ob x 10 [.ref xt, .ref xn, .ref xr, .ref xa, .ref xs, .ref xf, .ref xw, .ref xi, .int (nI sn), .long sd, .ref xe, .ref xp, .ref xg, .ref xl, .ref xk, .ref xh, .ref xv], ob xn 1 [.ref na, .ref nb], ob na 6 [.int (nI ((flE p 1 i c j) 0)), .int (nI ((flE p 1 i c j) 2)), .ref nla], aI G nla 10 (nF (gz (flE p 1 i c j))), ob nb 6 [.int (nI ((flE p 1 i c j) 1)), .int (nI ((flE p 1 i c j) 3)), .ref nlb], aI G nlb 10 (nF (go (flE p 1 i c j))), ob xa 0 [.int (nI (dn + 1)), .ref xal], aI G xal 14 (nF (up ac dn (1 * 1000 + i * 100 + c * 10 + j)))]) 0 0 := by
  refine MM.ofI (by decide) rfl (fun Γ X Y hnm ret => ?_)
  show Wc Γ 0 0 0 [(0, .ref x), (1, .int (nI 1)), (2, .int (nI i)), (3, .int (nI c)), (4, .int (nI j))] [] [ob x 10 [.ref xt, .ref xn, .ref xr, .ref xa, .ref xs, .ref xf, .ref xw, .ref xi, .int (nI sn), .long sd, .ref xe, .ref xp, .ref xg, .ref xl, .ref xk, .ref xh, .ref xv], ob xn 1 [.ref na, .ref nb], ob na 6 [.int (nI (p 0)), .int (nI (p 2)), .ref nla], aI G nla 10 (nF (gz p)), ob nb 6 [.int (nI (p 1)), .int (nI (p 3)), .ref nlb], aI G nlb 10 (nF (go p)), ob xa 0 [.int (nI dn), .ref xal], aI G xal 14 (nF ac)]
  have hn0 := hr.2.1
  have hn01 := hr.1
  have hn1 := hr.2.2.2.1
  have hn11 := hr.2.2.1
  have he0 := pg_e0 hr
  have he1 := hr.2.2.2.2.1 3
  have hg0 := hr.2.2.2.2.2.1
  have hg1 := (fun j => hr.2.2.2.2.1 (12 + j) : ∀ j, go p j < 32)
  have hg0n := (hr.2.2.2.2.2.2.1 0 (by decide) : ∀ j, gz p j < 2 ^ p 0)
  have hg1n := (hr.2.2.2.2.2.2.1 1 (by decide) : ∀ j, go p j < 2 ^ p 1)
  have he0n := hr.2.2.2.2.2.2.2 0 (by decide)
  have he1n := hr.2.2.2.2.2.2.2 1 (by decide)
  have hg0w := (fun j => Nat.lt_trans (hg0 j) (by decide) : ∀ j, gz p j < 32)
  have hgu : ∀ a, up (go p) (i * 2 + c - 1) (go p (i * 2 + c - 1) ^^^ 2 ^ j) a < 32 := fun a => by rw [← flE_g1 hr hi h1 h2]; have hz := flE_ok (m := 1) hr (by decide) hi h1 h2 ht; exact hz.2.2.2.2.1 (12 + a)
  refine wc_aload_n X 0 0 dX10_turn_0 rfl ?_
  refine wc_get X 1 0 1 kd10 rfl (by decide) q_234 rfl dX10_turn_1 ?_
  refine wc_iload_n X 4 1 dX10_turn_4 rfl ?_
  refine wc_iload_n X 5 2 dX10_turn_5 rfl ?_
  refine wc_iload_n X 6 3 dX10_turn_6 rfl ?_
  refine wc_iload X 7 4 dX10_turn_7 rfl ?_
  refine wc_callS X 9 [1, 2, 4] (c_X10_isEdgeOf l G xn na nla (p 0) (p 2) nb nlb (p 1) (p 3) (nI 1) (nI i) (nI c) (nI j) ) ys_X10_isEdgeOf rfl q_394 ⟨rfl, rfl⟩ ⟨rfl, rfl⟩ ⟨rfl, rfl⟩ rfl rfl rfl dX10_turn_9 ?_
  refine wc_topi (b2i true) (congrArg b2i (edO_p (m := 1) hr (by decide) hi h1 h2 ht)) ?_
  refine wc_if_neB X 12 17 dX10_turn_12 (by decide) (fun c12_1 => ?_) (fun c12_1 => ?_)
  ·
    refine wc_aload_n X 17 0 dX10_turn_17 rfl ?_
    refine wc_get X 18 0 3 kd10 rfl (by decide) q_236 rfl dX10_turn_18 ?_
    refine wc_iload_n X 21 1 dX10_turn_21 rfl ?_
    refine wc_iload_n X 22 2 dX10_turn_22 rfl ?_
    refine wc_iload_n X 23 3 dX10_turn_23 rfl ?_
    refine wc_iload X 24 4 dX10_turn_24 rfl ?_
    refine wc_callS X 26 [] (c_X0_edgeAct l G 1 i c j ) ys_X0_edgeAct rfl q_417 ⟨rfl, rfl⟩ ⟨rfl, rfl⟩ ⟨rfl, rfl⟩ rfl rfl rfl dX10_turn_26 ?_
    refine wc_mutV X Y 29 [6, 7] [0, 1, 2, 3, 4, 5] 6 (c_X0_appendA l G xa xal dn ac (1 * 1000 + i * 100 + c * 10 + j) (by first | assumption | omega)) yv_X0_append kd0 rfl rfl (wr := [ob x 10 [.ref xt, .ref xn, .ref xr, .ref xa, .ref xs, .ref xf, .ref xw, .ref xi, .int (nI sn), .long sd, .ref xe, .ref xp, .ref xg, .ref xl, .ref xk, .ref xh, .ref xv], ob xn 1 [.ref na, .ref nb], ob na 6 [.int (nI (p 0)), .int (nI (p 2)), .ref nla], aI G nla 10 (nF (gz p)), ob nb 6 [.int (nI (p 1)), .int (nI (p 3)), .ref nlb], aI G nlb 10 (nF (go p))]) rfl ⟨rfl, rfl, rfl⟩ q_420 ⟨rfl, rfl⟩ ⟨rfl, rfl⟩ ⟨rfl, rfl⟩ rfl rfl rfl dX10_turn_29 (fun v w hp_2 => ?_)
    obtain ⟨rfl, rfl⟩ := hp_2
    refine wc_perm Y [0, 1, 2, 3, 4, 5, 6, 7] [ob x 10 [.ref xt, .ref xn, .ref xr, .ref xa, .ref xs, .ref xf, .ref xw, .ref xi, .int (nI sn), .long sd, .ref xe, .ref xp, .ref xg, .ref xl, .ref xk, .ref xh, .ref xv], ob xn 1 [.ref na, .ref nb], ob na 6 [.int (nI (p 0)), .int (nI (p 2)), .ref nla], aI G nla 10 (nF (gz p)), ob nb 6 [.int (nI (p 1)), .int (nI (p 3)), .ref nlb], aI G nlb 10 (nF (go p)), ob xa 0 [.int (nI (dn + 1)), .ref xal], aI G xal 14 (nF (up ac dn (1 * 1000 + i * 100 + c * 10 + j)))] rfl rfl ?_
    show Wc Γ 0 0 32 [(0, .ref x), (1, .int (nI 1)), (2, .int (nI i)), (3, .int (nI c)), (4, .int (nI j))] [] [ob x 10 [.ref xt, .ref xn, .ref xr, .ref xa, .ref xs, .ref xf, .ref xw, .ref xi, .int (nI sn), .long sd, .ref xe, .ref xp, .ref xg, .ref xl, .ref xk, .ref xh, .ref xv], ob xn 1 [.ref na, .ref nb], ob na 6 [.int (nI (p 0)), .int (nI (p 2)), .ref nla], aI G nla 10 (nF (gz p)), ob nb 6 [.int (nI (p 1)), .int (nI (p 3)), .ref nlb], aI G nlb 10 (nF (go p)), ob xa 0 [.int (nI (dn + 1)), .ref xal], aI G xal 14 (nF (up ac dn (1 * 1000 + i * 100 + c * 10 + j)))]
    refine wc_aload_n X 32 0 dX10_turn_32 rfl ?_
    refine wc_get X 33 0 1 kd10 rfl (by decide) q_234 rfl dX10_turn_33 ?_
    refine wc_iload_n X 36 1 dX10_turn_36 rfl ?_
    refine wc_callV X 37 [1] 1 (c_X1_of1 l G xn na nb (nI 1) (by decide)) yv_X1_of kd1 rfl rfl q_403 ⟨rfl, rfl⟩ ⟨rfl, rfl⟩ ⟨rfl, rfl⟩ rfl rfl rfl dX10_turn_37 ?_
    refine wc_iload_n X 40 2 dX10_turn_40 rfl ?_
    refine wc_iload_n X 41 3 dX10_turn_41 rfl ?_
    refine wc_iload X 42 4 dX10_turn_42 rfl ?_
    refine wc_mutV X Y 44 [4, 5] [0, 1, 2, 3, 6, 7] 4 (c_X6_flipEdge l G nb nlb (p 1) (p 3) (go p) i c j (by first | assumption | omega) (by first | assumption | omega) (by first | assumption | omega) (by first | assumption | omega)) yv_X6_flipEdge kd6 rfl rfl (wr := [ob x 10 [.ref xt, .ref xn, .ref xr, .ref xa, .ref xs, .ref xf, .ref xw, .ref xi, .int (nI sn), .long sd, .ref xe, .ref xp, .ref xg, .ref xl, .ref xk, .ref xh, .ref xv], ob xn 1 [.ref na, .ref nb], ob na 6 [.int (nI (p 0)), .int (nI (p 2)), .ref nla], aI G nla 10 (nF (gz p)), ob xa 0 [.int (nI (dn + 1)), .ref xal], aI G xal 14 (nF (up ac dn (1 * 1000 + i * 100 + c * 10 + j)))]) rfl ⟨rfl, rfl, rfl⟩ q_103 ⟨rfl, rfl⟩ ⟨rfl, rfl⟩ ⟨rfl, rfl⟩ rfl rfl rfl dX10_turn_44 (fun v w hp_3 => ?_)
    obtain ⟨rfl, rfl⟩ := hp_3
    refine wc_perm Y [0, 1, 2, 3, 6, 7, 4, 5] [ob x 10 [.ref xt, .ref xn, .ref xr, .ref xa, .ref xs, .ref xf, .ref xw, .ref xi, .int (nI sn), .long sd, .ref xe, .ref xp, .ref xg, .ref xl, .ref xk, .ref xh, .ref xv], ob xn 1 [.ref na, .ref nb], ob na 6 [.int (nI (p 0)), .int (nI (p 2)), .ref nla], aI G nla 10 (nF (gz p)), ob nb 6 [.int (nI (p 1)), .int (nI (p 3)), .ref nlb], aI G nlb 10 (nF (up (go p) (i * 2 + c - 1) ((go p) (i * 2 + c - 1) ^^^ 2 ^ j))), ob xa 0 [.int (nI (dn + 1)), .ref xal], aI G xal 14 (nF (up ac dn (1 * 1000 + i * 100 + c * 10 + j)))] rfl rfl ?_
    show Wc Γ 0 0 47 [(0, .ref x), (1, .int (nI 1)), (2, .int (nI i)), (3, .int (nI c)), (4, .int (nI j))] [] [ob x 10 [.ref xt, .ref xn, .ref xr, .ref xa, .ref xs, .ref xf, .ref xw, .ref xi, .int (nI sn), .long sd, .ref xe, .ref xp, .ref xg, .ref xl, .ref xk, .ref xh, .ref xv], ob xn 1 [.ref na, .ref nb], ob na 6 [.int (nI (p 0)), .int (nI (p 2)), .ref nla], aI G nla 10 (nF (gz p)), ob nb 6 [.int (nI (p 1)), .int (nI (p 3)), .ref nlb], aI G nlb 10 (nF (up (go p) (i * 2 + c - 1) ((go p) (i * 2 + c - 1) ^^^ 2 ^ j))), ob xa 0 [.int (nI (dn + 1)), .ref xal], aI G xal 14 (nF (up ac dn (1 * 1000 + i * 100 + c * 10 + j)))]
    refine wc_aload_n X 47 0 dX10_turn_47 rfl ?_
    refine wc_get X 48 0 1 kd10 rfl (by decide) q_234 rfl dX10_turn_48 ?_
    refine wc_iload_n X 51 1 dX10_turn_51 rfl ?_
    refine wc_callV X 52 [1] 1 (c_X1_of1 l G xn na nb (nI 1) (by decide)) yv_X1_of kd1 rfl rfl q_403 ⟨rfl, rfl⟩ ⟨rfl, rfl⟩ ⟨rfl, rfl⟩ rfl rfl rfl dX10_turn_52 ?_
    refine wc_iload_n X 55 2 dX10_turn_55 rfl ?_
    refine wc_iload_n X 56 3 dX10_turn_56 rfl ?_
    refine wc_iload X 57 4 dX10_turn_57 rfl ?_
    refine wc_callV X 59 [4, 5] 4 (c_X6_joins l G nb nlb (p 1) (p 3) (up (go p) (i * 2 + c - 1) ((go p) (i * 2 + c - 1) ^^^ 2 ^ j)) i c j (by first | assumption | omega) (by first | assumption | omega) (by first | assumption | omega) (by first | assumption | omega) hgu) yv_X6_joins kd6 rfl rfl q_409 ⟨rfl, rfl⟩ ⟨rfl, rfl⟩ ⟨rfl, rfl⟩ rfl rfl rfl dX10_turn_59 ?_
    refine wc_callS X 62 [] (c_X10_bit l G (Nat.testBit ((up (go p) (i * 2 + c - 1) ((go p) (i * 2 + c - 1) ^^^ 2 ^ j)) (i * 2 + c - 1)) j) ) ys_X10_bit rfl q_410 ⟨rfl, rfl⟩ ⟨rfl, rfl⟩ ⟨rfl, rfl⟩ rfl rfl rfl dX10_turn_62 ?_
    exact ret 65 _ (nI ((Nat.testBit ((up (go p) (i * 2 + c - 1) ((go p) (i * 2 + c - 1) ^^^ 2 ^ j)) (i * 2 + c - 1)) j).toNat)) _ dX10_turn_65 (⟨by rw [flE_g1 (t := j) hr hi h1 h2], by rw [flE_lo (p := p) (m := 1) (i := i) (c := c) (t := j) (k := 0) (by decide) h1 (by decide), flE_lo (p := p) (m := 1) (i := i) (c := c) (t := j) (k := 1) (by decide) h1 (by decide), flE_lo (p := p) (m := 1) (i := i) (c := c) (t := j) (k := 2) (by decide) h1 (by decide), flE_lo (p := p) (m := 1) (i := i) (c := c) (t := j) (k := 3) (by decide) h1 (by decide), flE_g1 (t := j) hr hi h1 h2, flE_o1 (t := j) hr hi h1 h2]⟩)
  ·
    exact absurd c12_1 (by decide)

set_option maxHeartbeats 4000000 in
set_option maxRecDepth 100000 in
theorem c_X10_turn1B (l : Launch) (G : GG) (x xt xn xr xa xs xf xw xi sn : Nat) (sd : Int64) (xe xp xg xl xk xh xv : Nat) (na nla nb nlb : Nat) (p : Nat → Nat) (xal : Nat) (ac : Nat → Nat) (i c j : Nat) (hr : pgOk p) (hi : i < p 1) (h1 : 1 ≤ c) (h2 : c ≤ 2) (ht : j < p 1) : MM l G yX10_turn (Cond.code yX10_turn cX10_turn 5 (some .int)) { frames := 3, cells := 0, slots := 0, locals := 67 } [.ref x, .int (nI 1), .int (nI i), .int (nI c), .int (nI j)] [ob x 10 [.ref xt, .ref xn, .ref xr, .ref xa, .ref xs, .ref xf, .ref xw, .ref xi, .int (nI sn), .long sd, .ref xe, .ref xp, .ref xg, .ref xl, .ref xk, .ref xh, .ref xv], ob xn 1 [.ref na, .ref nb], ob na 6 [.int (nI (p 0)), .int (nI (p 2)), .ref nla], aI G nla 10 (nF (gz p)), ob nb 6 [.int (nI (p 1)), .int (nI (p 3)), .ref nlb], aI G nlb 10 (nF (go p)), ob xa 0 [.int (nI 14), .ref xal], aI G xal 14 (nF ac)] (fun (v : Option Value) (w : va_W) => v = some (.int (nI ((Nat.testBit (go (flE p 1 i c j) (i * 2 + c - 1)) j).toNat))) ∧ w = [ob x 10 [.ref xt, .ref xn, .ref xr, .ref xa, .ref xs, .ref xf, .ref xw, .ref xi, .int (nI sn), .long sd, .ref xe, .ref xp, .ref xg, .ref xl, .ref xk, .ref xh, .ref xv], ob xn 1 [.ref na, .ref nb], ob na 6 [.int (nI ((flE p 1 i c j) 0)), .int (nI ((flE p 1 i c j) 2)), .ref nla], aI G nla 10 (nF (gz (flE p 1 i c j))), ob nb 6 [.int (nI ((flE p 1 i c j) 1)), .int (nI ((flE p 1 i c j) 3)), .ref nlb], aI G nlb 10 (nF (go (flE p 1 i c j))), ob xa 0 [.int (nI 14), .ref xal], aI G xal 14 (nF (shAct ac (1 * 1000 + i * 100 + c * 10 + j)))]) 0 0 := by
  refine MM.ofI (by decide) rfl (fun Γ X Y hnm ret => ?_)
  show Wc Γ 0 0 0 [(0, .ref x), (1, .int (nI 1)), (2, .int (nI i)), (3, .int (nI c)), (4, .int (nI j))] [] [ob x 10 [.ref xt, .ref xn, .ref xr, .ref xa, .ref xs, .ref xf, .ref xw, .ref xi, .int (nI sn), .long sd, .ref xe, .ref xp, .ref xg, .ref xl, .ref xk, .ref xh, .ref xv], ob xn 1 [.ref na, .ref nb], ob na 6 [.int (nI (p 0)), .int (nI (p 2)), .ref nla], aI G nla 10 (nF (gz p)), ob nb 6 [.int (nI (p 1)), .int (nI (p 3)), .ref nlb], aI G nlb 10 (nF (go p)), ob xa 0 [.int (nI 14), .ref xal], aI G xal 14 (nF ac)]
  have hn0 := hr.2.1
  have hn01 := hr.1
  have hn1 := hr.2.2.2.1
  have hn11 := hr.2.2.1
  have he0 := pg_e0 hr
  have he1 := hr.2.2.2.2.1 3
  have hg0 := hr.2.2.2.2.2.1
  have hg1 := (fun j => hr.2.2.2.2.1 (12 + j) : ∀ j, go p j < 32)
  have hg0n := (hr.2.2.2.2.2.2.1 0 (by decide) : ∀ j, gz p j < 2 ^ p 0)
  have hg1n := (hr.2.2.2.2.2.2.1 1 (by decide) : ∀ j, go p j < 2 ^ p 1)
  have he0n := hr.2.2.2.2.2.2.2 0 (by decide)
  have he1n := hr.2.2.2.2.2.2.2 1 (by decide)
  have hg0w := (fun j => Nat.lt_trans (hg0 j) (by decide) : ∀ j, gz p j < 32)
  have hgu : ∀ a, up (go p) (i * 2 + c - 1) (go p (i * 2 + c - 1) ^^^ 2 ^ j) a < 32 := fun a => by rw [← flE_g1 hr hi h1 h2]; have hz := flE_ok (m := 1) hr (by decide) hi h1 h2 ht; exact hz.2.2.2.2.1 (12 + a)
  refine wc_aload_n X 0 0 dX10_turn_0 rfl ?_
  refine wc_get X 1 0 1 kd10 rfl (by decide) q_234 rfl dX10_turn_1 ?_
  refine wc_iload_n X 4 1 dX10_turn_4 rfl ?_
  refine wc_iload_n X 5 2 dX10_turn_5 rfl ?_
  refine wc_iload_n X 6 3 dX10_turn_6 rfl ?_
  refine wc_iload X 7 4 dX10_turn_7 rfl ?_
  refine wc_callS X 9 [1, 2, 4] (c_X10_isEdgeOf l G xn na nla (p 0) (p 2) nb nlb (p 1) (p 3) (nI 1) (nI i) (nI c) (nI j) ) ys_X10_isEdgeOf rfl q_394 ⟨rfl, rfl⟩ ⟨rfl, rfl⟩ ⟨rfl, rfl⟩ rfl rfl rfl dX10_turn_9 ?_
  refine wc_topi (b2i true) (congrArg b2i (edO_p (m := 1) hr (by decide) hi h1 h2 ht)) ?_
  refine wc_if_neB X 12 17 dX10_turn_12 (by decide) (fun c12_1 => ?_) (fun c12_1 => ?_)
  ·
    refine wc_aload_n X 17 0 dX10_turn_17 rfl ?_
    refine wc_get X 18 0 3 kd10 rfl (by decide) q_236 rfl dX10_turn_18 ?_
    refine wc_iload_n X 21 1 dX10_turn_21 rfl ?_
    refine wc_iload_n X 22 2 dX10_turn_22 rfl ?_
    refine wc_iload_n X 23 3 dX10_turn_23 rfl ?_
    refine wc_iload X 24 4 dX10_turn_24 rfl ?_
    refine wc_callS X 26 [] (c_X0_edgeAct l G 1 i c j ) ys_X0_edgeAct rfl q_417 ⟨rfl, rfl⟩ ⟨rfl, rfl⟩ ⟨rfl, rfl⟩ rfl rfl rfl dX10_turn_26 ?_
    refine wc_mutV X Y 29 [6, 7] [0, 1, 2, 3, 4, 5] 6 (c_X0_appendB l G xa xal ac (1 * 1000 + i * 100 + c * 10 + j) ) yv_X0_append kd0 rfl rfl (wr := [ob x 10 [.ref xt, .ref xn, .ref xr, .ref xa, .ref xs, .ref xf, .ref xw, .ref xi, .int (nI sn), .long sd, .ref xe, .ref xp, .ref xg, .ref xl, .ref xk, .ref xh, .ref xv], ob xn 1 [.ref na, .ref nb], ob na 6 [.int (nI (p 0)), .int (nI (p 2)), .ref nla], aI G nla 10 (nF (gz p)), ob nb 6 [.int (nI (p 1)), .int (nI (p 3)), .ref nlb], aI G nlb 10 (nF (go p))]) rfl ⟨rfl, rfl, rfl⟩ q_420 ⟨rfl, rfl⟩ ⟨rfl, rfl⟩ ⟨rfl, rfl⟩ rfl rfl rfl dX10_turn_29 (fun v w hp_2 => ?_)
    obtain ⟨rfl, rfl⟩ := hp_2
    refine wc_perm Y [0, 1, 2, 3, 4, 5, 6, 7] [ob x 10 [.ref xt, .ref xn, .ref xr, .ref xa, .ref xs, .ref xf, .ref xw, .ref xi, .int (nI sn), .long sd, .ref xe, .ref xp, .ref xg, .ref xl, .ref xk, .ref xh, .ref xv], ob xn 1 [.ref na, .ref nb], ob na 6 [.int (nI (p 0)), .int (nI (p 2)), .ref nla], aI G nla 10 (nF (gz p)), ob nb 6 [.int (nI (p 1)), .int (nI (p 3)), .ref nlb], aI G nlb 10 (nF (go p)), ob xa 0 [.int (nI 14), .ref xal], aI G xal 14 (nF (shAct ac (1 * 1000 + i * 100 + c * 10 + j)))] rfl rfl ?_
    show Wc Γ 0 0 32 [(0, .ref x), (1, .int (nI 1)), (2, .int (nI i)), (3, .int (nI c)), (4, .int (nI j))] [] [ob x 10 [.ref xt, .ref xn, .ref xr, .ref xa, .ref xs, .ref xf, .ref xw, .ref xi, .int (nI sn), .long sd, .ref xe, .ref xp, .ref xg, .ref xl, .ref xk, .ref xh, .ref xv], ob xn 1 [.ref na, .ref nb], ob na 6 [.int (nI (p 0)), .int (nI (p 2)), .ref nla], aI G nla 10 (nF (gz p)), ob nb 6 [.int (nI (p 1)), .int (nI (p 3)), .ref nlb], aI G nlb 10 (nF (go p)), ob xa 0 [.int (nI 14), .ref xal], aI G xal 14 (nF (shAct ac (1 * 1000 + i * 100 + c * 10 + j)))]
    refine wc_aload_n X 32 0 dX10_turn_32 rfl ?_
    refine wc_get X 33 0 1 kd10 rfl (by decide) q_234 rfl dX10_turn_33 ?_
    refine wc_iload_n X 36 1 dX10_turn_36 rfl ?_
    refine wc_callV X 37 [1] 1 (c_X1_of1 l G xn na nb (nI 1) (by decide)) yv_X1_of kd1 rfl rfl q_403 ⟨rfl, rfl⟩ ⟨rfl, rfl⟩ ⟨rfl, rfl⟩ rfl rfl rfl dX10_turn_37 ?_
    refine wc_iload_n X 40 2 dX10_turn_40 rfl ?_
    refine wc_iload_n X 41 3 dX10_turn_41 rfl ?_
    refine wc_iload X 42 4 dX10_turn_42 rfl ?_
    refine wc_mutV X Y 44 [4, 5] [0, 1, 2, 3, 6, 7] 4 (c_X6_flipEdge l G nb nlb (p 1) (p 3) (go p) i c j (by first | assumption | omega) (by first | assumption | omega) (by first | assumption | omega) (by first | assumption | omega)) yv_X6_flipEdge kd6 rfl rfl (wr := [ob x 10 [.ref xt, .ref xn, .ref xr, .ref xa, .ref xs, .ref xf, .ref xw, .ref xi, .int (nI sn), .long sd, .ref xe, .ref xp, .ref xg, .ref xl, .ref xk, .ref xh, .ref xv], ob xn 1 [.ref na, .ref nb], ob na 6 [.int (nI (p 0)), .int (nI (p 2)), .ref nla], aI G nla 10 (nF (gz p)), ob xa 0 [.int (nI 14), .ref xal], aI G xal 14 (nF (shAct ac (1 * 1000 + i * 100 + c * 10 + j)))]) rfl ⟨rfl, rfl, rfl⟩ q_103 ⟨rfl, rfl⟩ ⟨rfl, rfl⟩ ⟨rfl, rfl⟩ rfl rfl rfl dX10_turn_44 (fun v w hp_3 => ?_)
    obtain ⟨rfl, rfl⟩ := hp_3
    refine wc_perm Y [0, 1, 2, 3, 6, 7, 4, 5] [ob x 10 [.ref xt, .ref xn, .ref xr, .ref xa, .ref xs, .ref xf, .ref xw, .ref xi, .int (nI sn), .long sd, .ref xe, .ref xp, .ref xg, .ref xl, .ref xk, .ref xh, .ref xv], ob xn 1 [.ref na, .ref nb], ob na 6 [.int (nI (p 0)), .int (nI (p 2)), .ref nla], aI G nla 10 (nF (gz p)), ob nb 6 [.int (nI (p 1)), .int (nI (p 3)), .ref nlb], aI G nlb 10 (nF (up (go p) (i * 2 + c - 1) ((go p) (i * 2 + c - 1) ^^^ 2 ^ j))), ob xa 0 [.int (nI 14), .ref xal], aI G xal 14 (nF (shAct ac (1 * 1000 + i * 100 + c * 10 + j)))] rfl rfl ?_
    show Wc Γ 0 0 47 [(0, .ref x), (1, .int (nI 1)), (2, .int (nI i)), (3, .int (nI c)), (4, .int (nI j))] [] [ob x 10 [.ref xt, .ref xn, .ref xr, .ref xa, .ref xs, .ref xf, .ref xw, .ref xi, .int (nI sn), .long sd, .ref xe, .ref xp, .ref xg, .ref xl, .ref xk, .ref xh, .ref xv], ob xn 1 [.ref na, .ref nb], ob na 6 [.int (nI (p 0)), .int (nI (p 2)), .ref nla], aI G nla 10 (nF (gz p)), ob nb 6 [.int (nI (p 1)), .int (nI (p 3)), .ref nlb], aI G nlb 10 (nF (up (go p) (i * 2 + c - 1) ((go p) (i * 2 + c - 1) ^^^ 2 ^ j))), ob xa 0 [.int (nI 14), .ref xal], aI G xal 14 (nF (shAct ac (1 * 1000 + i * 100 + c * 10 + j)))]
    refine wc_aload_n X 47 0 dX10_turn_47 rfl ?_
    refine wc_get X 48 0 1 kd10 rfl (by decide) q_234 rfl dX10_turn_48 ?_
    refine wc_iload_n X 51 1 dX10_turn_51 rfl ?_
    refine wc_callV X 52 [1] 1 (c_X1_of1 l G xn na nb (nI 1) (by decide)) yv_X1_of kd1 rfl rfl q_403 ⟨rfl, rfl⟩ ⟨rfl, rfl⟩ ⟨rfl, rfl⟩ rfl rfl rfl dX10_turn_52 ?_
    refine wc_iload_n X 55 2 dX10_turn_55 rfl ?_
    refine wc_iload_n X 56 3 dX10_turn_56 rfl ?_
    refine wc_iload X 57 4 dX10_turn_57 rfl ?_
    refine wc_callV X 59 [4, 5] 4 (c_X6_joins l G nb nlb (p 1) (p 3) (up (go p) (i * 2 + c - 1) ((go p) (i * 2 + c - 1) ^^^ 2 ^ j)) i c j (by first | assumption | omega) (by first | assumption | omega) (by first | assumption | omega) (by first | assumption | omega) hgu) yv_X6_joins kd6 rfl rfl q_409 ⟨rfl, rfl⟩ ⟨rfl, rfl⟩ ⟨rfl, rfl⟩ rfl rfl rfl dX10_turn_59 ?_
    refine wc_callS X 62 [] (c_X10_bit l G (Nat.testBit ((up (go p) (i * 2 + c - 1) ((go p) (i * 2 + c - 1) ^^^ 2 ^ j)) (i * 2 + c - 1)) j) ) ys_X10_bit rfl q_410 ⟨rfl, rfl⟩ ⟨rfl, rfl⟩ ⟨rfl, rfl⟩ rfl rfl rfl dX10_turn_62 ?_
    exact ret 65 _ (nI ((Nat.testBit ((up (go p) (i * 2 + c - 1) ((go p) (i * 2 + c - 1) ^^^ 2 ^ j)) (i * 2 + c - 1)) j).toNat)) _ dX10_turn_65 (⟨by rw [flE_g1 (t := j) hr hi h1 h2], by rw [flE_lo (p := p) (m := 1) (i := i) (c := c) (t := j) (k := 0) (by decide) h1 (by decide), flE_lo (p := p) (m := 1) (i := i) (c := c) (t := j) (k := 1) (by decide) h1 (by decide), flE_lo (p := p) (m := 1) (i := i) (c := c) (t := j) (k := 2) (by decide) h1 (by decide), flE_lo (p := p) (m := 1) (i := i) (c := c) (t := j) (k := 3) (by decide) h1 (by decide), flE_g1 (t := j) hr hi h1 h2, flE_o1 (t := j) hr hi h1 h2]⟩)
  ·
    exact absurd c12_1 (by decide)

set_option maxHeartbeats 4000000 in
set_option maxRecDepth 100000 in
theorem c_X10_endF (l : Launch) (G : GG) (x xt xn xr xa xs xf xw xi sn : Nat) (sd : Int64) (xe xp xg xl xk xh xv : Nat) (na nla nb nlb : Nat) (p : Nat → Nat) (m i : Int32) (hb : stOf (p 0) (p 1) m i = false) : RM l G yX10_end (Cond.code yX10_end cX10_end 3 (some .int)) { frames := 2, cells := 0, slots := 0, locals := 43 } [.ref x, .int m, .int i] [ob x 10 [.ref xt, .ref xn, .ref xr, .ref xa, .ref xs, .ref xf, .ref xw, .ref xi, .int (nI sn), .long sd, .ref xe, .ref xp, .ref xg, .ref xl, .ref xk, .ref xh, .ref xv], ob xn 1 [.ref na, .ref nb], ob na 6 [.int (nI (p 0)), .int (nI (p 2)), .ref nla], aI G nla 10 (nF (gz p)), ob nb 6 [.int (nI (p 1)), .int (nI (p 3)), .ref nlb], aI G nlb 10 (nF (go p))] (.int (-1)) := by
  refine RM.ofI (by decide) rfl (fun Γ X ret => ?_)
  show Wc Γ 0 0 0 [(0, .ref x), (1, .int m), (2, .int i)] [] [ob x 10 [.ref xt, .ref xn, .ref xr, .ref xa, .ref xs, .ref xf, .ref xw, .ref xi, .int (nI sn), .long sd, .ref xe, .ref xp, .ref xg, .ref xl, .ref xk, .ref xh, .ref xv], ob xn 1 [.ref na, .ref nb], ob na 6 [.int (nI (p 0)), .int (nI (p 2)), .ref nla], aI G nla 10 (nF (gz p)), ob nb 6 [.int (nI (p 1)), .int (nI (p 3)), .ref nlb], aI G nlb 10 (nF (go p))]
  refine wc_aload_n X 0 0 dX10_end_0 rfl ?_
  refine wc_get X 1 0 1 kd10 rfl (by decide) q_234 rfl dX10_end_1 ?_
  refine wc_iload_n X 4 1 dX10_end_4 rfl ?_
  refine wc_iload_n X 5 2 dX10_end_5 rfl ?_
  refine wc_callS X 6 [1, 2, 4] (c_X10_isStateOf l G xn na nla (p 0) (p 2) nb nlb (p 1) (p 3) m i ) ys_X10_isStateOf rfl q_397 ⟨rfl, rfl⟩ ⟨rfl, rfl⟩ ⟨rfl, rfl⟩ rfl rfl rfl dX10_end_6 ?_
  refine wc_if_neB X 9 14 dX10_end_9 (by decide) (fun c9_1 => ?_) (fun c9_1 => ?_)
  ·
    exact absurd c9_1 (by rw [hb]; decide)
  ·
    refine wc_iconst X 12 (-1) dX10_end_12 (by decide) ?_
    exact ret 13 _ (-1) dX10_end_13 (rfl)

set_option maxHeartbeats 4000000 in
set_option maxRecDepth 100000 in
theorem c_X10_end0A (l : Launch) (G : GG) (x xt xn xr xa xs xf xw xi sn : Nat) (sd : Int64) (xe xp xg xl xk xh xv : Nat) (na nla nb nlb : Nat) (p : Nat → Nat) (xal dn : Nat) (ac : Nat → Nat) (i : Nat) (hr : pgOk p) (hi : i < p 0) (hl : dn < 14) : MM l G yX10_end (Cond.code yX10_end cX10_end 3 (some .int)) { frames := 2, cells := 0, slots := 0, locals := 44 } [.ref x, .int (nI 0), .int (nI i)] [ob x 10 [.ref xt, .ref xn, .ref xr, .ref xa, .ref xs, .ref xf, .ref xw, .ref xi, .int (nI sn), .long sd, .ref xe, .ref xp, .ref xg, .ref xl, .ref xk, .ref xh, .ref xv], ob xn 1 [.ref na, .ref nb], ob na 6 [.int (nI (p 0)), .int (nI (p 2)), .ref nla], aI G nla 10 (nF (gz p)), ob nb 6 [.int (nI (p 1)), .int (nI (p 3)), .ref nlb], aI G nlb 10 (nF (go p)), ob xa 0 [.int (nI dn), .ref xal], aI G xal 14 (nF ac)] (fun (v : Option Value) (w : va_W) => v = some (.int (nI ((Nat.testBit (flN p 0 i 2) i).toNat))) ∧ w = [ob x 10 [.ref xt, .ref xn, .ref xr, .ref xa, .ref xs, .ref xf, .ref xw, .ref xi, .int (nI sn), .long sd, .ref xe, .ref xp, .ref xg, .ref xl, .ref xk, .ref xh, .ref xv], ob xn 1 [.ref na, .ref nb], ob na 6 [.int (nI ((flN p 0 i) 0)), .int (nI ((flN p 0 i) 2)), .ref nla], aI G nla 10 (nF (gz (flN p 0 i))), ob nb 6 [.int (nI ((flN p 0 i) 1)), .int (nI ((flN p 0 i) 3)), .ref nlb], aI G nlb 10 (nF (go (flN p 0 i))), ob xa 0 [.int (nI (dn + 1)), .ref xal], aI G xal 14 (nF (up ac dn (0 * 1000 + i * 100 + 0 * 10 + 0)))]) 0 0 := by
  refine MM.ofI (by decide) rfl (fun Γ X Y hnm ret => ?_)
  show Wc Γ 0 0 0 [(0, .ref x), (1, .int (nI 0)), (2, .int (nI i))] [] [ob x 10 [.ref xt, .ref xn, .ref xr, .ref xa, .ref xs, .ref xf, .ref xw, .ref xi, .int (nI sn), .long sd, .ref xe, .ref xp, .ref xg, .ref xl, .ref xk, .ref xh, .ref xv], ob xn 1 [.ref na, .ref nb], ob na 6 [.int (nI (p 0)), .int (nI (p 2)), .ref nla], aI G nla 10 (nF (gz p)), ob nb 6 [.int (nI (p 1)), .int (nI (p 3)), .ref nlb], aI G nlb 10 (nF (go p)), ob xa 0 [.int (nI dn), .ref xal], aI G xal 14 (nF ac)]
  have hn0 := hr.2.1
  have hn01 := hr.1
  have hn1 := hr.2.2.2.1
  have hn11 := hr.2.2.1
  have he0 := pg_e0 hr
  have he1 := hr.2.2.2.2.1 3
  have hg0 := hr.2.2.2.2.2.1
  have hg1 := (fun j => hr.2.2.2.2.1 (12 + j) : ∀ j, go p j < 32)
  have hg0n := (hr.2.2.2.2.2.2.1 0 (by decide) : ∀ j, gz p j < 2 ^ p 0)
  have hg1n := (hr.2.2.2.2.2.2.1 1 (by decide) : ∀ j, go p j < 2 ^ p 1)
  have he0n := hr.2.2.2.2.2.2.2 0 (by decide)
  have he1n := hr.2.2.2.2.2.2.2 1 (by decide)
  have hg0w := (fun j => Nat.lt_trans (hg0 j) (by decide) : ∀ j, gz p j < 32)
  have hz := (flN_ok (m := 0) hr (by decide) hi).2.2.2.2.1 2
  rw [show flN p 0 i 2 = p 2 ^^^ 2 ^ i from flN_s] at hz
  refine wc_aload_n X 0 0 dX10_end_0 rfl ?_
  refine wc_get X 1 0 1 kd10 rfl (by decide) q_234 rfl dX10_end_1 ?_
  refine wc_iload_n X 4 1 dX10_end_4 rfl ?_
  refine wc_iload_n X 5 2 dX10_end_5 rfl ?_
  refine wc_callS X 6 [1, 2, 4] (c_X10_isStateOf l G xn na nla (p 0) (p 2) nb nlb (p 1) (p 3) (nI 0) (nI i) ) ys_X10_isStateOf rfl q_397 ⟨rfl, rfl⟩ ⟨rfl, rfl⟩ ⟨rfl, rfl⟩ rfl rfl rfl dX10_end_6 ?_
  refine wc_topi (b2i true) (congrArg b2i (stO_p (m := 0) hr (by decide) hi)) ?_
  refine wc_if_neB X 9 14 dX10_end_9 (by decide) (fun c9_1 => ?_) (fun c9_1 => ?_)
  ·
    refine wc_aload_n X 14 0 dX10_end_14 rfl ?_
    refine wc_get X 15 0 3 kd10 rfl (by decide) q_236 rfl dX10_end_15 ?_
    refine wc_iload_n X 18 1 dX10_end_18 rfl ?_
    refine wc_iload_n X 19 2 dX10_end_19 rfl ?_
    refine wc_callS X 20 [] (c_X0_endAct l G 0 i ) ys_X0_endAct rfl q_429 ⟨rfl, rfl⟩ ⟨rfl, rfl⟩ ⟨rfl, rfl⟩ rfl rfl rfl dX10_end_20 ?_
    refine wc_mutV X Y 23 [6, 7] [0, 1, 2, 3, 4, 5] 6 (c_X0_appendA l G xa xal dn ac (0 * 1000 + i * 100 + 0 * 10 + 0) (by first | assumption | omega)) yv_X0_append kd0 rfl rfl (wr := [ob x 10 [.ref xt, .ref xn, .ref xr, .ref xa, .ref xs, .ref xf, .ref xw, .ref xi, .int (nI sn), .long sd, .ref xe, .ref xp, .ref xg, .ref xl, .ref xk, .ref xh, .ref xv], ob xn 1 [.ref na, .ref nb], ob na 6 [.int (nI (p 0)), .int (nI (p 2)), .ref nla], aI G nla 10 (nF (gz p)), ob nb 6 [.int (nI (p 1)), .int (nI (p 3)), .ref nlb], aI G nlb 10 (nF (go p))]) rfl ⟨rfl, rfl, rfl⟩ q_420 ⟨rfl, rfl⟩ ⟨rfl, rfl⟩ ⟨rfl, rfl⟩ rfl rfl rfl dX10_end_23 (fun v w hp_2 => ?_)
    obtain ⟨rfl, rfl⟩ := hp_2
    refine wc_perm Y [0, 1, 2, 3, 4, 5, 6, 7] [ob x 10 [.ref xt, .ref xn, .ref xr, .ref xa, .ref xs, .ref xf, .ref xw, .ref xi, .int (nI sn), .long sd, .ref xe, .ref xp, .ref xg, .ref xl, .ref xk, .ref xh, .ref xv], ob xn 1 [.ref na, .ref nb], ob na 6 [.int (nI (p 0)), .int (nI (p 2)), .ref nla], aI G nla 10 (nF (gz p)), ob nb 6 [.int (nI (p 1)), .int (nI (p 3)), .ref nlb], aI G nlb 10 (nF (go p)), ob xa 0 [.int (nI (dn + 1)), .ref xal], aI G xal 14 (nF (up ac dn (0 * 1000 + i * 100 + 0 * 10 + 0)))] rfl rfl ?_
    show Wc Γ 0 0 26 [(0, .ref x), (1, .int (nI 0)), (2, .int (nI i))] [] [ob x 10 [.ref xt, .ref xn, .ref xr, .ref xa, .ref xs, .ref xf, .ref xw, .ref xi, .int (nI sn), .long sd, .ref xe, .ref xp, .ref xg, .ref xl, .ref xk, .ref xh, .ref xv], ob xn 1 [.ref na, .ref nb], ob na 6 [.int (nI (p 0)), .int (nI (p 2)), .ref nla], aI G nla 10 (nF (gz p)), ob nb 6 [.int (nI (p 1)), .int (nI (p 3)), .ref nlb], aI G nlb 10 (nF (go p)), ob xa 0 [.int (nI (dn + 1)), .ref xal], aI G xal 14 (nF (up ac dn (0 * 1000 + i * 100 + 0 * 10 + 0)))]
    refine wc_aload_n X 26 0 dX10_end_26 rfl ?_
    refine wc_get X 27 0 1 kd10 rfl (by decide) q_234 rfl dX10_end_27 ?_
    refine wc_iload_n X 30 1 dX10_end_30 rfl ?_
    refine wc_callV X 31 [1] 1 (c_X1_of0 l G xn na nb ) yv_X1_of kd1 rfl rfl q_403 ⟨rfl, rfl⟩ ⟨rfl, rfl⟩ ⟨rfl, rfl⟩ rfl rfl rfl dX10_end_31 ?_
    refine wc_iload_n X 34 2 dX10_end_34 rfl ?_
    refine wc_mutV X Y 35 [2] [0, 1, 3, 4, 5, 6, 7] 2 (c_X6_flipEnd l G na nla (p 0) (p 2) i (by first | assumption | omega)) yv_X6_flipEnd kd6 rfl rfl (wr := [ob x 10 [.ref xt, .ref xn, .ref xr, .ref xa, .ref xs, .ref xf, .ref xw, .ref xi, .int (nI sn), .long sd, .ref xe, .ref xp, .ref xg, .ref xl, .ref xk, .ref xh, .ref xv], ob xn 1 [.ref na, .ref nb], aI G nla 10 (nF (gz p)), ob nb 6 [.int (nI (p 1)), .int (nI (p 3)), .ref nlb], aI G nlb 10 (nF (go p)), ob xa 0 [.int (nI (dn + 1)), .ref xal], aI G xal 14 (nF (up ac dn (0 * 1000 + i * 100 + 0 * 10 + 0)))]) rfl ⟨rfl, rfl, rfl⟩ q_107 ⟨rfl, rfl⟩ ⟨rfl, rfl⟩ ⟨rfl, rfl⟩ rfl rfl rfl dX10_end_35 (fun v w hp_3 => ?_)
    obtain ⟨rfl, rfl⟩ := hp_3
    refine wc_perm Y [0, 1, 7, 2, 3, 4, 5, 6] [ob x 10 [.ref xt, .ref xn, .ref xr, .ref xa, .ref xs, .ref xf, .ref xw, .ref xi, .int (nI sn), .long sd, .ref xe, .ref xp, .ref xg, .ref xl, .ref xk, .ref xh, .ref xv], ob xn 1 [.ref na, .ref nb], ob na 6 [.int (nI (p 0)), .int (nI ((p 2) ^^^ 2 ^ i)), .ref nla], aI G nla 10 (nF (gz p)), ob nb 6 [.int (nI (p 1)), .int (nI (p 3)), .ref nlb], aI G nlb 10 (nF (go p)), ob xa 0 [.int (nI (dn + 1)), .ref xal], aI G xal 14 (nF (up ac dn (0 * 1000 + i * 100 + 0 * 10 + 0)))] rfl rfl ?_
    show Wc Γ 0 0 38 [(0, .ref x), (1, .int (nI 0)), (2, .int (nI i))] [] [ob x 10 [.ref xt, .ref xn, .ref xr, .ref xa, .ref xs, .ref xf, .ref xw, .ref xi, .int (nI sn), .long sd, .ref xe, .ref xp, .ref xg, .ref xl, .ref xk, .ref xh, .ref xv], ob xn 1 [.ref na, .ref nb], ob na 6 [.int (nI (p 0)), .int (nI ((p 2) ^^^ 2 ^ i)), .ref nla], aI G nla 10 (nF (gz p)), ob nb 6 [.int (nI (p 1)), .int (nI (p 3)), .ref nlb], aI G nlb 10 (nF (go p)), ob xa 0 [.int (nI (dn + 1)), .ref xal], aI G xal 14 (nF (up ac dn (0 * 1000 + i * 100 + 0 * 10 + 0)))]
    refine wc_aload_n X 38 0 dX10_end_38 rfl ?_
    refine wc_get X 39 0 1 kd10 rfl (by decide) q_234 rfl dX10_end_39 ?_
    refine wc_iload_n X 42 1 dX10_end_42 rfl ?_
    refine wc_callV X 43 [1] 1 (c_X1_of0 l G xn na nb ) yv_X1_of kd1 rfl rfl q_403 ⟨rfl, rfl⟩ ⟨rfl, rfl⟩ ⟨rfl, rfl⟩ rfl rfl rfl dX10_end_43 ?_
    refine wc_iload_n X 46 2 dX10_end_46 rfl ?_
    refine wc_callV X 47 [2] 2 (c_X6_isEnd l G na nla (p 0) ((p 2) ^^^ 2 ^ i) i (by omega) (by omega) hz) yv_X6_isEnd kd6 rfl rfl q_433 ⟨rfl, rfl⟩ ⟨rfl, rfl⟩ ⟨rfl, rfl⟩ rfl rfl rfl dX10_end_47 ?_
    refine wc_topi (b2i (Nat.testBit (p 2 ^^^ 2 ^ i) i)) (congrArg b2i (by rw [decide_eq_true hi, Bool.true_and])) ?_
    refine wc_callS X 50 [] (c_X10_bit l G (Nat.testBit (p 2 ^^^ 2 ^ i) i) ) ys_X10_bit rfl q_410 ⟨rfl, rfl⟩ ⟨rfl, rfl⟩ ⟨rfl, rfl⟩ rfl rfl rfl dX10_end_50 ?_
    exact ret 53 _ (nI ((Nat.testBit (p 2 ^^^ 2 ^ i) i).toNat)) _ dX10_end_53 (⟨by rw [show flN p 0 i 2 = p 2 ^^^ 2 ^ i from flN_s], by rw [show flN p 0 i 2 = p 2 ^^^ 2 ^ i from flN_s, flN_n (p := p) (m := 0) (i := i) (k := 0) (by decide), flN_n (p := p) (m := 0) (i := i) (k := 1) (by decide), flN_n (p := p) (m := 0) (i := i) (k := 3) (by decide), (flN_g (p := p) (i := i) (m := 0) (by decide)).1, (flN_g (p := p) (i := i) (m := 0) (by decide)).2]⟩)
  ·
    exact absurd c9_1 (by decide)

set_option maxHeartbeats 4000000 in
set_option maxRecDepth 100000 in
theorem c_X10_end0B (l : Launch) (G : GG) (x xt xn xr xa xs xf xw xi sn : Nat) (sd : Int64) (xe xp xg xl xk xh xv : Nat) (na nla nb nlb : Nat) (p : Nat → Nat) (xal : Nat) (ac : Nat → Nat) (i : Nat) (hr : pgOk p) (hi : i < p 0) : MM l G yX10_end (Cond.code yX10_end cX10_end 3 (some .int)) { frames := 2, cells := 0, slots := 0, locals := 44 } [.ref x, .int (nI 0), .int (nI i)] [ob x 10 [.ref xt, .ref xn, .ref xr, .ref xa, .ref xs, .ref xf, .ref xw, .ref xi, .int (nI sn), .long sd, .ref xe, .ref xp, .ref xg, .ref xl, .ref xk, .ref xh, .ref xv], ob xn 1 [.ref na, .ref nb], ob na 6 [.int (nI (p 0)), .int (nI (p 2)), .ref nla], aI G nla 10 (nF (gz p)), ob nb 6 [.int (nI (p 1)), .int (nI (p 3)), .ref nlb], aI G nlb 10 (nF (go p)), ob xa 0 [.int (nI 14), .ref xal], aI G xal 14 (nF ac)] (fun (v : Option Value) (w : va_W) => v = some (.int (nI ((Nat.testBit (flN p 0 i 2) i).toNat))) ∧ w = [ob x 10 [.ref xt, .ref xn, .ref xr, .ref xa, .ref xs, .ref xf, .ref xw, .ref xi, .int (nI sn), .long sd, .ref xe, .ref xp, .ref xg, .ref xl, .ref xk, .ref xh, .ref xv], ob xn 1 [.ref na, .ref nb], ob na 6 [.int (nI ((flN p 0 i) 0)), .int (nI ((flN p 0 i) 2)), .ref nla], aI G nla 10 (nF (gz (flN p 0 i))), ob nb 6 [.int (nI ((flN p 0 i) 1)), .int (nI ((flN p 0 i) 3)), .ref nlb], aI G nlb 10 (nF (go (flN p 0 i))), ob xa 0 [.int (nI 14), .ref xal], aI G xal 14 (nF (shAct ac (0 * 1000 + i * 100 + 0 * 10 + 0)))]) 0 0 := by
  refine MM.ofI (by decide) rfl (fun Γ X Y hnm ret => ?_)
  show Wc Γ 0 0 0 [(0, .ref x), (1, .int (nI 0)), (2, .int (nI i))] [] [ob x 10 [.ref xt, .ref xn, .ref xr, .ref xa, .ref xs, .ref xf, .ref xw, .ref xi, .int (nI sn), .long sd, .ref xe, .ref xp, .ref xg, .ref xl, .ref xk, .ref xh, .ref xv], ob xn 1 [.ref na, .ref nb], ob na 6 [.int (nI (p 0)), .int (nI (p 2)), .ref nla], aI G nla 10 (nF (gz p)), ob nb 6 [.int (nI (p 1)), .int (nI (p 3)), .ref nlb], aI G nlb 10 (nF (go p)), ob xa 0 [.int (nI 14), .ref xal], aI G xal 14 (nF ac)]
  have hn0 := hr.2.1
  have hn01 := hr.1
  have hn1 := hr.2.2.2.1
  have hn11 := hr.2.2.1
  have he0 := pg_e0 hr
  have he1 := hr.2.2.2.2.1 3
  have hg0 := hr.2.2.2.2.2.1
  have hg1 := (fun j => hr.2.2.2.2.1 (12 + j) : ∀ j, go p j < 32)
  have hg0n := (hr.2.2.2.2.2.2.1 0 (by decide) : ∀ j, gz p j < 2 ^ p 0)
  have hg1n := (hr.2.2.2.2.2.2.1 1 (by decide) : ∀ j, go p j < 2 ^ p 1)
  have he0n := hr.2.2.2.2.2.2.2 0 (by decide)
  have he1n := hr.2.2.2.2.2.2.2 1 (by decide)
  have hg0w := (fun j => Nat.lt_trans (hg0 j) (by decide) : ∀ j, gz p j < 32)
  have hz := (flN_ok (m := 0) hr (by decide) hi).2.2.2.2.1 2
  rw [show flN p 0 i 2 = p 2 ^^^ 2 ^ i from flN_s] at hz
  refine wc_aload_n X 0 0 dX10_end_0 rfl ?_
  refine wc_get X 1 0 1 kd10 rfl (by decide) q_234 rfl dX10_end_1 ?_
  refine wc_iload_n X 4 1 dX10_end_4 rfl ?_
  refine wc_iload_n X 5 2 dX10_end_5 rfl ?_
  refine wc_callS X 6 [1, 2, 4] (c_X10_isStateOf l G xn na nla (p 0) (p 2) nb nlb (p 1) (p 3) (nI 0) (nI i) ) ys_X10_isStateOf rfl q_397 ⟨rfl, rfl⟩ ⟨rfl, rfl⟩ ⟨rfl, rfl⟩ rfl rfl rfl dX10_end_6 ?_
  refine wc_topi (b2i true) (congrArg b2i (stO_p (m := 0) hr (by decide) hi)) ?_
  refine wc_if_neB X 9 14 dX10_end_9 (by decide) (fun c9_1 => ?_) (fun c9_1 => ?_)
  ·
    refine wc_aload_n X 14 0 dX10_end_14 rfl ?_
    refine wc_get X 15 0 3 kd10 rfl (by decide) q_236 rfl dX10_end_15 ?_
    refine wc_iload_n X 18 1 dX10_end_18 rfl ?_
    refine wc_iload_n X 19 2 dX10_end_19 rfl ?_
    refine wc_callS X 20 [] (c_X0_endAct l G 0 i ) ys_X0_endAct rfl q_429 ⟨rfl, rfl⟩ ⟨rfl, rfl⟩ ⟨rfl, rfl⟩ rfl rfl rfl dX10_end_20 ?_
    refine wc_mutV X Y 23 [6, 7] [0, 1, 2, 3, 4, 5] 6 (c_X0_appendB l G xa xal ac (0 * 1000 + i * 100 + 0 * 10 + 0) ) yv_X0_append kd0 rfl rfl (wr := [ob x 10 [.ref xt, .ref xn, .ref xr, .ref xa, .ref xs, .ref xf, .ref xw, .ref xi, .int (nI sn), .long sd, .ref xe, .ref xp, .ref xg, .ref xl, .ref xk, .ref xh, .ref xv], ob xn 1 [.ref na, .ref nb], ob na 6 [.int (nI (p 0)), .int (nI (p 2)), .ref nla], aI G nla 10 (nF (gz p)), ob nb 6 [.int (nI (p 1)), .int (nI (p 3)), .ref nlb], aI G nlb 10 (nF (go p))]) rfl ⟨rfl, rfl, rfl⟩ q_420 ⟨rfl, rfl⟩ ⟨rfl, rfl⟩ ⟨rfl, rfl⟩ rfl rfl rfl dX10_end_23 (fun v w hp_2 => ?_)
    obtain ⟨rfl, rfl⟩ := hp_2
    refine wc_perm Y [0, 1, 2, 3, 4, 5, 6, 7] [ob x 10 [.ref xt, .ref xn, .ref xr, .ref xa, .ref xs, .ref xf, .ref xw, .ref xi, .int (nI sn), .long sd, .ref xe, .ref xp, .ref xg, .ref xl, .ref xk, .ref xh, .ref xv], ob xn 1 [.ref na, .ref nb], ob na 6 [.int (nI (p 0)), .int (nI (p 2)), .ref nla], aI G nla 10 (nF (gz p)), ob nb 6 [.int (nI (p 1)), .int (nI (p 3)), .ref nlb], aI G nlb 10 (nF (go p)), ob xa 0 [.int (nI 14), .ref xal], aI G xal 14 (nF (shAct ac (0 * 1000 + i * 100 + 0 * 10 + 0)))] rfl rfl ?_
    show Wc Γ 0 0 26 [(0, .ref x), (1, .int (nI 0)), (2, .int (nI i))] [] [ob x 10 [.ref xt, .ref xn, .ref xr, .ref xa, .ref xs, .ref xf, .ref xw, .ref xi, .int (nI sn), .long sd, .ref xe, .ref xp, .ref xg, .ref xl, .ref xk, .ref xh, .ref xv], ob xn 1 [.ref na, .ref nb], ob na 6 [.int (nI (p 0)), .int (nI (p 2)), .ref nla], aI G nla 10 (nF (gz p)), ob nb 6 [.int (nI (p 1)), .int (nI (p 3)), .ref nlb], aI G nlb 10 (nF (go p)), ob xa 0 [.int (nI 14), .ref xal], aI G xal 14 (nF (shAct ac (0 * 1000 + i * 100 + 0 * 10 + 0)))]
    refine wc_aload_n X 26 0 dX10_end_26 rfl ?_
    refine wc_get X 27 0 1 kd10 rfl (by decide) q_234 rfl dX10_end_27 ?_
    refine wc_iload_n X 30 1 dX10_end_30 rfl ?_
    refine wc_callV X 31 [1] 1 (c_X1_of0 l G xn na nb ) yv_X1_of kd1 rfl rfl q_403 ⟨rfl, rfl⟩ ⟨rfl, rfl⟩ ⟨rfl, rfl⟩ rfl rfl rfl dX10_end_31 ?_
    refine wc_iload_n X 34 2 dX10_end_34 rfl ?_
    refine wc_mutV X Y 35 [2] [0, 1, 3, 4, 5, 6, 7] 2 (c_X6_flipEnd l G na nla (p 0) (p 2) i (by first | assumption | omega)) yv_X6_flipEnd kd6 rfl rfl (wr := [ob x 10 [.ref xt, .ref xn, .ref xr, .ref xa, .ref xs, .ref xf, .ref xw, .ref xi, .int (nI sn), .long sd, .ref xe, .ref xp, .ref xg, .ref xl, .ref xk, .ref xh, .ref xv], ob xn 1 [.ref na, .ref nb], aI G nla 10 (nF (gz p)), ob nb 6 [.int (nI (p 1)), .int (nI (p 3)), .ref nlb], aI G nlb 10 (nF (go p)), ob xa 0 [.int (nI 14), .ref xal], aI G xal 14 (nF (shAct ac (0 * 1000 + i * 100 + 0 * 10 + 0)))]) rfl ⟨rfl, rfl, rfl⟩ q_107 ⟨rfl, rfl⟩ ⟨rfl, rfl⟩ ⟨rfl, rfl⟩ rfl rfl rfl dX10_end_35 (fun v w hp_3 => ?_)
    obtain ⟨rfl, rfl⟩ := hp_3
    refine wc_perm Y [0, 1, 7, 2, 3, 4, 5, 6] [ob x 10 [.ref xt, .ref xn, .ref xr, .ref xa, .ref xs, .ref xf, .ref xw, .ref xi, .int (nI sn), .long sd, .ref xe, .ref xp, .ref xg, .ref xl, .ref xk, .ref xh, .ref xv], ob xn 1 [.ref na, .ref nb], ob na 6 [.int (nI (p 0)), .int (nI ((p 2) ^^^ 2 ^ i)), .ref nla], aI G nla 10 (nF (gz p)), ob nb 6 [.int (nI (p 1)), .int (nI (p 3)), .ref nlb], aI G nlb 10 (nF (go p)), ob xa 0 [.int (nI 14), .ref xal], aI G xal 14 (nF (shAct ac (0 * 1000 + i * 100 + 0 * 10 + 0)))] rfl rfl ?_
    show Wc Γ 0 0 38 [(0, .ref x), (1, .int (nI 0)), (2, .int (nI i))] [] [ob x 10 [.ref xt, .ref xn, .ref xr, .ref xa, .ref xs, .ref xf, .ref xw, .ref xi, .int (nI sn), .long sd, .ref xe, .ref xp, .ref xg, .ref xl, .ref xk, .ref xh, .ref xv], ob xn 1 [.ref na, .ref nb], ob na 6 [.int (nI (p 0)), .int (nI ((p 2) ^^^ 2 ^ i)), .ref nla], aI G nla 10 (nF (gz p)), ob nb 6 [.int (nI (p 1)), .int (nI (p 3)), .ref nlb], aI G nlb 10 (nF (go p)), ob xa 0 [.int (nI 14), .ref xal], aI G xal 14 (nF (shAct ac (0 * 1000 + i * 100 + 0 * 10 + 0)))]
    refine wc_aload_n X 38 0 dX10_end_38 rfl ?_
    refine wc_get X 39 0 1 kd10 rfl (by decide) q_234 rfl dX10_end_39 ?_
    refine wc_iload_n X 42 1 dX10_end_42 rfl ?_
    refine wc_callV X 43 [1] 1 (c_X1_of0 l G xn na nb ) yv_X1_of kd1 rfl rfl q_403 ⟨rfl, rfl⟩ ⟨rfl, rfl⟩ ⟨rfl, rfl⟩ rfl rfl rfl dX10_end_43 ?_
    refine wc_iload_n X 46 2 dX10_end_46 rfl ?_
    refine wc_callV X 47 [2] 2 (c_X6_isEnd l G na nla (p 0) ((p 2) ^^^ 2 ^ i) i (by omega) (by omega) hz) yv_X6_isEnd kd6 rfl rfl q_433 ⟨rfl, rfl⟩ ⟨rfl, rfl⟩ ⟨rfl, rfl⟩ rfl rfl rfl dX10_end_47 ?_
    refine wc_topi (b2i (Nat.testBit (p 2 ^^^ 2 ^ i) i)) (congrArg b2i (by rw [decide_eq_true hi, Bool.true_and])) ?_
    refine wc_callS X 50 [] (c_X10_bit l G (Nat.testBit (p 2 ^^^ 2 ^ i) i) ) ys_X10_bit rfl q_410 ⟨rfl, rfl⟩ ⟨rfl, rfl⟩ ⟨rfl, rfl⟩ rfl rfl rfl dX10_end_50 ?_
    exact ret 53 _ (nI ((Nat.testBit (p 2 ^^^ 2 ^ i) i).toNat)) _ dX10_end_53 (⟨by rw [show flN p 0 i 2 = p 2 ^^^ 2 ^ i from flN_s], by rw [show flN p 0 i 2 = p 2 ^^^ 2 ^ i from flN_s, flN_n (p := p) (m := 0) (i := i) (k := 0) (by decide), flN_n (p := p) (m := 0) (i := i) (k := 1) (by decide), flN_n (p := p) (m := 0) (i := i) (k := 3) (by decide), (flN_g (p := p) (i := i) (m := 0) (by decide)).1, (flN_g (p := p) (i := i) (m := 0) (by decide)).2]⟩)
  ·
    exact absurd c9_1 (by decide)

set_option maxHeartbeats 4000000 in
set_option maxRecDepth 100000 in
theorem c_X10_end1A (l : Launch) (G : GG) (x xt xn xr xa xs xf xw xi sn : Nat) (sd : Int64) (xe xp xg xl xk xh xv : Nat) (na nla nb nlb : Nat) (p : Nat → Nat) (xal dn : Nat) (ac : Nat → Nat) (i : Nat) (hr : pgOk p) (hi : i < p 1) (hl : dn < 14) : MM l G yX10_end (Cond.code yX10_end cX10_end 3 (some .int)) { frames := 2, cells := 0, slots := 0, locals := 44 } [.ref x, .int (nI 1), .int (nI i)] [ob x 10 [.ref xt, .ref xn, .ref xr, .ref xa, .ref xs, .ref xf, .ref xw, .ref xi, .int (nI sn), .long sd, .ref xe, .ref xp, .ref xg, .ref xl, .ref xk, .ref xh, .ref xv], ob xn 1 [.ref na, .ref nb], ob na 6 [.int (nI (p 0)), .int (nI (p 2)), .ref nla], aI G nla 10 (nF (gz p)), ob nb 6 [.int (nI (p 1)), .int (nI (p 3)), .ref nlb], aI G nlb 10 (nF (go p)), ob xa 0 [.int (nI dn), .ref xal], aI G xal 14 (nF ac)] (fun (v : Option Value) (w : va_W) => v = some (.int (nI ((Nat.testBit (flN p 1 i 3) i).toNat))) ∧ w = [ob x 10 [.ref xt, .ref xn, .ref xr, .ref xa, .ref xs, .ref xf, .ref xw, .ref xi, .int (nI sn), .long sd, .ref xe, .ref xp, .ref xg, .ref xl, .ref xk, .ref xh, .ref xv], ob xn 1 [.ref na, .ref nb], ob na 6 [.int (nI ((flN p 1 i) 0)), .int (nI ((flN p 1 i) 2)), .ref nla], aI G nla 10 (nF (gz (flN p 1 i))), ob nb 6 [.int (nI ((flN p 1 i) 1)), .int (nI ((flN p 1 i) 3)), .ref nlb], aI G nlb 10 (nF (go (flN p 1 i))), ob xa 0 [.int (nI (dn + 1)), .ref xal], aI G xal 14 (nF (up ac dn (1 * 1000 + i * 100 + 0 * 10 + 0)))]) 0 0 := by
  refine MM.ofI (by decide) rfl (fun Γ X Y hnm ret => ?_)
  show Wc Γ 0 0 0 [(0, .ref x), (1, .int (nI 1)), (2, .int (nI i))] [] [ob x 10 [.ref xt, .ref xn, .ref xr, .ref xa, .ref xs, .ref xf, .ref xw, .ref xi, .int (nI sn), .long sd, .ref xe, .ref xp, .ref xg, .ref xl, .ref xk, .ref xh, .ref xv], ob xn 1 [.ref na, .ref nb], ob na 6 [.int (nI (p 0)), .int (nI (p 2)), .ref nla], aI G nla 10 (nF (gz p)), ob nb 6 [.int (nI (p 1)), .int (nI (p 3)), .ref nlb], aI G nlb 10 (nF (go p)), ob xa 0 [.int (nI dn), .ref xal], aI G xal 14 (nF ac)]
  have hn0 := hr.2.1
  have hn01 := hr.1
  have hn1 := hr.2.2.2.1
  have hn11 := hr.2.2.1
  have he0 := pg_e0 hr
  have he1 := hr.2.2.2.2.1 3
  have hg0 := hr.2.2.2.2.2.1
  have hg1 := (fun j => hr.2.2.2.2.1 (12 + j) : ∀ j, go p j < 32)
  have hg0n := (hr.2.2.2.2.2.2.1 0 (by decide) : ∀ j, gz p j < 2 ^ p 0)
  have hg1n := (hr.2.2.2.2.2.2.1 1 (by decide) : ∀ j, go p j < 2 ^ p 1)
  have he0n := hr.2.2.2.2.2.2.2 0 (by decide)
  have he1n := hr.2.2.2.2.2.2.2 1 (by decide)
  have hg0w := (fun j => Nat.lt_trans (hg0 j) (by decide) : ∀ j, gz p j < 32)
  have hz := (flN_ok (m := 1) hr (by decide) hi).2.2.2.2.1 3
  rw [show flN p 1 i 3 = p 3 ^^^ 2 ^ i from flN_s] at hz
  refine wc_aload_n X 0 0 dX10_end_0 rfl ?_
  refine wc_get X 1 0 1 kd10 rfl (by decide) q_234 rfl dX10_end_1 ?_
  refine wc_iload_n X 4 1 dX10_end_4 rfl ?_
  refine wc_iload_n X 5 2 dX10_end_5 rfl ?_
  refine wc_callS X 6 [1, 2, 4] (c_X10_isStateOf l G xn na nla (p 0) (p 2) nb nlb (p 1) (p 3) (nI 1) (nI i) ) ys_X10_isStateOf rfl q_397 ⟨rfl, rfl⟩ ⟨rfl, rfl⟩ ⟨rfl, rfl⟩ rfl rfl rfl dX10_end_6 ?_
  refine wc_topi (b2i true) (congrArg b2i (stO_p (m := 1) hr (by decide) hi)) ?_
  refine wc_if_neB X 9 14 dX10_end_9 (by decide) (fun c9_1 => ?_) (fun c9_1 => ?_)
  ·
    refine wc_aload_n X 14 0 dX10_end_14 rfl ?_
    refine wc_get X 15 0 3 kd10 rfl (by decide) q_236 rfl dX10_end_15 ?_
    refine wc_iload_n X 18 1 dX10_end_18 rfl ?_
    refine wc_iload_n X 19 2 dX10_end_19 rfl ?_
    refine wc_callS X 20 [] (c_X0_endAct l G 1 i ) ys_X0_endAct rfl q_429 ⟨rfl, rfl⟩ ⟨rfl, rfl⟩ ⟨rfl, rfl⟩ rfl rfl rfl dX10_end_20 ?_
    refine wc_mutV X Y 23 [6, 7] [0, 1, 2, 3, 4, 5] 6 (c_X0_appendA l G xa xal dn ac (1 * 1000 + i * 100 + 0 * 10 + 0) (by first | assumption | omega)) yv_X0_append kd0 rfl rfl (wr := [ob x 10 [.ref xt, .ref xn, .ref xr, .ref xa, .ref xs, .ref xf, .ref xw, .ref xi, .int (nI sn), .long sd, .ref xe, .ref xp, .ref xg, .ref xl, .ref xk, .ref xh, .ref xv], ob xn 1 [.ref na, .ref nb], ob na 6 [.int (nI (p 0)), .int (nI (p 2)), .ref nla], aI G nla 10 (nF (gz p)), ob nb 6 [.int (nI (p 1)), .int (nI (p 3)), .ref nlb], aI G nlb 10 (nF (go p))]) rfl ⟨rfl, rfl, rfl⟩ q_420 ⟨rfl, rfl⟩ ⟨rfl, rfl⟩ ⟨rfl, rfl⟩ rfl rfl rfl dX10_end_23 (fun v w hp_2 => ?_)
    obtain ⟨rfl, rfl⟩ := hp_2
    refine wc_perm Y [0, 1, 2, 3, 4, 5, 6, 7] [ob x 10 [.ref xt, .ref xn, .ref xr, .ref xa, .ref xs, .ref xf, .ref xw, .ref xi, .int (nI sn), .long sd, .ref xe, .ref xp, .ref xg, .ref xl, .ref xk, .ref xh, .ref xv], ob xn 1 [.ref na, .ref nb], ob na 6 [.int (nI (p 0)), .int (nI (p 2)), .ref nla], aI G nla 10 (nF (gz p)), ob nb 6 [.int (nI (p 1)), .int (nI (p 3)), .ref nlb], aI G nlb 10 (nF (go p)), ob xa 0 [.int (nI (dn + 1)), .ref xal], aI G xal 14 (nF (up ac dn (1 * 1000 + i * 100 + 0 * 10 + 0)))] rfl rfl ?_
    show Wc Γ 0 0 26 [(0, .ref x), (1, .int (nI 1)), (2, .int (nI i))] [] [ob x 10 [.ref xt, .ref xn, .ref xr, .ref xa, .ref xs, .ref xf, .ref xw, .ref xi, .int (nI sn), .long sd, .ref xe, .ref xp, .ref xg, .ref xl, .ref xk, .ref xh, .ref xv], ob xn 1 [.ref na, .ref nb], ob na 6 [.int (nI (p 0)), .int (nI (p 2)), .ref nla], aI G nla 10 (nF (gz p)), ob nb 6 [.int (nI (p 1)), .int (nI (p 3)), .ref nlb], aI G nlb 10 (nF (go p)), ob xa 0 [.int (nI (dn + 1)), .ref xal], aI G xal 14 (nF (up ac dn (1 * 1000 + i * 100 + 0 * 10 + 0)))]
    refine wc_aload_n X 26 0 dX10_end_26 rfl ?_
    refine wc_get X 27 0 1 kd10 rfl (by decide) q_234 rfl dX10_end_27 ?_
    refine wc_iload_n X 30 1 dX10_end_30 rfl ?_
    refine wc_callV X 31 [1] 1 (c_X1_of1 l G xn na nb (nI 1) (by decide)) yv_X1_of kd1 rfl rfl q_403 ⟨rfl, rfl⟩ ⟨rfl, rfl⟩ ⟨rfl, rfl⟩ rfl rfl rfl dX10_end_31 ?_
    refine wc_iload_n X 34 2 dX10_end_34 rfl ?_
    refine wc_mutV X Y 35 [4] [0, 1, 2, 3, 5, 6, 7] 4 (c_X6_flipEnd l G nb nlb (p 1) (p 3) i (by first | assumption | omega)) yv_X6_flipEnd kd6 rfl rfl (wr := [ob x 10 [.ref xt, .ref xn, .ref xr, .ref xa, .ref xs, .ref xf, .ref xw, .ref xi, .int (nI sn), .long sd, .ref xe, .ref xp, .ref xg, .ref xl, .ref xk, .ref xh, .ref xv], ob xn 1 [.ref na, .ref nb], ob na 6 [.int (nI (p 0)), .int (nI (p 2)), .ref nla], aI G nla 10 (nF (gz p)), aI G nlb 10 (nF (go p)), ob xa 0 [.int (nI (dn + 1)), .ref xal], aI G xal 14 (nF (up ac dn (1 * 1000 + i * 100 + 0 * 10 + 0)))]) rfl ⟨rfl, rfl, rfl⟩ q_107 ⟨rfl, rfl⟩ ⟨rfl, rfl⟩ ⟨rfl, rfl⟩ rfl rfl rfl dX10_end_35 (fun v w hp_3 => ?_)
    obtain ⟨rfl, rfl⟩ := hp_3
    refine wc_perm Y [0, 1, 2, 3, 7, 4, 5, 6] [ob x 10 [.ref xt, .ref xn, .ref xr, .ref xa, .ref xs, .ref xf, .ref xw, .ref xi, .int (nI sn), .long sd, .ref xe, .ref xp, .ref xg, .ref xl, .ref xk, .ref xh, .ref xv], ob xn 1 [.ref na, .ref nb], ob na 6 [.int (nI (p 0)), .int (nI (p 2)), .ref nla], aI G nla 10 (nF (gz p)), ob nb 6 [.int (nI (p 1)), .int (nI ((p 3) ^^^ 2 ^ i)), .ref nlb], aI G nlb 10 (nF (go p)), ob xa 0 [.int (nI (dn + 1)), .ref xal], aI G xal 14 (nF (up ac dn (1 * 1000 + i * 100 + 0 * 10 + 0)))] rfl rfl ?_
    show Wc Γ 0 0 38 [(0, .ref x), (1, .int (nI 1)), (2, .int (nI i))] [] [ob x 10 [.ref xt, .ref xn, .ref xr, .ref xa, .ref xs, .ref xf, .ref xw, .ref xi, .int (nI sn), .long sd, .ref xe, .ref xp, .ref xg, .ref xl, .ref xk, .ref xh, .ref xv], ob xn 1 [.ref na, .ref nb], ob na 6 [.int (nI (p 0)), .int (nI (p 2)), .ref nla], aI G nla 10 (nF (gz p)), ob nb 6 [.int (nI (p 1)), .int (nI ((p 3) ^^^ 2 ^ i)), .ref nlb], aI G nlb 10 (nF (go p)), ob xa 0 [.int (nI (dn + 1)), .ref xal], aI G xal 14 (nF (up ac dn (1 * 1000 + i * 100 + 0 * 10 + 0)))]
    refine wc_aload_n X 38 0 dX10_end_38 rfl ?_
    refine wc_get X 39 0 1 kd10 rfl (by decide) q_234 rfl dX10_end_39 ?_
    refine wc_iload_n X 42 1 dX10_end_42 rfl ?_
    refine wc_callV X 43 [1] 1 (c_X1_of1 l G xn na nb (nI 1) (by decide)) yv_X1_of kd1 rfl rfl q_403 ⟨rfl, rfl⟩ ⟨rfl, rfl⟩ ⟨rfl, rfl⟩ rfl rfl rfl dX10_end_43 ?_
    refine wc_iload_n X 46 2 dX10_end_46 rfl ?_
    refine wc_callV X 47 [4] 4 (c_X6_isEnd l G nb nlb (p 1) ((p 3) ^^^ 2 ^ i) i (by omega) (by omega) hz) yv_X6_isEnd kd6 rfl rfl q_433 ⟨rfl, rfl⟩ ⟨rfl, rfl⟩ ⟨rfl, rfl⟩ rfl rfl rfl dX10_end_47 ?_
    refine wc_topi (b2i (Nat.testBit (p 3 ^^^ 2 ^ i) i)) (congrArg b2i (by rw [decide_eq_true hi, Bool.true_and])) ?_
    refine wc_callS X 50 [] (c_X10_bit l G (Nat.testBit (p 3 ^^^ 2 ^ i) i) ) ys_X10_bit rfl q_410 ⟨rfl, rfl⟩ ⟨rfl, rfl⟩ ⟨rfl, rfl⟩ rfl rfl rfl dX10_end_50 ?_
    exact ret 53 _ (nI ((Nat.testBit (p 3 ^^^ 2 ^ i) i).toNat)) _ dX10_end_53 (⟨by rw [show flN p 1 i 3 = p 3 ^^^ 2 ^ i from flN_s], by rw [show flN p 1 i 3 = p 3 ^^^ 2 ^ i from flN_s, flN_n (p := p) (m := 1) (i := i) (k := 0) (by decide), flN_n (p := p) (m := 1) (i := i) (k := 1) (by decide), flN_n (p := p) (m := 1) (i := i) (k := 2) (by decide), (flN_g (p := p) (i := i) (m := 1) (by decide)).1, (flN_g (p := p) (i := i) (m := 1) (by decide)).2]⟩)
  ·
    exact absurd c9_1 (by decide)

set_option maxHeartbeats 4000000 in
set_option maxRecDepth 100000 in
theorem c_X10_end1B (l : Launch) (G : GG) (x xt xn xr xa xs xf xw xi sn : Nat) (sd : Int64) (xe xp xg xl xk xh xv : Nat) (na nla nb nlb : Nat) (p : Nat → Nat) (xal : Nat) (ac : Nat → Nat) (i : Nat) (hr : pgOk p) (hi : i < p 1) : MM l G yX10_end (Cond.code yX10_end cX10_end 3 (some .int)) { frames := 2, cells := 0, slots := 0, locals := 44 } [.ref x, .int (nI 1), .int (nI i)] [ob x 10 [.ref xt, .ref xn, .ref xr, .ref xa, .ref xs, .ref xf, .ref xw, .ref xi, .int (nI sn), .long sd, .ref xe, .ref xp, .ref xg, .ref xl, .ref xk, .ref xh, .ref xv], ob xn 1 [.ref na, .ref nb], ob na 6 [.int (nI (p 0)), .int (nI (p 2)), .ref nla], aI G nla 10 (nF (gz p)), ob nb 6 [.int (nI (p 1)), .int (nI (p 3)), .ref nlb], aI G nlb 10 (nF (go p)), ob xa 0 [.int (nI 14), .ref xal], aI G xal 14 (nF ac)] (fun (v : Option Value) (w : va_W) => v = some (.int (nI ((Nat.testBit (flN p 1 i 3) i).toNat))) ∧ w = [ob x 10 [.ref xt, .ref xn, .ref xr, .ref xa, .ref xs, .ref xf, .ref xw, .ref xi, .int (nI sn), .long sd, .ref xe, .ref xp, .ref xg, .ref xl, .ref xk, .ref xh, .ref xv], ob xn 1 [.ref na, .ref nb], ob na 6 [.int (nI ((flN p 1 i) 0)), .int (nI ((flN p 1 i) 2)), .ref nla], aI G nla 10 (nF (gz (flN p 1 i))), ob nb 6 [.int (nI ((flN p 1 i) 1)), .int (nI ((flN p 1 i) 3)), .ref nlb], aI G nlb 10 (nF (go (flN p 1 i))), ob xa 0 [.int (nI 14), .ref xal], aI G xal 14 (nF (shAct ac (1 * 1000 + i * 100 + 0 * 10 + 0)))]) 0 0 := by
  refine MM.ofI (by decide) rfl (fun Γ X Y hnm ret => ?_)
  show Wc Γ 0 0 0 [(0, .ref x), (1, .int (nI 1)), (2, .int (nI i))] [] [ob x 10 [.ref xt, .ref xn, .ref xr, .ref xa, .ref xs, .ref xf, .ref xw, .ref xi, .int (nI sn), .long sd, .ref xe, .ref xp, .ref xg, .ref xl, .ref xk, .ref xh, .ref xv], ob xn 1 [.ref na, .ref nb], ob na 6 [.int (nI (p 0)), .int (nI (p 2)), .ref nla], aI G nla 10 (nF (gz p)), ob nb 6 [.int (nI (p 1)), .int (nI (p 3)), .ref nlb], aI G nlb 10 (nF (go p)), ob xa 0 [.int (nI 14), .ref xal], aI G xal 14 (nF ac)]
  have hn0 := hr.2.1
  have hn01 := hr.1
  have hn1 := hr.2.2.2.1
  have hn11 := hr.2.2.1
  have he0 := pg_e0 hr
  have he1 := hr.2.2.2.2.1 3
  have hg0 := hr.2.2.2.2.2.1
  have hg1 := (fun j => hr.2.2.2.2.1 (12 + j) : ∀ j, go p j < 32)
  have hg0n := (hr.2.2.2.2.2.2.1 0 (by decide) : ∀ j, gz p j < 2 ^ p 0)
  have hg1n := (hr.2.2.2.2.2.2.1 1 (by decide) : ∀ j, go p j < 2 ^ p 1)
  have he0n := hr.2.2.2.2.2.2.2 0 (by decide)
  have he1n := hr.2.2.2.2.2.2.2 1 (by decide)
  have hg0w := (fun j => Nat.lt_trans (hg0 j) (by decide) : ∀ j, gz p j < 32)
  have hz := (flN_ok (m := 1) hr (by decide) hi).2.2.2.2.1 3
  rw [show flN p 1 i 3 = p 3 ^^^ 2 ^ i from flN_s] at hz
  refine wc_aload_n X 0 0 dX10_end_0 rfl ?_
  refine wc_get X 1 0 1 kd10 rfl (by decide) q_234 rfl dX10_end_1 ?_
  refine wc_iload_n X 4 1 dX10_end_4 rfl ?_
  refine wc_iload_n X 5 2 dX10_end_5 rfl ?_
  refine wc_callS X 6 [1, 2, 4] (c_X10_isStateOf l G xn na nla (p 0) (p 2) nb nlb (p 1) (p 3) (nI 1) (nI i) ) ys_X10_isStateOf rfl q_397 ⟨rfl, rfl⟩ ⟨rfl, rfl⟩ ⟨rfl, rfl⟩ rfl rfl rfl dX10_end_6 ?_
  refine wc_topi (b2i true) (congrArg b2i (stO_p (m := 1) hr (by decide) hi)) ?_
  refine wc_if_neB X 9 14 dX10_end_9 (by decide) (fun c9_1 => ?_) (fun c9_1 => ?_)
  ·
    refine wc_aload_n X 14 0 dX10_end_14 rfl ?_
    refine wc_get X 15 0 3 kd10 rfl (by decide) q_236 rfl dX10_end_15 ?_
    refine wc_iload_n X 18 1 dX10_end_18 rfl ?_
    refine wc_iload_n X 19 2 dX10_end_19 rfl ?_
    refine wc_callS X 20 [] (c_X0_endAct l G 1 i ) ys_X0_endAct rfl q_429 ⟨rfl, rfl⟩ ⟨rfl, rfl⟩ ⟨rfl, rfl⟩ rfl rfl rfl dX10_end_20 ?_
    refine wc_mutV X Y 23 [6, 7] [0, 1, 2, 3, 4, 5] 6 (c_X0_appendB l G xa xal ac (1 * 1000 + i * 100 + 0 * 10 + 0) ) yv_X0_append kd0 rfl rfl (wr := [ob x 10 [.ref xt, .ref xn, .ref xr, .ref xa, .ref xs, .ref xf, .ref xw, .ref xi, .int (nI sn), .long sd, .ref xe, .ref xp, .ref xg, .ref xl, .ref xk, .ref xh, .ref xv], ob xn 1 [.ref na, .ref nb], ob na 6 [.int (nI (p 0)), .int (nI (p 2)), .ref nla], aI G nla 10 (nF (gz p)), ob nb 6 [.int (nI (p 1)), .int (nI (p 3)), .ref nlb], aI G nlb 10 (nF (go p))]) rfl ⟨rfl, rfl, rfl⟩ q_420 ⟨rfl, rfl⟩ ⟨rfl, rfl⟩ ⟨rfl, rfl⟩ rfl rfl rfl dX10_end_23 (fun v w hp_2 => ?_)
    obtain ⟨rfl, rfl⟩ := hp_2
    refine wc_perm Y [0, 1, 2, 3, 4, 5, 6, 7] [ob x 10 [.ref xt, .ref xn, .ref xr, .ref xa, .ref xs, .ref xf, .ref xw, .ref xi, .int (nI sn), .long sd, .ref xe, .ref xp, .ref xg, .ref xl, .ref xk, .ref xh, .ref xv], ob xn 1 [.ref na, .ref nb], ob na 6 [.int (nI (p 0)), .int (nI (p 2)), .ref nla], aI G nla 10 (nF (gz p)), ob nb 6 [.int (nI (p 1)), .int (nI (p 3)), .ref nlb], aI G nlb 10 (nF (go p)), ob xa 0 [.int (nI 14), .ref xal], aI G xal 14 (nF (shAct ac (1 * 1000 + i * 100 + 0 * 10 + 0)))] rfl rfl ?_
    show Wc Γ 0 0 26 [(0, .ref x), (1, .int (nI 1)), (2, .int (nI i))] [] [ob x 10 [.ref xt, .ref xn, .ref xr, .ref xa, .ref xs, .ref xf, .ref xw, .ref xi, .int (nI sn), .long sd, .ref xe, .ref xp, .ref xg, .ref xl, .ref xk, .ref xh, .ref xv], ob xn 1 [.ref na, .ref nb], ob na 6 [.int (nI (p 0)), .int (nI (p 2)), .ref nla], aI G nla 10 (nF (gz p)), ob nb 6 [.int (nI (p 1)), .int (nI (p 3)), .ref nlb], aI G nlb 10 (nF (go p)), ob xa 0 [.int (nI 14), .ref xal], aI G xal 14 (nF (shAct ac (1 * 1000 + i * 100 + 0 * 10 + 0)))]
    refine wc_aload_n X 26 0 dX10_end_26 rfl ?_
    refine wc_get X 27 0 1 kd10 rfl (by decide) q_234 rfl dX10_end_27 ?_
    refine wc_iload_n X 30 1 dX10_end_30 rfl ?_
    refine wc_callV X 31 [1] 1 (c_X1_of1 l G xn na nb (nI 1) (by decide)) yv_X1_of kd1 rfl rfl q_403 ⟨rfl, rfl⟩ ⟨rfl, rfl⟩ ⟨rfl, rfl⟩ rfl rfl rfl dX10_end_31 ?_
    refine wc_iload_n X 34 2 dX10_end_34 rfl ?_
    refine wc_mutV X Y 35 [4] [0, 1, 2, 3, 5, 6, 7] 4 (c_X6_flipEnd l G nb nlb (p 1) (p 3) i (by first | assumption | omega)) yv_X6_flipEnd kd6 rfl rfl (wr := [ob x 10 [.ref xt, .ref xn, .ref xr, .ref xa, .ref xs, .ref xf, .ref xw, .ref xi, .int (nI sn), .long sd, .ref xe, .ref xp, .ref xg, .ref xl, .ref xk, .ref xh, .ref xv], ob xn 1 [.ref na, .ref nb], ob na 6 [.int (nI (p 0)), .int (nI (p 2)), .ref nla], aI G nla 10 (nF (gz p)), aI G nlb 10 (nF (go p)), ob xa 0 [.int (nI 14), .ref xal], aI G xal 14 (nF (shAct ac (1 * 1000 + i * 100 + 0 * 10 + 0)))]) rfl ⟨rfl, rfl, rfl⟩ q_107 ⟨rfl, rfl⟩ ⟨rfl, rfl⟩ ⟨rfl, rfl⟩ rfl rfl rfl dX10_end_35 (fun v w hp_3 => ?_)
    obtain ⟨rfl, rfl⟩ := hp_3
    refine wc_perm Y [0, 1, 2, 3, 7, 4, 5, 6] [ob x 10 [.ref xt, .ref xn, .ref xr, .ref xa, .ref xs, .ref xf, .ref xw, .ref xi, .int (nI sn), .long sd, .ref xe, .ref xp, .ref xg, .ref xl, .ref xk, .ref xh, .ref xv], ob xn 1 [.ref na, .ref nb], ob na 6 [.int (nI (p 0)), .int (nI (p 2)), .ref nla], aI G nla 10 (nF (gz p)), ob nb 6 [.int (nI (p 1)), .int (nI ((p 3) ^^^ 2 ^ i)), .ref nlb], aI G nlb 10 (nF (go p)), ob xa 0 [.int (nI 14), .ref xal], aI G xal 14 (nF (shAct ac (1 * 1000 + i * 100 + 0 * 10 + 0)))] rfl rfl ?_
    show Wc Γ 0 0 38 [(0, .ref x), (1, .int (nI 1)), (2, .int (nI i))] [] [ob x 10 [.ref xt, .ref xn, .ref xr, .ref xa, .ref xs, .ref xf, .ref xw, .ref xi, .int (nI sn), .long sd, .ref xe, .ref xp, .ref xg, .ref xl, .ref xk, .ref xh, .ref xv], ob xn 1 [.ref na, .ref nb], ob na 6 [.int (nI (p 0)), .int (nI (p 2)), .ref nla], aI G nla 10 (nF (gz p)), ob nb 6 [.int (nI (p 1)), .int (nI ((p 3) ^^^ 2 ^ i)), .ref nlb], aI G nlb 10 (nF (go p)), ob xa 0 [.int (nI 14), .ref xal], aI G xal 14 (nF (shAct ac (1 * 1000 + i * 100 + 0 * 10 + 0)))]
    refine wc_aload_n X 38 0 dX10_end_38 rfl ?_
    refine wc_get X 39 0 1 kd10 rfl (by decide) q_234 rfl dX10_end_39 ?_
    refine wc_iload_n X 42 1 dX10_end_42 rfl ?_
    refine wc_callV X 43 [1] 1 (c_X1_of1 l G xn na nb (nI 1) (by decide)) yv_X1_of kd1 rfl rfl q_403 ⟨rfl, rfl⟩ ⟨rfl, rfl⟩ ⟨rfl, rfl⟩ rfl rfl rfl dX10_end_43 ?_
    refine wc_iload_n X 46 2 dX10_end_46 rfl ?_
    refine wc_callV X 47 [4] 4 (c_X6_isEnd l G nb nlb (p 1) ((p 3) ^^^ 2 ^ i) i (by omega) (by omega) hz) yv_X6_isEnd kd6 rfl rfl q_433 ⟨rfl, rfl⟩ ⟨rfl, rfl⟩ ⟨rfl, rfl⟩ rfl rfl rfl dX10_end_47 ?_
    refine wc_topi (b2i (Nat.testBit (p 3 ^^^ 2 ^ i) i)) (congrArg b2i (by rw [decide_eq_true hi, Bool.true_and])) ?_
    refine wc_callS X 50 [] (c_X10_bit l G (Nat.testBit (p 3 ^^^ 2 ^ i) i) ) ys_X10_bit rfl q_410 ⟨rfl, rfl⟩ ⟨rfl, rfl⟩ ⟨rfl, rfl⟩ rfl rfl rfl dX10_end_50 ?_
    exact ret 53 _ (nI ((Nat.testBit (p 3 ^^^ 2 ^ i) i).toNat)) _ dX10_end_53 (⟨by rw [show flN p 1 i 3 = p 3 ^^^ 2 ^ i from flN_s], by rw [show flN p 1 i 3 = p 3 ^^^ 2 ^ i from flN_s, flN_n (p := p) (m := 1) (i := i) (k := 0) (by decide), flN_n (p := p) (m := 1) (i := i) (k := 1) (by decide), flN_n (p := p) (m := 1) (i := i) (k := 2) (by decide), (flN_g (p := p) (i := i) (m := 1) (by decide)).1, (flN_g (p := p) (i := i) (m := 1) (by decide)).2]⟩)
  ·
    exact absurd c9_1 (by decide)

set_option maxHeartbeats 4000000 in
set_option maxRecDepth 100000 in
theorem c_X10_undoF (l : Launch) (G : GG) (x xt xn xr xa xs xf xw xi sn : Nat) (sd : Int64) (xe xp xg xl xk xh xv : Nat) (xal dn : Nat) (ac : Nat → Nat) (hd : dn = 0) : RM l G yX10_undo (Cond.code yX10_undo cX10_undo 1 (some .int)) { frames := 0, cells := 0, slots := 0, locals := 0 } [.ref x] [ob x 10 [.ref xt, .ref xn, .ref xr, .ref xa, .ref xs, .ref xf, .ref xw, .ref xi, .int (nI sn), .long sd, .ref xe, .ref xp, .ref xg, .ref xl, .ref xk, .ref xh, .ref xv], ob xa 0 [.int (nI dn), .ref xal], aI G xal 14 (nF ac)] (.int (-3)) := by
  refine RM.ofI (by decide) rfl (fun Γ X ret => ?_)
  show Wc Γ 0 0 0 [(0, .ref x)] [] [ob x 10 [.ref xt, .ref xn, .ref xr, .ref xa, .ref xs, .ref xf, .ref xw, .ref xi, .int (nI sn), .long sd, .ref xe, .ref xp, .ref xg, .ref xl, .ref xk, .ref xh, .ref xv], ob xa 0 [.int (nI dn), .ref xal], aI G xal 14 (nF ac)]
  refine wc_aload_n X 0 0 dX10_undo_0 rfl ?_
  refine wc_get X 1 0 3 kd10 rfl (by decide) q_236 rfl dX10_undo_1 ?_
  refine wc_get X 4 1 0 kd0 rfl (by decide) q_93 rfl dX10_undo_4 ?_
  refine wc_if_neN X 7 13 dX10_undo_7 (by decide) (by omega) (fun c7_1 => ?_) (fun c7_1 => ?_)
  ·
    exact absurd c7_1 (by omega)
  ·
    refine wc_bipush X 10 (-3) dX10_undo_10 (by decide) ?_
    exact ret 12 _ (-3) dX10_undo_12 (rfl)

set_option maxHeartbeats 4000000 in
set_option maxRecDepth 100000 in
theorem c_X10_undoE0 (l : Launch) (G : GG) (x xt xn xr xa xs xf xw xi sn : Nat) (sd : Int64) (xe xp xg xl xk xh xv : Nat) (na nla nb nlb : Nat) (p : Nat → Nat) (xal dn : Nat) (ac : Nat → Nat) (i c j : Nat) (hr : pgOk p) (hl : 1 ≤ dn) (hl2 : dn ≤ 14) (hi : i < p 0) (h1 : 1 ≤ c) (h2 : c ≤ 2) (ht : j < p 0) (ha : ac (dn - 1) = 0 + i * 100 + c * 10 + j) : MM l G yX10_undo (Cond.code yX10_undo cX10_undo 1 (some .int)) { frames := 2, cells := 0, slots := 0, locals := 49 } [.ref x] [ob x 10 [.ref xt, .ref xn, .ref xr, .ref xa, .ref xs, .ref xf, .ref xw, .ref xi, .int (nI sn), .long sd, .ref xe, .ref xp, .ref xg, .ref xl, .ref xk, .ref xh, .ref xv], ob xn 1 [.ref na, .ref nb], ob na 6 [.int (nI (p 0)), .int (nI (p 2)), .ref nla], aI G nla 10 (nF (gz p)), ob nb 6 [.int (nI (p 1)), .int (nI (p 3)), .ref nlb], aI G nlb 10 (nF (go p)), ob xa 0 [.int (nI dn), .ref xal], aI G xal 14 (nF ac)] (fun (v : Option Value) (w : va_W) => v = some (.int (nI (dn - 1))) ∧ w = [ob x 10 [.ref xt, .ref xn, .ref xr, .ref xa, .ref xs, .ref xf, .ref xw, .ref xi, .int (nI sn), .long sd, .ref xe, .ref xp, .ref xg, .ref xl, .ref xk, .ref xh, .ref xv], ob xn 1 [.ref na, .ref nb], ob na 6 [.int (nI ((flE p 0 i c j) 0)), .int (nI ((flE p 0 i c j) 2)), .ref nla], aI G nla 10 (nF (gz (flE p 0 i c j))), ob nb 6 [.int (nI ((flE p 0 i c j) 1)), .int (nI ((flE p 0 i c j) 3)), .ref nlb], aI G nlb 10 (nF (go (flE p 0 i c j))), ob xa 0 [.int (nI (dn - 1)), .ref xal], aI G xal 14 (nF ac)]) 0 0 := by
  refine MM.ofI (by decide) rfl (fun Γ X Y hnm ret => ?_)
  show Wc Γ 0 0 0 [(0, .ref x)] [] [ob x 10 [.ref xt, .ref xn, .ref xr, .ref xa, .ref xs, .ref xf, .ref xw, .ref xi, .int (nI sn), .long sd, .ref xe, .ref xp, .ref xg, .ref xl, .ref xk, .ref xh, .ref xv], ob xn 1 [.ref na, .ref nb], ob na 6 [.int (nI (p 0)), .int (nI (p 2)), .ref nla], aI G nla 10 (nF (gz p)), ob nb 6 [.int (nI (p 1)), .int (nI (p 3)), .ref nlb], aI G nlb 10 (nF (go p)), ob xa 0 [.int (nI dn), .ref xal], aI G xal 14 (nF ac)]
  have hn0 := hr.2.1
  have hn01 := hr.1
  have hn1 := hr.2.2.2.1
  have hn11 := hr.2.2.1
  have he0 := pg_e0 hr
  have he1 := hr.2.2.2.2.1 3
  have hg0 := hr.2.2.2.2.2.1
  have hg1 := (fun j => hr.2.2.2.2.1 (12 + j) : ∀ j, go p j < 32)
  have hg0n := (hr.2.2.2.2.2.2.1 0 (by decide) : ∀ j, gz p j < 2 ^ p 0)
  have hg1n := (hr.2.2.2.2.2.2.1 1 (by decide) : ∀ j, go p j < 2 ^ p 1)
  have he0n := hr.2.2.2.2.2.2.2 0 (by decide)
  have he1n := hr.2.2.2.2.2.2.2 1 (by decide)
  have hg0w := (fun j => Nat.lt_trans (hg0 j) (by decide) : ∀ j, gz p j < 32)
  refine wc_aload_n X 0 0 dX10_undo_0 rfl ?_
  refine wc_get X 1 0 3 kd10 rfl (by decide) q_236 rfl dX10_undo_1 ?_
  refine wc_get X 4 6 0 kd0 rfl (by decide) q_93 rfl dX10_undo_4 ?_
  refine wc_if_neN X 7 13 dX10_undo_7 (by decide) (by omega) (fun c7_1 => ?_) (fun c7_1 => ?_)
  ·
    refine wc_aload_n X 13 0 dX10_undo_13 rfl ?_
    refine wc_get X 14 0 3 kd10 rfl (by decide) q_236 rfl dX10_undo_14 ?_
    refine wc_aload_n X 17 0 dX10_undo_17 rfl ?_
    refine wc_get X 18 0 1 kd10 rfl (by decide) q_234 rfl dX10_undo_18 ?_
    refine wc_mutV X Y 21 [6, 7, 1, 2, 3, 4, 5] [0] 6 (c_X0_takeBackE0 l G xa xal dn ac xn na nla (p 0) (p 2) (gz p) nb nlb (p 1) (p 3) (go p) i c j (by first | assumption | omega) (by first | assumption | omega) (by omega) (by first | assumption | omega) (by first | assumption | omega) (by omega) (by first | assumption | omega)) yv_X0_takeBack kd0 rfl rfl (wr := [ob x 10 [.ref xt, .ref xn, .ref xr, .ref xa, .ref xs, .ref xf, .ref xw, .ref xi, .int (nI sn), .long sd, .ref xe, .ref xp, .ref xg, .ref xl, .ref xk, .ref xh, .ref xv]]) rfl ⟨rfl, rfl, rfl⟩ q_438 ⟨rfl, rfl⟩ ⟨rfl, rfl⟩ ⟨rfl, rfl⟩ rfl rfl rfl dX10_undo_21 (fun v w hp_2 => ?_)
    obtain ⟨rfl, rfl⟩ := hp_2
    refine wc_perm Y [0, 3, 4, 5, 6, 7, 1, 2] [ob x 10 [.ref xt, .ref xn, .ref xr, .ref xa, .ref xs, .ref xf, .ref xw, .ref xi, .int (nI sn), .long sd, .ref xe, .ref xp, .ref xg, .ref xl, .ref xk, .ref xh, .ref xv], ob xn 1 [.ref na, .ref nb], ob na 6 [.int (nI (p 0)), .int (nI (p 2)), .ref nla], aI G nla 10 (nF (up (gz p) (i * 2 + c - 1) ((gz p) (i * 2 + c - 1) ^^^ 2 ^ j))), ob nb 6 [.int (nI (p 1)), .int (nI (p 3)), .ref nlb], aI G nlb 10 (nF (go p)), ob xa 0 [.int (nI (dn - 1)), .ref xal], aI G xal 14 (nF ac)] rfl rfl ?_
    show Wc Γ 0 0 24 [(0, .ref x)] [] [ob x 10 [.ref xt, .ref xn, .ref xr, .ref xa, .ref xs, .ref xf, .ref xw, .ref xi, .int (nI sn), .long sd, .ref xe, .ref xp, .ref xg, .ref xl, .ref xk, .ref xh, .ref xv], ob xn 1 [.ref na, .ref nb], ob na 6 [.int (nI (p 0)), .int (nI (p 2)), .ref nla], aI G nla 10 (nF (up (gz p) (i * 2 + c - 1) ((gz p) (i * 2 + c - 1) ^^^ 2 ^ j))), ob nb 6 [.int (nI (p 1)), .int (nI (p 3)), .ref nlb], aI G nlb 10 (nF (go p)), ob xa 0 [.int (nI (dn - 1)), .ref xal], aI G xal 14 (nF ac)]
    refine wc_aload_n X 24 0 dX10_undo_24 rfl ?_
    refine wc_get X 25 0 3 kd10 rfl (by decide) q_236 rfl dX10_undo_25 ?_
    refine wc_get X 28 6 0 kd0 rfl (by decide) q_93 rfl dX10_undo_28 ?_
    exact ret 31 _ (nI (dn - 1)) _ dX10_undo_31 (⟨rfl, by rw [flE_lo (p := p) (m := 0) (i := i) (c := c) (t := j) (k := 0) (by decide) h1 (by decide), flE_lo (p := p) (m := 0) (i := i) (c := c) (t := j) (k := 1) (by decide) h1 (by decide), flE_lo (p := p) (m := 0) (i := i) (c := c) (t := j) (k := 2) (by decide) h1 (by decide), flE_lo (p := p) (m := 0) (i := i) (c := c) (t := j) (k := 3) (by decide) h1 (by decide), flE_g0 (t := j) hr hi h1 h2, flE_o0 (t := j) hr hi h1 h2]⟩)
  ·
    exact absurd c7_1 (by omega)

set_option maxHeartbeats 4000000 in
set_option maxRecDepth 100000 in
theorem c_X10_undoF0 (l : Launch) (G : GG) (x xt xn xr xa xs xf xw xi sn : Nat) (sd : Int64) (xe xp xg xl xk xh xv : Nat) (na nla nb nlb : Nat) (p : Nat → Nat) (xal dn : Nat) (ac : Nat → Nat) (i : Nat) (hr : pgOk p) (hl : 1 ≤ dn) (hl2 : dn ≤ 14) (hi : i < p 0) (ha : ac (dn - 1) = 0 + i * 100) : MM l G yX10_undo (Cond.code yX10_undo cX10_undo 1 (some .int)) { frames := 2, cells := 0, slots := 0, locals := 46 } [.ref x] [ob x 10 [.ref xt, .ref xn, .ref xr, .ref xa, .ref xs, .ref xf, .ref xw, .ref xi, .int (nI sn), .long sd, .ref xe, .ref xp, .ref xg, .ref xl, .ref xk, .ref xh, .ref xv], ob xn 1 [.ref na, .ref nb], ob na 6 [.int (nI (p 0)), .int (nI (p 2)), .ref nla], aI G nla 10 (nF (gz p)), ob nb 6 [.int (nI (p 1)), .int (nI (p 3)), .ref nlb], aI G nlb 10 (nF (go p)), ob xa 0 [.int (nI dn), .ref xal], aI G xal 14 (nF ac)] (fun (v : Option Value) (w : va_W) => v = some (.int (nI (dn - 1))) ∧ w = [ob x 10 [.ref xt, .ref xn, .ref xr, .ref xa, .ref xs, .ref xf, .ref xw, .ref xi, .int (nI sn), .long sd, .ref xe, .ref xp, .ref xg, .ref xl, .ref xk, .ref xh, .ref xv], ob xn 1 [.ref na, .ref nb], ob na 6 [.int (nI ((flN p 0 i) 0)), .int (nI ((flN p 0 i) 2)), .ref nla], aI G nla 10 (nF (gz (flN p 0 i))), ob nb 6 [.int (nI ((flN p 0 i) 1)), .int (nI ((flN p 0 i) 3)), .ref nlb], aI G nlb 10 (nF (go (flN p 0 i))), ob xa 0 [.int (nI (dn - 1)), .ref xal], aI G xal 14 (nF ac)]) 0 0 := by
  refine MM.ofI (by decide) rfl (fun Γ X Y hnm ret => ?_)
  show Wc Γ 0 0 0 [(0, .ref x)] [] [ob x 10 [.ref xt, .ref xn, .ref xr, .ref xa, .ref xs, .ref xf, .ref xw, .ref xi, .int (nI sn), .long sd, .ref xe, .ref xp, .ref xg, .ref xl, .ref xk, .ref xh, .ref xv], ob xn 1 [.ref na, .ref nb], ob na 6 [.int (nI (p 0)), .int (nI (p 2)), .ref nla], aI G nla 10 (nF (gz p)), ob nb 6 [.int (nI (p 1)), .int (nI (p 3)), .ref nlb], aI G nlb 10 (nF (go p)), ob xa 0 [.int (nI dn), .ref xal], aI G xal 14 (nF ac)]
  have hn0 := hr.2.1
  have hn01 := hr.1
  have hn1 := hr.2.2.2.1
  have hn11 := hr.2.2.1
  have he0 := pg_e0 hr
  have he1 := hr.2.2.2.2.1 3
  have hg0 := hr.2.2.2.2.2.1
  have hg1 := (fun j => hr.2.2.2.2.1 (12 + j) : ∀ j, go p j < 32)
  have hg0n := (hr.2.2.2.2.2.2.1 0 (by decide) : ∀ j, gz p j < 2 ^ p 0)
  have hg1n := (hr.2.2.2.2.2.2.1 1 (by decide) : ∀ j, go p j < 2 ^ p 1)
  have he0n := hr.2.2.2.2.2.2.2 0 (by decide)
  have he1n := hr.2.2.2.2.2.2.2 1 (by decide)
  have hg0w := (fun j => Nat.lt_trans (hg0 j) (by decide) : ∀ j, gz p j < 32)
  refine wc_aload_n X 0 0 dX10_undo_0 rfl ?_
  refine wc_get X 1 0 3 kd10 rfl (by decide) q_236 rfl dX10_undo_1 ?_
  refine wc_get X 4 6 0 kd0 rfl (by decide) q_93 rfl dX10_undo_4 ?_
  refine wc_if_neN X 7 13 dX10_undo_7 (by decide) (by omega) (fun c7_1 => ?_) (fun c7_1 => ?_)
  ·
    refine wc_aload_n X 13 0 dX10_undo_13 rfl ?_
    refine wc_get X 14 0 3 kd10 rfl (by decide) q_236 rfl dX10_undo_14 ?_
    refine wc_aload_n X 17 0 dX10_undo_17 rfl ?_
    refine wc_get X 18 0 1 kd10 rfl (by decide) q_234 rfl dX10_undo_18 ?_
    refine wc_mutV X Y 21 [6, 7, 1, 2, 3, 4, 5] [0] 6 (c_X0_takeBackF0 l G xa xal dn ac xn na nla (p 0) (p 2) (gz p) nb nlb (p 1) (p 3) (go p) i (by first | assumption | omega) (by first | assumption | omega) (by omega) (by first | assumption | omega)) yv_X0_takeBack kd0 rfl rfl (wr := [ob x 10 [.ref xt, .ref xn, .ref xr, .ref xa, .ref xs, .ref xf, .ref xw, .ref xi, .int (nI sn), .long sd, .ref xe, .ref xp, .ref xg, .ref xl, .ref xk, .ref xh, .ref xv]]) rfl ⟨rfl, rfl, rfl⟩ q_438 ⟨rfl, rfl⟩ ⟨rfl, rfl⟩ ⟨rfl, rfl⟩ rfl rfl rfl dX10_undo_21 (fun v w hp_2 => ?_)
    obtain ⟨rfl, rfl⟩ := hp_2
    refine wc_perm Y [0, 3, 4, 5, 6, 7, 1, 2] [ob x 10 [.ref xt, .ref xn, .ref xr, .ref xa, .ref xs, .ref xf, .ref xw, .ref xi, .int (nI sn), .long sd, .ref xe, .ref xp, .ref xg, .ref xl, .ref xk, .ref xh, .ref xv], ob xn 1 [.ref na, .ref nb], ob na 6 [.int (nI (p 0)), .int (nI ((p 2) ^^^ 2 ^ i)), .ref nla], aI G nla 10 (nF (gz p)), ob nb 6 [.int (nI (p 1)), .int (nI (p 3)), .ref nlb], aI G nlb 10 (nF (go p)), ob xa 0 [.int (nI (dn - 1)), .ref xal], aI G xal 14 (nF ac)] rfl rfl ?_
    show Wc Γ 0 0 24 [(0, .ref x)] [] [ob x 10 [.ref xt, .ref xn, .ref xr, .ref xa, .ref xs, .ref xf, .ref xw, .ref xi, .int (nI sn), .long sd, .ref xe, .ref xp, .ref xg, .ref xl, .ref xk, .ref xh, .ref xv], ob xn 1 [.ref na, .ref nb], ob na 6 [.int (nI (p 0)), .int (nI ((p 2) ^^^ 2 ^ i)), .ref nla], aI G nla 10 (nF (gz p)), ob nb 6 [.int (nI (p 1)), .int (nI (p 3)), .ref nlb], aI G nlb 10 (nF (go p)), ob xa 0 [.int (nI (dn - 1)), .ref xal], aI G xal 14 (nF ac)]
    refine wc_aload_n X 24 0 dX10_undo_24 rfl ?_
    refine wc_get X 25 0 3 kd10 rfl (by decide) q_236 rfl dX10_undo_25 ?_
    refine wc_get X 28 6 0 kd0 rfl (by decide) q_93 rfl dX10_undo_28 ?_
    exact ret 31 _ (nI (dn - 1)) _ dX10_undo_31 (⟨rfl, by rw [show flN p 0 i 2 = p 2 ^^^ 2 ^ i from flN_s, flN_n (p := p) (m := 0) (i := i) (k := 0) (by decide), flN_n (p := p) (m := 0) (i := i) (k := 1) (by decide), flN_n (p := p) (m := 0) (i := i) (k := 3) (by decide), (flN_g (p := p) (i := i) (m := 0) (by decide)).1, (flN_g (p := p) (i := i) (m := 0) (by decide)).2]⟩)
  ·
    exact absurd c7_1 (by omega)

set_option maxHeartbeats 4000000 in
set_option maxRecDepth 100000 in
theorem c_X10_undoE1 (l : Launch) (G : GG) (x xt xn xr xa xs xf xw xi sn : Nat) (sd : Int64) (xe xp xg xl xk xh xv : Nat) (na nla nb nlb : Nat) (p : Nat → Nat) (xal dn : Nat) (ac : Nat → Nat) (i c j : Nat) (hr : pgOk p) (hl : 1 ≤ dn) (hl2 : dn ≤ 14) (hi : i < p 1) (h1 : 1 ≤ c) (h2 : c ≤ 2) (ht : j < p 1) (ha : ac (dn - 1) = 1000 + i * 100 + c * 10 + j) : MM l G yX10_undo (Cond.code yX10_undo cX10_undo 1 (some .int)) { frames := 2, cells := 0, slots := 0, locals := 49 } [.ref x] [ob x 10 [.ref xt, .ref xn, .ref xr, .ref xa, .ref xs, .ref xf, .ref xw, .ref xi, .int (nI sn), .long sd, .ref xe, .ref xp, .ref xg, .ref xl, .ref xk, .ref xh, .ref xv], ob xn 1 [.ref na, .ref nb], ob na 6 [.int (nI (p 0)), .int (nI (p 2)), .ref nla], aI G nla 10 (nF (gz p)), ob nb 6 [.int (nI (p 1)), .int (nI (p 3)), .ref nlb], aI G nlb 10 (nF (go p)), ob xa 0 [.int (nI dn), .ref xal], aI G xal 14 (nF ac)] (fun (v : Option Value) (w : va_W) => v = some (.int (nI (dn - 1))) ∧ w = [ob x 10 [.ref xt, .ref xn, .ref xr, .ref xa, .ref xs, .ref xf, .ref xw, .ref xi, .int (nI sn), .long sd, .ref xe, .ref xp, .ref xg, .ref xl, .ref xk, .ref xh, .ref xv], ob xn 1 [.ref na, .ref nb], ob na 6 [.int (nI ((flE p 1 i c j) 0)), .int (nI ((flE p 1 i c j) 2)), .ref nla], aI G nla 10 (nF (gz (flE p 1 i c j))), ob nb 6 [.int (nI ((flE p 1 i c j) 1)), .int (nI ((flE p 1 i c j) 3)), .ref nlb], aI G nlb 10 (nF (go (flE p 1 i c j))), ob xa 0 [.int (nI (dn - 1)), .ref xal], aI G xal 14 (nF ac)]) 0 0 := by
  refine MM.ofI (by decide) rfl (fun Γ X Y hnm ret => ?_)
  show Wc Γ 0 0 0 [(0, .ref x)] [] [ob x 10 [.ref xt, .ref xn, .ref xr, .ref xa, .ref xs, .ref xf, .ref xw, .ref xi, .int (nI sn), .long sd, .ref xe, .ref xp, .ref xg, .ref xl, .ref xk, .ref xh, .ref xv], ob xn 1 [.ref na, .ref nb], ob na 6 [.int (nI (p 0)), .int (nI (p 2)), .ref nla], aI G nla 10 (nF (gz p)), ob nb 6 [.int (nI (p 1)), .int (nI (p 3)), .ref nlb], aI G nlb 10 (nF (go p)), ob xa 0 [.int (nI dn), .ref xal], aI G xal 14 (nF ac)]
  have hn0 := hr.2.1
  have hn01 := hr.1
  have hn1 := hr.2.2.2.1
  have hn11 := hr.2.2.1
  have he0 := pg_e0 hr
  have he1 := hr.2.2.2.2.1 3
  have hg0 := hr.2.2.2.2.2.1
  have hg1 := (fun j => hr.2.2.2.2.1 (12 + j) : ∀ j, go p j < 32)
  have hg0n := (hr.2.2.2.2.2.2.1 0 (by decide) : ∀ j, gz p j < 2 ^ p 0)
  have hg1n := (hr.2.2.2.2.2.2.1 1 (by decide) : ∀ j, go p j < 2 ^ p 1)
  have he0n := hr.2.2.2.2.2.2.2 0 (by decide)
  have he1n := hr.2.2.2.2.2.2.2 1 (by decide)
  have hg0w := (fun j => Nat.lt_trans (hg0 j) (by decide) : ∀ j, gz p j < 32)
  refine wc_aload_n X 0 0 dX10_undo_0 rfl ?_
  refine wc_get X 1 0 3 kd10 rfl (by decide) q_236 rfl dX10_undo_1 ?_
  refine wc_get X 4 6 0 kd0 rfl (by decide) q_93 rfl dX10_undo_4 ?_
  refine wc_if_neN X 7 13 dX10_undo_7 (by decide) (by omega) (fun c7_1 => ?_) (fun c7_1 => ?_)
  ·
    refine wc_aload_n X 13 0 dX10_undo_13 rfl ?_
    refine wc_get X 14 0 3 kd10 rfl (by decide) q_236 rfl dX10_undo_14 ?_
    refine wc_aload_n X 17 0 dX10_undo_17 rfl ?_
    refine wc_get X 18 0 1 kd10 rfl (by decide) q_234 rfl dX10_undo_18 ?_
    refine wc_mutV X Y 21 [6, 7, 1, 2, 3, 4, 5] [0] 6 (c_X0_takeBackE1 l G xa xal dn ac xn na nla (p 0) (p 2) (gz p) nb nlb (p 1) (p 3) (go p) i c j (by first | assumption | omega) (by first | assumption | omega) (by omega) (by first | assumption | omega) (by first | assumption | omega) (by omega) (by first | assumption | omega)) yv_X0_takeBack kd0 rfl rfl (wr := [ob x 10 [.ref xt, .ref xn, .ref xr, .ref xa, .ref xs, .ref xf, .ref xw, .ref xi, .int (nI sn), .long sd, .ref xe, .ref xp, .ref xg, .ref xl, .ref xk, .ref xh, .ref xv]]) rfl ⟨rfl, rfl, rfl⟩ q_438 ⟨rfl, rfl⟩ ⟨rfl, rfl⟩ ⟨rfl, rfl⟩ rfl rfl rfl dX10_undo_21 (fun v w hp_2 => ?_)
    obtain ⟨rfl, rfl⟩ := hp_2
    refine wc_perm Y [0, 3, 4, 5, 6, 7, 1, 2] [ob x 10 [.ref xt, .ref xn, .ref xr, .ref xa, .ref xs, .ref xf, .ref xw, .ref xi, .int (nI sn), .long sd, .ref xe, .ref xp, .ref xg, .ref xl, .ref xk, .ref xh, .ref xv], ob xn 1 [.ref na, .ref nb], ob na 6 [.int (nI (p 0)), .int (nI (p 2)), .ref nla], aI G nla 10 (nF (gz p)), ob nb 6 [.int (nI (p 1)), .int (nI (p 3)), .ref nlb], aI G nlb 10 (nF (up (go p) (i * 2 + c - 1) ((go p) (i * 2 + c - 1) ^^^ 2 ^ j))), ob xa 0 [.int (nI (dn - 1)), .ref xal], aI G xal 14 (nF ac)] rfl rfl ?_
    show Wc Γ 0 0 24 [(0, .ref x)] [] [ob x 10 [.ref xt, .ref xn, .ref xr, .ref xa, .ref xs, .ref xf, .ref xw, .ref xi, .int (nI sn), .long sd, .ref xe, .ref xp, .ref xg, .ref xl, .ref xk, .ref xh, .ref xv], ob xn 1 [.ref na, .ref nb], ob na 6 [.int (nI (p 0)), .int (nI (p 2)), .ref nla], aI G nla 10 (nF (gz p)), ob nb 6 [.int (nI (p 1)), .int (nI (p 3)), .ref nlb], aI G nlb 10 (nF (up (go p) (i * 2 + c - 1) ((go p) (i * 2 + c - 1) ^^^ 2 ^ j))), ob xa 0 [.int (nI (dn - 1)), .ref xal], aI G xal 14 (nF ac)]
    refine wc_aload_n X 24 0 dX10_undo_24 rfl ?_
    refine wc_get X 25 0 3 kd10 rfl (by decide) q_236 rfl dX10_undo_25 ?_
    refine wc_get X 28 6 0 kd0 rfl (by decide) q_93 rfl dX10_undo_28 ?_
    exact ret 31 _ (nI (dn - 1)) _ dX10_undo_31 (⟨rfl, by rw [flE_lo (p := p) (m := 1) (i := i) (c := c) (t := j) (k := 0) (by decide) h1 (by decide), flE_lo (p := p) (m := 1) (i := i) (c := c) (t := j) (k := 1) (by decide) h1 (by decide), flE_lo (p := p) (m := 1) (i := i) (c := c) (t := j) (k := 2) (by decide) h1 (by decide), flE_lo (p := p) (m := 1) (i := i) (c := c) (t := j) (k := 3) (by decide) h1 (by decide), flE_g1 (t := j) hr hi h1 h2, flE_o1 (t := j) hr hi h1 h2]⟩)
  ·
    exact absurd c7_1 (by omega)

set_option maxHeartbeats 4000000 in
set_option maxRecDepth 100000 in
theorem c_X10_undoF1 (l : Launch) (G : GG) (x xt xn xr xa xs xf xw xi sn : Nat) (sd : Int64) (xe xp xg xl xk xh xv : Nat) (na nla nb nlb : Nat) (p : Nat → Nat) (xal dn : Nat) (ac : Nat → Nat) (i : Nat) (hr : pgOk p) (hl : 1 ≤ dn) (hl2 : dn ≤ 14) (hi : i < p 1) (ha : ac (dn - 1) = 1000 + i * 100) : MM l G yX10_undo (Cond.code yX10_undo cX10_undo 1 (some .int)) { frames := 2, cells := 0, slots := 0, locals := 46 } [.ref x] [ob x 10 [.ref xt, .ref xn, .ref xr, .ref xa, .ref xs, .ref xf, .ref xw, .ref xi, .int (nI sn), .long sd, .ref xe, .ref xp, .ref xg, .ref xl, .ref xk, .ref xh, .ref xv], ob xn 1 [.ref na, .ref nb], ob na 6 [.int (nI (p 0)), .int (nI (p 2)), .ref nla], aI G nla 10 (nF (gz p)), ob nb 6 [.int (nI (p 1)), .int (nI (p 3)), .ref nlb], aI G nlb 10 (nF (go p)), ob xa 0 [.int (nI dn), .ref xal], aI G xal 14 (nF ac)] (fun (v : Option Value) (w : va_W) => v = some (.int (nI (dn - 1))) ∧ w = [ob x 10 [.ref xt, .ref xn, .ref xr, .ref xa, .ref xs, .ref xf, .ref xw, .ref xi, .int (nI sn), .long sd, .ref xe, .ref xp, .ref xg, .ref xl, .ref xk, .ref xh, .ref xv], ob xn 1 [.ref na, .ref nb], ob na 6 [.int (nI ((flN p 1 i) 0)), .int (nI ((flN p 1 i) 2)), .ref nla], aI G nla 10 (nF (gz (flN p 1 i))), ob nb 6 [.int (nI ((flN p 1 i) 1)), .int (nI ((flN p 1 i) 3)), .ref nlb], aI G nlb 10 (nF (go (flN p 1 i))), ob xa 0 [.int (nI (dn - 1)), .ref xal], aI G xal 14 (nF ac)]) 0 0 := by
  refine MM.ofI (by decide) rfl (fun Γ X Y hnm ret => ?_)
  show Wc Γ 0 0 0 [(0, .ref x)] [] [ob x 10 [.ref xt, .ref xn, .ref xr, .ref xa, .ref xs, .ref xf, .ref xw, .ref xi, .int (nI sn), .long sd, .ref xe, .ref xp, .ref xg, .ref xl, .ref xk, .ref xh, .ref xv], ob xn 1 [.ref na, .ref nb], ob na 6 [.int (nI (p 0)), .int (nI (p 2)), .ref nla], aI G nla 10 (nF (gz p)), ob nb 6 [.int (nI (p 1)), .int (nI (p 3)), .ref nlb], aI G nlb 10 (nF (go p)), ob xa 0 [.int (nI dn), .ref xal], aI G xal 14 (nF ac)]
  have hn0 := hr.2.1
  have hn01 := hr.1
  have hn1 := hr.2.2.2.1
  have hn11 := hr.2.2.1
  have he0 := pg_e0 hr
  have he1 := hr.2.2.2.2.1 3
  have hg0 := hr.2.2.2.2.2.1
  have hg1 := (fun j => hr.2.2.2.2.1 (12 + j) : ∀ j, go p j < 32)
  have hg0n := (hr.2.2.2.2.2.2.1 0 (by decide) : ∀ j, gz p j < 2 ^ p 0)
  have hg1n := (hr.2.2.2.2.2.2.1 1 (by decide) : ∀ j, go p j < 2 ^ p 1)
  have he0n := hr.2.2.2.2.2.2.2 0 (by decide)
  have he1n := hr.2.2.2.2.2.2.2 1 (by decide)
  have hg0w := (fun j => Nat.lt_trans (hg0 j) (by decide) : ∀ j, gz p j < 32)
  refine wc_aload_n X 0 0 dX10_undo_0 rfl ?_
  refine wc_get X 1 0 3 kd10 rfl (by decide) q_236 rfl dX10_undo_1 ?_
  refine wc_get X 4 6 0 kd0 rfl (by decide) q_93 rfl dX10_undo_4 ?_
  refine wc_if_neN X 7 13 dX10_undo_7 (by decide) (by omega) (fun c7_1 => ?_) (fun c7_1 => ?_)
  ·
    refine wc_aload_n X 13 0 dX10_undo_13 rfl ?_
    refine wc_get X 14 0 3 kd10 rfl (by decide) q_236 rfl dX10_undo_14 ?_
    refine wc_aload_n X 17 0 dX10_undo_17 rfl ?_
    refine wc_get X 18 0 1 kd10 rfl (by decide) q_234 rfl dX10_undo_18 ?_
    refine wc_mutV X Y 21 [6, 7, 1, 2, 3, 4, 5] [0] 6 (c_X0_takeBackF1 l G xa xal dn ac xn na nla (p 0) (p 2) (gz p) nb nlb (p 1) (p 3) (go p) i (by first | assumption | omega) (by first | assumption | omega) (by omega) (by first | assumption | omega)) yv_X0_takeBack kd0 rfl rfl (wr := [ob x 10 [.ref xt, .ref xn, .ref xr, .ref xa, .ref xs, .ref xf, .ref xw, .ref xi, .int (nI sn), .long sd, .ref xe, .ref xp, .ref xg, .ref xl, .ref xk, .ref xh, .ref xv]]) rfl ⟨rfl, rfl, rfl⟩ q_438 ⟨rfl, rfl⟩ ⟨rfl, rfl⟩ ⟨rfl, rfl⟩ rfl rfl rfl dX10_undo_21 (fun v w hp_2 => ?_)
    obtain ⟨rfl, rfl⟩ := hp_2
    refine wc_perm Y [0, 3, 4, 5, 6, 7, 1, 2] [ob x 10 [.ref xt, .ref xn, .ref xr, .ref xa, .ref xs, .ref xf, .ref xw, .ref xi, .int (nI sn), .long sd, .ref xe, .ref xp, .ref xg, .ref xl, .ref xk, .ref xh, .ref xv], ob xn 1 [.ref na, .ref nb], ob na 6 [.int (nI (p 0)), .int (nI (p 2)), .ref nla], aI G nla 10 (nF (gz p)), ob nb 6 [.int (nI (p 1)), .int (nI ((p 3) ^^^ 2 ^ i)), .ref nlb], aI G nlb 10 (nF (go p)), ob xa 0 [.int (nI (dn - 1)), .ref xal], aI G xal 14 (nF ac)] rfl rfl ?_
    show Wc Γ 0 0 24 [(0, .ref x)] [] [ob x 10 [.ref xt, .ref xn, .ref xr, .ref xa, .ref xs, .ref xf, .ref xw, .ref xi, .int (nI sn), .long sd, .ref xe, .ref xp, .ref xg, .ref xl, .ref xk, .ref xh, .ref xv], ob xn 1 [.ref na, .ref nb], ob na 6 [.int (nI (p 0)), .int (nI (p 2)), .ref nla], aI G nla 10 (nF (gz p)), ob nb 6 [.int (nI (p 1)), .int (nI ((p 3) ^^^ 2 ^ i)), .ref nlb], aI G nlb 10 (nF (go p)), ob xa 0 [.int (nI (dn - 1)), .ref xal], aI G xal 14 (nF ac)]
    refine wc_aload_n X 24 0 dX10_undo_24 rfl ?_
    refine wc_get X 25 0 3 kd10 rfl (by decide) q_236 rfl dX10_undo_25 ?_
    refine wc_get X 28 6 0 kd0 rfl (by decide) q_93 rfl dX10_undo_28 ?_
    exact ret 31 _ (nI (dn - 1)) _ dX10_undo_31 (⟨rfl, by rw [show flN p 1 i 3 = p 3 ^^^ 2 ^ i from flN_s, flN_n (p := p) (m := 1) (i := i) (k := 0) (by decide), flN_n (p := p) (m := 1) (i := i) (k := 1) (by decide), flN_n (p := p) (m := 1) (i := i) (k := 2) (by decide), (flN_g (p := p) (i := i) (m := 1) (by decide)).1, (flN_g (p := p) (i := i) (m := 1) (by decide)).2]⟩)
  ·
    exact absurd c7_1 (by omega)

set_option maxHeartbeats 4000000 in
set_option maxRecDepth 100000 in
theorem c_X10_isWordX (l : Launch) (G : GG) (x : Int32)  : RM l G yX10_isWord (Cond.code yX10_isWord cX10_isWord 3 (some .boolean)) { frames := 1, cells := 0, slots := 0, locals := 20 } [.int x] [] (.int (b2i (wordX x))) := by
  refine RM.ofZ (by decide) rfl (fun Γ X ret => ?_)
  show Wc Γ 0 0 0 [(0, .int x)] [] []
  rcases neg_or x with hx | ⟨y, hw, rfl⟩
  ·
    refine wc_iload_n X 0 0 dX10_isWord_0 rfl ?_
    refine wc_if_ge X 1 6 dX10_isWord_1 (by decide) (fun c1_1 => ?_) (fun c1_1 => ?_)
    ·
      exact absurd hx (Int32.not_lt.mpr c1_1)
    ·
      refine wc_iconstN X 4 0 dX10_isWord_4 ?_
      refine wc_st (st' := [.int (b2i false)]) rfl ?_
      exact ret 5 _ false dX10_isWord_5 ((wordX_F hx).symm)
  ·
    refine wc_iload_n X 0 0 dX10_isWord_0 rfl ?_
    refine wc_ifgeT X 1 6 dX10_isWord_1 (by decide) (by omega) ?_
    refine wc_iload_n X 6 0 dX10_isWord_6 rfl ?_
    refine wc_istore_n X 7 (L' := [(0, .int (nI y)), (1, .int (nI y))]) dX10_isWord_7 (by decide) rfl ?_
    refine wc_iconstN X 8 0 dX10_isWord_8 ?_
    refine wc_istore_n X 9 (L' := [(0, .int (nI y)), (1, .int (nI y)), (2, .int (nI 0))]) dX10_isWord_9 (by decide) rfl ?_
    have LP_4 : ∀ (fuel_3 : Nat) (v : Nat) (i : Nat), (i ≤ 9) → (letsF (9 - i) v = wordOk y) → (v < 2147483648) → 9 - i < fuel_3 → Wc Γ 0 0 10 [(0, .int (nI y)), (1, .int (nI v)), (2, .int (nI i))] [] [] := by
      intro fuel_3
      induction fuel_3 with
      | zero => intro v i hi he hv2 hm; exact absurd hm (Nat.not_lt_zero _)
      | succ fuel_3 ih_5 =>
        intro v i hi he hv2 hm_6
        refine wc_iload_n X 10 2 dX10_isWord_10 rfl ?_
        refine wc_bipush X 11 (nI 9) dX10_isWord_11 (by decide) ?_
        refine wc_icmp_geN X 13 43 dX10_isWord_13 (by decide) (by omega) (by decide) (fun c13_7 => ?_) (fun c13_7 => ?_)
        ·
          refine wc_iload_n X 43 1 dX10_isWord_43 rfl ?_
          refine wc_if_neN X 44 51 dX10_isWord_44 (by decide) (by omega) (fun c44_8 => ?_) (fun c44_8 => ?_)
          ·
            refine wc_iconstN X 51 0 dX10_isWord_51 ?_
            refine wc_st (st' := [.int (b2i false)]) rfl ?_
            exact ret 52 _ false dX10_isWord_52 (by rw [wordX_N hw, ← he]; first | (rw [c44_8, letsF_0]) | (rw [show 9 - i = 0 by omega, letsF]; simp [c13_7, c44_8]; done) | (exfalso; omega))
          ·
            refine wc_iconstN X 47 1 dX10_isWord_47 ?_
            refine wc_goto X 48 52 dX10_isWord_48 (by decide) ?_
            refine wc_st (st' := [.int (b2i true)]) rfl ?_
            exact ret 52 _ true dX10_isWord_52 (by rw [wordX_N hw, ← he]; first | (rw [c44_8, letsF_0]) | (rw [show 9 - i = 0 by omega, letsF]; simp [c13_7, c44_8]; done) | (exfalso; omega))
        ·
          refine wc_iload_n X 16 1 dX10_isWord_16 rfl ?_
          refine wc_if_eqN X 17 43 dX10_isWord_17 (by decide) (by omega) (fun c17_9 => ?_) (fun c17_9 => ?_)
          ·
            refine wc_iload_n X 43 1 dX10_isWord_43 rfl ?_
            refine wc_if_neN X 44 51 dX10_isWord_44 (by decide) (by omega) (fun c44_10 => ?_) (fun c44_10 => ?_)
            ·
              refine wc_iconstN X 51 0 dX10_isWord_51 ?_
              refine wc_st (st' := [.int (b2i false)]) rfl ?_
              exact ret 52 _ false dX10_isWord_52 (by rw [wordX_N hw, ← he]; first | (rw [c44_10, letsF_0]) | (rw [show 9 - i = 0 by omega, letsF]; simp [c13_7, c17_9, c44_10]; done) | (exfalso; omega))
            ·
              refine wc_iconstN X 47 1 dX10_isWord_47 ?_
              refine wc_goto X 48 52 dX10_isWord_48 (by decide) ?_
              refine wc_st (st' := [.int (b2i true)]) rfl ?_
              exact ret 52 _ true dX10_isWord_52 (by rw [wordX_N hw, ← he]; first | (rw [c44_10, letsF_0]) | (rw [show 9 - i = 0 by omega, letsF]; simp [c13_7, c17_9, c44_10]; done) | (exfalso; omega))
          ·
            refine wc_iload_n X 20 1 dX10_isWord_20 rfl ?_
            refine wc_bipush X 21 (nI 10) dX10_isWord_21 (by decide) ?_
            refine wc_iremN X 23 dX10_isWord_23 (by omega) (by decide) (by decide) ?_
            refine wc_callS X 24 [] (c_X10_isLetterN l G (v % 10) (by omega)) ys_X10_isLetter rfl q_408 ⟨rfl, rfl⟩ ⟨rfl, rfl⟩ ⟨rfl, rfl⟩ rfl rfl rfl dX10_isWord_24 ?_
            refine wc_if_neB X 27 32 dX10_isWord_27 (by decide) (fun c27_11 => ?_) (fun c27_11 => ?_)
            ·
              refine wc_iload_n X 32 1 dX10_isWord_32 rfl ?_
              refine wc_bipush X 33 (nI 10) dX10_isWord_33 (by decide) ?_
              refine wc_idivN X 35 dX10_isWord_35 (by omega) (by decide) (by decide) ?_
              refine wc_istore_n X 36 (L' := [(0, .int (nI y)), (1, .int (nI (v / 10))), (2, .int (nI i))]) dX10_isWord_36 (by decide) rfl ?_
              refine wc_iincN X 37 2 (L' := [(0, .int (nI y)), (1, .int (nI (v / 10))), (2, .int (nI (i + 1)))]) dX10_isWord_37 rfl (by decide) rfl ?_
              refine wc_goto X 40 10 dX10_isWord_40 (by decide) ?_
              refine wc_L (L' := [(0, .int (nI y)), (1, .int (nI (v / 10))), (2, .int (nI (i + 1)))]) (by rfl) ?_
              exact ih_5 (v / 10) (i + 1) (by omega) (lets_d1 c13_7 he c17_9 c27_11) (by omega) (by omega)
            ·
              refine wc_iconstN X 30 0 dX10_isWord_30 ?_
              refine wc_st (st' := [.int (b2i false)]) rfl ?_
              exact ret 31 _ false dX10_isWord_31 (by rw [wordX_N hw]; exact lets_d0 c13_7 he c17_9 c27_11)
    exact LP_4 (9 - 0 + 1) y 0 (by omega) rfl hw (Nat.lt_succ_self _)

set_option maxHeartbeats 4000000 in
set_option maxRecDepth 100000 in
theorem c_X10_takesF (l : Launch) (G : GG) (x xt xn xr xa xs xf xw xi sn : Nat) (sd : Int64) (xe xp xg xl xk xh xv : Nat) (m y : Int32) (ho : outR m 0 1) : RM l G yX10_takes (Cond.code yX10_takes cX10_takes 3 (some .int)) { frames := 1, cells := 0, slots := 0, locals := 20 } [.ref x, .int m, .int y] [ob x 10 [.ref xt, .ref xn, .ref xr, .ref xa, .ref xs, .ref xf, .ref xw, .ref xi, .int (nI sn), .long sd, .ref xe, .ref xp, .ref xg, .ref xl, .ref xk, .ref xh, .ref xv]] (.int (-1)) := by
  refine RM.ofI (by decide) rfl (fun Γ X ret => ?_)
  show Wc Γ 0 0 0 [(0, .ref x), (1, .int m), (2, .int y)] [] [ob x 10 [.ref xt, .ref xn, .ref xr, .ref xa, .ref xs, .ref xf, .ref xw, .ref xi, .int (nI sn), .long sd, .ref xe, .ref xp, .ref xg, .ref xl, .ref xk, .ref xh, .ref xv]]
  refine wc_iload_n X 0 1 dX10_takes_0 rfl ?_
  refine wc_callS X 1 [] (c_X10_isMachine l G m ) ys_X10_isMachine rfl q_400 ⟨rfl, rfl⟩ ⟨rfl, rfl⟩ ⟨rfl, rfl⟩ rfl rfl rfl dX10_takes_1 ?_
  refine wc_if_neB X 4 9 dX10_takes_4 (by decide) (fun c4_1 => ?_) (fun c4_1 => ?_)
  ·
    exact absurd c4_1 (by rw [mach_out ho]; decide)
  ·
    refine wc_iconst X 7 (-1) dX10_takes_7 (by decide) ?_
    exact ret 8 _ (-1) dX10_takes_8 (rfl)

set_option maxHeartbeats 4000000 in
set_option maxRecDepth 100000 in
theorem c_X10_takesG (l : Launch) (G : GG) (x xt xn xr xa xs xf xw xi sn : Nat) (sd : Int64) (xe xp xg xl xk xh xv : Nat) (m y : Int32) (hm : (decide (m = 0) || decide (m = nI 1)) = true) (hw : wordX y = false) : RM l G yX10_takes (Cond.code yX10_takes cX10_takes 3 (some .int)) { frames := 2, cells := 0, slots := 0, locals := 42 } [.ref x, .int m, .int y] [ob x 10 [.ref xt, .ref xn, .ref xr, .ref xa, .ref xs, .ref xf, .ref xw, .ref xi, .int (nI sn), .long sd, .ref xe, .ref xp, .ref xg, .ref xl, .ref xk, .ref xh, .ref xv]] (.int (-2)) := by
  refine RM.ofI (by decide) rfl (fun Γ X ret => ?_)
  show Wc Γ 0 0 0 [(0, .ref x), (1, .int m), (2, .int y)] [] [ob x 10 [.ref xt, .ref xn, .ref xr, .ref xa, .ref xs, .ref xf, .ref xw, .ref xi, .int (nI sn), .long sd, .ref xe, .ref xp, .ref xg, .ref xl, .ref xk, .ref xh, .ref xv]]
  refine wc_iload_n X 0 1 dX10_takes_0 rfl ?_
  refine wc_callS X 1 [] (c_X10_isMachine l G m ) ys_X10_isMachine rfl q_400 ⟨rfl, rfl⟩ ⟨rfl, rfl⟩ ⟨rfl, rfl⟩ rfl rfl rfl dX10_takes_1 ?_
  refine wc_if_neB X 4 9 dX10_takes_4 (by decide) (fun c4_1 => ?_) (fun c4_1 => ?_)
  ·
    refine wc_iload_n X 9 2 dX10_takes_9 rfl ?_
    refine wc_callS X 10 [] (c_X10_isWordX l G y ) ys_X10_isWord rfl q_449 ⟨rfl, rfl⟩ ⟨rfl, rfl⟩ ⟨rfl, rfl⟩ rfl rfl rfl dX10_takes_10 ?_
    refine wc_if_neB X 13 19 dX10_takes_13 (by decide) (fun c13_2 => ?_) (fun c13_2 => ?_)
    ·
      exact absurd hw (by rw [c13_2]; decide)
    ·
      refine wc_bipush X 16 (-2) dX10_takes_16 (by decide) ?_
      exact ret 18 _ (-2) dX10_takes_18 (rfl)
  ·
    exact absurd hm (by rw [c4_1]; decide)

set_option maxHeartbeats 4000000 in
set_option maxRecDepth 100000 in
theorem c_X10_takes0 (l : Launch) (G : GG) (x xt xn xr xa xs xf xw xi sn : Nat) (sd : Int64) (xe xp xg xl xk xh xv : Nat) (na nla nb nlb : Nat) (p : Nat → Nat) (y : Nat) (hr : pgOk p) (hy : y < 2147483648) (hw : wordOk y = true) : RM l G yX10_takes (Cond.code yX10_takes cX10_takes 3 (some .int)) { frames := 4, cells := 0, slots := 0, locals := 94 } [.ref x, .int (nI 0), .int (nI y)] [ob x 10 [.ref xt, .ref xn, .ref xr, .ref xa, .ref xs, .ref xf, .ref xw, .ref xi, .int (nI sn), .long sd, .ref xe, .ref xp, .ref xg, .ref xl, .ref xk, .ref xh, .ref xv], ob xn 1 [.ref na, .ref nb], ob na 6 [.int (nI (p 0)), .int (nI (p 2)), .ref nla], aI G nla 10 (nF (gz p)), ob nb 6 [.int (nI (p 1)), .int (nI (p 3)), .ref nlb], aI G nlb 10 (nF (go p))] (.int (nI ((walkD (gz p) (p 0) y 1 9 &&& p 2 != 0).toNat))) := by
  refine RM.ofI (by decide) rfl (fun Γ X ret => ?_)
  show Wc Γ 0 0 0 [(0, .ref x), (1, .int (nI 0)), (2, .int (nI y))] [] [ob x 10 [.ref xt, .ref xn, .ref xr, .ref xa, .ref xs, .ref xf, .ref xw, .ref xi, .int (nI sn), .long sd, .ref xe, .ref xp, .ref xg, .ref xl, .ref xk, .ref xh, .ref xv], ob xn 1 [.ref na, .ref nb], ob na 6 [.int (nI (p 0)), .int (nI (p 2)), .ref nla], aI G nla 10 (nF (gz p)), ob nb 6 [.int (nI (p 1)), .int (nI (p 3)), .ref nlb], aI G nlb 10 (nF (go p))]
  have hn0 := hr.2.1
  have hn01 := hr.1
  have hn1 := hr.2.2.2.1
  have hn11 := hr.2.2.1
  have he0 := pg_e0 hr
  have he1 := hr.2.2.2.2.1 3
  have hg0 := hr.2.2.2.2.2.1
  have hg1 := (fun j => hr.2.2.2.2.1 (12 + j) : ∀ j, go p j < 32)
  have hg0n := (hr.2.2.2.2.2.2.1 0 (by decide) : ∀ j, gz p j < 2 ^ p 0)
  have hg1n := (hr.2.2.2.2.2.2.1 1 (by decide) : ∀ j, go p j < 2 ^ p 1)
  have he0n := hr.2.2.2.2.2.2.2 0 (by decide)
  have he1n := hr.2.2.2.2.2.2.2 1 (by decide)
  have hg0w := (fun j => Nat.lt_trans (hg0 j) (by decide) : ∀ j, gz p j < 32)
  refine wc_iload_n X 0 1 dX10_takes_0 rfl ?_
  refine wc_callS X 1 [] (c_X10_isMachine l G (nI 0) ) ys_X10_isMachine rfl q_400 ⟨rfl, rfl⟩ ⟨rfl, rfl⟩ ⟨rfl, rfl⟩ rfl rfl rfl dX10_takes_1 ?_
  refine wc_topi (b2i true) (by decide) ?_
  refine wc_if_neB X 4 9 dX10_takes_4 (by decide) (fun c4_1 => ?_) (fun c4_1 => ?_)
  ·
    refine wc_iload_n X 9 2 dX10_takes_9 rfl ?_
    refine wc_callS X 10 [] (c_X10_isWordN l G y (by first | assumption | omega)) ys_X10_isWord rfl q_449 ⟨rfl, rfl⟩ ⟨rfl, rfl⟩ ⟨rfl, rfl⟩ rfl rfl rfl dX10_takes_10 ?_
    refine wc_topi (b2i true) (congrArg b2i hw) ?_
    refine wc_if_neB X 13 19 dX10_takes_13 (by decide) (fun c13_2 => ?_) (fun c13_2 => ?_)
    ·
      refine wc_aload_n X 19 0 dX10_takes_19 rfl ?_
      refine wc_get X 20 0 1 kd10 rfl (by decide) q_234 rfl dX10_takes_20 ?_
      refine wc_iload_n X 23 1 dX10_takes_23 rfl ?_
      refine wc_callV X 24 [1] 1 (c_X1_of0 l G xn na nb ) yv_X1_of kd1 rfl rfl q_403 ⟨rfl, rfl⟩ ⟨rfl, rfl⟩ ⟨rfl, rfl⟩ rfl rfl rfl dX10_takes_24 ?_
      refine wc_iconstN X 27 1 dX10_takes_27 ?_
      refine wc_iload_n X 28 2 dX10_takes_28 rfl ?_
      refine wc_callV X 29 [2, 3] 2 (c_X6_accepts l G na nla (p 0) (p 2) (gz p) 1 y (by omega) (by decide) (by first | assumption | omega) hg0w) yv_X6_accepts kd6 rfl rfl q_452 ⟨rfl, rfl⟩ ⟨rfl, rfl⟩ ⟨rfl, rfl⟩ rfl rfl rfl dX10_takes_29 ?_
      refine wc_callS X 32 [] (c_X10_bit l G (walkD (gz p) (p 0) y 1 9 &&& (p 2) != 0) ) ys_X10_bit rfl q_410 ⟨rfl, rfl⟩ ⟨rfl, rfl⟩ ⟨rfl, rfl⟩ rfl rfl rfl dX10_takes_32 ?_
      exact ret 35 _ (nI ((walkD (gz p) (p 0) y 1 9 &&& (p 2) != 0).toNat)) dX10_takes_35 (rfl)
    ·
      exact absurd c13_2 (by decide)
  ·
    exact absurd c4_1 (by decide)

set_option maxHeartbeats 4000000 in
set_option maxRecDepth 100000 in
theorem c_X10_takes1 (l : Launch) (G : GG) (x xt xn xr xa xs xf xw xi sn : Nat) (sd : Int64) (xe xp xg xl xk xh xv : Nat) (na nla nb nlb : Nat) (p : Nat → Nat) (y : Nat) (hr : pgOk p) (hy : y < 2147483648) (hw : wordOk y = true) : RM l G yX10_takes (Cond.code yX10_takes cX10_takes 3 (some .int)) { frames := 4, cells := 0, slots := 0, locals := 94 } [.ref x, .int (nI 1), .int (nI y)] [ob x 10 [.ref xt, .ref xn, .ref xr, .ref xa, .ref xs, .ref xf, .ref xw, .ref xi, .int (nI sn), .long sd, .ref xe, .ref xp, .ref xg, .ref xl, .ref xk, .ref xh, .ref xv], ob xn 1 [.ref na, .ref nb], ob na 6 [.int (nI (p 0)), .int (nI (p 2)), .ref nla], aI G nla 10 (nF (gz p)), ob nb 6 [.int (nI (p 1)), .int (nI (p 3)), .ref nlb], aI G nlb 10 (nF (go p))] (.int (nI ((walkD (go p) (p 1) y 1 9 &&& p 3 != 0).toNat))) := by
  refine RM.ofI (by decide) rfl (fun Γ X ret => ?_)
  show Wc Γ 0 0 0 [(0, .ref x), (1, .int (nI 1)), (2, .int (nI y))] [] [ob x 10 [.ref xt, .ref xn, .ref xr, .ref xa, .ref xs, .ref xf, .ref xw, .ref xi, .int (nI sn), .long sd, .ref xe, .ref xp, .ref xg, .ref xl, .ref xk, .ref xh, .ref xv], ob xn 1 [.ref na, .ref nb], ob na 6 [.int (nI (p 0)), .int (nI (p 2)), .ref nla], aI G nla 10 (nF (gz p)), ob nb 6 [.int (nI (p 1)), .int (nI (p 3)), .ref nlb], aI G nlb 10 (nF (go p))]
  have hn0 := hr.2.1
  have hn01 := hr.1
  have hn1 := hr.2.2.2.1
  have hn11 := hr.2.2.1
  have he0 := pg_e0 hr
  have he1 := hr.2.2.2.2.1 3
  have hg0 := hr.2.2.2.2.2.1
  have hg1 := (fun j => hr.2.2.2.2.1 (12 + j) : ∀ j, go p j < 32)
  have hg0n := (hr.2.2.2.2.2.2.1 0 (by decide) : ∀ j, gz p j < 2 ^ p 0)
  have hg1n := (hr.2.2.2.2.2.2.1 1 (by decide) : ∀ j, go p j < 2 ^ p 1)
  have he0n := hr.2.2.2.2.2.2.2 0 (by decide)
  have he1n := hr.2.2.2.2.2.2.2 1 (by decide)
  have hg0w := (fun j => Nat.lt_trans (hg0 j) (by decide) : ∀ j, gz p j < 32)
  refine wc_iload_n X 0 1 dX10_takes_0 rfl ?_
  refine wc_callS X 1 [] (c_X10_isMachine l G (nI 1) ) ys_X10_isMachine rfl q_400 ⟨rfl, rfl⟩ ⟨rfl, rfl⟩ ⟨rfl, rfl⟩ rfl rfl rfl dX10_takes_1 ?_
  refine wc_topi (b2i true) (by decide) ?_
  refine wc_if_neB X 4 9 dX10_takes_4 (by decide) (fun c4_1 => ?_) (fun c4_1 => ?_)
  ·
    refine wc_iload_n X 9 2 dX10_takes_9 rfl ?_
    refine wc_callS X 10 [] (c_X10_isWordN l G y (by first | assumption | omega)) ys_X10_isWord rfl q_449 ⟨rfl, rfl⟩ ⟨rfl, rfl⟩ ⟨rfl, rfl⟩ rfl rfl rfl dX10_takes_10 ?_
    refine wc_topi (b2i true) (congrArg b2i hw) ?_
    refine wc_if_neB X 13 19 dX10_takes_13 (by decide) (fun c13_2 => ?_) (fun c13_2 => ?_)
    ·
      refine wc_aload_n X 19 0 dX10_takes_19 rfl ?_
      refine wc_get X 20 0 1 kd10 rfl (by decide) q_234 rfl dX10_takes_20 ?_
      refine wc_iload_n X 23 1 dX10_takes_23 rfl ?_
      refine wc_callV X 24 [1] 1 (c_X1_of1 l G xn na nb (nI 1) (by decide)) yv_X1_of kd1 rfl rfl q_403 ⟨rfl, rfl⟩ ⟨rfl, rfl⟩ ⟨rfl, rfl⟩ rfl rfl rfl dX10_takes_24 ?_
      refine wc_iconstN X 27 1 dX10_takes_27 ?_
      refine wc_iload_n X 28 2 dX10_takes_28 rfl ?_
      refine wc_callV X 29 [4, 5] 4 (c_X6_accepts l G nb nlb (p 1) (p 3) (go p) 1 y (by omega) (by decide) (by first | assumption | omega) hg1) yv_X6_accepts kd6 rfl rfl q_452 ⟨rfl, rfl⟩ ⟨rfl, rfl⟩ ⟨rfl, rfl⟩ rfl rfl rfl dX10_takes_29 ?_
      refine wc_callS X 32 [] (c_X10_bit l G (walkD (go p) (p 1) y 1 9 &&& (p 3) != 0) ) ys_X10_bit rfl q_410 ⟨rfl, rfl⟩ ⟨rfl, rfl⟩ ⟨rfl, rfl⟩ rfl rfl rfl dX10_takes_32 ?_
      exact ret 35 _ (nI ((walkD (go p) (p 1) y 1 9 &&& (p 3) != 0).toNat)) dX10_takes_35 (rfl)
    ·
      exact absurd c13_2 (by decide)
  ·
    exact absurd c4_1 (by decide)

set_option maxHeartbeats 4000000 in
set_option maxRecDepth 100000 in
theorem c_X10_afterF (l : Launch) (G : GG) (x xt xn xr xa xs xf xw xi sn : Nat) (sd : Int64) (xe xp xg xl xk xh xv : Nat) (m y : Int32) (ho : outR m 0 1) : RM l G yX10_after (Cond.code yX10_after cX10_after 3 (some .int)) { frames := 1, cells := 0, slots := 0, locals := 20 } [.ref x, .int m, .int y] [ob x 10 [.ref xt, .ref xn, .ref xr, .ref xa, .ref xs, .ref xf, .ref xw, .ref xi, .int (nI sn), .long sd, .ref xe, .ref xp, .ref xg, .ref xl, .ref xk, .ref xh, .ref xv]] (.int (-1)) := by
  refine RM.ofI (by decide) rfl (fun Γ X ret => ?_)
  show Wc Γ 0 0 0 [(0, .ref x), (1, .int m), (2, .int y)] [] [ob x 10 [.ref xt, .ref xn, .ref xr, .ref xa, .ref xs, .ref xf, .ref xw, .ref xi, .int (nI sn), .long sd, .ref xe, .ref xp, .ref xg, .ref xl, .ref xk, .ref xh, .ref xv]]
  refine wc_iload_n X 0 1 dX10_after_0 rfl ?_
  refine wc_callS X 1 [] (c_X10_isMachine l G m ) ys_X10_isMachine rfl q_400 ⟨rfl, rfl⟩ ⟨rfl, rfl⟩ ⟨rfl, rfl⟩ rfl rfl rfl dX10_after_1 ?_
  refine wc_if_neB X 4 9 dX10_after_4 (by decide) (fun c4_1 => ?_) (fun c4_1 => ?_)
  ·
    exact absurd c4_1 (by rw [mach_out ho]; decide)
  ·
    refine wc_iconst X 7 (-1) dX10_after_7 (by decide) ?_
    exact ret 8 _ (-1) dX10_after_8 (rfl)

set_option maxHeartbeats 4000000 in
set_option maxRecDepth 100000 in
theorem c_X10_afterG (l : Launch) (G : GG) (x xt xn xr xa xs xf xw xi sn : Nat) (sd : Int64) (xe xp xg xl xk xh xv : Nat) (m y : Int32) (hm : (decide (m = 0) || decide (m = nI 1)) = true) (hw : wordX y = false) : RM l G yX10_after (Cond.code yX10_after cX10_after 3 (some .int)) { frames := 2, cells := 0, slots := 0, locals := 42 } [.ref x, .int m, .int y] [ob x 10 [.ref xt, .ref xn, .ref xr, .ref xa, .ref xs, .ref xf, .ref xw, .ref xi, .int (nI sn), .long sd, .ref xe, .ref xp, .ref xg, .ref xl, .ref xk, .ref xh, .ref xv]] (.int (-2)) := by
  refine RM.ofI (by decide) rfl (fun Γ X ret => ?_)
  show Wc Γ 0 0 0 [(0, .ref x), (1, .int m), (2, .int y)] [] [ob x 10 [.ref xt, .ref xn, .ref xr, .ref xa, .ref xs, .ref xf, .ref xw, .ref xi, .int (nI sn), .long sd, .ref xe, .ref xp, .ref xg, .ref xl, .ref xk, .ref xh, .ref xv]]
  refine wc_iload_n X 0 1 dX10_after_0 rfl ?_
  refine wc_callS X 1 [] (c_X10_isMachine l G m ) ys_X10_isMachine rfl q_400 ⟨rfl, rfl⟩ ⟨rfl, rfl⟩ ⟨rfl, rfl⟩ rfl rfl rfl dX10_after_1 ?_
  refine wc_if_neB X 4 9 dX10_after_4 (by decide) (fun c4_1 => ?_) (fun c4_1 => ?_)
  ·
    refine wc_iload_n X 9 2 dX10_after_9 rfl ?_
    refine wc_callS X 10 [] (c_X10_isWordX l G y ) ys_X10_isWord rfl q_449 ⟨rfl, rfl⟩ ⟨rfl, rfl⟩ ⟨rfl, rfl⟩ rfl rfl rfl dX10_after_10 ?_
    refine wc_if_neB X 13 19 dX10_after_13 (by decide) (fun c13_2 => ?_) (fun c13_2 => ?_)
    ·
      exact absurd hw (by rw [c13_2]; decide)
    ·
      refine wc_bipush X 16 (-2) dX10_after_16 (by decide) ?_
      exact ret 18 _ (-2) dX10_after_18 (rfl)
  ·
    exact absurd hm (by rw [c4_1]; decide)

set_option maxHeartbeats 4000000 in
set_option maxRecDepth 100000 in
theorem c_X10_after0 (l : Launch) (G : GG) (x xt xn xr xa xs xf xw xi sn : Nat) (sd : Int64) (xe xp xg xl xk xh xv : Nat) (na nla nb nlb : Nat) (p : Nat → Nat) (y : Nat) (hr : pgOk p) (hy : y < 2147483648) (hw : wordOk y = true) : RM l G yX10_after (Cond.code yX10_after cX10_after 3 (some .int)) { frames := 3, cells := 0, slots := 0, locals := 72 } [.ref x, .int (nI 0), .int (nI y)] [ob x 10 [.ref xt, .ref xn, .ref xr, .ref xa, .ref xs, .ref xf, .ref xw, .ref xi, .int (nI sn), .long sd, .ref xe, .ref xp, .ref xg, .ref xl, .ref xk, .ref xh, .ref xv], ob xn 1 [.ref na, .ref nb], ob na 6 [.int (nI (p 0)), .int (nI (p 2)), .ref nla], aI G nla 10 (nF (gz p)), ob nb 6 [.int (nI (p 1)), .int (nI (p 3)), .ref nlb], aI G nlb 10 (nF (go p))] (.int (nI (walkD (gz p) (p 0) y 1 9))) := by
  refine RM.ofI (by decide) rfl (fun Γ X ret => ?_)
  show Wc Γ 0 0 0 [(0, .ref x), (1, .int (nI 0)), (2, .int (nI y))] [] [ob x 10 [.ref xt, .ref xn, .ref xr, .ref xa, .ref xs, .ref xf, .ref xw, .ref xi, .int (nI sn), .long sd, .ref xe, .ref xp, .ref xg, .ref xl, .ref xk, .ref xh, .ref xv], ob xn 1 [.ref na, .ref nb], ob na 6 [.int (nI (p 0)), .int (nI (p 2)), .ref nla], aI G nla 10 (nF (gz p)), ob nb 6 [.int (nI (p 1)), .int (nI (p 3)), .ref nlb], aI G nlb 10 (nF (go p))]
  have hn0 := hr.2.1
  have hn01 := hr.1
  have hn1 := hr.2.2.2.1
  have hn11 := hr.2.2.1
  have he0 := pg_e0 hr
  have he1 := hr.2.2.2.2.1 3
  have hg0 := hr.2.2.2.2.2.1
  have hg1 := (fun j => hr.2.2.2.2.1 (12 + j) : ∀ j, go p j < 32)
  have hg0n := (hr.2.2.2.2.2.2.1 0 (by decide) : ∀ j, gz p j < 2 ^ p 0)
  have hg1n := (hr.2.2.2.2.2.2.1 1 (by decide) : ∀ j, go p j < 2 ^ p 1)
  have he0n := hr.2.2.2.2.2.2.2 0 (by decide)
  have he1n := hr.2.2.2.2.2.2.2 1 (by decide)
  have hg0w := (fun j => Nat.lt_trans (hg0 j) (by decide) : ∀ j, gz p j < 32)
  refine wc_iload_n X 0 1 dX10_after_0 rfl ?_
  refine wc_callS X 1 [] (c_X10_isMachine l G (nI 0) ) ys_X10_isMachine rfl q_400 ⟨rfl, rfl⟩ ⟨rfl, rfl⟩ ⟨rfl, rfl⟩ rfl rfl rfl dX10_after_1 ?_
  refine wc_topi (b2i true) (by decide) ?_
  refine wc_if_neB X 4 9 dX10_after_4 (by decide) (fun c4_1 => ?_) (fun c4_1 => ?_)
  ·
    refine wc_iload_n X 9 2 dX10_after_9 rfl ?_
    refine wc_callS X 10 [] (c_X10_isWordN l G y (by first | assumption | omega)) ys_X10_isWord rfl q_449 ⟨rfl, rfl⟩ ⟨rfl, rfl⟩ ⟨rfl, rfl⟩ rfl rfl rfl dX10_after_10 ?_
    refine wc_topi (b2i true) (congrArg b2i hw) ?_
    refine wc_if_neB X 13 19 dX10_after_13 (by decide) (fun c13_2 => ?_) (fun c13_2 => ?_)
    ·
      refine wc_aload_n X 19 0 dX10_after_19 rfl ?_
      refine wc_get X 20 0 1 kd10 rfl (by decide) q_234 rfl dX10_after_20 ?_
      refine wc_iload_n X 23 1 dX10_after_23 rfl ?_
      refine wc_callV X 24 [1] 1 (c_X1_of0 l G xn na nb ) yv_X1_of kd1 rfl rfl q_403 ⟨rfl, rfl⟩ ⟨rfl, rfl⟩ ⟨rfl, rfl⟩ rfl rfl rfl dX10_after_24 ?_
      refine wc_iconstN X 27 1 dX10_after_27 ?_
      refine wc_iload_n X 28 2 dX10_after_28 rfl ?_
      refine wc_callV X 29 [2, 3] 2 (c_X6_walk l G na nla (p 0) (p 2) (gz p) 1 y (by omega) (by decide) (by first | assumption | omega) hg0w) yv_X6_walk kd6 rfl rfl q_475 ⟨rfl, rfl⟩ ⟨rfl, rfl⟩ ⟨rfl, rfl⟩ rfl rfl rfl dX10_after_29 ?_
      exact ret 32 _ (nI (walkD (gz p) (p 0) y 1 9)) dX10_after_32 (rfl)
    ·
      exact absurd c13_2 (by decide)
  ·
    exact absurd c4_1 (by decide)

set_option maxHeartbeats 4000000 in
set_option maxRecDepth 100000 in
theorem c_X10_after1 (l : Launch) (G : GG) (x xt xn xr xa xs xf xw xi sn : Nat) (sd : Int64) (xe xp xg xl xk xh xv : Nat) (na nla nb nlb : Nat) (p : Nat → Nat) (y : Nat) (hr : pgOk p) (hy : y < 2147483648) (hw : wordOk y = true) : RM l G yX10_after (Cond.code yX10_after cX10_after 3 (some .int)) { frames := 3, cells := 0, slots := 0, locals := 72 } [.ref x, .int (nI 1), .int (nI y)] [ob x 10 [.ref xt, .ref xn, .ref xr, .ref xa, .ref xs, .ref xf, .ref xw, .ref xi, .int (nI sn), .long sd, .ref xe, .ref xp, .ref xg, .ref xl, .ref xk, .ref xh, .ref xv], ob xn 1 [.ref na, .ref nb], ob na 6 [.int (nI (p 0)), .int (nI (p 2)), .ref nla], aI G nla 10 (nF (gz p)), ob nb 6 [.int (nI (p 1)), .int (nI (p 3)), .ref nlb], aI G nlb 10 (nF (go p))] (.int (nI (walkD (go p) (p 1) y 1 9))) := by
  refine RM.ofI (by decide) rfl (fun Γ X ret => ?_)
  show Wc Γ 0 0 0 [(0, .ref x), (1, .int (nI 1)), (2, .int (nI y))] [] [ob x 10 [.ref xt, .ref xn, .ref xr, .ref xa, .ref xs, .ref xf, .ref xw, .ref xi, .int (nI sn), .long sd, .ref xe, .ref xp, .ref xg, .ref xl, .ref xk, .ref xh, .ref xv], ob xn 1 [.ref na, .ref nb], ob na 6 [.int (nI (p 0)), .int (nI (p 2)), .ref nla], aI G nla 10 (nF (gz p)), ob nb 6 [.int (nI (p 1)), .int (nI (p 3)), .ref nlb], aI G nlb 10 (nF (go p))]
  have hn0 := hr.2.1
  have hn01 := hr.1
  have hn1 := hr.2.2.2.1
  have hn11 := hr.2.2.1
  have he0 := pg_e0 hr
  have he1 := hr.2.2.2.2.1 3
  have hg0 := hr.2.2.2.2.2.1
  have hg1 := (fun j => hr.2.2.2.2.1 (12 + j) : ∀ j, go p j < 32)
  have hg0n := (hr.2.2.2.2.2.2.1 0 (by decide) : ∀ j, gz p j < 2 ^ p 0)
  have hg1n := (hr.2.2.2.2.2.2.1 1 (by decide) : ∀ j, go p j < 2 ^ p 1)
  have he0n := hr.2.2.2.2.2.2.2 0 (by decide)
  have he1n := hr.2.2.2.2.2.2.2 1 (by decide)
  have hg0w := (fun j => Nat.lt_trans (hg0 j) (by decide) : ∀ j, gz p j < 32)
  refine wc_iload_n X 0 1 dX10_after_0 rfl ?_
  refine wc_callS X 1 [] (c_X10_isMachine l G (nI 1) ) ys_X10_isMachine rfl q_400 ⟨rfl, rfl⟩ ⟨rfl, rfl⟩ ⟨rfl, rfl⟩ rfl rfl rfl dX10_after_1 ?_
  refine wc_topi (b2i true) (by decide) ?_
  refine wc_if_neB X 4 9 dX10_after_4 (by decide) (fun c4_1 => ?_) (fun c4_1 => ?_)
  ·
    refine wc_iload_n X 9 2 dX10_after_9 rfl ?_
    refine wc_callS X 10 [] (c_X10_isWordN l G y (by first | assumption | omega)) ys_X10_isWord rfl q_449 ⟨rfl, rfl⟩ ⟨rfl, rfl⟩ ⟨rfl, rfl⟩ rfl rfl rfl dX10_after_10 ?_
    refine wc_topi (b2i true) (congrArg b2i hw) ?_
    refine wc_if_neB X 13 19 dX10_after_13 (by decide) (fun c13_2 => ?_) (fun c13_2 => ?_)
    ·
      refine wc_aload_n X 19 0 dX10_after_19 rfl ?_
      refine wc_get X 20 0 1 kd10 rfl (by decide) q_234 rfl dX10_after_20 ?_
      refine wc_iload_n X 23 1 dX10_after_23 rfl ?_
      refine wc_callV X 24 [1] 1 (c_X1_of1 l G xn na nb (nI 1) (by decide)) yv_X1_of kd1 rfl rfl q_403 ⟨rfl, rfl⟩ ⟨rfl, rfl⟩ ⟨rfl, rfl⟩ rfl rfl rfl dX10_after_24 ?_
      refine wc_iconstN X 27 1 dX10_after_27 ?_
      refine wc_iload_n X 28 2 dX10_after_28 rfl ?_
      refine wc_callV X 29 [4, 5] 4 (c_X6_walk l G nb nlb (p 1) (p 3) (go p) 1 y (by omega) (by decide) (by first | assumption | omega) hg1) yv_X6_walk kd6 rfl rfl q_475 ⟨rfl, rfl⟩ ⟨rfl, rfl⟩ ⟨rfl, rfl⟩ rfl rfl rfl dX10_after_29 ?_
      exact ret 32 _ (nI (walkD (go p) (p 1) y 1 9)) dX10_after_32 (rfl)
    ·
      exact absurd c13_2 (by decide)
  ·
    exact absurd c4_1 (by decide)

set_option maxHeartbeats 4000000 in
set_option maxRecDepth 100000 in
theorem c_X10_within (l : Launch) (G : GG) (x xt xn xr xa xs xf xw xi sn : Nat) (sd : Int64) (xe xp xg xl xk xh xv : Nat) (na nla nb nlb : Nat) (p : Nat → Nat) (xlm xlr lq : Nat) (lm lr : Nat → Nat) (hr : pgOk p) : MM l G yX10_within (Cond.code yX10_within cX10_within 1 (some .int)) { frames := 4, cells := 0, slots := 0, locals := 95 } [.ref x] [ob x 10 [.ref xt, .ref xn, .ref xr, .ref xa, .ref xs, .ref xf, .ref xw, .ref xi, .int (nI sn), .long sd, .ref xe, .ref xp, .ref xg, .ref xl, .ref xk, .ref xh, .ref xv], ob xn 1 [.ref na, .ref nb], ob na 6 [.int (nI (p 0)), .int (nI (p 2)), .ref nla], aI G nla 10 (nF (gz p)), ob nb 6 [.int (nI (p 1)), .int (nI (p 3)), .ref nlb], aI G nlb 10 (nF (go p)), ob xl 4 [.ref xlm, .ref xlr, .int (nI lq)], aI G xlm 4 (nF lm), aI G xlr 128 (nF lr)] (fun (v : Option Value) (w : va_W) => ∃ (lq2 : Nat) (lm2 lr2 : Nat → Nat), v = some (.int (nI ((withB (gz p) (p 0) (p 2) (go p) (p 1) (p 3)).toNat))) ∧ w = [ob x 10 [.ref xt, .ref xn, .ref xr, .ref xa, .ref xs, .ref xf, .ref xw, .ref xi, .int (nI sn), .long sd, .ref xe, .ref xp, .ref xg, .ref xl, .ref xk, .ref xh, .ref xv], ob xn 1 [.ref na, .ref nb], ob na 6 [.int (nI (p 0)), .int (nI (p 2)), .ref nla], aI G nla 10 (nF (gz p)), ob nb 6 [.int (nI (p 1)), .int (nI (p 3)), .ref nlb], aI G nlb 10 (nF (go p)), ob xl 4 [.ref xlm, .ref xlr, .int (nI lq2)], aI G xlm 4 (nF lm2), aI G xlr 128 (nF lr2)]) 0 0 := by
  refine MM.ofI (by decide) rfl (fun Γ X Y hnm ret => ?_)
  show Wc Γ 0 0 0 [(0, .ref x)] [] [ob x 10 [.ref xt, .ref xn, .ref xr, .ref xa, .ref xs, .ref xf, .ref xw, .ref xi, .int (nI sn), .long sd, .ref xe, .ref xp, .ref xg, .ref xl, .ref xk, .ref xh, .ref xv], ob xn 1 [.ref na, .ref nb], ob na 6 [.int (nI (p 0)), .int (nI (p 2)), .ref nla], aI G nla 10 (nF (gz p)), ob nb 6 [.int (nI (p 1)), .int (nI (p 3)), .ref nlb], aI G nlb 10 (nF (go p)), ob xl 4 [.ref xlm, .ref xlr, .int (nI lq)], aI G xlm 4 (nF lm), aI G xlr 128 (nF lr)]
  have hn0 := hr.2.1
  have hn01 := hr.1
  have hn1 := hr.2.2.2.1
  have hn11 := hr.2.2.1
  have he0 := pg_e0 hr
  have he1 := hr.2.2.2.2.1 3
  have hg0 := hr.2.2.2.2.2.1
  have hg1 := (fun j => hr.2.2.2.2.1 (12 + j) : ∀ j, go p j < 32)
  have hg0n := (hr.2.2.2.2.2.2.1 0 (by decide) : ∀ j, gz p j < 2 ^ p 0)
  have hg1n := (hr.2.2.2.2.2.2.1 1 (by decide) : ∀ j, go p j < 2 ^ p 1)
  have he0n := hr.2.2.2.2.2.2.2 0 (by decide)
  have he1n := hr.2.2.2.2.2.2.2 1 (by decide)
  have hg0w := (fun j => Nat.lt_trans (hg0 j) (by decide) : ∀ j, gz p j < 32)
  refine wc_aload_n X 0 0 dX10_within_0 rfl ?_
  refine wc_get X 1 0 13 kd10 rfl (by decide) q_246 rfl dX10_within_1 ?_
  refine wc_aload_n X 4 0 dX10_within_4 rfl ?_
  refine wc_get X 5 0 1 kd10 rfl (by decide) q_234 rfl dX10_within_5 ?_
  refine wc_mutV X Y 8 [6, 7, 8, 1, 2, 3, 4, 5] [0] 6 (c_X4_holds l G xl xlm xlr lq lm lr xn na nla (p 0) (p 2) (gz p) nb nlb (p 1) (p 3) (go p) (by first | assumption | omega) (by first | assumption | omega) (by first | assumption | omega) (by first | assumption | omega) (by first | assumption | omega) (by first | assumption | omega) (by first | assumption | omega) (by first | assumption | omega) (by first | assumption | omega)) yv_X4_holds kd4 rfl rfl (wr := [ob x 10 [.ref xt, .ref xn, .ref xr, .ref xa, .ref xs, .ref xf, .ref xw, .ref xi, .int (nI sn), .long sd, .ref xe, .ref xp, .ref xg, .ref xl, .ref xk, .ref xh, .ref xv]]) rfl ⟨rfl, rfl, rfl⟩ q_503 ⟨rfl, rfl⟩ ⟨rfl, rfl⟩ ⟨rfl, rfl⟩ rfl rfl rfl dX10_within_8 (fun v w hp_1 => ?_)
  obtain ⟨mt2_2, row2_3, n2_4, rfl, rfl⟩ := hp_1
  refine wc_perm Y [0, 4, 5, 6, 7, 8, 1, 2, 3] [ob x 10 [.ref xt, .ref xn, .ref xr, .ref xa, .ref xs, .ref xf, .ref xw, .ref xi, .int (nI sn), .long sd, .ref xe, .ref xp, .ref xg, .ref xl, .ref xk, .ref xh, .ref xv], ob xn 1 [.ref na, .ref nb], ob na 6 [.int (nI (p 0)), .int (nI (p 2)), .ref nla], aI G nla 10 (nF (gz p)), ob nb 6 [.int (nI (p 1)), .int (nI (p 3)), .ref nlb], aI G nlb 10 (nF (go p)), ob xl 4 [.ref xlm, .ref xlr, .int (nI n2_4)], aI G xlm 4 (nF mt2_2), aI G xlr 128 (nF row2_3)] rfl rfl ?_
  show Wc Γ 0 0 11 [(0, .ref x)] [.int (b2i (withB (gz p) (p 0) (p 2) (go p) (p 1) (p 3)))] [ob x 10 [.ref xt, .ref xn, .ref xr, .ref xa, .ref xs, .ref xf, .ref xw, .ref xi, .int (nI sn), .long sd, .ref xe, .ref xp, .ref xg, .ref xl, .ref xk, .ref xh, .ref xv], ob xn 1 [.ref na, .ref nb], ob na 6 [.int (nI (p 0)), .int (nI (p 2)), .ref nla], aI G nla 10 (nF (gz p)), ob nb 6 [.int (nI (p 1)), .int (nI (p 3)), .ref nlb], aI G nlb 10 (nF (go p)), ob xl 4 [.ref xlm, .ref xlr, .int (nI n2_4)], aI G xlm 4 (nF mt2_2), aI G xlr 128 (nF row2_3)]
  refine wc_callS X 11 [] (c_X10_bit l G (withB (gz p) (p 0) (p 2) (go p) (p 1) (p 3)) ) ys_X10_bit rfl q_410 ⟨rfl, rfl⟩ ⟨rfl, rfl⟩ ⟨rfl, rfl⟩ rfl rfl rfl dX10_within_11 ?_
  exact ret 14 _ (nI ((withB (gz p) (p 0) (p 2) (go p) (p 1) (p 3)).toNat)) _ dX10_within_14 (⟨_, _, _, rfl, rfl⟩)

set_option maxHeartbeats 4000000 in
set_option maxRecDepth 100000 in
theorem c_X10_missingF (l : Launch) (G : GG) (x xt xn xr xa xs xf xw xi sn : Nat) (sd : Int64) (xe xp xg xl xk xh xv : Nat) (k : Int32) (ho : outR k 0 200) : RM l G yX10_missing (Cond.code yX10_missing cX10_missing 2 (some .int)) { frames := 1, cells := 0, slots := 0, locals := 20 } [.ref x, .int k] [ob x 10 [.ref xt, .ref xn, .ref xr, .ref xa, .ref xs, .ref xf, .ref xw, .ref xi, .int (nI sn), .long sd, .ref xe, .ref xp, .ref xg, .ref xl, .ref xk, .ref xh, .ref xv]] (.int (-2)) := by
  refine RM.ofI (by decide) rfl (fun Γ X ret => ?_)
  show Wc Γ 0 0 0 [(0, .ref x), (1, .int k)] [] [ob x 10 [.ref xt, .ref xn, .ref xr, .ref xa, .ref xs, .ref xf, .ref xw, .ref xi, .int (nI sn), .long sd, .ref xe, .ref xp, .ref xg, .ref xl, .ref xk, .ref xh, .ref xv]]
  refine wc_iload_n X 0 1 dX10_missing_0 rfl ?_
  refine wc_callS X 1 [] (c_X10_isPlace l G k ) ys_X10_isPlace rfl q_530 ⟨rfl, rfl⟩ ⟨rfl, rfl⟩ ⟨rfl, rfl⟩ rfl rfl rfl dX10_missing_1 ?_
  refine wc_if_neB X 4 10 dX10_missing_4 (by decide) (fun c4_1 => ?_) (fun c4_1 => ?_)
  ·
    exact absurd c4_1 (by rw [mode_out ho (by decide)]; decide)
  ·
    refine wc_bipush X 7 (-2) dX10_missing_7 (by decide) ?_
    exact ret 9 _ (-2) dX10_missing_9 (rfl)

set_option maxHeartbeats 4000000 in
set_option maxRecDepth 100000 in
theorem c_X10_missingS (l : Launch) (G : GG) (x xt xn xr xa xs xf xw xi sn : Nat) (sd : Int64) (xe xp xg xl xk xh xv : Nat) (na nla nb nlb : Nat) (p : Nat → Nat) (xpl pn : Nat) (pb : Bool) (pg : Nat → Nat) (xgc xgr gq : Nat) (gc : Nat → Int32) (gr : Nat → Nat) (k : Nat) (hr : pgOk p) (hk : k ≤ 200) : MM l G yX10_missing (Cond.code yX10_missing cX10_missing 2 (some .int)) { frames := 3, cells := 0, slots := 0, locals := 75 } [.ref x, .int (nI k)] [ob x 10 [.ref xt, .ref xn, .ref xr, .ref xa, .ref xs, .ref xf, .ref xw, .ref xi, .int (nI sn), .long sd, .ref xe, .ref xp, .ref xg, .ref xl, .ref xk, .ref xh, .ref xv], ob xn 1 [.ref na, .ref nb], ob na 6 [.int (nI (p 0)), .int (nI (p 2)), .ref nla], aI G nla 10 (nF (gz p)), ob nb 6 [.int (nI (p 1)), .int (nI (p 3)), .ref nlb], aI G nlb 10 (nF (go p)), ob xp 8 [.int (b2i pb), .int (nI pn), .ref xpl], aI G xpl 200 (nF pg), ob xg 2 [.ref xgc, .ref xgr, .int (nI gq)], aI G xgc 512 gc, aI G xgr 512 (nF gr)] (fun (v : Option Value) (w : va_W) => ∃ (gq2 : Nat) (gc2 : Nat → Int32) (gr2 : Nat → Nat) (pn2 : Nat) (pb2 : Bool) (pg2 : Nat → Nat), v = some (.int (tellW (leastW (gz p) (p 0) (p 2) (go p) (p 1) (p 3) 0) k)) ∧ w = [ob x 10 [.ref xt, .ref xn, .ref xr, .ref xa, .ref xs, .ref xf, .ref xw, .ref xi, .int (nI sn), .long sd, .ref xe, .ref xp, .ref xg, .ref xl, .ref xk, .ref xh, .ref xv], ob xn 1 [.ref na, .ref nb], ob na 6 [.int (nI (p 0)), .int (nI (p 2)), .ref nla], aI G nla 10 (nF (gz p)), ob nb 6 [.int (nI (p 1)), .int (nI (p 3)), .ref nlb], aI G nlb 10 (nF (go p)), ob xp 8 [.int (b2i pb2), .int (nI pn2), .ref xpl], aI G xpl 200 (nF pg2), ob xg 2 [.ref xgc, .ref xgr, .int (nI gq2)], aI G xgc 512 gc2, aI G xgr 512 (nF gr2)]) 0 0 := by
  refine MM.ofI (by decide) rfl (fun Γ X Y hnm ret => ?_)
  show Wc Γ 0 0 0 [(0, .ref x), (1, .int (nI k))] [] [ob x 10 [.ref xt, .ref xn, .ref xr, .ref xa, .ref xs, .ref xf, .ref xw, .ref xi, .int (nI sn), .long sd, .ref xe, .ref xp, .ref xg, .ref xl, .ref xk, .ref xh, .ref xv], ob xn 1 [.ref na, .ref nb], ob na 6 [.int (nI (p 0)), .int (nI (p 2)), .ref nla], aI G nla 10 (nF (gz p)), ob nb 6 [.int (nI (p 1)), .int (nI (p 3)), .ref nlb], aI G nlb 10 (nF (go p)), ob xp 8 [.int (b2i pb), .int (nI pn), .ref xpl], aI G xpl 200 (nF pg), ob xg 2 [.ref xgc, .ref xgr, .int (nI gq)], aI G xgc 512 gc, aI G xgr 512 (nF gr)]
  have hn0 := hr.2.1
  have hn01 := hr.1
  have hn1 := hr.2.2.2.1
  have hn11 := hr.2.2.1
  have he0 := pg_e0 hr
  have he1 := hr.2.2.2.2.1 3
  have hg0 := hr.2.2.2.2.2.1
  have hg1 := (fun j => hr.2.2.2.2.1 (12 + j) : ∀ j, go p j < 32)
  have hg0n := (hr.2.2.2.2.2.2.1 0 (by decide) : ∀ j, gz p j < 2 ^ p 0)
  have hg1n := (hr.2.2.2.2.2.2.1 1 (by decide) : ∀ j, go p j < 2 ^ p 1)
  have he0n := hr.2.2.2.2.2.2.2 0 (by decide)
  have he1n := hr.2.2.2.2.2.2.2 1 (by decide)
  have hg0w := (fun j => Nat.lt_trans (hg0 j) (by decide) : ∀ j, gz p j < 32)
  refine wc_iload_n X 0 1 dX10_missing_0 rfl ?_
  refine wc_callS X 1 [] (c_X10_isPlace l G (nI k) ) ys_X10_isPlace rfl q_530 ⟨rfl, rfl⟩ ⟨rfl, rfl⟩ ⟨rfl, rfl⟩ rfl rfl rfl dX10_missing_1 ?_
  refine wc_topi (b2i true) (congrArg b2i (mode_in hk (by decide))) ?_
  refine wc_if_neB X 4 10 dX10_missing_4 (by decide) (fun c4_1 => ?_) (fun c4_1 => ?_)
  ·
    refine wc_aload_n X 10 0 dX10_missing_10 rfl ?_
    refine wc_get X 11 0 12 kd10 rfl (by decide) q_245 rfl dX10_missing_11 ?_
    refine wc_aload_n X 14 0 dX10_missing_14 rfl ?_
    refine wc_get X 15 0 1 kd10 rfl (by decide) q_234 rfl dX10_missing_15 ?_
    refine wc_get X 18 1 0 kd1 rfl (by decide) q_73 rfl dX10_missing_18 ?_
    refine wc_aload_n X 21 0 dX10_missing_21 rfl ?_
    refine wc_get X 22 0 1 kd10 rfl (by decide) q_234 rfl dX10_missing_22 ?_
    refine wc_get X 25 1 1 kd1 rfl (by decide) q_80 rfl dX10_missing_25 ?_
    refine wc_aload_n X 28 0 dX10_missing_28 rfl ?_
    refine wc_get X 29 0 11 kd10 rfl (by decide) q_244 rfl dX10_missing_29 ?_
    refine wc_mutV X Y 32 [8, 9, 10, 2, 3, 4, 5, 6, 7] [0, 1] 8 (c_X2_spell l G xg xgc xgr gq gc gr na nla (p 0) (p 2) (gz p) nb nlb (p 1) (p 3) (go p) xp xpl pn pb pg (by first | assumption | omega) (by first | assumption | omega) (by first | assumption | omega) (by first | assumption | omega)) yv_X2_spell kd2 rfl rfl (wr := [ob x 10 [.ref xt, .ref xn, .ref xr, .ref xa, .ref xs, .ref xf, .ref xw, .ref xi, .int (nI sn), .long sd, .ref xe, .ref xp, .ref xg, .ref xl, .ref xk, .ref xh, .ref xv], ob xn 1 [.ref na, .ref nb]]) rfl ⟨rfl, rfl, rfl⟩ q_533 ⟨rfl, rfl⟩ ⟨rfl, rfl⟩ ⟨rfl, rfl⟩ rfl rfl rfl dX10_missing_32 (fun v w hp_2 => ?_)
    obtain ⟨cb2_3, rw2_4, n2_5, len2_6, gg2_7, rfl, rfl, hf1, hf2⟩ := hp_2
    refine wc_perm Y [0, 1, 5, 6, 7, 8, 9, 10, 2, 3, 4] [ob x 10 [.ref xt, .ref xn, .ref xr, .ref xa, .ref xs, .ref xf, .ref xw, .ref xi, .int (nI sn), .long sd, .ref xe, .ref xp, .ref xg, .ref xl, .ref xk, .ref xh, .ref xv], ob xn 1 [.ref na, .ref nb], ob na 6 [.int (nI (p 0)), .int (nI (p 2)), .ref nla], aI G nla 10 (nF (gz p)), ob nb 6 [.int (nI (p 1)), .int (nI (p 3)), .ref nlb], aI G nlb 10 (nF (go p)), ob xp 8 [.int (b2i ((leastW (gz p) (p 0) (p 2) (go p) (p 1) (p 3) 0).isSome)), .int (nI len2_6), .ref xpl], aI G xpl 200 (nF gg2_7), ob xg 2 [.ref xgc, .ref xgr, .int (nI n2_5)], aI G xgc 512 cb2_3, aI G xgr 512 (nF rw2_4)] rfl rfl ?_
    show Wc Γ 0 0 35 [(0, .ref x), (1, .int (nI k))] [] [ob x 10 [.ref xt, .ref xn, .ref xr, .ref xa, .ref xs, .ref xf, .ref xw, .ref xi, .int (nI sn), .long sd, .ref xe, .ref xp, .ref xg, .ref xl, .ref xk, .ref xh, .ref xv], ob xn 1 [.ref na, .ref nb], ob na 6 [.int (nI (p 0)), .int (nI (p 2)), .ref nla], aI G nla 10 (nF (gz p)), ob nb 6 [.int (nI (p 1)), .int (nI (p 3)), .ref nlb], aI G nlb 10 (nF (go p)), ob xp 8 [.int (b2i ((leastW (gz p) (p 0) (p 2) (go p) (p 1) (p 3) 0).isSome)), .int (nI len2_6), .ref xpl], aI G xpl 200 (nF gg2_7), ob xg 2 [.ref xgc, .ref xgr, .int (nI n2_5)], aI G xgc 512 cb2_3, aI G xgr 512 (nF rw2_4)]
    refine wc_aload_n X 35 0 dX10_missing_35 rfl ?_
    refine wc_get X 36 0 11 kd10 rfl (by decide) q_244 rfl dX10_missing_36 ?_
    refine wc_iload_n X 39 1 dX10_missing_39 rfl ?_
    refine wc_callV X 40 [6, 7] 6 (c_X8_tell l G xp xpl len2_6 ((leastW (gz p) (p 0) (p 2) (go p) (p 1) (p 3) 0).isSome) gg2_7 k (by first | assumption | omega) (by first | assumption | omega)) yv_X8_tell kd8 rfl rfl q_556 ⟨rfl, rfl⟩ ⟨rfl, rfl⟩ ⟨rfl, rfl⟩ rfl rfl rfl dX10_missing_40 ?_
    exact ret 43 _ (spTell ((leastW (gz p) (p 0) (p 2) (go p) (p 1) (p 3) 0).isSome) len2_6 gg2_7 k) _ dX10_missing_43 (⟨_, _, _, _, _, _, by rw [tell_sp hf1], rfl⟩)
  ·
    exact absurd c4_1 (by decide)

set_option maxHeartbeats 4000000 in
set_option maxRecDepth 100000 in
theorem c_X10_leftOutF (l : Launch) (G : GG) (x xt xn xr xa xs xf xw xi sn : Nat) (sd : Int64) (xe xp xg xl xk xh xv : Nat) (m k : Int32) (ho : outR m 0 1) : RM l G yX10_leftOut (Cond.code yX10_leftOut cX10_leftOut 3 (some .int)) { frames := 1, cells := 0, slots := 0, locals := 20 } [.ref x, .int m, .int k] [ob x 10 [.ref xt, .ref xn, .ref xr, .ref xa, .ref xs, .ref xf, .ref xw, .ref xi, .int (nI sn), .long sd, .ref xe, .ref xp, .ref xg, .ref xl, .ref xk, .ref xh, .ref xv]] (.int (-1)) := by
  refine RM.ofI (by decide) rfl (fun Γ X ret => ?_)
  show Wc Γ 0 0 0 [(0, .ref x), (1, .int m), (2, .int k)] [] [ob x 10 [.ref xt, .ref xn, .ref xr, .ref xa, .ref xs, .ref xf, .ref xw, .ref xi, .int (nI sn), .long sd, .ref xe, .ref xp, .ref xg, .ref xl, .ref xk, .ref xh, .ref xv]]
  refine wc_iload_n X 0 1 dX10_leftOut_0 rfl ?_
  refine wc_callS X 1 [] (c_X10_isMachine l G m ) ys_X10_isMachine rfl q_400 ⟨rfl, rfl⟩ ⟨rfl, rfl⟩ ⟨rfl, rfl⟩ rfl rfl rfl dX10_leftOut_1 ?_
  refine wc_if_neB X 4 9 dX10_leftOut_4 (by decide) (fun c4_1 => ?_) (fun c4_1 => ?_)
  ·
    exact absurd c4_1 (by rw [mach_out ho]; decide)
  ·
    refine wc_iconst X 7 (-1) dX10_leftOut_7 (by decide) ?_
    exact ret 8 _ (-1) dX10_leftOut_8 (rfl)

set_option maxHeartbeats 4000000 in
set_option maxRecDepth 100000 in
theorem c_X10_leftOutG (l : Launch) (G : GG) (x xt xn xr xa xs xf xw xi sn : Nat) (sd : Int64) (xe xp xg xl xk xh xv : Nat) (m k : Int32) (hm : (decide (m = 0) || decide (m = nI 1)) = true) (ho : outR k 0 200) : RM l G yX10_leftOut (Cond.code yX10_leftOut cX10_leftOut 3 (some .int)) { frames := 1, cells := 0, slots := 0, locals := 20 } [.ref x, .int m, .int k] [ob x 10 [.ref xt, .ref xn, .ref xr, .ref xa, .ref xs, .ref xf, .ref xw, .ref xi, .int (nI sn), .long sd, .ref xe, .ref xp, .ref xg, .ref xl, .ref xk, .ref xh, .ref xv]] (.int (-2)) := by
  refine RM.ofI (by decide) rfl (fun Γ X ret => ?_)
  show Wc Γ 0 0 0 [(0, .ref x), (1, .int m), (2, .int k)] [] [ob x 10 [.ref xt, .ref xn, .ref xr, .ref xa, .ref xs, .ref xf, .ref xw, .ref xi, .int (nI sn), .long sd, .ref xe, .ref xp, .ref xg, .ref xl, .ref xk, .ref xh, .ref xv]]
  refine wc_iload_n X 0 1 dX10_leftOut_0 rfl ?_
  refine wc_callS X 1 [] (c_X10_isMachine l G m ) ys_X10_isMachine rfl q_400 ⟨rfl, rfl⟩ ⟨rfl, rfl⟩ ⟨rfl, rfl⟩ rfl rfl rfl dX10_leftOut_1 ?_
  refine wc_if_neB X 4 9 dX10_leftOut_4 (by decide) (fun c4_1 => ?_) (fun c4_1 => ?_)
  ·
    refine wc_iload_n X 9 2 dX10_leftOut_9 rfl ?_
    refine wc_callS X 10 [] (c_X10_isPlace l G k ) ys_X10_isPlace rfl q_530 ⟨rfl, rfl⟩ ⟨rfl, rfl⟩ ⟨rfl, rfl⟩ rfl rfl rfl dX10_leftOut_10 ?_
    refine wc_if_neB X 13 19 dX10_leftOut_13 (by decide) (fun c13_2 => ?_) (fun c13_2 => ?_)
    ·
      exact absurd c13_2 (by rw [mode_out ho (by decide)]; decide)
    ·
      refine wc_bipush X 16 (-2) dX10_leftOut_16 (by decide) ?_
      exact ret 18 _ (-2) dX10_leftOut_18 (rfl)
  ·
    exact absurd hm (by rw [c4_1]; decide)

set_option maxHeartbeats 4000000 in
set_option maxRecDepth 100000 in
theorem c_X10_leftOut0 (l : Launch) (G : GG) (x xt xn xr xa xs xf xw xi sn : Nat) (sd : Int64) (xe xp xg xl xk xh xv : Nat) (na nla nb nlb : Nat) (p : Nat → Nat) (xel : Nat) (xpl pn : Nat) (pb : Bool) (pg : Nat → Nat) (xgc xgr gq : Nat) (gc : Nat → Int32) (gr : Nat → Nat) (k : Nat) (hr : pgOk p) (hk : k ≤ 200) : MM l G yX10_leftOut (Cond.code yX10_leftOut cX10_leftOut 3 (some .int)) { frames := 3, cells := 0, slots := 0, locals := 75 } [.ref x, .int (nI 0), .int (nI k)] [ob x 10 [.ref xt, .ref xn, .ref xr, .ref xa, .ref xs, .ref xf, .ref xw, .ref xi, .int (nI sn), .long sd, .ref xe, .ref xp, .ref xg, .ref xl, .ref xk, .ref xh, .ref xv], ob xn 1 [.ref na, .ref nb], ob na 6 [.int (nI (p 0)), .int (nI (p 2)), .ref nla], aI G nla 10 (nF (gz p)), ob nb 6 [.int (nI (p 1)), .int (nI (p 3)), .ref nlb], aI G nlb 10 (nF (go p)), ob xe 6 [.int (nI 1), .int (nI 1), .ref xel], aI G xel 10 (nF evG), ob xp 8 [.int (b2i pb), .int (nI pn), .ref xpl], aI G xpl 200 (nF pg), ob xg 2 [.ref xgc, .ref xgr, .int (nI gq)], aI G xgc 512 gc, aI G xgr 512 (nF gr)] (fun (v : Option Value) (w : va_W) => ∃ (gq2 : Nat) (gc2 : Nat → Int32) (gr2 : Nat → Nat) (pn2 : Nat) (pb2 : Bool) (pg2 : Nat → Nat), v = some (.int (tellW (leastW (gz p) (p 0) (p 2) (go p) (p 1) (p 3) 1) k)) ∧ w = [ob x 10 [.ref xt, .ref xn, .ref xr, .ref xa, .ref xs, .ref xf, .ref xw, .ref xi, .int (nI sn), .long sd, .ref xe, .ref xp, .ref xg, .ref xl, .ref xk, .ref xh, .ref xv], ob xn 1 [.ref na, .ref nb], ob na 6 [.int (nI (p 0)), .int (nI (p 2)), .ref nla], aI G nla 10 (nF (gz p)), ob nb 6 [.int (nI (p 1)), .int (nI (p 3)), .ref nlb], aI G nlb 10 (nF (go p)), ob xe 6 [.int (nI 1), .int (nI 1), .ref xel], aI G xel 10 (nF evG), ob xp 8 [.int (b2i pb2), .int (nI pn2), .ref xpl], aI G xpl 200 (nF pg2), ob xg 2 [.ref xgc, .ref xgr, .int (nI gq2)], aI G xgc 512 gc2, aI G xgr 512 (nF gr2)]) 0 0 := by
  refine MM.ofI (by decide) rfl (fun Γ X Y hnm ret => ?_)
  show Wc Γ 0 0 0 [(0, .ref x), (1, .int (nI 0)), (2, .int (nI k))] [] [ob x 10 [.ref xt, .ref xn, .ref xr, .ref xa, .ref xs, .ref xf, .ref xw, .ref xi, .int (nI sn), .long sd, .ref xe, .ref xp, .ref xg, .ref xl, .ref xk, .ref xh, .ref xv], ob xn 1 [.ref na, .ref nb], ob na 6 [.int (nI (p 0)), .int (nI (p 2)), .ref nla], aI G nla 10 (nF (gz p)), ob nb 6 [.int (nI (p 1)), .int (nI (p 3)), .ref nlb], aI G nlb 10 (nF (go p)), ob xe 6 [.int (nI 1), .int (nI 1), .ref xel], aI G xel 10 (nF evG), ob xp 8 [.int (b2i pb), .int (nI pn), .ref xpl], aI G xpl 200 (nF pg), ob xg 2 [.ref xgc, .ref xgr, .int (nI gq)], aI G xgc 512 gc, aI G xgr 512 (nF gr)]
  have hn0 := hr.2.1
  have hn01 := hr.1
  have hn1 := hr.2.2.2.1
  have hn11 := hr.2.2.1
  have he0 := pg_e0 hr
  have he1 := hr.2.2.2.2.1 3
  have hg0 := hr.2.2.2.2.2.1
  have hg1 := (fun j => hr.2.2.2.2.1 (12 + j) : ∀ j, go p j < 32)
  have hg0n := (hr.2.2.2.2.2.2.1 0 (by decide) : ∀ j, gz p j < 2 ^ p 0)
  have hg1n := (hr.2.2.2.2.2.2.1 1 (by decide) : ∀ j, go p j < 2 ^ p 1)
  have he0n := hr.2.2.2.2.2.2.2 0 (by decide)
  have he1n := hr.2.2.2.2.2.2.2 1 (by decide)
  have hg0w := (fun j => Nat.lt_trans (hg0 j) (by decide) : ∀ j, gz p j < 32)
  have hev : ∀ j, evG j < 16 := fun j => by unfold evG; split <;> decide
  refine wc_iload_n X 0 1 dX10_leftOut_0 rfl ?_
  refine wc_callS X 1 [] (c_X10_isMachine l G (nI 0) ) ys_X10_isMachine rfl q_400 ⟨rfl, rfl⟩ ⟨rfl, rfl⟩ ⟨rfl, rfl⟩ rfl rfl rfl dX10_leftOut_1 ?_
  refine wc_topi (b2i true) (by decide) ?_
  refine wc_if_neB X 4 9 dX10_leftOut_4 (by decide) (fun c4_1 => ?_) (fun c4_1 => ?_)
  ·
    refine wc_iload_n X 9 2 dX10_leftOut_9 rfl ?_
    refine wc_callS X 10 [] (c_X10_isPlace l G (nI k) ) ys_X10_isPlace rfl q_530 ⟨rfl, rfl⟩ ⟨rfl, rfl⟩ ⟨rfl, rfl⟩ rfl rfl rfl dX10_leftOut_10 ?_
    refine wc_topi (b2i true) (congrArg b2i (mode_in hk (by decide))) ?_
    refine wc_if_neB X 13 19 dX10_leftOut_13 (by decide) (fun c13_2 => ?_) (fun c13_2 => ?_)
    ·
      refine wc_aload_n X 19 0 dX10_leftOut_19 rfl ?_
      refine wc_get X 20 0 12 kd10 rfl (by decide) q_245 rfl dX10_leftOut_20 ?_
      refine wc_aload_n X 23 0 dX10_leftOut_23 rfl ?_
      refine wc_get X 24 0 10 kd10 rfl (by decide) q_243 rfl dX10_leftOut_24 ?_
      refine wc_aload_n X 27 0 dX10_leftOut_27 rfl ?_
      refine wc_get X 28 0 1 kd10 rfl (by decide) q_234 rfl dX10_leftOut_28 ?_
      refine wc_iload_n X 31 1 dX10_leftOut_31 rfl ?_
      refine wc_callV X 32 [1] 1 (c_X1_of0 l G xn na nb ) yv_X1_of kd1 rfl rfl q_403 ⟨rfl, rfl⟩ ⟨rfl, rfl⟩ ⟨rfl, rfl⟩ rfl rfl rfl dX10_leftOut_32 ?_
      refine wc_aload_n X 35 0 dX10_leftOut_35 rfl ?_
      refine wc_get X 36 0 11 kd10 rfl (by decide) q_244 rfl dX10_leftOut_36 ?_
      refine wc_mutV X Y 39 [10, 11, 12, 6, 7, 2, 3, 8, 9] [0, 1, 4, 5] 10 (c_X2_spell l G xg xgc xgr gq gc gr xe xel 1 1 evG na nla (p 0) (p 2) (gz p) xp xpl pn pb pg (by decide) hev (by omega) hg0w) yv_X2_spell kd2 rfl rfl (wr := [ob x 10 [.ref xt, .ref xn, .ref xr, .ref xa, .ref xs, .ref xf, .ref xw, .ref xi, .int (nI sn), .long sd, .ref xe, .ref xp, .ref xg, .ref xl, .ref xk, .ref xh, .ref xv], ob xn 1 [.ref na, .ref nb], ob nb 6 [.int (nI (p 1)), .int (nI (p 3)), .ref nlb], aI G nlb 10 (nF (go p))]) rfl ⟨rfl, rfl, rfl⟩ q_533 ⟨rfl, rfl⟩ ⟨rfl, rfl⟩ ⟨rfl, rfl⟩ rfl rfl rfl dX10_leftOut_39 (fun v w hp_3 => ?_)
      obtain ⟨cb2_4, rw2_5, n2_6, len2_7, gg2_8, rfl, rfl, hf1, hf2⟩ := hp_3
      refine wc_perm Y [0, 1, 9, 10, 2, 3, 7, 8, 11, 12, 4, 5, 6] [ob x 10 [.ref xt, .ref xn, .ref xr, .ref xa, .ref xs, .ref xf, .ref xw, .ref xi, .int (nI sn), .long sd, .ref xe, .ref xp, .ref xg, .ref xl, .ref xk, .ref xh, .ref xv], ob xn 1 [.ref na, .ref nb], ob na 6 [.int (nI (p 0)), .int (nI (p 2)), .ref nla], aI G nla 10 (nF (gz p)), ob nb 6 [.int (nI (p 1)), .int (nI (p 3)), .ref nlb], aI G nlb 10 (nF (go p)), ob xe 6 [.int (nI 1), .int (nI 1), .ref xel], aI G xel 10 (nF evG), ob xp 8 [.int (b2i ((leastW evG 1 1 (gz p) (p 0) (p 2) 0).isSome)), .int (nI len2_7), .ref xpl], aI G xpl 200 (nF gg2_8), ob xg 2 [.ref xgc, .ref xgr, .int (nI n2_6)], aI G xgc 512 cb2_4, aI G xgr 512 (nF rw2_5)] rfl rfl ?_
      show Wc Γ 0 0 42 [(0, .ref x), (1, .int (nI 0)), (2, .int (nI k))] [] [ob x 10 [.ref xt, .ref xn, .ref xr, .ref xa, .ref xs, .ref xf, .ref xw, .ref xi, .int (nI sn), .long sd, .ref xe, .ref xp, .ref xg, .ref xl, .ref xk, .ref xh, .ref xv], ob xn 1 [.ref na, .ref nb], ob na 6 [.int (nI (p 0)), .int (nI (p 2)), .ref nla], aI G nla 10 (nF (gz p)), ob nb 6 [.int (nI (p 1)), .int (nI (p 3)), .ref nlb], aI G nlb 10 (nF (go p)), ob xe 6 [.int (nI 1), .int (nI 1), .ref xel], aI G xel 10 (nF evG), ob xp 8 [.int (b2i ((leastW evG 1 1 (gz p) (p 0) (p 2) 0).isSome)), .int (nI len2_7), .ref xpl], aI G xpl 200 (nF gg2_8), ob xg 2 [.ref xgc, .ref xgr, .int (nI n2_6)], aI G xgc 512 cb2_4, aI G xgr 512 (nF rw2_5)]
      refine wc_aload_n X 42 0 dX10_leftOut_42 rfl ?_
      refine wc_get X 43 0 11 kd10 rfl (by decide) q_244 rfl dX10_leftOut_43 ?_
      refine wc_iload_n X 46 2 dX10_leftOut_46 rfl ?_
      refine wc_callV X 47 [8, 9] 8 (c_X8_tell l G xp xpl len2_7 ((leastW evG 1 1 (gz p) (p 0) (p 2) 0).isSome) gg2_8 k (by first | assumption | omega) (by first | assumption | omega)) yv_X8_tell kd8 rfl rfl q_556 ⟨rfl, rfl⟩ ⟨rfl, rfl⟩ ⟨rfl, rfl⟩ rfl rfl rfl dX10_leftOut_47 ?_
      exact ret 50 _ (spTell ((leastW evG 1 1 (gz p) (p 0) (p 2) 0).isSome) len2_7 gg2_8 k) _ dX10_leftOut_50 (⟨_, _, _, _, _, _, by rw [tell_sp hf1, ev_left0], rfl⟩)
    ·
      exact absurd c13_2 (by decide)
  ·
    exact absurd c4_1 (by decide)

set_option maxHeartbeats 4000000 in
set_option maxRecDepth 100000 in
theorem c_X10_leftOut1 (l : Launch) (G : GG) (x xt xn xr xa xs xf xw xi sn : Nat) (sd : Int64) (xe xp xg xl xk xh xv : Nat) (na nla nb nlb : Nat) (p : Nat → Nat) (xel : Nat) (xpl pn : Nat) (pb : Bool) (pg : Nat → Nat) (xgc xgr gq : Nat) (gc : Nat → Int32) (gr : Nat → Nat) (k : Nat) (hr : pgOk p) (hk : k ≤ 200) : MM l G yX10_leftOut (Cond.code yX10_leftOut cX10_leftOut 3 (some .int)) { frames := 3, cells := 0, slots := 0, locals := 75 } [.ref x, .int (nI 1), .int (nI k)] [ob x 10 [.ref xt, .ref xn, .ref xr, .ref xa, .ref xs, .ref xf, .ref xw, .ref xi, .int (nI sn), .long sd, .ref xe, .ref xp, .ref xg, .ref xl, .ref xk, .ref xh, .ref xv], ob xn 1 [.ref na, .ref nb], ob na 6 [.int (nI (p 0)), .int (nI (p 2)), .ref nla], aI G nla 10 (nF (gz p)), ob nb 6 [.int (nI (p 1)), .int (nI (p 3)), .ref nlb], aI G nlb 10 (nF (go p)), ob xe 6 [.int (nI 1), .int (nI 1), .ref xel], aI G xel 10 (nF evG), ob xp 8 [.int (b2i pb), .int (nI pn), .ref xpl], aI G xpl 200 (nF pg), ob xg 2 [.ref xgc, .ref xgr, .int (nI gq)], aI G xgc 512 gc, aI G xgr 512 (nF gr)] (fun (v : Option Value) (w : va_W) => ∃ (gq2 : Nat) (gc2 : Nat → Int32) (gr2 : Nat → Nat) (pn2 : Nat) (pb2 : Bool) (pg2 : Nat → Nat), v = some (.int (tellW (leastW (gz p) (p 0) (p 2) (go p) (p 1) (p 3) 2) k)) ∧ w = [ob x 10 [.ref xt, .ref xn, .ref xr, .ref xa, .ref xs, .ref xf, .ref xw, .ref xi, .int (nI sn), .long sd, .ref xe, .ref xp, .ref xg, .ref xl, .ref xk, .ref xh, .ref xv], ob xn 1 [.ref na, .ref nb], ob na 6 [.int (nI (p 0)), .int (nI (p 2)), .ref nla], aI G nla 10 (nF (gz p)), ob nb 6 [.int (nI (p 1)), .int (nI (p 3)), .ref nlb], aI G nlb 10 (nF (go p)), ob xe 6 [.int (nI 1), .int (nI 1), .ref xel], aI G xel 10 (nF evG), ob xp 8 [.int (b2i pb2), .int (nI pn2), .ref xpl], aI G xpl 200 (nF pg2), ob xg 2 [.ref xgc, .ref xgr, .int (nI gq2)], aI G xgc 512 gc2, aI G xgr 512 (nF gr2)]) 0 0 := by
  refine MM.ofI (by decide) rfl (fun Γ X Y hnm ret => ?_)
  show Wc Γ 0 0 0 [(0, .ref x), (1, .int (nI 1)), (2, .int (nI k))] [] [ob x 10 [.ref xt, .ref xn, .ref xr, .ref xa, .ref xs, .ref xf, .ref xw, .ref xi, .int (nI sn), .long sd, .ref xe, .ref xp, .ref xg, .ref xl, .ref xk, .ref xh, .ref xv], ob xn 1 [.ref na, .ref nb], ob na 6 [.int (nI (p 0)), .int (nI (p 2)), .ref nla], aI G nla 10 (nF (gz p)), ob nb 6 [.int (nI (p 1)), .int (nI (p 3)), .ref nlb], aI G nlb 10 (nF (go p)), ob xe 6 [.int (nI 1), .int (nI 1), .ref xel], aI G xel 10 (nF evG), ob xp 8 [.int (b2i pb), .int (nI pn), .ref xpl], aI G xpl 200 (nF pg), ob xg 2 [.ref xgc, .ref xgr, .int (nI gq)], aI G xgc 512 gc, aI G xgr 512 (nF gr)]
  have hn0 := hr.2.1
  have hn01 := hr.1
  have hn1 := hr.2.2.2.1
  have hn11 := hr.2.2.1
  have he0 := pg_e0 hr
  have he1 := hr.2.2.2.2.1 3
  have hg0 := hr.2.2.2.2.2.1
  have hg1 := (fun j => hr.2.2.2.2.1 (12 + j) : ∀ j, go p j < 32)
  have hg0n := (hr.2.2.2.2.2.2.1 0 (by decide) : ∀ j, gz p j < 2 ^ p 0)
  have hg1n := (hr.2.2.2.2.2.2.1 1 (by decide) : ∀ j, go p j < 2 ^ p 1)
  have he0n := hr.2.2.2.2.2.2.2 0 (by decide)
  have he1n := hr.2.2.2.2.2.2.2 1 (by decide)
  have hg0w := (fun j => Nat.lt_trans (hg0 j) (by decide) : ∀ j, gz p j < 32)
  have hev : ∀ j, evG j < 16 := fun j => by unfold evG; split <;> decide
  refine wc_iload_n X 0 1 dX10_leftOut_0 rfl ?_
  refine wc_callS X 1 [] (c_X10_isMachine l G (nI 1) ) ys_X10_isMachine rfl q_400 ⟨rfl, rfl⟩ ⟨rfl, rfl⟩ ⟨rfl, rfl⟩ rfl rfl rfl dX10_leftOut_1 ?_
  refine wc_topi (b2i true) (by decide) ?_
  refine wc_if_neB X 4 9 dX10_leftOut_4 (by decide) (fun c4_1 => ?_) (fun c4_1 => ?_)
  ·
    refine wc_iload_n X 9 2 dX10_leftOut_9 rfl ?_
    refine wc_callS X 10 [] (c_X10_isPlace l G (nI k) ) ys_X10_isPlace rfl q_530 ⟨rfl, rfl⟩ ⟨rfl, rfl⟩ ⟨rfl, rfl⟩ rfl rfl rfl dX10_leftOut_10 ?_
    refine wc_topi (b2i true) (congrArg b2i (mode_in hk (by decide))) ?_
    refine wc_if_neB X 13 19 dX10_leftOut_13 (by decide) (fun c13_2 => ?_) (fun c13_2 => ?_)
    ·
      refine wc_aload_n X 19 0 dX10_leftOut_19 rfl ?_
      refine wc_get X 20 0 12 kd10 rfl (by decide) q_245 rfl dX10_leftOut_20 ?_
      refine wc_aload_n X 23 0 dX10_leftOut_23 rfl ?_
      refine wc_get X 24 0 10 kd10 rfl (by decide) q_243 rfl dX10_leftOut_24 ?_
      refine wc_aload_n X 27 0 dX10_leftOut_27 rfl ?_
      refine wc_get X 28 0 1 kd10 rfl (by decide) q_234 rfl dX10_leftOut_28 ?_
      refine wc_iload_n X 31 1 dX10_leftOut_31 rfl ?_
      refine wc_callV X 32 [1] 1 (c_X1_of1 l G xn na nb (nI 1) (by decide)) yv_X1_of kd1 rfl rfl q_403 ⟨rfl, rfl⟩ ⟨rfl, rfl⟩ ⟨rfl, rfl⟩ rfl rfl rfl dX10_leftOut_32 ?_
      refine wc_aload_n X 35 0 dX10_leftOut_35 rfl ?_
      refine wc_get X 36 0 11 kd10 rfl (by decide) q_244 rfl dX10_leftOut_36 ?_
      refine wc_mutV X Y 39 [10, 11, 12, 6, 7, 4, 5, 8, 9] [0, 1, 2, 3] 10 (c_X2_spell l G xg xgc xgr gq gc gr xe xel 1 1 evG nb nlb (p 1) (p 3) (go p) xp xpl pn pb pg (by decide) hev (by omega) hg1) yv_X2_spell kd2 rfl rfl (wr := [ob x 10 [.ref xt, .ref xn, .ref xr, .ref xa, .ref xs, .ref xf, .ref xw, .ref xi, .int (nI sn), .long sd, .ref xe, .ref xp, .ref xg, .ref xl, .ref xk, .ref xh, .ref xv], ob xn 1 [.ref na, .ref nb], ob na 6 [.int (nI (p 0)), .int (nI (p 2)), .ref nla], aI G nla 10 (nF (gz p))]) rfl ⟨rfl, rfl, rfl⟩ q_533 ⟨rfl, rfl⟩ ⟨rfl, rfl⟩ ⟨rfl, rfl⟩ rfl rfl rfl dX10_leftOut_39 (fun v w hp_3 => ?_)
      obtain ⟨cb2_4, rw2_5, n2_6, len2_7, gg2_8, rfl, rfl, hf1, hf2⟩ := hp_3
      refine wc_perm Y [0, 1, 2, 3, 9, 10, 7, 8, 11, 12, 4, 5, 6] [ob x 10 [.ref xt, .ref xn, .ref xr, .ref xa, .ref xs, .ref xf, .ref xw, .ref xi, .int (nI sn), .long sd, .ref xe, .ref xp, .ref xg, .ref xl, .ref xk, .ref xh, .ref xv], ob xn 1 [.ref na, .ref nb], ob na 6 [.int (nI (p 0)), .int (nI (p 2)), .ref nla], aI G nla 10 (nF (gz p)), ob nb 6 [.int (nI (p 1)), .int (nI (p 3)), .ref nlb], aI G nlb 10 (nF (go p)), ob xe 6 [.int (nI 1), .int (nI 1), .ref xel], aI G xel 10 (nF evG), ob xp 8 [.int (b2i ((leastW evG 1 1 (go p) (p 1) (p 3) 0).isSome)), .int (nI len2_7), .ref xpl], aI G xpl 200 (nF gg2_8), ob xg 2 [.ref xgc, .ref xgr, .int (nI n2_6)], aI G xgc 512 cb2_4, aI G xgr 512 (nF rw2_5)] rfl rfl ?_
      show Wc Γ 0 0 42 [(0, .ref x), (1, .int (nI 1)), (2, .int (nI k))] [] [ob x 10 [.ref xt, .ref xn, .ref xr, .ref xa, .ref xs, .ref xf, .ref xw, .ref xi, .int (nI sn), .long sd, .ref xe, .ref xp, .ref xg, .ref xl, .ref xk, .ref xh, .ref xv], ob xn 1 [.ref na, .ref nb], ob na 6 [.int (nI (p 0)), .int (nI (p 2)), .ref nla], aI G nla 10 (nF (gz p)), ob nb 6 [.int (nI (p 1)), .int (nI (p 3)), .ref nlb], aI G nlb 10 (nF (go p)), ob xe 6 [.int (nI 1), .int (nI 1), .ref xel], aI G xel 10 (nF evG), ob xp 8 [.int (b2i ((leastW evG 1 1 (go p) (p 1) (p 3) 0).isSome)), .int (nI len2_7), .ref xpl], aI G xpl 200 (nF gg2_8), ob xg 2 [.ref xgc, .ref xgr, .int (nI n2_6)], aI G xgc 512 cb2_4, aI G xgr 512 (nF rw2_5)]
      refine wc_aload_n X 42 0 dX10_leftOut_42 rfl ?_
      refine wc_get X 43 0 11 kd10 rfl (by decide) q_244 rfl dX10_leftOut_43 ?_
      refine wc_iload_n X 46 2 dX10_leftOut_46 rfl ?_
      refine wc_callV X 47 [8, 9] 8 (c_X8_tell l G xp xpl len2_7 ((leastW evG 1 1 (go p) (p 1) (p 3) 0).isSome) gg2_8 k (by first | assumption | omega) (by first | assumption | omega)) yv_X8_tell kd8 rfl rfl q_556 ⟨rfl, rfl⟩ ⟨rfl, rfl⟩ ⟨rfl, rfl⟩ rfl rfl rfl dX10_leftOut_47 ?_
      exact ret 50 _ (spTell ((leastW evG 1 1 (go p) (p 1) (p 3) 0).isSome) len2_7 gg2_8 k) _ dX10_leftOut_50 (⟨_, _, _, _, _, _, by rw [tell_sp hf1, ev_left1], rfl⟩)
    ·
      exact absurd c13_2 (by decide)
  ·
    exact absurd c4_1 (by decide)

set_option maxHeartbeats 4000000 in
set_option maxRecDepth 100000 in
theorem c_X10_followsF (l : Launch) (G : GG) (x xt xn xr xa xs xf xw xi sn : Nat) (sd : Int64) (xe xp xg xl xk xh xv : Nat) (na nla nb nlb : Nat) (p : Nat → Nat) (m i mm j : Int32) (hb : (stOf (p 0) (p 1) m i && stOf (p 0) (p 1) mm j) = false) : RM l G yX10_follows (Cond.code yX10_follows cX10_follows 5 (some .int)) { frames := 2, cells := 0, slots := 0, locals := 43 } [.ref x, .int m, .int i, .int mm, .int j] [ob x 10 [.ref xt, .ref xn, .ref xr, .ref xa, .ref xs, .ref xf, .ref xw, .ref xi, .int (nI sn), .long sd, .ref xe, .ref xp, .ref xg, .ref xl, .ref xk, .ref xh, .ref xv], ob xn 1 [.ref na, .ref nb], ob na 6 [.int (nI (p 0)), .int (nI (p 2)), .ref nla], aI G nla 10 (nF (gz p)), ob nb 6 [.int (nI (p 1)), .int (nI (p 3)), .ref nlb], aI G nlb 10 (nF (go p))] (.int (-1)) := by
  refine RM.ofI (by decide) rfl (fun Γ X ret => ?_)
  show Wc Γ 0 0 0 [(0, .ref x), (1, .int m), (2, .int i), (3, .int mm), (4, .int j)] [] [ob x 10 [.ref xt, .ref xn, .ref xr, .ref xa, .ref xs, .ref xf, .ref xw, .ref xi, .int (nI sn), .long sd, .ref xe, .ref xp, .ref xg, .ref xl, .ref xk, .ref xh, .ref xv], ob xn 1 [.ref na, .ref nb], ob na 6 [.int (nI (p 0)), .int (nI (p 2)), .ref nla], aI G nla 10 (nF (gz p)), ob nb 6 [.int (nI (p 1)), .int (nI (p 3)), .ref nlb], aI G nlb 10 (nF (go p))]
  refine wc_aload_n X 0 0 dX10_follows_0 rfl ?_
  refine wc_get X 1 0 1 kd10 rfl (by decide) q_234 rfl dX10_follows_1 ?_
  refine wc_iload_n X 4 1 dX10_follows_4 rfl ?_
  refine wc_iload_n X 5 2 dX10_follows_5 rfl ?_
  refine wc_callS X 6 [1, 2, 4] (c_X10_isStateOf l G xn na nla (p 0) (p 2) nb nlb (p 1) (p 3) m i ) ys_X10_isStateOf rfl q_397 ⟨rfl, rfl⟩ ⟨rfl, rfl⟩ ⟨rfl, rfl⟩ rfl rfl rfl dX10_follows_6 ?_
  refine wc_if_eqB X 9 25 dX10_follows_9 (by decide) (fun c9_1 => ?_) (fun c9_1 => ?_)
  ·
    refine wc_iconst X 25 (-1) dX10_follows_25 (by decide) ?_
    exact ret 26 _ (-1) dX10_follows_26 (rfl)
  ·
    refine wc_aload_n X 12 0 dX10_follows_12 rfl ?_
    refine wc_get X 13 0 1 kd10 rfl (by decide) q_234 rfl dX10_follows_13 ?_
    refine wc_iload_n X 16 3 dX10_follows_16 rfl ?_
    refine wc_iload X 17 4 dX10_follows_17 rfl ?_
    refine wc_callS X 19 [1, 2, 4] (c_X10_isStateOf l G xn na nla (p 0) (p 2) nb nlb (p 1) (p 3) mm j ) ys_X10_isStateOf rfl q_397 ⟨rfl, rfl⟩ ⟨rfl, rfl⟩ ⟨rfl, rfl⟩ rfl rfl rfl dX10_follows_19 ?_
    refine wc_if_neB X 22 27 dX10_follows_22 (by decide) (fun c22_2 => ?_) (fun c22_2 => ?_)
    ·
      exact absurd hb (by rw [c9_1, c22_2]; decide)
    ·
      refine wc_iconst X 25 (-1) dX10_follows_25 (by decide) ?_
      exact ret 26 _ (-1) dX10_follows_26 (rfl)

set_option maxHeartbeats 4000000 in
set_option maxRecDepth 100000 in
theorem c_X10_followsS (l : Launch) (G : GG) (x xt xn xr xa xs xf xw xi sn : Nat) (sd : Int64) (xe xp xg xl xk xh xv : Nat) (na nla nb nlb : Nat) (p : Nat → Nat) (xkf xkl : Nat) (kf kl : Nat → Nat) (m i mm j : Nat) (hr : pgOk p) (hm : m < 2) (hi : i < p m) (hmm : mm < 2) (hj : j < p mm) : MM l G yX10_follows (Cond.code yX10_follows cX10_follows 5 (some .int)) { frames := 3, cells := 0, slots := 0, locals := 74 } [.ref x, .int (nI m), .int (nI i), .int (nI mm), .int (nI j)] [ob x 10 [.ref xt, .ref xn, .ref xr, .ref xa, .ref xs, .ref xf, .ref xw, .ref xi, .int (nI sn), .long sd, .ref xe, .ref xp, .ref xg, .ref xl, .ref xk, .ref xh, .ref xv], ob xn 1 [.ref na, .ref nb], ob na 6 [.int (nI (p 0)), .int (nI (p 2)), .ref nla], aI G nla 10 (nF (gz p)), ob nb 6 [.int (nI (p 1)), .int (nI (p 3)), .ref nlb], aI G nlb 10 (nF (go p)), ob xk 5 [.ref xkf, .ref xkl], aI G xkf 9 (nF kf), aI G xkl 18 (nF kl)] (fun (v : Option Value) (w : va_W) => ∃ (kf2 kl2 : Nat → Nat), v = some (.int (nI ((folB (gz p) (p 0) (p 2) (go p) (p 1) (p 3) (4 * m + i) (4 * mm + j)).toNat))) ∧ w = [ob x 10 [.ref xt, .ref xn, .ref xr, .ref xa, .ref xs, .ref xf, .ref xw, .ref xi, .int (nI sn), .long sd, .ref xe, .ref xp, .ref xg, .ref xl, .ref xk, .ref xh, .ref xv], ob xn 1 [.ref na, .ref nb], ob na 6 [.int (nI (p 0)), .int (nI (p 2)), .ref nla], aI G nla 10 (nF (gz p)), ob nb 6 [.int (nI (p 1)), .int (nI (p 3)), .ref nlb], aI G nlb 10 (nF (go p)), ob xk 5 [.ref xkf, .ref xkl], aI G xkf 9 (nF kf2), aI G xkl 18 (nF kl2)]) 0 0 := by
  refine MM.ofI (by decide) rfl (fun Γ X Y hnm ret => ?_)
  show Wc Γ 0 0 0 [(0, .ref x), (1, .int (nI m)), (2, .int (nI i)), (3, .int (nI mm)), (4, .int (nI j))] [] [ob x 10 [.ref xt, .ref xn, .ref xr, .ref xa, .ref xs, .ref xf, .ref xw, .ref xi, .int (nI sn), .long sd, .ref xe, .ref xp, .ref xg, .ref xl, .ref xk, .ref xh, .ref xv], ob xn 1 [.ref na, .ref nb], ob na 6 [.int (nI (p 0)), .int (nI (p 2)), .ref nla], aI G nla 10 (nF (gz p)), ob nb 6 [.int (nI (p 1)), .int (nI (p 3)), .ref nlb], aI G nlb 10 (nF (go p)), ob xk 5 [.ref xkf, .ref xkl], aI G xkf 9 (nF kf), aI G xkl 18 (nF kl)]
  have hn0 := hr.2.1
  have hn01 := hr.1
  have hn1 := hr.2.2.2.1
  have hn11 := hr.2.2.1
  have he0 := pg_e0 hr
  have he1 := hr.2.2.2.2.1 3
  have hg0 := hr.2.2.2.2.2.1
  have hg1 := (fun j => hr.2.2.2.2.1 (12 + j) : ∀ j, go p j < 32)
  have hg0n := (hr.2.2.2.2.2.2.1 0 (by decide) : ∀ j, gz p j < 2 ^ p 0)
  have hg1n := (hr.2.2.2.2.2.2.1 1 (by decide) : ∀ j, go p j < 2 ^ p 1)
  have he0n := hr.2.2.2.2.2.2.2 0 (by decide)
  have he1n := hr.2.2.2.2.2.2.2 1 (by decide)
  have hg0w := (fun j => Nat.lt_trans (hg0 j) (by decide) : ∀ j, gz p j < 32)
  have hi5 : i < 5 := by have := pgOk_m hr hm; omega
  have hj5 : j < 5 := by have := pgOk_m hr hmm; omega
  refine wc_aload_n X 0 0 dX10_follows_0 rfl ?_
  refine wc_get X 1 0 1 kd10 rfl (by decide) q_234 rfl dX10_follows_1 ?_
  refine wc_iload_n X 4 1 dX10_follows_4 rfl ?_
  refine wc_iload_n X 5 2 dX10_follows_5 rfl ?_
  refine wc_callS X 6 [1, 2, 4] (c_X10_isStateOf l G xn na nla (p 0) (p 2) nb nlb (p 1) (p 3) (nI m) (nI i) ) ys_X10_isStateOf rfl q_397 ⟨rfl, rfl⟩ ⟨rfl, rfl⟩ ⟨rfl, rfl⟩ rfl rfl rfl dX10_follows_6 ?_
  refine wc_topi (b2i true) (congrArg b2i (stO_p hr hm hi)) ?_
  refine wc_if_eqB X 9 25 dX10_follows_9 (by decide) (fun c9_1 => ?_) (fun c9_1 => ?_)
  ·
    exact absurd c9_1 (by decide)
  ·
    refine wc_aload_n X 12 0 dX10_follows_12 rfl ?_
    refine wc_get X 13 0 1 kd10 rfl (by decide) q_234 rfl dX10_follows_13 ?_
    refine wc_iload_n X 16 3 dX10_follows_16 rfl ?_
    refine wc_iload X 17 4 dX10_follows_17 rfl ?_
    refine wc_callS X 19 [1, 2, 4] (c_X10_isStateOf l G xn na nla (p 0) (p 2) nb nlb (p 1) (p 3) (nI mm) (nI j) ) ys_X10_isStateOf rfl q_397 ⟨rfl, rfl⟩ ⟨rfl, rfl⟩ ⟨rfl, rfl⟩ rfl rfl rfl dX10_follows_19 ?_
    refine wc_topi (b2i true) (congrArg b2i (stO_p hr hmm hj)) ?_
    refine wc_if_neB X 22 27 dX10_follows_22 (by decide) (fun c22_2 => ?_) (fun c22_2 => ?_)
    ·
      refine wc_aload_n X 27 0 dX10_follows_27 rfl ?_
      refine wc_get X 28 0 14 kd10 rfl (by decide) q_247 rfl dX10_follows_28 ?_
      refine wc_aload_n X 31 0 dX10_follows_31 rfl ?_
      refine wc_get X 32 0 1 kd10 rfl (by decide) q_234 rfl dX10_follows_32 ?_
      refine wc_mutV X Y 35 [6, 7, 8, 1, 2, 3, 4, 5] [0] 6 (c_X5_work l G xk xkf xkl kf kl xn na nla (p 0) (p 2) (gz p) nb nlb (p 1) (p 3) (go p) (by first | assumption | omega) (by first | assumption | omega) (by first | assumption | omega) (by first | assumption | omega) (by first | assumption | omega) (by first | assumption | omega) (by first | assumption | omega) (by first | assumption | omega)) yv_X5_work kd5 rfl rfl (wr := [ob x 10 [.ref xt, .ref xn, .ref xr, .ref xa, .ref xs, .ref xf, .ref xw, .ref xi, .int (nI sn), .long sd, .ref xe, .ref xp, .ref xg, .ref xl, .ref xk, .ref xh, .ref xv]]) rfl ⟨rfl, rfl, rfl⟩ q_568 ⟨rfl, rfl⟩ ⟨rfl, rfl⟩ ⟨rfl, rfl⟩ rfl rfl rfl dX10_follows_35 (fun v w hp_3 => ?_)
      obtain ⟨f2_4, l2_5, rfl, rfl, hwk⟩ := hp_3
      refine wc_perm Y [0, 4, 5, 6, 7, 8, 1, 2, 3] [ob x 10 [.ref xt, .ref xn, .ref xr, .ref xa, .ref xs, .ref xf, .ref xw, .ref xi, .int (nI sn), .long sd, .ref xe, .ref xp, .ref xg, .ref xl, .ref xk, .ref xh, .ref xv], ob xn 1 [.ref na, .ref nb], ob na 6 [.int (nI (p 0)), .int (nI (p 2)), .ref nla], aI G nla 10 (nF (gz p)), ob nb 6 [.int (nI (p 1)), .int (nI (p 3)), .ref nlb], aI G nlb 10 (nF (go p)), ob xk 5 [.ref xkf, .ref xkl], aI G xkf 9 (nF f2_4), aI G xkl 18 (nF l2_5)] rfl rfl ?_
      show Wc Γ 0 0 38 [(0, .ref x), (1, .int (nI m)), (2, .int (nI i)), (3, .int (nI mm)), (4, .int (nI j))] [] [ob x 10 [.ref xt, .ref xn, .ref xr, .ref xa, .ref xs, .ref xf, .ref xw, .ref xi, .int (nI sn), .long sd, .ref xe, .ref xp, .ref xg, .ref xl, .ref xk, .ref xh, .ref xv], ob xn 1 [.ref na, .ref nb], ob na 6 [.int (nI (p 0)), .int (nI (p 2)), .ref nla], aI G nla 10 (nF (gz p)), ob nb 6 [.int (nI (p 1)), .int (nI (p 3)), .ref nlb], aI G nlb 10 (nF (go p)), ob xk 5 [.ref xkf, .ref xkl], aI G xkf 9 (nF f2_4), aI G xkl 18 (nF l2_5)]
      refine wc_aload_n X 38 0 dX10_follows_38 rfl ?_
      refine wc_get X 39 0 14 kd10 rfl (by decide) q_247 rfl dX10_follows_39 ?_
      refine wc_iload_n X 42 1 dX10_follows_42 rfl ?_
      refine wc_iload_n X 43 2 dX10_follows_43 rfl ?_
      refine wc_iload_n X 44 3 dX10_follows_44 rfl ?_
      refine wc_iconstN X 45 1 dX10_follows_45 ?_
      refine wc_iload X 46 4 dX10_follows_46 rfl ?_
      refine wc_shl1 X 48 dX10_follows_48 (by omega) ?_
      refine wc_callV X 49 [6, 7, 8] 6 (c_X5_holds l G xk xkf xkl f2_4 l2_5 m i mm (2 ^ j) (by first | assumption | omega) hi5 (fun e => pg_lt4 hr hi e) hmm (Nat.lt_of_lt_of_le (Nat.pow_lt_pow_right (by decide) hj5) (by decide : 2 ^ 5 ≤ 32))) yv_X5_holds kd5 rfl rfl q_588 ⟨rfl, rfl⟩ ⟨rfl, rfl⟩ ⟨rfl, rfl⟩ rfl rfl rfl dX10_follows_49 ?_
      refine wc_topi (b2i (folB (gz p) (p 0) (p 2) (go p) (p 1) (p 3) (4 * m + i) (4 * mm + j))) (congrArg b2i (hk_gen hwk hm hmm hi5 (fun e => pg_lt4 hr hi e) hj5 (fun e => pg_lt4 hr hj e))) ?_
      refine wc_callS X 52 [] (c_X10_bit l G (folB (gz p) (p 0) (p 2) (go p) (p 1) (p 3) (4 * m + i) (4 * mm + j)) ) ys_X10_bit rfl q_410 ⟨rfl, rfl⟩ ⟨rfl, rfl⟩ ⟨rfl, rfl⟩ rfl rfl rfl dX10_follows_52 ?_
      exact ret 55 _ (nI ((folB (gz p) (p 0) (p 2) (go p) (p 1) (p 3) (4 * m + i) (4 * mm + j)).toNat)) _ dX10_follows_55 (⟨_, _, rfl, rfl⟩)
    ·
      exact absurd c22_2 (by decide)

set_option maxHeartbeats 4000000 in
set_option maxRecDepth 100000 in
theorem c_X10_searchF (l : Launch) (G : GG) (x xt xn xr xa xs xf xw xi sn : Nat) (sd : Int64) (xe xp xg xl xk xh xv : Nat) (md k : Int32) (ho : outR md 0 2 ∨ outR k 0 4) : RM l G yX10_search (Cond.code yX10_search cX10_search 3 (some .int)) { frames := 1, cells := 0, slots := 0, locals := 20 } [.ref x, .int md, .int k] [ob x 10 [.ref xt, .ref xn, .ref xr, .ref xa, .ref xs, .ref xf, .ref xw, .ref xi, .int (nI sn), .long sd, .ref xe, .ref xp, .ref xg, .ref xl, .ref xk, .ref xh, .ref xv]] (.int (-2)) := by
  refine RM.ofI (by decide) rfl (fun Γ X ret => ?_)
  show Wc Γ 0 0 0 [(0, .ref x), (1, .int md), (2, .int k)] [] [ob x 10 [.ref xt, .ref xn, .ref xr, .ref xa, .ref xs, .ref xf, .ref xw, .ref xi, .int (nI sn), .long sd, .ref xe, .ref xp, .ref xg, .ref xl, .ref xk, .ref xh, .ref xv]]
  refine wc_iload_n X 0 1 dX10_search_0 rfl ?_
  refine wc_callS X 1 [] (c_X10_isMode l G md ) ys_X10_isMode rfl q_596 ⟨rfl, rfl⟩ ⟨rfl, rfl⟩ ⟨rfl, rfl⟩ rfl rfl rfl dX10_search_1 ?_
  refine wc_if_eqB X 4 16 dX10_search_4 (by decide) (fun c4_1 => ?_) (fun c4_1 => ?_)
  ·
    refine wc_bipush X 16 (-2) dX10_search_16 (by decide) ?_
    exact ret 18 _ (-2) dX10_search_18 (rfl)
  ·
    refine wc_iload_n X 7 2 dX10_search_7 rfl ?_
    refine wc_if_lt X 8 16 dX10_search_8 (by decide) (fun c8_2 => ?_) (fun c8_2 => ?_)
    ·
      refine wc_bipush X 16 (-2) dX10_search_16 (by decide) ?_
      exact ret 18 _ (-2) dX10_search_18 (rfl)
    ·
      refine wc_iload_n X 11 2 dX10_search_11 rfl ?_
      refine wc_iconstN X 12 4 dX10_search_12 ?_
      refine wc_icmp_le X 13 19 dX10_search_13 (by decide) (fun c13_3 => ?_) (fun c13_3 => ?_)
      ·
        rcases ho with ho | ho
        · exact absurd c4_1 (by rw [mode_out ho (by decide)]; decide)
        · exact (out_cls ho (by decide) (by decide) c8_2 c13_3).elim
      ·
        refine wc_bipush X 16 (-2) dX10_search_16 (by decide) ?_
        exact ret 18 _ (-2) dX10_search_18 (rfl)

set_option maxHeartbeats 4000000 in
set_option maxRecDepth 100000 in
theorem c_X10_search0 (l : Launch) (G : GG) (x xt xn xr xa xs xf xw xi sn : Nat) (sd : Int64) (xe xp xg xl xk xh xv : Nat) (na nla nb nlb : Nat) (p : Nat → Nat) (xj xjf xjl : Nat) (jf jl : Nat → Nat) (ha hb hc hd he hm : Nat) (hs : Sr) (md : Nat) (hr : pgOk p) (hmd : md ≤ 2) : MM l G yX10_search (Cond.code yX10_search cX10_search 3 (some .int)) { frames := 6, cells := 0, slots := 0, locals := 147 } [.ref x, .int (nI md), .int (nI 0)] [ob x 10 [.ref xt, .ref xn, .ref xr, .ref xa, .ref xs, .ref xf, .ref xw, .ref xi, .int (nI sn), .long sd, .ref xe, .ref xp, .ref xg, .ref xl, .ref xk, .ref xh, .ref xv], ob xn 1 [.ref na, .ref nb], ob na 6 [.int (nI (p 0)), .int (nI (p 2)), .ref nla], aI G nla 10 (nF (gz p)), ob nb 6 [.int (nI (p 1)), .int (nI (p 3)), .ref nlb], aI G nlb 10 (nF (go p)), ob xh 3 [.int (nI (srN hs)), .int (nI (srT hs)), .int (nI (srA hs)), .int (nI (srD hs)), .int (bI (srB hs)), .int (nI hm), .ref xj, .ref ha, .ref hb, .ref hc, .ref hd, .ref he], aI G ha 128 (nF (srO hs)), aI G hb 128 (nF (srM hs)), aI G hc 128 (srP hs), aI G hd 128 (nF (srL hs)), aZ G he 128 (bF (srG hs)), ob xj 5 [.ref xjf, .ref xjl], aI G xjf 9 (nF jf), aI G xjl 18 (nF jl)] (fun (v : Option Value) (w : va_W) => ∃ (hs2 : Sr) (jf2 jl2 : Nat → Nat), v = some (.int (nI (srV (runS (folB (gz p) (p 0) (p 2) (go p) (p 1) (p 3)) md (p 2) (p 3) (gz p) (go p) (p 1) c0S 128) 0))) ∧ w = [ob x 10 [.ref xt, .ref xn, .ref xr, .ref xa, .ref xs, .ref xf, .ref xw, .ref xi, .int (nI sn), .long sd, .ref xe, .ref xp, .ref xg, .ref xl, .ref xk, .ref xh, .ref xv], ob xn 1 [.ref na, .ref nb], ob na 6 [.int (nI (p 0)), .int (nI (p 2)), .ref nla], aI G nla 10 (nF (gz p)), ob nb 6 [.int (nI (p 1)), .int (nI (p 3)), .ref nlb], aI G nlb 10 (nF (go p)), ob xh 3 [.int (nI (srN hs2)), .int (nI (srT hs2)), .int (nI (srA hs2)), .int (nI (srD hs2)), .int (bI (srB hs2)), .int (nI md), .ref xj, .ref ha, .ref hb, .ref hc, .ref hd, .ref he], aI G ha 128 (nF (srO hs2)), aI G hb 128 (nF (srM hs2)), aI G hc 128 (srP hs2), aI G hd 128 (nF (srL hs2)), aZ G he 128 (bF (srG hs2)), ob xj 5 [.ref xjf, .ref xjl], aI G xjf 9 (nF jf2), aI G xjl 18 (nF jl2)]) 0 0 := by
  refine MM.ofI (by decide) rfl (fun Γ X Y hnm ret => ?_)
  show Wc Γ 0 0 0 [(0, .ref x), (1, .int (nI md)), (2, .int (nI 0))] [] [ob x 10 [.ref xt, .ref xn, .ref xr, .ref xa, .ref xs, .ref xf, .ref xw, .ref xi, .int (nI sn), .long sd, .ref xe, .ref xp, .ref xg, .ref xl, .ref xk, .ref xh, .ref xv], ob xn 1 [.ref na, .ref nb], ob na 6 [.int (nI (p 0)), .int (nI (p 2)), .ref nla], aI G nla 10 (nF (gz p)), ob nb 6 [.int (nI (p 1)), .int (nI (p 3)), .ref nlb], aI G nlb 10 (nF (go p)), ob xh 3 [.int (nI (srN hs)), .int (nI (srT hs)), .int (nI (srA hs)), .int (nI (srD hs)), .int (bI (srB hs)), .int (nI hm), .ref xj, .ref ha, .ref hb, .ref hc, .ref hd, .ref he], aI G ha 128 (nF (srO hs)), aI G hb 128 (nF (srM hs)), aI G hc 128 (srP hs), aI G hd 128 (nF (srL hs)), aZ G he 128 (bF (srG hs)), ob xj 5 [.ref xjf, .ref xjl], aI G xjf 9 (nF jf), aI G xjl 18 (nF jl)]
  have hn0 := hr.2.1
  have hn01 := hr.1
  have hn1 := hr.2.2.2.1
  have hn11 := hr.2.2.1
  have he0 := pg_e0 hr
  have he1 := hr.2.2.2.2.1 3
  have hg0 := hr.2.2.2.2.2.1
  have hg1 := (fun j => hr.2.2.2.2.1 (12 + j) : ∀ j, go p j < 32)
  have hg0n := (hr.2.2.2.2.2.2.1 0 (by decide) : ∀ j, gz p j < 2 ^ p 0)
  have hg1n := (hr.2.2.2.2.2.2.1 1 (by decide) : ∀ j, go p j < 2 ^ p 1)
  have he0n := hr.2.2.2.2.2.2.2 0 (by decide)
  have he1n := hr.2.2.2.2.2.2.2 1 (by decide)
  have hg0w := (fun j => Nat.lt_trans (hg0 j) (by decide) : ∀ j, gz p j < 32)
  have hC := Cvr_fol (e0 := p 2) (e1 := p 3) hn0 hn1 hg0n hg1n
  refine wc_iload_n X 0 1 dX10_search_0 rfl ?_
  refine wc_callS X 1 [] (c_X10_isMode l G (nI md) ) ys_X10_isMode rfl q_596 ⟨rfl, rfl⟩ ⟨rfl, rfl⟩ ⟨rfl, rfl⟩ rfl rfl rfl dX10_search_1 ?_
  refine wc_topi (b2i true) (congrArg b2i (mode_in hmd (by decide))) ?_
  refine wc_if_eqB X 4 16 dX10_search_4 (by decide) (fun c4_1 => ?_) (fun c4_1 => ?_)
  ·
    exact absurd c4_1 (by decide)
  ·
    refine wc_iload_n X 7 2 dX10_search_7 rfl ?_
    refine wc_ifltF X 8 (tgt := 16) dX10_search_8 (by decide) (by decide) ?_
    refine wc_iload_n X 11 2 dX10_search_11 rfl ?_
    refine wc_iconstN X 12 4 dX10_search_12 ?_
    refine wc_icmp_leN X 13 19 dX10_search_13 (by decide) (by decide) (by decide) (fun c13_3 => ?_) (fun c13_3 => ?_)
    ·
      refine wc_aload_n X 19 0 dX10_search_19 rfl ?_
      refine wc_get X 20 0 15 kd10 rfl (by decide) q_248 rfl dX10_search_20 ?_
      refine wc_aload_n X 23 0 dX10_search_23 rfl ?_
      refine wc_get X 24 0 1 kd10 rfl (by decide) q_234 rfl dX10_search_24 ?_
      refine wc_iload_n X 27 1 dX10_search_27 rfl ?_
      refine wc_mutV X Y 28 [6, 7, 8, 9, 10, 11, 12, 13, 14, 1, 2, 3, 4, 5] [0] 6 (c_X3_run l G xh ha hb hc hd he hm md hs xj xjf xjl jf jl (folB (gz p) (p 0) (p 2) (go p) (p 1) (p 3)) xn na nla (p 0) (p 2) (gz p) nb nlb (p 1) (p 3) (go p) (by first | assumption | omega) (by first | assumption | omega) (by first | assumption | omega) (by first | assumption | omega) (by first | assumption | omega) (by first | assumption | omega) (by first | assumption | omega) (by first | assumption | omega) (by first | assumption | omega) (by first | assumption | omega) (by first | assumption | omega) (by first | assumption | omega) (by first | assumption | omega) hC (fun _ _ => rfl)) yv_X3_run kd3 rfl rfl (wr := [ob x 10 [.ref xt, .ref xn, .ref xr, .ref xa, .ref xs, .ref xf, .ref xw, .ref xi, .int (nI sn), .long sd, .ref xe, .ref xp, .ref xg, .ref xl, .ref xk, .ref xh, .ref xv]]) rfl ⟨rfl, rfl, rfl⟩ q_599 ⟨rfl, rfl⟩ ⟨rfl, rfl⟩ ⟨rfl, rfl⟩ rfl rfl rfl dX10_search_28 (fun v w hp_4 => ?_)
      obtain ⟨s9, f2_5, l2_6, rfl, rfl, hs9⟩ := hp_4
      refine wc_perm Y [0, 10, 11, 12, 13, 14, 1, 2, 3, 4, 5, 6, 7, 8, 9] [ob x 10 [.ref xt, .ref xn, .ref xr, .ref xa, .ref xs, .ref xf, .ref xw, .ref xi, .int (nI sn), .long sd, .ref xe, .ref xp, .ref xg, .ref xl, .ref xk, .ref xh, .ref xv], ob xn 1 [.ref na, .ref nb], ob na 6 [.int (nI (p 0)), .int (nI (p 2)), .ref nla], aI G nla 10 (nF (gz p)), ob nb 6 [.int (nI (p 1)), .int (nI (p 3)), .ref nlb], aI G nlb 10 (nF (go p)), ob xh 3 [.int (nI (srN s9)), .int (nI (srT s9)), .int (nI (srA s9)), .int (nI (srD s9)), .int (bI (srB s9)), .int (nI md), .ref xj, .ref ha, .ref hb, .ref hc, .ref hd, .ref he], aI G ha 128 (nF (srO s9)), aI G hb 128 (nF (srM s9)), aI G hc 128 (srP s9), aI G hd 128 (nF (srL s9)), aZ G he 128 (bF (srG s9)), ob xj 5 [.ref xjf, .ref xjl], aI G xjf 9 (nF f2_5), aI G xjl 18 (nF l2_6)] rfl rfl ?_
      show Wc Γ 0 0 31 [(0, .ref x), (1, .int (nI md)), (2, .int (nI 0))] [] [ob x 10 [.ref xt, .ref xn, .ref xr, .ref xa, .ref xs, .ref xf, .ref xw, .ref xi, .int (nI sn), .long sd, .ref xe, .ref xp, .ref xg, .ref xl, .ref xk, .ref xh, .ref xv], ob xn 1 [.ref na, .ref nb], ob na 6 [.int (nI (p 0)), .int (nI (p 2)), .ref nla], aI G nla 10 (nF (gz p)), ob nb 6 [.int (nI (p 1)), .int (nI (p 3)), .ref nlb], aI G nlb 10 (nF (go p)), ob xh 3 [.int (nI (srN s9)), .int (nI (srT s9)), .int (nI (srA s9)), .int (nI (srD s9)), .int (bI (srB s9)), .int (nI md), .ref xj, .ref ha, .ref hb, .ref hc, .ref hd, .ref he], aI G ha 128 (nF (srO s9)), aI G hb 128 (nF (srM s9)), aI G hc 128 (srP s9), aI G hd 128 (nF (srL s9)), aZ G he 128 (bF (srG s9)), ob xj 5 [.ref xjf, .ref xjl], aI G xjf 9 (nF f2_5), aI G xjl 18 (nF l2_6)]
      have hI9 : Inv (folB (gz p) (p 0) (p 2) (go p) (p 1) (p 3)) md (p 0) (p 1) s9 := by rw [hs9]; exact run_inv hC hn01 hn1 hn11 hg0n hg1n rfl rfl 128
      have hN9 := Inv_le hn0 hn1 hI9
      have e9 : Eqv s9 (runS (folB (gz p) (p 0) (p 2) (go p) (p 1) (p 3)) md (p 2) (p 3) (gz p) (go p) (p 1) c0S 128) := by rw [hs9]; exact run_c0
      refine wc_iload_n X 31 2 dX10_search_31 rfl ?_
      refine wc_tsI X 32 64 0 (nI 0) (off := 32) dX10_search_32 rfl (by decide) (by decide) (by decide) (by decide) ?_
      refine wc_aload_n X 64 0 dX10_search_64 rfl ?_
      refine wc_get X 65 0 15 kd10 rfl (by decide) q_248 rfl dX10_search_65 ?_
      refine wc_get X 68 6 4 kd3 rfl (by decide) q_190 rfl dX10_search_68 ?_
      rcases opt_cases (srB s9) with hb9 | ⟨kb, hb9⟩
      ·
        refine wc_if_ge X 71 78 dX10_search_71 (by decide) (fun c71_7 => ?_) (fun c71_7 => ?_)
        ·
          exact absurd c71_7 (by rw [hb9]; decide)
        ·
          refine wc_iconstN X 74 1 dX10_search_74 ?_
          refine wc_goto X 75 79 dX10_search_75 (by decide) ?_
          refine wc_st (st' := [.int (b2i true)]) rfl ?_
          refine wc_callS X 79 [] (c_X10_bit l G true ) ys_X10_bit rfl q_410 ⟨rfl, rfl⟩ ⟨rfl, rfl⟩ ⟨rfl, rfl⟩ rfl rfl rfl dX10_search_79 ?_
          exact ret 82 _ (nI true.toNat) _ dX10_search_82 (⟨_, _, _, by rw [← srV_eqv e9]; unfold srV; rw [hb9]; rfl, rfl⟩)
      ·
        refine wc_topi (nI kb) (by rw [hb9]; rfl) ?_
        have hkb := hI9.2.2.2 kb hb9
        refine wc_ifgeT X 71 78 dX10_search_71 (by decide) (by omega) ?_
        refine wc_iconstN X 78 0 dX10_search_78 ?_
        refine wc_st (st' := [.int (b2i false)]) rfl ?_
        refine wc_callS X 79 [] (c_X10_bit l G false ) ys_X10_bit rfl q_410 ⟨rfl, rfl⟩ ⟨rfl, rfl⟩ ⟨rfl, rfl⟩ rfl rfl rfl dX10_search_79 ?_
        exact ret 82 _ (nI false.toNat) _ dX10_search_82 (⟨_, _, _, by rw [← srV_eqv e9]; unfold srV; rw [hb9]; rfl, rfl⟩)
    ·
      exact absurd c13_3 (by decide)

set_option maxHeartbeats 4000000 in
set_option maxRecDepth 100000 in
theorem c_X10_search1 (l : Launch) (G : GG) (x xt xn xr xa xs xf xw xi sn : Nat) (sd : Int64) (xe xp xg xl xk xh xv : Nat) (na nla nb nlb : Nat) (p : Nat → Nat) (xj xjf xjl : Nat) (jf jl : Nat → Nat) (ha hb hc hd he hm : Nat) (hs : Sr) (md : Nat) (hr : pgOk p) (hmd : md ≤ 2) : MM l G yX10_search (Cond.code yX10_search cX10_search 3 (some .int)) { frames := 6, cells := 0, slots := 0, locals := 147 } [.ref x, .int (nI md), .int (nI 1)] [ob x 10 [.ref xt, .ref xn, .ref xr, .ref xa, .ref xs, .ref xf, .ref xw, .ref xi, .int (nI sn), .long sd, .ref xe, .ref xp, .ref xg, .ref xl, .ref xk, .ref xh, .ref xv], ob xn 1 [.ref na, .ref nb], ob na 6 [.int (nI (p 0)), .int (nI (p 2)), .ref nla], aI G nla 10 (nF (gz p)), ob nb 6 [.int (nI (p 1)), .int (nI (p 3)), .ref nlb], aI G nlb 10 (nF (go p)), ob xh 3 [.int (nI (srN hs)), .int (nI (srT hs)), .int (nI (srA hs)), .int (nI (srD hs)), .int (bI (srB hs)), .int (nI hm), .ref xj, .ref ha, .ref hb, .ref hc, .ref hd, .ref he], aI G ha 128 (nF (srO hs)), aI G hb 128 (nF (srM hs)), aI G hc 128 (srP hs), aI G hd 128 (nF (srL hs)), aZ G he 128 (bF (srG hs)), ob xj 5 [.ref xjf, .ref xjl], aI G xjf 9 (nF jf), aI G xjl 18 (nF jl)] (fun (v : Option Value) (w : va_W) => ∃ (hs2 : Sr) (jf2 jl2 : Nat → Nat), v = some (.int (nI (srV (runS (folB (gz p) (p 0) (p 2) (go p) (p 1) (p 3)) md (p 2) (p 3) (gz p) (go p) (p 1) c0S 128) 1))) ∧ w = [ob x 10 [.ref xt, .ref xn, .ref xr, .ref xa, .ref xs, .ref xf, .ref xw, .ref xi, .int (nI sn), .long sd, .ref xe, .ref xp, .ref xg, .ref xl, .ref xk, .ref xh, .ref xv], ob xn 1 [.ref na, .ref nb], ob na 6 [.int (nI (p 0)), .int (nI (p 2)), .ref nla], aI G nla 10 (nF (gz p)), ob nb 6 [.int (nI (p 1)), .int (nI (p 3)), .ref nlb], aI G nlb 10 (nF (go p)), ob xh 3 [.int (nI (srN hs2)), .int (nI (srT hs2)), .int (nI (srA hs2)), .int (nI (srD hs2)), .int (bI (srB hs2)), .int (nI md), .ref xj, .ref ha, .ref hb, .ref hc, .ref hd, .ref he], aI G ha 128 (nF (srO hs2)), aI G hb 128 (nF (srM hs2)), aI G hc 128 (srP hs2), aI G hd 128 (nF (srL hs2)), aZ G he 128 (bF (srG hs2)), ob xj 5 [.ref xjf, .ref xjl], aI G xjf 9 (nF jf2), aI G xjl 18 (nF jl2)]) 0 0 := by
  refine MM.ofI (by decide) rfl (fun Γ X Y hnm ret => ?_)
  show Wc Γ 0 0 0 [(0, .ref x), (1, .int (nI md)), (2, .int (nI 1))] [] [ob x 10 [.ref xt, .ref xn, .ref xr, .ref xa, .ref xs, .ref xf, .ref xw, .ref xi, .int (nI sn), .long sd, .ref xe, .ref xp, .ref xg, .ref xl, .ref xk, .ref xh, .ref xv], ob xn 1 [.ref na, .ref nb], ob na 6 [.int (nI (p 0)), .int (nI (p 2)), .ref nla], aI G nla 10 (nF (gz p)), ob nb 6 [.int (nI (p 1)), .int (nI (p 3)), .ref nlb], aI G nlb 10 (nF (go p)), ob xh 3 [.int (nI (srN hs)), .int (nI (srT hs)), .int (nI (srA hs)), .int (nI (srD hs)), .int (bI (srB hs)), .int (nI hm), .ref xj, .ref ha, .ref hb, .ref hc, .ref hd, .ref he], aI G ha 128 (nF (srO hs)), aI G hb 128 (nF (srM hs)), aI G hc 128 (srP hs), aI G hd 128 (nF (srL hs)), aZ G he 128 (bF (srG hs)), ob xj 5 [.ref xjf, .ref xjl], aI G xjf 9 (nF jf), aI G xjl 18 (nF jl)]
  have hn0 := hr.2.1
  have hn01 := hr.1
  have hn1 := hr.2.2.2.1
  have hn11 := hr.2.2.1
  have he0 := pg_e0 hr
  have he1 := hr.2.2.2.2.1 3
  have hg0 := hr.2.2.2.2.2.1
  have hg1 := (fun j => hr.2.2.2.2.1 (12 + j) : ∀ j, go p j < 32)
  have hg0n := (hr.2.2.2.2.2.2.1 0 (by decide) : ∀ j, gz p j < 2 ^ p 0)
  have hg1n := (hr.2.2.2.2.2.2.1 1 (by decide) : ∀ j, go p j < 2 ^ p 1)
  have he0n := hr.2.2.2.2.2.2.2 0 (by decide)
  have he1n := hr.2.2.2.2.2.2.2 1 (by decide)
  have hg0w := (fun j => Nat.lt_trans (hg0 j) (by decide) : ∀ j, gz p j < 32)
  have hC := Cvr_fol (e0 := p 2) (e1 := p 3) hn0 hn1 hg0n hg1n
  refine wc_iload_n X 0 1 dX10_search_0 rfl ?_
  refine wc_callS X 1 [] (c_X10_isMode l G (nI md) ) ys_X10_isMode rfl q_596 ⟨rfl, rfl⟩ ⟨rfl, rfl⟩ ⟨rfl, rfl⟩ rfl rfl rfl dX10_search_1 ?_
  refine wc_topi (b2i true) (congrArg b2i (mode_in hmd (by decide))) ?_
  refine wc_if_eqB X 4 16 dX10_search_4 (by decide) (fun c4_1 => ?_) (fun c4_1 => ?_)
  ·
    exact absurd c4_1 (by decide)
  ·
    refine wc_iload_n X 7 2 dX10_search_7 rfl ?_
    refine wc_ifltF X 8 (tgt := 16) dX10_search_8 (by decide) (by decide) ?_
    refine wc_iload_n X 11 2 dX10_search_11 rfl ?_
    refine wc_iconstN X 12 4 dX10_search_12 ?_
    refine wc_icmp_leN X 13 19 dX10_search_13 (by decide) (by decide) (by decide) (fun c13_3 => ?_) (fun c13_3 => ?_)
    ·
      refine wc_aload_n X 19 0 dX10_search_19 rfl ?_
      refine wc_get X 20 0 15 kd10 rfl (by decide) q_248 rfl dX10_search_20 ?_
      refine wc_aload_n X 23 0 dX10_search_23 rfl ?_
      refine wc_get X 24 0 1 kd10 rfl (by decide) q_234 rfl dX10_search_24 ?_
      refine wc_iload_n X 27 1 dX10_search_27 rfl ?_
      refine wc_mutV X Y 28 [6, 7, 8, 9, 10, 11, 12, 13, 14, 1, 2, 3, 4, 5] [0] 6 (c_X3_run l G xh ha hb hc hd he hm md hs xj xjf xjl jf jl (folB (gz p) (p 0) (p 2) (go p) (p 1) (p 3)) xn na nla (p 0) (p 2) (gz p) nb nlb (p 1) (p 3) (go p) (by first | assumption | omega) (by first | assumption | omega) (by first | assumption | omega) (by first | assumption | omega) (by first | assumption | omega) (by first | assumption | omega) (by first | assumption | omega) (by first | assumption | omega) (by first | assumption | omega) (by first | assumption | omega) (by first | assumption | omega) (by first | assumption | omega) (by first | assumption | omega) hC (fun _ _ => rfl)) yv_X3_run kd3 rfl rfl (wr := [ob x 10 [.ref xt, .ref xn, .ref xr, .ref xa, .ref xs, .ref xf, .ref xw, .ref xi, .int (nI sn), .long sd, .ref xe, .ref xp, .ref xg, .ref xl, .ref xk, .ref xh, .ref xv]]) rfl ⟨rfl, rfl, rfl⟩ q_599 ⟨rfl, rfl⟩ ⟨rfl, rfl⟩ ⟨rfl, rfl⟩ rfl rfl rfl dX10_search_28 (fun v w hp_4 => ?_)
      obtain ⟨s9, f2_5, l2_6, rfl, rfl, hs9⟩ := hp_4
      refine wc_perm Y [0, 10, 11, 12, 13, 14, 1, 2, 3, 4, 5, 6, 7, 8, 9] [ob x 10 [.ref xt, .ref xn, .ref xr, .ref xa, .ref xs, .ref xf, .ref xw, .ref xi, .int (nI sn), .long sd, .ref xe, .ref xp, .ref xg, .ref xl, .ref xk, .ref xh, .ref xv], ob xn 1 [.ref na, .ref nb], ob na 6 [.int (nI (p 0)), .int (nI (p 2)), .ref nla], aI G nla 10 (nF (gz p)), ob nb 6 [.int (nI (p 1)), .int (nI (p 3)), .ref nlb], aI G nlb 10 (nF (go p)), ob xh 3 [.int (nI (srN s9)), .int (nI (srT s9)), .int (nI (srA s9)), .int (nI (srD s9)), .int (bI (srB s9)), .int (nI md), .ref xj, .ref ha, .ref hb, .ref hc, .ref hd, .ref he], aI G ha 128 (nF (srO s9)), aI G hb 128 (nF (srM s9)), aI G hc 128 (srP s9), aI G hd 128 (nF (srL s9)), aZ G he 128 (bF (srG s9)), ob xj 5 [.ref xjf, .ref xjl], aI G xjf 9 (nF f2_5), aI G xjl 18 (nF l2_6)] rfl rfl ?_
      show Wc Γ 0 0 31 [(0, .ref x), (1, .int (nI md)), (2, .int (nI 1))] [] [ob x 10 [.ref xt, .ref xn, .ref xr, .ref xa, .ref xs, .ref xf, .ref xw, .ref xi, .int (nI sn), .long sd, .ref xe, .ref xp, .ref xg, .ref xl, .ref xk, .ref xh, .ref xv], ob xn 1 [.ref na, .ref nb], ob na 6 [.int (nI (p 0)), .int (nI (p 2)), .ref nla], aI G nla 10 (nF (gz p)), ob nb 6 [.int (nI (p 1)), .int (nI (p 3)), .ref nlb], aI G nlb 10 (nF (go p)), ob xh 3 [.int (nI (srN s9)), .int (nI (srT s9)), .int (nI (srA s9)), .int (nI (srD s9)), .int (bI (srB s9)), .int (nI md), .ref xj, .ref ha, .ref hb, .ref hc, .ref hd, .ref he], aI G ha 128 (nF (srO s9)), aI G hb 128 (nF (srM s9)), aI G hc 128 (srP s9), aI G hd 128 (nF (srL s9)), aZ G he 128 (bF (srG s9)), ob xj 5 [.ref xjf, .ref xjl], aI G xjf 9 (nF f2_5), aI G xjl 18 (nF l2_6)]
      have hI9 : Inv (folB (gz p) (p 0) (p 2) (go p) (p 1) (p 3)) md (p 0) (p 1) s9 := by rw [hs9]; exact run_inv hC hn01 hn1 hn11 hg0n hg1n rfl rfl 128
      have hN9 := Inv_le hn0 hn1 hI9
      have e9 : Eqv s9 (runS (folB (gz p) (p 0) (p 2) (go p) (p 1) (p 3)) md (p 2) (p 3) (gz p) (go p) (p 1) c0S 128) := by rw [hs9]; exact run_c0
      refine wc_iload_n X 31 2 dX10_search_31 rfl ?_
      refine wc_tsI X 32 83 1 (nI 1) (off := 51) dX10_search_32 rfl (by decide) (by decide) (by decide) (by decide) ?_
      refine wc_aload_n X 83 0 dX10_search_83 rfl ?_
      refine wc_get X 84 0 15 kd10 rfl (by decide) q_248 rfl dX10_search_84 ?_
      refine wc_get X 87 6 1 kd3 rfl (by decide) q_184 rfl dX10_search_87 ?_
      exact ret 90 _ (nI (srT s9)) _ dX10_search_90 (⟨_, _, _, by rw [← srV_eqv e9]; rfl, rfl⟩)
    ·
      exact absurd c13_3 (by decide)

set_option maxHeartbeats 4000000 in
set_option maxRecDepth 100000 in
theorem c_X10_search2 (l : Launch) (G : GG) (x xt xn xr xa xs xf xw xi sn : Nat) (sd : Int64) (xe xp xg xl xk xh xv : Nat) (na nla nb nlb : Nat) (p : Nat → Nat) (xj xjf xjl : Nat) (jf jl : Nat → Nat) (ha hb hc hd he hm : Nat) (hs : Sr) (md : Nat) (hr : pgOk p) (hmd : md ≤ 2) : MM l G yX10_search (Cond.code yX10_search cX10_search 3 (some .int)) { frames := 6, cells := 0, slots := 0, locals := 147 } [.ref x, .int (nI md), .int (nI 2)] [ob x 10 [.ref xt, .ref xn, .ref xr, .ref xa, .ref xs, .ref xf, .ref xw, .ref xi, .int (nI sn), .long sd, .ref xe, .ref xp, .ref xg, .ref xl, .ref xk, .ref xh, .ref xv], ob xn 1 [.ref na, .ref nb], ob na 6 [.int (nI (p 0)), .int (nI (p 2)), .ref nla], aI G nla 10 (nF (gz p)), ob nb 6 [.int (nI (p 1)), .int (nI (p 3)), .ref nlb], aI G nlb 10 (nF (go p)), ob xh 3 [.int (nI (srN hs)), .int (nI (srT hs)), .int (nI (srA hs)), .int (nI (srD hs)), .int (bI (srB hs)), .int (nI hm), .ref xj, .ref ha, .ref hb, .ref hc, .ref hd, .ref he], aI G ha 128 (nF (srO hs)), aI G hb 128 (nF (srM hs)), aI G hc 128 (srP hs), aI G hd 128 (nF (srL hs)), aZ G he 128 (bF (srG hs)), ob xj 5 [.ref xjf, .ref xjl], aI G xjf 9 (nF jf), aI G xjl 18 (nF jl)] (fun (v : Option Value) (w : va_W) => ∃ (hs2 : Sr) (jf2 jl2 : Nat → Nat), v = some (.int (nI (srV (runS (folB (gz p) (p 0) (p 2) (go p) (p 1) (p 3)) md (p 2) (p 3) (gz p) (go p) (p 1) c0S 128) 2))) ∧ w = [ob x 10 [.ref xt, .ref xn, .ref xr, .ref xa, .ref xs, .ref xf, .ref xw, .ref xi, .int (nI sn), .long sd, .ref xe, .ref xp, .ref xg, .ref xl, .ref xk, .ref xh, .ref xv], ob xn 1 [.ref na, .ref nb], ob na 6 [.int (nI (p 0)), .int (nI (p 2)), .ref nla], aI G nla 10 (nF (gz p)), ob nb 6 [.int (nI (p 1)), .int (nI (p 3)), .ref nlb], aI G nlb 10 (nF (go p)), ob xh 3 [.int (nI (srN hs2)), .int (nI (srT hs2)), .int (nI (srA hs2)), .int (nI (srD hs2)), .int (bI (srB hs2)), .int (nI md), .ref xj, .ref ha, .ref hb, .ref hc, .ref hd, .ref he], aI G ha 128 (nF (srO hs2)), aI G hb 128 (nF (srM hs2)), aI G hc 128 (srP hs2), aI G hd 128 (nF (srL hs2)), aZ G he 128 (bF (srG hs2)), ob xj 5 [.ref xjf, .ref xjl], aI G xjf 9 (nF jf2), aI G xjl 18 (nF jl2)]) 0 0 := by
  refine MM.ofI (by decide) rfl (fun Γ X Y hnm ret => ?_)
  show Wc Γ 0 0 0 [(0, .ref x), (1, .int (nI md)), (2, .int (nI 2))] [] [ob x 10 [.ref xt, .ref xn, .ref xr, .ref xa, .ref xs, .ref xf, .ref xw, .ref xi, .int (nI sn), .long sd, .ref xe, .ref xp, .ref xg, .ref xl, .ref xk, .ref xh, .ref xv], ob xn 1 [.ref na, .ref nb], ob na 6 [.int (nI (p 0)), .int (nI (p 2)), .ref nla], aI G nla 10 (nF (gz p)), ob nb 6 [.int (nI (p 1)), .int (nI (p 3)), .ref nlb], aI G nlb 10 (nF (go p)), ob xh 3 [.int (nI (srN hs)), .int (nI (srT hs)), .int (nI (srA hs)), .int (nI (srD hs)), .int (bI (srB hs)), .int (nI hm), .ref xj, .ref ha, .ref hb, .ref hc, .ref hd, .ref he], aI G ha 128 (nF (srO hs)), aI G hb 128 (nF (srM hs)), aI G hc 128 (srP hs), aI G hd 128 (nF (srL hs)), aZ G he 128 (bF (srG hs)), ob xj 5 [.ref xjf, .ref xjl], aI G xjf 9 (nF jf), aI G xjl 18 (nF jl)]
  have hn0 := hr.2.1
  have hn01 := hr.1
  have hn1 := hr.2.2.2.1
  have hn11 := hr.2.2.1
  have he0 := pg_e0 hr
  have he1 := hr.2.2.2.2.1 3
  have hg0 := hr.2.2.2.2.2.1
  have hg1 := (fun j => hr.2.2.2.2.1 (12 + j) : ∀ j, go p j < 32)
  have hg0n := (hr.2.2.2.2.2.2.1 0 (by decide) : ∀ j, gz p j < 2 ^ p 0)
  have hg1n := (hr.2.2.2.2.2.2.1 1 (by decide) : ∀ j, go p j < 2 ^ p 1)
  have he0n := hr.2.2.2.2.2.2.2 0 (by decide)
  have he1n := hr.2.2.2.2.2.2.2 1 (by decide)
  have hg0w := (fun j => Nat.lt_trans (hg0 j) (by decide) : ∀ j, gz p j < 32)
  have hC := Cvr_fol (e0 := p 2) (e1 := p 3) hn0 hn1 hg0n hg1n
  refine wc_iload_n X 0 1 dX10_search_0 rfl ?_
  refine wc_callS X 1 [] (c_X10_isMode l G (nI md) ) ys_X10_isMode rfl q_596 ⟨rfl, rfl⟩ ⟨rfl, rfl⟩ ⟨rfl, rfl⟩ rfl rfl rfl dX10_search_1 ?_
  refine wc_topi (b2i true) (congrArg b2i (mode_in hmd (by decide))) ?_
  refine wc_if_eqB X 4 16 dX10_search_4 (by decide) (fun c4_1 => ?_) (fun c4_1 => ?_)
  ·
    exact absurd c4_1 (by decide)
  ·
    refine wc_iload_n X 7 2 dX10_search_7 rfl ?_
    refine wc_ifltF X 8 (tgt := 16) dX10_search_8 (by decide) (by decide) ?_
    refine wc_iload_n X 11 2 dX10_search_11 rfl ?_
    refine wc_iconstN X 12 4 dX10_search_12 ?_
    refine wc_icmp_leN X 13 19 dX10_search_13 (by decide) (by decide) (by decide) (fun c13_3 => ?_) (fun c13_3 => ?_)
    ·
      refine wc_aload_n X 19 0 dX10_search_19 rfl ?_
      refine wc_get X 20 0 15 kd10 rfl (by decide) q_248 rfl dX10_search_20 ?_
      refine wc_aload_n X 23 0 dX10_search_23 rfl ?_
      refine wc_get X 24 0 1 kd10 rfl (by decide) q_234 rfl dX10_search_24 ?_
      refine wc_iload_n X 27 1 dX10_search_27 rfl ?_
      refine wc_mutV X Y 28 [6, 7, 8, 9, 10, 11, 12, 13, 14, 1, 2, 3, 4, 5] [0] 6 (c_X3_run l G xh ha hb hc hd he hm md hs xj xjf xjl jf jl (folB (gz p) (p 0) (p 2) (go p) (p 1) (p 3)) xn na nla (p 0) (p 2) (gz p) nb nlb (p 1) (p 3) (go p) (by first | assumption | omega) (by first | assumption | omega) (by first | assumption | omega) (by first | assumption | omega) (by first | assumption | omega) (by first | assumption | omega) (by first | assumption | omega) (by first | assumption | omega) (by first | assumption | omega) (by first | assumption | omega) (by first | assumption | omega) (by first | assumption | omega) (by first | assumption | omega) hC (fun _ _ => rfl)) yv_X3_run kd3 rfl rfl (wr := [ob x 10 [.ref xt, .ref xn, .ref xr, .ref xa, .ref xs, .ref xf, .ref xw, .ref xi, .int (nI sn), .long sd, .ref xe, .ref xp, .ref xg, .ref xl, .ref xk, .ref xh, .ref xv]]) rfl ⟨rfl, rfl, rfl⟩ q_599 ⟨rfl, rfl⟩ ⟨rfl, rfl⟩ ⟨rfl, rfl⟩ rfl rfl rfl dX10_search_28 (fun v w hp_4 => ?_)
      obtain ⟨s9, f2_5, l2_6, rfl, rfl, hs9⟩ := hp_4
      refine wc_perm Y [0, 10, 11, 12, 13, 14, 1, 2, 3, 4, 5, 6, 7, 8, 9] [ob x 10 [.ref xt, .ref xn, .ref xr, .ref xa, .ref xs, .ref xf, .ref xw, .ref xi, .int (nI sn), .long sd, .ref xe, .ref xp, .ref xg, .ref xl, .ref xk, .ref xh, .ref xv], ob xn 1 [.ref na, .ref nb], ob na 6 [.int (nI (p 0)), .int (nI (p 2)), .ref nla], aI G nla 10 (nF (gz p)), ob nb 6 [.int (nI (p 1)), .int (nI (p 3)), .ref nlb], aI G nlb 10 (nF (go p)), ob xh 3 [.int (nI (srN s9)), .int (nI (srT s9)), .int (nI (srA s9)), .int (nI (srD s9)), .int (bI (srB s9)), .int (nI md), .ref xj, .ref ha, .ref hb, .ref hc, .ref hd, .ref he], aI G ha 128 (nF (srO s9)), aI G hb 128 (nF (srM s9)), aI G hc 128 (srP s9), aI G hd 128 (nF (srL s9)), aZ G he 128 (bF (srG s9)), ob xj 5 [.ref xjf, .ref xjl], aI G xjf 9 (nF f2_5), aI G xjl 18 (nF l2_6)] rfl rfl ?_
      show Wc Γ 0 0 31 [(0, .ref x), (1, .int (nI md)), (2, .int (nI 2))] [] [ob x 10 [.ref xt, .ref xn, .ref xr, .ref xa, .ref xs, .ref xf, .ref xw, .ref xi, .int (nI sn), .long sd, .ref xe, .ref xp, .ref xg, .ref xl, .ref xk, .ref xh, .ref xv], ob xn 1 [.ref na, .ref nb], ob na 6 [.int (nI (p 0)), .int (nI (p 2)), .ref nla], aI G nla 10 (nF (gz p)), ob nb 6 [.int (nI (p 1)), .int (nI (p 3)), .ref nlb], aI G nlb 10 (nF (go p)), ob xh 3 [.int (nI (srN s9)), .int (nI (srT s9)), .int (nI (srA s9)), .int (nI (srD s9)), .int (bI (srB s9)), .int (nI md), .ref xj, .ref ha, .ref hb, .ref hc, .ref hd, .ref he], aI G ha 128 (nF (srO s9)), aI G hb 128 (nF (srM s9)), aI G hc 128 (srP s9), aI G hd 128 (nF (srL s9)), aZ G he 128 (bF (srG s9)), ob xj 5 [.ref xjf, .ref xjl], aI G xjf 9 (nF f2_5), aI G xjl 18 (nF l2_6)]
      have hI9 : Inv (folB (gz p) (p 0) (p 2) (go p) (p 1) (p 3)) md (p 0) (p 1) s9 := by rw [hs9]; exact run_inv hC hn01 hn1 hn11 hg0n hg1n rfl rfl 128
      have hN9 := Inv_le hn0 hn1 hI9
      have e9 : Eqv s9 (runS (folB (gz p) (p 0) (p 2) (go p) (p 1) (p 3)) md (p 2) (p 3) (gz p) (go p) (p 1) c0S 128) := by rw [hs9]; exact run_c0
      refine wc_iload_n X 31 2 dX10_search_31 rfl ?_
      refine wc_tsI X 32 91 2 (nI 2) (off := 59) dX10_search_32 rfl (by decide) (by decide) (by decide) (by decide) ?_
      refine wc_aload_n X 91 0 dX10_search_91 rfl ?_
      refine wc_get X 92 0 15 kd10 rfl (by decide) q_248 rfl dX10_search_92 ?_
      refine wc_get X 95 6 0 kd3 rfl (by decide) q_182 rfl dX10_search_95 ?_
      refine wc_aload_n X 98 0 dX10_search_98 rfl ?_
      refine wc_get X 99 0 15 kd10 rfl (by decide) q_248 rfl dX10_search_99 ?_
      refine wc_get X 102 6 3 kd3 rfl (by decide) q_188 rfl dX10_search_102 ?_
      refine wc_isubN X 105 dX10_search_105 (sr_le hs9) ?_
      exact ret 106 _ (nI ((srN s9) - (srD s9))) _ dX10_search_106 (⟨_, _, _, by rw [← srV_eqv e9]; rfl, rfl⟩)
    ·
      exact absurd c13_3 (by decide)

set_option maxHeartbeats 4000000 in
set_option maxRecDepth 100000 in
theorem c_X10_search3 (l : Launch) (G : GG) (x xt xn xr xa xs xf xw xi sn : Nat) (sd : Int64) (xe xp xg xl xk xh xv : Nat) (na nla nb nlb : Nat) (p : Nat → Nat) (xj xjf xjl : Nat) (jf jl : Nat → Nat) (ha hb hc hd he hm : Nat) (hs : Sr) (md : Nat) (hr : pgOk p) (hmd : md ≤ 2) : MM l G yX10_search (Cond.code yX10_search cX10_search 3 (some .int)) { frames := 6, cells := 0, slots := 0, locals := 147 } [.ref x, .int (nI md), .int (nI 3)] [ob x 10 [.ref xt, .ref xn, .ref xr, .ref xa, .ref xs, .ref xf, .ref xw, .ref xi, .int (nI sn), .long sd, .ref xe, .ref xp, .ref xg, .ref xl, .ref xk, .ref xh, .ref xv], ob xn 1 [.ref na, .ref nb], ob na 6 [.int (nI (p 0)), .int (nI (p 2)), .ref nla], aI G nla 10 (nF (gz p)), ob nb 6 [.int (nI (p 1)), .int (nI (p 3)), .ref nlb], aI G nlb 10 (nF (go p)), ob xh 3 [.int (nI (srN hs)), .int (nI (srT hs)), .int (nI (srA hs)), .int (nI (srD hs)), .int (bI (srB hs)), .int (nI hm), .ref xj, .ref ha, .ref hb, .ref hc, .ref hd, .ref he], aI G ha 128 (nF (srO hs)), aI G hb 128 (nF (srM hs)), aI G hc 128 (srP hs), aI G hd 128 (nF (srL hs)), aZ G he 128 (bF (srG hs)), ob xj 5 [.ref xjf, .ref xjl], aI G xjf 9 (nF jf), aI G xjl 18 (nF jl)] (fun (v : Option Value) (w : va_W) => ∃ (hs2 : Sr) (jf2 jl2 : Nat → Nat), v = some (.int (nI (srV (runS (folB (gz p) (p 0) (p 2) (go p) (p 1) (p 3)) md (p 2) (p 3) (gz p) (go p) (p 1) c0S 128) 3))) ∧ w = [ob x 10 [.ref xt, .ref xn, .ref xr, .ref xa, .ref xs, .ref xf, .ref xw, .ref xi, .int (nI sn), .long sd, .ref xe, .ref xp, .ref xg, .ref xl, .ref xk, .ref xh, .ref xv], ob xn 1 [.ref na, .ref nb], ob na 6 [.int (nI (p 0)), .int (nI (p 2)), .ref nla], aI G nla 10 (nF (gz p)), ob nb 6 [.int (nI (p 1)), .int (nI (p 3)), .ref nlb], aI G nlb 10 (nF (go p)), ob xh 3 [.int (nI (srN hs2)), .int (nI (srT hs2)), .int (nI (srA hs2)), .int (nI (srD hs2)), .int (bI (srB hs2)), .int (nI md), .ref xj, .ref ha, .ref hb, .ref hc, .ref hd, .ref he], aI G ha 128 (nF (srO hs2)), aI G hb 128 (nF (srM hs2)), aI G hc 128 (srP hs2), aI G hd 128 (nF (srL hs2)), aZ G he 128 (bF (srG hs2)), ob xj 5 [.ref xjf, .ref xjl], aI G xjf 9 (nF jf2), aI G xjl 18 (nF jl2)]) 0 0 := by
  refine MM.ofI (by decide) rfl (fun Γ X Y hnm ret => ?_)
  show Wc Γ 0 0 0 [(0, .ref x), (1, .int (nI md)), (2, .int (nI 3))] [] [ob x 10 [.ref xt, .ref xn, .ref xr, .ref xa, .ref xs, .ref xf, .ref xw, .ref xi, .int (nI sn), .long sd, .ref xe, .ref xp, .ref xg, .ref xl, .ref xk, .ref xh, .ref xv], ob xn 1 [.ref na, .ref nb], ob na 6 [.int (nI (p 0)), .int (nI (p 2)), .ref nla], aI G nla 10 (nF (gz p)), ob nb 6 [.int (nI (p 1)), .int (nI (p 3)), .ref nlb], aI G nlb 10 (nF (go p)), ob xh 3 [.int (nI (srN hs)), .int (nI (srT hs)), .int (nI (srA hs)), .int (nI (srD hs)), .int (bI (srB hs)), .int (nI hm), .ref xj, .ref ha, .ref hb, .ref hc, .ref hd, .ref he], aI G ha 128 (nF (srO hs)), aI G hb 128 (nF (srM hs)), aI G hc 128 (srP hs), aI G hd 128 (nF (srL hs)), aZ G he 128 (bF (srG hs)), ob xj 5 [.ref xjf, .ref xjl], aI G xjf 9 (nF jf), aI G xjl 18 (nF jl)]
  have hn0 := hr.2.1
  have hn01 := hr.1
  have hn1 := hr.2.2.2.1
  have hn11 := hr.2.2.1
  have he0 := pg_e0 hr
  have he1 := hr.2.2.2.2.1 3
  have hg0 := hr.2.2.2.2.2.1
  have hg1 := (fun j => hr.2.2.2.2.1 (12 + j) : ∀ j, go p j < 32)
  have hg0n := (hr.2.2.2.2.2.2.1 0 (by decide) : ∀ j, gz p j < 2 ^ p 0)
  have hg1n := (hr.2.2.2.2.2.2.1 1 (by decide) : ∀ j, go p j < 2 ^ p 1)
  have he0n := hr.2.2.2.2.2.2.2 0 (by decide)
  have he1n := hr.2.2.2.2.2.2.2 1 (by decide)
  have hg0w := (fun j => Nat.lt_trans (hg0 j) (by decide) : ∀ j, gz p j < 32)
  have hC := Cvr_fol (e0 := p 2) (e1 := p 3) hn0 hn1 hg0n hg1n
  refine wc_iload_n X 0 1 dX10_search_0 rfl ?_
  refine wc_callS X 1 [] (c_X10_isMode l G (nI md) ) ys_X10_isMode rfl q_596 ⟨rfl, rfl⟩ ⟨rfl, rfl⟩ ⟨rfl, rfl⟩ rfl rfl rfl dX10_search_1 ?_
  refine wc_topi (b2i true) (congrArg b2i (mode_in hmd (by decide))) ?_
  refine wc_if_eqB X 4 16 dX10_search_4 (by decide) (fun c4_1 => ?_) (fun c4_1 => ?_)
  ·
    exact absurd c4_1 (by decide)
  ·
    refine wc_iload_n X 7 2 dX10_search_7 rfl ?_
    refine wc_ifltF X 8 (tgt := 16) dX10_search_8 (by decide) (by decide) ?_
    refine wc_iload_n X 11 2 dX10_search_11 rfl ?_
    refine wc_iconstN X 12 4 dX10_search_12 ?_
    refine wc_icmp_leN X 13 19 dX10_search_13 (by decide) (by decide) (by decide) (fun c13_3 => ?_) (fun c13_3 => ?_)
    ·
      refine wc_aload_n X 19 0 dX10_search_19 rfl ?_
      refine wc_get X 20 0 15 kd10 rfl (by decide) q_248 rfl dX10_search_20 ?_
      refine wc_aload_n X 23 0 dX10_search_23 rfl ?_
      refine wc_get X 24 0 1 kd10 rfl (by decide) q_234 rfl dX10_search_24 ?_
      refine wc_iload_n X 27 1 dX10_search_27 rfl ?_
      refine wc_mutV X Y 28 [6, 7, 8, 9, 10, 11, 12, 13, 14, 1, 2, 3, 4, 5] [0] 6 (c_X3_run l G xh ha hb hc hd he hm md hs xj xjf xjl jf jl (folB (gz p) (p 0) (p 2) (go p) (p 1) (p 3)) xn na nla (p 0) (p 2) (gz p) nb nlb (p 1) (p 3) (go p) (by first | assumption | omega) (by first | assumption | omega) (by first | assumption | omega) (by first | assumption | omega) (by first | assumption | omega) (by first | assumption | omega) (by first | assumption | omega) (by first | assumption | omega) (by first | assumption | omega) (by first | assumption | omega) (by first | assumption | omega) (by first | assumption | omega) (by first | assumption | omega) hC (fun _ _ => rfl)) yv_X3_run kd3 rfl rfl (wr := [ob x 10 [.ref xt, .ref xn, .ref xr, .ref xa, .ref xs, .ref xf, .ref xw, .ref xi, .int (nI sn), .long sd, .ref xe, .ref xp, .ref xg, .ref xl, .ref xk, .ref xh, .ref xv]]) rfl ⟨rfl, rfl, rfl⟩ q_599 ⟨rfl, rfl⟩ ⟨rfl, rfl⟩ ⟨rfl, rfl⟩ rfl rfl rfl dX10_search_28 (fun v w hp_4 => ?_)
      obtain ⟨s9, f2_5, l2_6, rfl, rfl, hs9⟩ := hp_4
      refine wc_perm Y [0, 10, 11, 12, 13, 14, 1, 2, 3, 4, 5, 6, 7, 8, 9] [ob x 10 [.ref xt, .ref xn, .ref xr, .ref xa, .ref xs, .ref xf, .ref xw, .ref xi, .int (nI sn), .long sd, .ref xe, .ref xp, .ref xg, .ref xl, .ref xk, .ref xh, .ref xv], ob xn 1 [.ref na, .ref nb], ob na 6 [.int (nI (p 0)), .int (nI (p 2)), .ref nla], aI G nla 10 (nF (gz p)), ob nb 6 [.int (nI (p 1)), .int (nI (p 3)), .ref nlb], aI G nlb 10 (nF (go p)), ob xh 3 [.int (nI (srN s9)), .int (nI (srT s9)), .int (nI (srA s9)), .int (nI (srD s9)), .int (bI (srB s9)), .int (nI md), .ref xj, .ref ha, .ref hb, .ref hc, .ref hd, .ref he], aI G ha 128 (nF (srO s9)), aI G hb 128 (nF (srM s9)), aI G hc 128 (srP s9), aI G hd 128 (nF (srL s9)), aZ G he 128 (bF (srG s9)), ob xj 5 [.ref xjf, .ref xjl], aI G xjf 9 (nF f2_5), aI G xjl 18 (nF l2_6)] rfl rfl ?_
      show Wc Γ 0 0 31 [(0, .ref x), (1, .int (nI md)), (2, .int (nI 3))] [] [ob x 10 [.ref xt, .ref xn, .ref xr, .ref xa, .ref xs, .ref xf, .ref xw, .ref xi, .int (nI sn), .long sd, .ref xe, .ref xp, .ref xg, .ref xl, .ref xk, .ref xh, .ref xv], ob xn 1 [.ref na, .ref nb], ob na 6 [.int (nI (p 0)), .int (nI (p 2)), .ref nla], aI G nla 10 (nF (gz p)), ob nb 6 [.int (nI (p 1)), .int (nI (p 3)), .ref nlb], aI G nlb 10 (nF (go p)), ob xh 3 [.int (nI (srN s9)), .int (nI (srT s9)), .int (nI (srA s9)), .int (nI (srD s9)), .int (bI (srB s9)), .int (nI md), .ref xj, .ref ha, .ref hb, .ref hc, .ref hd, .ref he], aI G ha 128 (nF (srO s9)), aI G hb 128 (nF (srM s9)), aI G hc 128 (srP s9), aI G hd 128 (nF (srL s9)), aZ G he 128 (bF (srG s9)), ob xj 5 [.ref xjf, .ref xjl], aI G xjf 9 (nF f2_5), aI G xjl 18 (nF l2_6)]
      have hI9 : Inv (folB (gz p) (p 0) (p 2) (go p) (p 1) (p 3)) md (p 0) (p 1) s9 := by rw [hs9]; exact run_inv hC hn01 hn1 hn11 hg0n hg1n rfl rfl 128
      have hN9 := Inv_le hn0 hn1 hI9
      have e9 : Eqv s9 (runS (folB (gz p) (p 0) (p 2) (go p) (p 1) (p 3)) md (p 2) (p 3) (gz p) (go p) (p 1) c0S 128) := by rw [hs9]; exact run_c0
      refine wc_iload_n X 31 2 dX10_search_31 rfl ?_
      refine wc_tsI X 32 107 3 (nI 3) (off := 75) dX10_search_32 rfl (by decide) (by decide) (by decide) (by decide) ?_
      refine wc_aload_n X 107 0 dX10_search_107 rfl ?_
      refine wc_get X 108 0 15 kd10 rfl (by decide) q_248 rfl dX10_search_108 ?_
      refine wc_get X 111 6 2 kd3 rfl (by decide) q_186 rfl dX10_search_111 ?_
      exact ret 114 _ (nI (srA s9)) _ dX10_search_114 (⟨_, _, _, by rw [← srV_eqv e9]; rfl, rfl⟩)
    ·
      exact absurd c13_3 (by decide)

set_option maxHeartbeats 4000000 in
set_option maxRecDepth 100000 in
theorem c_X10_search4 (l : Launch) (G : GG) (x xt xn xr xa xs xf xw xi sn : Nat) (sd : Int64) (xe xp xg xl xk xh xv : Nat) (na nla nb nlb : Nat) (p : Nat → Nat) (xj xjf xjl : Nat) (jf jl : Nat → Nat) (ha hb hc hd he hm : Nat) (hs : Sr) (md : Nat) (hr : pgOk p) (hmd : md ≤ 2) : MM l G yX10_search (Cond.code yX10_search cX10_search 3 (some .int)) { frames := 6, cells := 0, slots := 0, locals := 147 } [.ref x, .int (nI md), .int (nI 4)] [ob x 10 [.ref xt, .ref xn, .ref xr, .ref xa, .ref xs, .ref xf, .ref xw, .ref xi, .int (nI sn), .long sd, .ref xe, .ref xp, .ref xg, .ref xl, .ref xk, .ref xh, .ref xv], ob xn 1 [.ref na, .ref nb], ob na 6 [.int (nI (p 0)), .int (nI (p 2)), .ref nla], aI G nla 10 (nF (gz p)), ob nb 6 [.int (nI (p 1)), .int (nI (p 3)), .ref nlb], aI G nlb 10 (nF (go p)), ob xh 3 [.int (nI (srN hs)), .int (nI (srT hs)), .int (nI (srA hs)), .int (nI (srD hs)), .int (bI (srB hs)), .int (nI hm), .ref xj, .ref ha, .ref hb, .ref hc, .ref hd, .ref he], aI G ha 128 (nF (srO hs)), aI G hb 128 (nF (srM hs)), aI G hc 128 (srP hs), aI G hd 128 (nF (srL hs)), aZ G he 128 (bF (srG hs)), ob xj 5 [.ref xjf, .ref xjl], aI G xjf 9 (nF jf), aI G xjl 18 (nF jl)] (fun (v : Option Value) (w : va_W) => ∃ (hs2 : Sr) (jf2 jl2 : Nat → Nat), v = some (.int (nI (srV (runS (folB (gz p) (p 0) (p 2) (go p) (p 1) (p 3)) md (p 2) (p 3) (gz p) (go p) (p 1) c0S 128) 4))) ∧ w = [ob x 10 [.ref xt, .ref xn, .ref xr, .ref xa, .ref xs, .ref xf, .ref xw, .ref xi, .int (nI sn), .long sd, .ref xe, .ref xp, .ref xg, .ref xl, .ref xk, .ref xh, .ref xv], ob xn 1 [.ref na, .ref nb], ob na 6 [.int (nI (p 0)), .int (nI (p 2)), .ref nla], aI G nla 10 (nF (gz p)), ob nb 6 [.int (nI (p 1)), .int (nI (p 3)), .ref nlb], aI G nlb 10 (nF (go p)), ob xh 3 [.int (nI (srN hs2)), .int (nI (srT hs2)), .int (nI (srA hs2)), .int (nI (srD hs2)), .int (bI (srB hs2)), .int (nI md), .ref xj, .ref ha, .ref hb, .ref hc, .ref hd, .ref he], aI G ha 128 (nF (srO hs2)), aI G hb 128 (nF (srM hs2)), aI G hc 128 (srP hs2), aI G hd 128 (nF (srL hs2)), aZ G he 128 (bF (srG hs2)), ob xj 5 [.ref xjf, .ref xjl], aI G xjf 9 (nF jf2), aI G xjl 18 (nF jl2)]) 0 0 := by
  refine MM.ofI (by decide) rfl (fun Γ X Y hnm ret => ?_)
  show Wc Γ 0 0 0 [(0, .ref x), (1, .int (nI md)), (2, .int (nI 4))] [] [ob x 10 [.ref xt, .ref xn, .ref xr, .ref xa, .ref xs, .ref xf, .ref xw, .ref xi, .int (nI sn), .long sd, .ref xe, .ref xp, .ref xg, .ref xl, .ref xk, .ref xh, .ref xv], ob xn 1 [.ref na, .ref nb], ob na 6 [.int (nI (p 0)), .int (nI (p 2)), .ref nla], aI G nla 10 (nF (gz p)), ob nb 6 [.int (nI (p 1)), .int (nI (p 3)), .ref nlb], aI G nlb 10 (nF (go p)), ob xh 3 [.int (nI (srN hs)), .int (nI (srT hs)), .int (nI (srA hs)), .int (nI (srD hs)), .int (bI (srB hs)), .int (nI hm), .ref xj, .ref ha, .ref hb, .ref hc, .ref hd, .ref he], aI G ha 128 (nF (srO hs)), aI G hb 128 (nF (srM hs)), aI G hc 128 (srP hs), aI G hd 128 (nF (srL hs)), aZ G he 128 (bF (srG hs)), ob xj 5 [.ref xjf, .ref xjl], aI G xjf 9 (nF jf), aI G xjl 18 (nF jl)]
  have hn0 := hr.2.1
  have hn01 := hr.1
  have hn1 := hr.2.2.2.1
  have hn11 := hr.2.2.1
  have he0 := pg_e0 hr
  have he1 := hr.2.2.2.2.1 3
  have hg0 := hr.2.2.2.2.2.1
  have hg1 := (fun j => hr.2.2.2.2.1 (12 + j) : ∀ j, go p j < 32)
  have hg0n := (hr.2.2.2.2.2.2.1 0 (by decide) : ∀ j, gz p j < 2 ^ p 0)
  have hg1n := (hr.2.2.2.2.2.2.1 1 (by decide) : ∀ j, go p j < 2 ^ p 1)
  have he0n := hr.2.2.2.2.2.2.2 0 (by decide)
  have he1n := hr.2.2.2.2.2.2.2 1 (by decide)
  have hg0w := (fun j => Nat.lt_trans (hg0 j) (by decide) : ∀ j, gz p j < 32)
  have hC := Cvr_fol (e0 := p 2) (e1 := p 3) hn0 hn1 hg0n hg1n
  refine wc_iload_n X 0 1 dX10_search_0 rfl ?_
  refine wc_callS X 1 [] (c_X10_isMode l G (nI md) ) ys_X10_isMode rfl q_596 ⟨rfl, rfl⟩ ⟨rfl, rfl⟩ ⟨rfl, rfl⟩ rfl rfl rfl dX10_search_1 ?_
  refine wc_topi (b2i true) (congrArg b2i (mode_in hmd (by decide))) ?_
  refine wc_if_eqB X 4 16 dX10_search_4 (by decide) (fun c4_1 => ?_) (fun c4_1 => ?_)
  ·
    exact absurd c4_1 (by decide)
  ·
    refine wc_iload_n X 7 2 dX10_search_7 rfl ?_
    refine wc_ifltF X 8 (tgt := 16) dX10_search_8 (by decide) (by decide) ?_
    refine wc_iload_n X 11 2 dX10_search_11 rfl ?_
    refine wc_iconstN X 12 4 dX10_search_12 ?_
    refine wc_icmp_leN X 13 19 dX10_search_13 (by decide) (by decide) (by decide) (fun c13_3 => ?_) (fun c13_3 => ?_)
    ·
      refine wc_aload_n X 19 0 dX10_search_19 rfl ?_
      refine wc_get X 20 0 15 kd10 rfl (by decide) q_248 rfl dX10_search_20 ?_
      refine wc_aload_n X 23 0 dX10_search_23 rfl ?_
      refine wc_get X 24 0 1 kd10 rfl (by decide) q_234 rfl dX10_search_24 ?_
      refine wc_iload_n X 27 1 dX10_search_27 rfl ?_
      refine wc_mutV X Y 28 [6, 7, 8, 9, 10, 11, 12, 13, 14, 1, 2, 3, 4, 5] [0] 6 (c_X3_run l G xh ha hb hc hd he hm md hs xj xjf xjl jf jl (folB (gz p) (p 0) (p 2) (go p) (p 1) (p 3)) xn na nla (p 0) (p 2) (gz p) nb nlb (p 1) (p 3) (go p) (by first | assumption | omega) (by first | assumption | omega) (by first | assumption | omega) (by first | assumption | omega) (by first | assumption | omega) (by first | assumption | omega) (by first | assumption | omega) (by first | assumption | omega) (by first | assumption | omega) (by first | assumption | omega) (by first | assumption | omega) (by first | assumption | omega) (by first | assumption | omega) hC (fun _ _ => rfl)) yv_X3_run kd3 rfl rfl (wr := [ob x 10 [.ref xt, .ref xn, .ref xr, .ref xa, .ref xs, .ref xf, .ref xw, .ref xi, .int (nI sn), .long sd, .ref xe, .ref xp, .ref xg, .ref xl, .ref xk, .ref xh, .ref xv]]) rfl ⟨rfl, rfl, rfl⟩ q_599 ⟨rfl, rfl⟩ ⟨rfl, rfl⟩ ⟨rfl, rfl⟩ rfl rfl rfl dX10_search_28 (fun v w hp_4 => ?_)
      obtain ⟨s9, f2_5, l2_6, rfl, rfl, hs9⟩ := hp_4
      refine wc_perm Y [0, 10, 11, 12, 13, 14, 1, 2, 3, 4, 5, 6, 7, 8, 9] [ob x 10 [.ref xt, .ref xn, .ref xr, .ref xa, .ref xs, .ref xf, .ref xw, .ref xi, .int (nI sn), .long sd, .ref xe, .ref xp, .ref xg, .ref xl, .ref xk, .ref xh, .ref xv], ob xn 1 [.ref na, .ref nb], ob na 6 [.int (nI (p 0)), .int (nI (p 2)), .ref nla], aI G nla 10 (nF (gz p)), ob nb 6 [.int (nI (p 1)), .int (nI (p 3)), .ref nlb], aI G nlb 10 (nF (go p)), ob xh 3 [.int (nI (srN s9)), .int (nI (srT s9)), .int (nI (srA s9)), .int (nI (srD s9)), .int (bI (srB s9)), .int (nI md), .ref xj, .ref ha, .ref hb, .ref hc, .ref hd, .ref he], aI G ha 128 (nF (srO s9)), aI G hb 128 (nF (srM s9)), aI G hc 128 (srP s9), aI G hd 128 (nF (srL s9)), aZ G he 128 (bF (srG s9)), ob xj 5 [.ref xjf, .ref xjl], aI G xjf 9 (nF f2_5), aI G xjl 18 (nF l2_6)] rfl rfl ?_
      show Wc Γ 0 0 31 [(0, .ref x), (1, .int (nI md)), (2, .int (nI 4))] [] [ob x 10 [.ref xt, .ref xn, .ref xr, .ref xa, .ref xs, .ref xf, .ref xw, .ref xi, .int (nI sn), .long sd, .ref xe, .ref xp, .ref xg, .ref xl, .ref xk, .ref xh, .ref xv], ob xn 1 [.ref na, .ref nb], ob na 6 [.int (nI (p 0)), .int (nI (p 2)), .ref nla], aI G nla 10 (nF (gz p)), ob nb 6 [.int (nI (p 1)), .int (nI (p 3)), .ref nlb], aI G nlb 10 (nF (go p)), ob xh 3 [.int (nI (srN s9)), .int (nI (srT s9)), .int (nI (srA s9)), .int (nI (srD s9)), .int (bI (srB s9)), .int (nI md), .ref xj, .ref ha, .ref hb, .ref hc, .ref hd, .ref he], aI G ha 128 (nF (srO s9)), aI G hb 128 (nF (srM s9)), aI G hc 128 (srP s9), aI G hd 128 (nF (srL s9)), aZ G he 128 (bF (srG s9)), ob xj 5 [.ref xjf, .ref xjl], aI G xjf 9 (nF f2_5), aI G xjl 18 (nF l2_6)]
      have hI9 : Inv (folB (gz p) (p 0) (p 2) (go p) (p 1) (p 3)) md (p 0) (p 1) s9 := by rw [hs9]; exact run_inv hC hn01 hn1 hn11 hg0n hg1n rfl rfl 128
      have hN9 := Inv_le hn0 hn1 hI9
      have e9 : Eqv s9 (runS (folB (gz p) (p 0) (p 2) (go p) (p 1) (p 3)) md (p 2) (p 3) (gz p) (go p) (p 1) c0S 128) := by rw [hs9]; exact run_c0
      refine wc_iload_n X 31 2 dX10_search_31 rfl ?_
      refine wc_tsO X 32 115 dX10_search_32 (by decide) (by decide) ?_
      refine wc_aload_n X 115 0 dX10_search_115 rfl ?_
      refine wc_get X 116 0 15 kd10 rfl (by decide) q_248 rfl dX10_search_116 ?_
      refine wc_get X 119 6 3 kd3 rfl (by decide) q_188 rfl dX10_search_119 ?_
      exact ret 122 _ (nI (srD s9)) _ dX10_search_122 (⟨_, _, _, by rw [← srV_eqv e9]; rfl, rfl⟩)
    ·
      exact absurd c13_3 (by decide)

set_option maxHeartbeats 4000000 in
set_option maxRecDepth 100000 in
theorem c_X10_keptF (l : Launch) (G : GG) (x xt xn xr xa xs xf xw xi sn : Nat) (sd : Int64) (xe xp xg xl xk xh xv : Nat) (md k : Int32) (ho : outR md 0 2) : RM l G yX10_kept (Cond.code yX10_kept cX10_kept 3 (some .int)) { frames := 1, cells := 0, slots := 0, locals := 20 } [.ref x, .int md, .int k] [ob x 10 [.ref xt, .ref xn, .ref xr, .ref xa, .ref xs, .ref xf, .ref xw, .ref xi, .int (nI sn), .long sd, .ref xe, .ref xp, .ref xg, .ref xl, .ref xk, .ref xh, .ref xv]] (.int (-2)) := by
  refine RM.ofI (by decide) rfl (fun Γ X ret => ?_)
  show Wc Γ 0 0 0 [(0, .ref x), (1, .int md), (2, .int k)] [] [ob x 10 [.ref xt, .ref xn, .ref xr, .ref xa, .ref xs, .ref xf, .ref xw, .ref xi, .int (nI sn), .long sd, .ref xe, .ref xp, .ref xg, .ref xl, .ref xk, .ref xh, .ref xv]]
  refine wc_iload_n X 0 1 dX10_kept_0 rfl ?_
  refine wc_callS X 1 [] (c_X10_isMode l G md ) ys_X10_isMode rfl q_596 ⟨rfl, rfl⟩ ⟨rfl, rfl⟩ ⟨rfl, rfl⟩ rfl rfl rfl dX10_kept_1 ?_
  refine wc_if_neB X 4 10 dX10_kept_4 (by decide) (fun c4_1 => ?_) (fun c4_1 => ?_)
  ·
    exact absurd c4_1 (by rw [mode_out ho (by decide)]; decide)
  ·
    refine wc_bipush X 7 (-2) dX10_kept_7 (by decide) ?_
    exact ret 9 _ (-2) dX10_kept_9 (rfl)

set_option maxHeartbeats 4000000 in
set_option maxRecDepth 100000 in
theorem c_X10_keptS (l : Launch) (G : GG) (x xt xn xr xa xs xf xw xi sn : Nat) (sd : Int64) (xe xp xg xl xk xh xv : Nat) (na nla nb nlb : Nat) (p : Nat → Nat) (xj xjf xjl : Nat) (jf jl : Nat → Nat) (ha hb hc hd he hm : Nat) (hs : Sr) (md : Nat) (k : Int32) (hr : pgOk p) (hmd : md ≤ 2) : MM l G yX10_kept (Cond.code yX10_kept cX10_kept 3 (some .int)) { frames := 6, cells := 0, slots := 0, locals := 147 } [.ref x, .int (nI md), .int k] [ob x 10 [.ref xt, .ref xn, .ref xr, .ref xa, .ref xs, .ref xf, .ref xw, .ref xi, .int (nI sn), .long sd, .ref xe, .ref xp, .ref xg, .ref xl, .ref xk, .ref xh, .ref xv], ob xn 1 [.ref na, .ref nb], ob na 6 [.int (nI (p 0)), .int (nI (p 2)), .ref nla], aI G nla 10 (nF (gz p)), ob nb 6 [.int (nI (p 1)), .int (nI (p 3)), .ref nlb], aI G nlb 10 (nF (go p)), ob xh 3 [.int (nI (srN hs)), .int (nI (srT hs)), .int (nI (srA hs)), .int (nI (srD hs)), .int (bI (srB hs)), .int (nI hm), .ref xj, .ref ha, .ref hb, .ref hc, .ref hd, .ref he], aI G ha 128 (nF (srO hs)), aI G hb 128 (nF (srM hs)), aI G hc 128 (srP hs), aI G hd 128 (nF (srL hs)), aZ G he 128 (bF (srG hs)), ob xj 5 [.ref xjf, .ref xjl], aI G xjf 9 (nF jf), aI G xjl 18 (nF jl)] (fun (v : Option Value) (w : va_W) => ∃ (hs2 : Sr) (jf2 jl2 : Nat → Nat), v = some (.int (kpR (runS (folB (gz p) (p 0) (p 2) (go p) (p 1) (p 3)) md (p 2) (p 3) (gz p) (go p) (p 1) c0S 128) k)) ∧ w = [ob x 10 [.ref xt, .ref xn, .ref xr, .ref xa, .ref xs, .ref xf, .ref xw, .ref xi, .int (nI sn), .long sd, .ref xe, .ref xp, .ref xg, .ref xl, .ref xk, .ref xh, .ref xv], ob xn 1 [.ref na, .ref nb], ob na 6 [.int (nI (p 0)), .int (nI (p 2)), .ref nla], aI G nla 10 (nF (gz p)), ob nb 6 [.int (nI (p 1)), .int (nI (p 3)), .ref nlb], aI G nlb 10 (nF (go p)), ob xh 3 [.int (nI (srN hs2)), .int (nI (srT hs2)), .int (nI (srA hs2)), .int (nI (srD hs2)), .int (bI (srB hs2)), .int (nI md), .ref xj, .ref ha, .ref hb, .ref hc, .ref hd, .ref he], aI G ha 128 (nF (srO hs2)), aI G hb 128 (nF (srM hs2)), aI G hc 128 (srP hs2), aI G hd 128 (nF (srL hs2)), aZ G he 128 (bF (srG hs2)), ob xj 5 [.ref xjf, .ref xjl], aI G xjf 9 (nF jf2), aI G xjl 18 (nF jl2)]) 0 0 := by
  refine MM.ofI (by decide) rfl (fun Γ X Y hnm ret => ?_)
  show Wc Γ 0 0 0 [(0, .ref x), (1, .int (nI md)), (2, .int k)] [] [ob x 10 [.ref xt, .ref xn, .ref xr, .ref xa, .ref xs, .ref xf, .ref xw, .ref xi, .int (nI sn), .long sd, .ref xe, .ref xp, .ref xg, .ref xl, .ref xk, .ref xh, .ref xv], ob xn 1 [.ref na, .ref nb], ob na 6 [.int (nI (p 0)), .int (nI (p 2)), .ref nla], aI G nla 10 (nF (gz p)), ob nb 6 [.int (nI (p 1)), .int (nI (p 3)), .ref nlb], aI G nlb 10 (nF (go p)), ob xh 3 [.int (nI (srN hs)), .int (nI (srT hs)), .int (nI (srA hs)), .int (nI (srD hs)), .int (bI (srB hs)), .int (nI hm), .ref xj, .ref ha, .ref hb, .ref hc, .ref hd, .ref he], aI G ha 128 (nF (srO hs)), aI G hb 128 (nF (srM hs)), aI G hc 128 (srP hs), aI G hd 128 (nF (srL hs)), aZ G he 128 (bF (srG hs)), ob xj 5 [.ref xjf, .ref xjl], aI G xjf 9 (nF jf), aI G xjl 18 (nF jl)]
  have hn0 := hr.2.1
  have hn01 := hr.1
  have hn1 := hr.2.2.2.1
  have hn11 := hr.2.2.1
  have he0 := pg_e0 hr
  have he1 := hr.2.2.2.2.1 3
  have hg0 := hr.2.2.2.2.2.1
  have hg1 := (fun j => hr.2.2.2.2.1 (12 + j) : ∀ j, go p j < 32)
  have hg0n := (hr.2.2.2.2.2.2.1 0 (by decide) : ∀ j, gz p j < 2 ^ p 0)
  have hg1n := (hr.2.2.2.2.2.2.1 1 (by decide) : ∀ j, go p j < 2 ^ p 1)
  have he0n := hr.2.2.2.2.2.2.2 0 (by decide)
  have he1n := hr.2.2.2.2.2.2.2 1 (by decide)
  have hg0w := (fun j => Nat.lt_trans (hg0 j) (by decide) : ∀ j, gz p j < 32)
  have hC := Cvr_fol (e0 := p 2) (e1 := p 3) hn0 hn1 hg0n hg1n
  refine wc_iload_n X 0 1 dX10_kept_0 rfl ?_
  refine wc_callS X 1 [] (c_X10_isMode l G (nI md) ) ys_X10_isMode rfl q_596 ⟨rfl, rfl⟩ ⟨rfl, rfl⟩ ⟨rfl, rfl⟩ rfl rfl rfl dX10_kept_1 ?_
  refine wc_topi (b2i true) (congrArg b2i (mode_in hmd (by decide))) ?_
  refine wc_if_neB X 4 10 dX10_kept_4 (by decide) (fun c4_1 => ?_) (fun c4_1 => ?_)
  ·
    refine wc_aload_n X 10 0 dX10_kept_10 rfl ?_
    refine wc_get X 11 0 15 kd10 rfl (by decide) q_248 rfl dX10_kept_11 ?_
    refine wc_aload_n X 14 0 dX10_kept_14 rfl ?_
    refine wc_get X 15 0 1 kd10 rfl (by decide) q_234 rfl dX10_kept_15 ?_
    refine wc_iload_n X 18 1 dX10_kept_18 rfl ?_
    refine wc_mutV X Y 19 [6, 7, 8, 9, 10, 11, 12, 13, 14, 1, 2, 3, 4, 5] [0] 6 (c_X3_run l G xh ha hb hc hd he hm md hs xj xjf xjl jf jl (folB (gz p) (p 0) (p 2) (go p) (p 1) (p 3)) xn na nla (p 0) (p 2) (gz p) nb nlb (p 1) (p 3) (go p) (by first | assumption | omega) (by first | assumption | omega) (by first | assumption | omega) (by first | assumption | omega) (by first | assumption | omega) (by first | assumption | omega) (by first | assumption | omega) (by first | assumption | omega) (by first | assumption | omega) (by first | assumption | omega) (by first | assumption | omega) (by first | assumption | omega) (by first | assumption | omega) hC (fun _ _ => rfl)) yv_X3_run kd3 rfl rfl (wr := [ob x 10 [.ref xt, .ref xn, .ref xr, .ref xa, .ref xs, .ref xf, .ref xw, .ref xi, .int (nI sn), .long sd, .ref xe, .ref xp, .ref xg, .ref xl, .ref xk, .ref xh, .ref xv]]) rfl ⟨rfl, rfl, rfl⟩ q_599 ⟨rfl, rfl⟩ ⟨rfl, rfl⟩ ⟨rfl, rfl⟩ rfl rfl rfl dX10_kept_19 (fun v w hp_2 => ?_)
    obtain ⟨s9, f2_3, l2_4, rfl, rfl, hs9⟩ := hp_2
    refine wc_perm Y [0, 10, 11, 12, 13, 14, 1, 2, 3, 4, 5, 6, 7, 8, 9] [ob x 10 [.ref xt, .ref xn, .ref xr, .ref xa, .ref xs, .ref xf, .ref xw, .ref xi, .int (nI sn), .long sd, .ref xe, .ref xp, .ref xg, .ref xl, .ref xk, .ref xh, .ref xv], ob xn 1 [.ref na, .ref nb], ob na 6 [.int (nI (p 0)), .int (nI (p 2)), .ref nla], aI G nla 10 (nF (gz p)), ob nb 6 [.int (nI (p 1)), .int (nI (p 3)), .ref nlb], aI G nlb 10 (nF (go p)), ob xh 3 [.int (nI (srN s9)), .int (nI (srT s9)), .int (nI (srA s9)), .int (nI (srD s9)), .int (bI (srB s9)), .int (nI md), .ref xj, .ref ha, .ref hb, .ref hc, .ref hd, .ref he], aI G ha 128 (nF (srO s9)), aI G hb 128 (nF (srM s9)), aI G hc 128 (srP s9), aI G hd 128 (nF (srL s9)), aZ G he 128 (bF (srG s9)), ob xj 5 [.ref xjf, .ref xjl], aI G xjf 9 (nF f2_3), aI G xjl 18 (nF l2_4)] rfl rfl ?_
    show Wc Γ 0 0 22 [(0, .ref x), (1, .int (nI md)), (2, .int k)] [] [ob x 10 [.ref xt, .ref xn, .ref xr, .ref xa, .ref xs, .ref xf, .ref xw, .ref xi, .int (nI sn), .long sd, .ref xe, .ref xp, .ref xg, .ref xl, .ref xk, .ref xh, .ref xv], ob xn 1 [.ref na, .ref nb], ob na 6 [.int (nI (p 0)), .int (nI (p 2)), .ref nla], aI G nla 10 (nF (gz p)), ob nb 6 [.int (nI (p 1)), .int (nI (p 3)), .ref nlb], aI G nlb 10 (nF (go p)), ob xh 3 [.int (nI (srN s9)), .int (nI (srT s9)), .int (nI (srA s9)), .int (nI (srD s9)), .int (bI (srB s9)), .int (nI md), .ref xj, .ref ha, .ref hb, .ref hc, .ref hd, .ref he], aI G ha 128 (nF (srO s9)), aI G hb 128 (nF (srM s9)), aI G hc 128 (srP s9), aI G hd 128 (nF (srL s9)), aZ G he 128 (bF (srG s9)), ob xj 5 [.ref xjf, .ref xjl], aI G xjf 9 (nF f2_3), aI G xjl 18 (nF l2_4)]
    have hI9 : Inv (folB (gz p) (p 0) (p 2) (go p) (p 1) (p 3)) md (p 0) (p 1) s9 := by rw [hs9]; exact run_inv hC hn01 hn1 hn11 hg0n hg1n rfl rfl 128
    have hN9 := Inv_le hn0 hn1 hI9
    have e9 : Eqv s9 (runS (folB (gz p) (p 0) (p 2) (go p) (p 1) (p 3)) md (p 2) (p 3) (gz p) (go p) (p 1) c0S 128) := by rw [hs9]; exact run_c0
    refine wc_aload_n X 22 0 dX10_kept_22 rfl ?_
    refine wc_get X 23 0 15 kd10 rfl (by decide) q_248 rfl dX10_kept_23 ?_
    refine wc_iload_n X 26 2 dX10_kept_26 rfl ?_
    refine wc_callV X 27 [6, 7, 8, 11] 6 (c_X3_tellPair l G xh ha hb hc hd he xj md s9 k hN9) yv_X3_tellPair kd3 rfl rfl q_637 ⟨rfl, rfl⟩ ⟨rfl, rfl⟩ ⟨rfl, rfl⟩ rfl rfl rfl dX10_kept_27 ?_
    exact ret 30 _ (kpR s9 k) _ dX10_kept_30 (⟨_, _, _, by rw [← kpR_eqv (Nat.le_refl _) e9], rfl⟩)
  ·
    exact absurd c4_1 (by decide)

set_option maxHeartbeats 4000000 in
set_option maxRecDepth 100000 in
theorem c_X10_foundF (l : Launch) (G : GG) (x xt xn xr xa xs xf xw xi sn : Nat) (sd : Int64) (xe xp xg xl xk xh xv : Nat) (md k : Int32) (ho : outR md 0 2 ∨ outR k 0 200) : RM l G yX10_found (Cond.code yX10_found cX10_found 3 (some .int)) { frames := 1, cells := 0, slots := 0, locals := 20 } [.ref x, .int md, .int k] [ob x 10 [.ref xt, .ref xn, .ref xr, .ref xa, .ref xs, .ref xf, .ref xw, .ref xi, .int (nI sn), .long sd, .ref xe, .ref xp, .ref xg, .ref xl, .ref xk, .ref xh, .ref xv]] (.int (-2)) := by
  refine RM.ofI (by decide) rfl (fun Γ X ret => ?_)
  show Wc Γ 0 0 0 [(0, .ref x), (1, .int md), (2, .int k)] [] [ob x 10 [.ref xt, .ref xn, .ref xr, .ref xa, .ref xs, .ref xf, .ref xw, .ref xi, .int (nI sn), .long sd, .ref xe, .ref xp, .ref xg, .ref xl, .ref xk, .ref xh, .ref xv]]
  refine wc_iload_n X 0 1 dX10_found_0 rfl ?_
  refine wc_callS X 1 [] (c_X10_isMode l G md ) ys_X10_isMode rfl q_596 ⟨rfl, rfl⟩ ⟨rfl, rfl⟩ ⟨rfl, rfl⟩ rfl rfl rfl dX10_found_1 ?_
  refine wc_if_eqB X 4 14 dX10_found_4 (by decide) (fun c4_1 => ?_) (fun c4_1 => ?_)
  ·
    refine wc_bipush X 14 (-2) dX10_found_14 (by decide) ?_
    exact ret 16 _ (-2) dX10_found_16 (rfl)
  ·
    refine wc_iload_n X 7 2 dX10_found_7 rfl ?_
    refine wc_callS X 8 [] (c_X10_isPlace l G k ) ys_X10_isPlace rfl q_530 ⟨rfl, rfl⟩ ⟨rfl, rfl⟩ ⟨rfl, rfl⟩ rfl rfl rfl dX10_found_8 ?_
    refine wc_if_neB X 11 17 dX10_found_11 (by decide) (fun c11_2 => ?_) (fun c11_2 => ?_)
    ·
      rcases ho with ho | ho
      · exact absurd c4_1 (by rw [mode_out ho (by decide)]; decide)
      · exact absurd c11_2 (by rw [mode_out ho (by decide)]; decide)
    ·
      refine wc_bipush X 14 (-2) dX10_found_14 (by decide) ?_
      exact ret 16 _ (-2) dX10_found_16 (rfl)

set_option maxHeartbeats 4000000 in
set_option maxRecDepth 100000 in
theorem c_X10_foundS (l : Launch) (G : GG) (x xt xn xr xa xs xf xw xi sn : Nat) (sd : Int64) (xe xp xg xl xk xh xv : Nat) (na nla nb nlb : Nat) (p : Nat → Nat) (xpl pn : Nat) (pb : Bool) (pg : Nat → Nat) (xj xjf xjl : Nat) (jf jl : Nat → Nat) (ha hb hc hd he hm : Nat) (hs : Sr) (md k : Nat) (hr : pgOk p) (hmd : md ≤ 2) (hk : k ≤ 200) : MM l G yX10_found (Cond.code yX10_found cX10_found 3 (some .int)) { frames := 6, cells := 0, slots := 0, locals := 147 } [.ref x, .int (nI md), .int (nI k)] [ob x 10 [.ref xt, .ref xn, .ref xr, .ref xa, .ref xs, .ref xf, .ref xw, .ref xi, .int (nI sn), .long sd, .ref xe, .ref xp, .ref xg, .ref xl, .ref xk, .ref xh, .ref xv], ob xn 1 [.ref na, .ref nb], ob na 6 [.int (nI (p 0)), .int (nI (p 2)), .ref nla], aI G nla 10 (nF (gz p)), ob nb 6 [.int (nI (p 1)), .int (nI (p 3)), .ref nlb], aI G nlb 10 (nF (go p)), ob xp 8 [.int (b2i pb), .int (nI pn), .ref xpl], aI G xpl 200 (nF pg), ob xh 3 [.int (nI (srN hs)), .int (nI (srT hs)), .int (nI (srA hs)), .int (nI (srD hs)), .int (bI (srB hs)), .int (nI hm), .ref xj, .ref ha, .ref hb, .ref hc, .ref hd, .ref he], aI G ha 128 (nF (srO hs)), aI G hb 128 (nF (srM hs)), aI G hc 128 (srP hs), aI G hd 128 (nF (srL hs)), aZ G he 128 (bF (srG hs)), ob xj 5 [.ref xjf, .ref xjl], aI G xjf 9 (nF jf), aI G xjl 18 (nF jl)] (fun (v : Option Value) (w : va_W) => ∃ (hs2 : Sr) (jf2 jl2 : Nat → Nat) (pn2 : Nat) (pb2 : Bool) (pg2 : Nat → Nat), v = some (.int (tellS (runS (folB (gz p) (p 0) (p 2) (go p) (p 1) (p 3)) md (p 2) (p 3) (gz p) (go p) (p 1) c0S 128) k)) ∧ w = [ob x 10 [.ref xt, .ref xn, .ref xr, .ref xa, .ref xs, .ref xf, .ref xw, .ref xi, .int (nI sn), .long sd, .ref xe, .ref xp, .ref xg, .ref xl, .ref xk, .ref xh, .ref xv], ob xn 1 [.ref na, .ref nb], ob na 6 [.int (nI (p 0)), .int (nI (p 2)), .ref nla], aI G nla 10 (nF (gz p)), ob nb 6 [.int (nI (p 1)), .int (nI (p 3)), .ref nlb], aI G nlb 10 (nF (go p)), ob xp 8 [.int (b2i pb2), .int (nI pn2), .ref xpl], aI G xpl 200 (nF pg2), ob xh 3 [.int (nI (srN hs2)), .int (nI (srT hs2)), .int (nI (srA hs2)), .int (nI (srD hs2)), .int (bI (srB hs2)), .int (nI md), .ref xj, .ref ha, .ref hb, .ref hc, .ref hd, .ref he], aI G ha 128 (nF (srO hs2)), aI G hb 128 (nF (srM hs2)), aI G hc 128 (srP hs2), aI G hd 128 (nF (srL hs2)), aZ G he 128 (bF (srG hs2)), ob xj 5 [.ref xjf, .ref xjl], aI G xjf 9 (nF jf2), aI G xjl 18 (nF jl2)]) 0 0 := by
  refine MM.ofI (by decide) rfl (fun Γ X Y hnm ret => ?_)
  show Wc Γ 0 0 0 [(0, .ref x), (1, .int (nI md)), (2, .int (nI k))] [] [ob x 10 [.ref xt, .ref xn, .ref xr, .ref xa, .ref xs, .ref xf, .ref xw, .ref xi, .int (nI sn), .long sd, .ref xe, .ref xp, .ref xg, .ref xl, .ref xk, .ref xh, .ref xv], ob xn 1 [.ref na, .ref nb], ob na 6 [.int (nI (p 0)), .int (nI (p 2)), .ref nla], aI G nla 10 (nF (gz p)), ob nb 6 [.int (nI (p 1)), .int (nI (p 3)), .ref nlb], aI G nlb 10 (nF (go p)), ob xp 8 [.int (b2i pb), .int (nI pn), .ref xpl], aI G xpl 200 (nF pg), ob xh 3 [.int (nI (srN hs)), .int (nI (srT hs)), .int (nI (srA hs)), .int (nI (srD hs)), .int (bI (srB hs)), .int (nI hm), .ref xj, .ref ha, .ref hb, .ref hc, .ref hd, .ref he], aI G ha 128 (nF (srO hs)), aI G hb 128 (nF (srM hs)), aI G hc 128 (srP hs), aI G hd 128 (nF (srL hs)), aZ G he 128 (bF (srG hs)), ob xj 5 [.ref xjf, .ref xjl], aI G xjf 9 (nF jf), aI G xjl 18 (nF jl)]
  have hn0 := hr.2.1
  have hn01 := hr.1
  have hn1 := hr.2.2.2.1
  have hn11 := hr.2.2.1
  have he0 := pg_e0 hr
  have he1 := hr.2.2.2.2.1 3
  have hg0 := hr.2.2.2.2.2.1
  have hg1 := (fun j => hr.2.2.2.2.1 (12 + j) : ∀ j, go p j < 32)
  have hg0n := (hr.2.2.2.2.2.2.1 0 (by decide) : ∀ j, gz p j < 2 ^ p 0)
  have hg1n := (hr.2.2.2.2.2.2.1 1 (by decide) : ∀ j, go p j < 2 ^ p 1)
  have he0n := hr.2.2.2.2.2.2.2 0 (by decide)
  have he1n := hr.2.2.2.2.2.2.2 1 (by decide)
  have hg0w := (fun j => Nat.lt_trans (hg0 j) (by decide) : ∀ j, gz p j < 32)
  have hC := Cvr_fol (e0 := p 2) (e1 := p 3) hn0 hn1 hg0n hg1n
  refine wc_iload_n X 0 1 dX10_found_0 rfl ?_
  refine wc_callS X 1 [] (c_X10_isMode l G (nI md) ) ys_X10_isMode rfl q_596 ⟨rfl, rfl⟩ ⟨rfl, rfl⟩ ⟨rfl, rfl⟩ rfl rfl rfl dX10_found_1 ?_
  refine wc_topi (b2i true) (congrArg b2i (mode_in hmd (by decide))) ?_
  refine wc_if_eqB X 4 14 dX10_found_4 (by decide) (fun c4_1 => ?_) (fun c4_1 => ?_)
  ·
    exact absurd c4_1 (by decide)
  ·
    refine wc_iload_n X 7 2 dX10_found_7 rfl ?_
    refine wc_callS X 8 [] (c_X10_isPlace l G (nI k) ) ys_X10_isPlace rfl q_530 ⟨rfl, rfl⟩ ⟨rfl, rfl⟩ ⟨rfl, rfl⟩ rfl rfl rfl dX10_found_8 ?_
    refine wc_topi (b2i true) (congrArg b2i (mode_in hk (by decide))) ?_
    refine wc_if_neB X 11 17 dX10_found_11 (by decide) (fun c11_2 => ?_) (fun c11_2 => ?_)
    ·
      refine wc_aload_n X 17 0 dX10_found_17 rfl ?_
      refine wc_get X 18 0 15 kd10 rfl (by decide) q_248 rfl dX10_found_18 ?_
      refine wc_aload_n X 21 0 dX10_found_21 rfl ?_
      refine wc_get X 22 0 1 kd10 rfl (by decide) q_234 rfl dX10_found_22 ?_
      refine wc_iload_n X 25 1 dX10_found_25 rfl ?_
      refine wc_mutV X Y 26 [8, 9, 10, 11, 12, 13, 14, 15, 16, 1, 2, 3, 4, 5] [0, 6, 7] 8 (c_X3_run l G xh ha hb hc hd he hm md hs xj xjf xjl jf jl (folB (gz p) (p 0) (p 2) (go p) (p 1) (p 3)) xn na nla (p 0) (p 2) (gz p) nb nlb (p 1) (p 3) (go p) (by first | assumption | omega) (by first | assumption | omega) (by first | assumption | omega) (by first | assumption | omega) (by first | assumption | omega) (by first | assumption | omega) (by first | assumption | omega) (by first | assumption | omega) (by first | assumption | omega) (by first | assumption | omega) (by first | assumption | omega) (by first | assumption | omega) (by first | assumption | omega) hC (fun _ _ => rfl)) yv_X3_run kd3 rfl rfl (wr := [ob x 10 [.ref xt, .ref xn, .ref xr, .ref xa, .ref xs, .ref xf, .ref xw, .ref xi, .int (nI sn), .long sd, .ref xe, .ref xp, .ref xg, .ref xl, .ref xk, .ref xh, .ref xv], ob xp 8 [.int (b2i pb), .int (nI pn), .ref xpl], aI G xpl 200 (nF pg)]) rfl ⟨rfl, rfl, rfl⟩ q_599 ⟨rfl, rfl⟩ ⟨rfl, rfl⟩ ⟨rfl, rfl⟩ rfl rfl rfl dX10_found_26 (fun v w hp_3 => ?_)
      obtain ⟨s9, f2_4, l2_5, rfl, rfl, hs9⟩ := hp_3
      refine wc_perm Y [0, 12, 13, 14, 15, 16, 1, 2, 3, 4, 5, 6, 7, 8, 9, 10, 11] [ob x 10 [.ref xt, .ref xn, .ref xr, .ref xa, .ref xs, .ref xf, .ref xw, .ref xi, .int (nI sn), .long sd, .ref xe, .ref xp, .ref xg, .ref xl, .ref xk, .ref xh, .ref xv], ob xn 1 [.ref na, .ref nb], ob na 6 [.int (nI (p 0)), .int (nI (p 2)), .ref nla], aI G nla 10 (nF (gz p)), ob nb 6 [.int (nI (p 1)), .int (nI (p 3)), .ref nlb], aI G nlb 10 (nF (go p)), ob xp 8 [.int (b2i pb), .int (nI pn), .ref xpl], aI G xpl 200 (nF pg), ob xh 3 [.int (nI (srN s9)), .int (nI (srT s9)), .int (nI (srA s9)), .int (nI (srD s9)), .int (bI (srB s9)), .int (nI md), .ref xj, .ref ha, .ref hb, .ref hc, .ref hd, .ref he], aI G ha 128 (nF (srO s9)), aI G hb 128 (nF (srM s9)), aI G hc 128 (srP s9), aI G hd 128 (nF (srL s9)), aZ G he 128 (bF (srG s9)), ob xj 5 [.ref xjf, .ref xjl], aI G xjf 9 (nF f2_4), aI G xjl 18 (nF l2_5)] rfl rfl ?_
      show Wc Γ 0 0 29 [(0, .ref x), (1, .int (nI md)), (2, .int (nI k))] [] [ob x 10 [.ref xt, .ref xn, .ref xr, .ref xa, .ref xs, .ref xf, .ref xw, .ref xi, .int (nI sn), .long sd, .ref xe, .ref xp, .ref xg, .ref xl, .ref xk, .ref xh, .ref xv], ob xn 1 [.ref na, .ref nb], ob na 6 [.int (nI (p 0)), .int (nI (p 2)), .ref nla], aI G nla 10 (nF (gz p)), ob nb 6 [.int (nI (p 1)), .int (nI (p 3)), .ref nlb], aI G nlb 10 (nF (go p)), ob xp 8 [.int (b2i pb), .int (nI pn), .ref xpl], aI G xpl 200 (nF pg), ob xh 3 [.int (nI (srN s9)), .int (nI (srT s9)), .int (nI (srA s9)), .int (nI (srD s9)), .int (bI (srB s9)), .int (nI md), .ref xj, .ref ha, .ref hb, .ref hc, .ref hd, .ref he], aI G ha 128 (nF (srO s9)), aI G hb 128 (nF (srM s9)), aI G hc 128 (srP s9), aI G hd 128 (nF (srL s9)), aZ G he 128 (bF (srG s9)), ob xj 5 [.ref xjf, .ref xjl], aI G xjf 9 (nF f2_4), aI G xjl 18 (nF l2_5)]
      have hI9 : Inv (folB (gz p) (p 0) (p 2) (go p) (p 1) (p 3)) md (p 0) (p 1) s9 := by rw [hs9]; exact run_inv hC hn01 hn1 hn11 hg0n hg1n rfl rfl 128
      have hN9 := Inv_le hn0 hn1 hI9
      have e9 : Eqv s9 (runS (folB (gz p) (p 0) (p 2) (go p) (p 1) (p 3)) md (p 2) (p 3) (gz p) (go p) (p 1) c0S 128) := by rw [hs9]; exact run_c0
      refine wc_aload_n X 29 0 dX10_found_29 rfl ?_
      refine wc_get X 30 0 15 kd10 rfl (by decide) q_248 rfl dX10_found_30 ?_
      refine wc_aload_n X 33 0 dX10_found_33 rfl ?_
      refine wc_get X 34 0 11 kd10 rfl (by decide) q_244 rfl dX10_found_34 ?_
      rcases opt_cases (srB s9) with hb9 | ⟨kb, hb9⟩
      ·
        refine wc_mutV X Y 37 [8, 11, 12, 6, 7] [0, 1, 2, 3, 4, 5, 9, 10, 13, 14, 15, 16] 8 (c_X3_spellN l G xh ha hb hc hd he xj md s9 xp xpl pn pb pg hb9) yv_X3_spell kd3 rfl rfl (wr := [ob x 10 [.ref xt, .ref xn, .ref xr, .ref xa, .ref xs, .ref xf, .ref xw, .ref xi, .int (nI sn), .long sd, .ref xe, .ref xp, .ref xg, .ref xl, .ref xk, .ref xh, .ref xv], ob xn 1 [.ref na, .ref nb], ob na 6 [.int (nI (p 0)), .int (nI (p 2)), .ref nla], aI G nla 10 (nF (gz p)), ob nb 6 [.int (nI (p 1)), .int (nI (p 3)), .ref nlb], aI G nlb 10 (nF (go p)), aI G ha 128 (nF (srO s9)), aI G hb 128 (nF (srM s9)), aZ G he 128 (bF (srG s9)), ob xj 5 [.ref xjf, .ref xjl], aI G xjf 9 (nF f2_4), aI G xjl 18 (nF l2_5)]) rfl ⟨rfl, rfl, rfl⟩ q_645 ⟨rfl, rfl⟩ ⟨rfl, rfl⟩ ⟨rfl, rfl⟩ rfl rfl rfl dX10_found_37 (fun v w hp_6 => ?_)
        obtain ⟨rfl, rfl⟩ := hp_6
        refine wc_perm Y [0, 1, 2, 3, 4, 5, 15, 16, 12, 6, 7, 13, 14, 8, 9, 10, 11] [ob x 10 [.ref xt, .ref xn, .ref xr, .ref xa, .ref xs, .ref xf, .ref xw, .ref xi, .int (nI sn), .long sd, .ref xe, .ref xp, .ref xg, .ref xl, .ref xk, .ref xh, .ref xv], ob xn 1 [.ref na, .ref nb], ob na 6 [.int (nI (p 0)), .int (nI (p 2)), .ref nla], aI G nla 10 (nF (gz p)), ob nb 6 [.int (nI (p 1)), .int (nI (p 3)), .ref nlb], aI G nlb 10 (nF (go p)), ob xp 8 [.int (b2i false), .int (nI 0), .ref xpl], aI G xpl 200 (nF pg), ob xh 3 [.int (nI (srN s9)), .int (nI (srT s9)), .int (nI (srA s9)), .int (nI (srD s9)), .int (bI (srB s9)), .int (nI md), .ref xj, .ref ha, .ref hb, .ref hc, .ref hd, .ref he], aI G ha 128 (nF (srO s9)), aI G hb 128 (nF (srM s9)), aI G hc 128 (srP s9), aI G hd 128 (nF (srL s9)), aZ G he 128 (bF (srG s9)), ob xj 5 [.ref xjf, .ref xjl], aI G xjf 9 (nF f2_4), aI G xjl 18 (nF l2_5)] rfl rfl ?_
        show Wc Γ 0 0 40 [(0, .ref x), (1, .int (nI md)), (2, .int (nI k))] [] [ob x 10 [.ref xt, .ref xn, .ref xr, .ref xa, .ref xs, .ref xf, .ref xw, .ref xi, .int (nI sn), .long sd, .ref xe, .ref xp, .ref xg, .ref xl, .ref xk, .ref xh, .ref xv], ob xn 1 [.ref na, .ref nb], ob na 6 [.int (nI (p 0)), .int (nI (p 2)), .ref nla], aI G nla 10 (nF (gz p)), ob nb 6 [.int (nI (p 1)), .int (nI (p 3)), .ref nlb], aI G nlb 10 (nF (go p)), ob xp 8 [.int (b2i false), .int (nI 0), .ref xpl], aI G xpl 200 (nF pg), ob xh 3 [.int (nI (srN s9)), .int (nI (srT s9)), .int (nI (srA s9)), .int (nI (srD s9)), .int (bI (srB s9)), .int (nI md), .ref xj, .ref ha, .ref hb, .ref hc, .ref hd, .ref he], aI G ha 128 (nF (srO s9)), aI G hb 128 (nF (srM s9)), aI G hc 128 (srP s9), aI G hd 128 (nF (srL s9)), aZ G he 128 (bF (srG s9)), ob xj 5 [.ref xjf, .ref xjl], aI G xjf 9 (nF f2_4), aI G xjl 18 (nF l2_5)]
        refine wc_aload_n X 40 0 dX10_found_40 rfl ?_
        refine wc_get X 41 0 11 kd10 rfl (by decide) q_244 rfl dX10_found_41 ?_
        refine wc_iload_n X 44 2 dX10_found_44 rfl ?_
        refine wc_callV X 45 [6, 7] 6 (c_X8_tell l G xp xpl 0 false pg k (by omega) (by first | assumption | omega)) yv_X8_tell kd8 rfl rfl q_556 ⟨rfl, rfl⟩ ⟨rfl, rfl⟩ ⟨rfl, rfl⟩ rfl rfl rfl dX10_found_45 ?_
        exact ret 48 _ (spTell false 0 pg k) _ dX10_found_48 (⟨_, _, _, _, _, _, by rw [← tellS_eqv hn0 hn1 hI9 e9]; exact congrArg (fun z => some (Value.int z)) (tellS_n hb9), rfl⟩)
      ·
        have hkb := hI9.2.2.2 kb hb9
        have hdp := dp_le hn0 hn1 hI9 128 kb hkb
        refine wc_mutV X Y 37 [8, 11, 12, 6, 7] [0, 1, 2, 3, 4, 5, 9, 10, 13, 14, 15, 16] 8 (c_X3_spellS l G xh ha hb hc hd he xj md s9 (folB (gz p) (p 0) (p 2) (go p) (p 1) (p 3)) (p 0) (p 1) xp xpl pn pb pg kb (by first | assumption | omega) (by first | assumption | omega) hI9 hb9) yv_X3_spell kd3 rfl rfl (wr := [ob x 10 [.ref xt, .ref xn, .ref xr, .ref xa, .ref xs, .ref xf, .ref xw, .ref xi, .int (nI sn), .long sd, .ref xe, .ref xp, .ref xg, .ref xl, .ref xk, .ref xh, .ref xv], ob xn 1 [.ref na, .ref nb], ob na 6 [.int (nI (p 0)), .int (nI (p 2)), .ref nla], aI G nla 10 (nF (gz p)), ob nb 6 [.int (nI (p 1)), .int (nI (p 3)), .ref nlb], aI G nlb 10 (nF (go p)), aI G ha 128 (nF (srO s9)), aI G hb 128 (nF (srM s9)), aZ G he 128 (bF (srG s9)), ob xj 5 [.ref xjf, .ref xjl], aI G xjf 9 (nF f2_4), aI G xjl 18 (nF l2_5)]) rfl ⟨rfl, rfl, rfl⟩ q_645 ⟨rfl, rfl⟩ ⟨rfl, rfl⟩ ⟨rfl, rfl⟩ rfl rfl rfl dX10_found_37 (fun v w hp_7 => ?_)
        obtain ⟨g2_8, rfl, rfl, hgl⟩ := hp_7
        refine wc_perm Y [0, 1, 2, 3, 4, 5, 15, 16, 12, 6, 7, 13, 14, 8, 9, 10, 11] [ob x 10 [.ref xt, .ref xn, .ref xr, .ref xa, .ref xs, .ref xf, .ref xw, .ref xi, .int (nI sn), .long sd, .ref xe, .ref xp, .ref xg, .ref xl, .ref xk, .ref xh, .ref xv], ob xn 1 [.ref na, .ref nb], ob na 6 [.int (nI (p 0)), .int (nI (p 2)), .ref nla], aI G nla 10 (nF (gz p)), ob nb 6 [.int (nI (p 1)), .int (nI (p 3)), .ref nlb], aI G nlb 10 (nF (go p)), ob xp 8 [.int (b2i true), .int (nI (dpK s9 128 kb)), .ref xpl], aI G xpl 200 (nF g2_8), ob xh 3 [.int (nI (srN s9)), .int (nI (srT s9)), .int (nI (srA s9)), .int (nI (srD s9)), .int (bI (srB s9)), .int (nI md), .ref xj, .ref ha, .ref hb, .ref hc, .ref hd, .ref he], aI G ha 128 (nF (srO s9)), aI G hb 128 (nF (srM s9)), aI G hc 128 (srP s9), aI G hd 128 (nF (srL s9)), aZ G he 128 (bF (srG s9)), ob xj 5 [.ref xjf, .ref xjl], aI G xjf 9 (nF f2_4), aI G xjl 18 (nF l2_5)] rfl rfl ?_
        show Wc Γ 0 0 40 [(0, .ref x), (1, .int (nI md)), (2, .int (nI k))] [] [ob x 10 [.ref xt, .ref xn, .ref xr, .ref xa, .ref xs, .ref xf, .ref xw, .ref xi, .int (nI sn), .long sd, .ref xe, .ref xp, .ref xg, .ref xl, .ref xk, .ref xh, .ref xv], ob xn 1 [.ref na, .ref nb], ob na 6 [.int (nI (p 0)), .int (nI (p 2)), .ref nla], aI G nla 10 (nF (gz p)), ob nb 6 [.int (nI (p 1)), .int (nI (p 3)), .ref nlb], aI G nlb 10 (nF (go p)), ob xp 8 [.int (b2i true), .int (nI (dpK s9 128 kb)), .ref xpl], aI G xpl 200 (nF g2_8), ob xh 3 [.int (nI (srN s9)), .int (nI (srT s9)), .int (nI (srA s9)), .int (nI (srD s9)), .int (bI (srB s9)), .int (nI md), .ref xj, .ref ha, .ref hb, .ref hc, .ref hd, .ref he], aI G ha 128 (nF (srO s9)), aI G hb 128 (nF (srM s9)), aI G hc 128 (srP s9), aI G hd 128 (nF (srL s9)), aZ G he 128 (bF (srG s9)), ob xj 5 [.ref xjf, .ref xjl], aI G xjf 9 (nF f2_4), aI G xjl 18 (nF l2_5)]
        refine wc_aload_n X 40 0 dX10_found_40 rfl ?_
        refine wc_get X 41 0 11 kd10 rfl (by decide) q_244 rfl dX10_found_41 ?_
        refine wc_iload_n X 44 2 dX10_found_44 rfl ?_
        refine wc_callV X 45 [6, 7] 6 (c_X8_tell l G xp xpl (dpK s9 128 kb) true g2_8 k (by omega) (by first | assumption | omega)) yv_X8_tell kd8 rfl rfl q_556 ⟨rfl, rfl⟩ ⟨rfl, rfl⟩ ⟨rfl, rfl⟩ rfl rfl rfl dX10_found_45 ?_
        exact ret 48 _ (spTell true (dpK s9 128 kb) g2_8 k) _ dX10_found_48 (⟨_, _, _, _, _, _, by rw [← tellS_eqv hn0 hn1 hI9 e9]; exact congrArg (fun z => some (Value.int z)) (tellS_s hb9 hgl), rfl⟩)
    ·
      exact absurd c11_2 (by decide)

set_option maxHeartbeats 4000000 in
set_option maxRecDepth 100000 in
theorem c_X10_seeF (l : Launch) (G : GG) (x xt xn xr xa xs xf xw xi sn : Nat) (sd : Int64) (xe xp xg xl xk xh xv : Nat) (y k : Int32) (ho : wordX y = false ∨ outR k 0 1) : RM l G yX10_see (Cond.code yX10_see cX10_see 3 (some .int)) { frames := 2, cells := 0, slots := 0, locals := 42 } [.ref x, .int y, .int k] [ob x 10 [.ref xt, .ref xn, .ref xr, .ref xa, .ref xs, .ref xf, .ref xw, .ref xi, .int (nI sn), .long sd, .ref xe, .ref xp, .ref xg, .ref xl, .ref xk, .ref xh, .ref xv]] (.int (-2)) := by
  refine RM.ofI (by decide) rfl (fun Γ X ret => ?_)
  show Wc Γ 0 0 0 [(0, .ref x), (1, .int y), (2, .int k)] [] [ob x 10 [.ref xt, .ref xn, .ref xr, .ref xa, .ref xs, .ref xf, .ref xw, .ref xi, .int (nI sn), .long sd, .ref xe, .ref xp, .ref xg, .ref xl, .ref xk, .ref xh, .ref xv]]
  refine wc_iload_n X 0 1 dX10_see_0 rfl ?_
  refine wc_callS X 1 [] (c_X10_isWordX l G y ) ys_X10_isWord rfl q_449 ⟨rfl, rfl⟩ ⟨rfl, rfl⟩ ⟨rfl, rfl⟩ rfl rfl rfl dX10_see_1 ?_
  refine wc_if_eqB X 4 16 dX10_see_4 (by decide) (fun c4_1 => ?_) (fun c4_1 => ?_)
  ·
    refine wc_bipush X 16 (-2) dX10_see_16 (by decide) ?_
    exact ret 18 _ (-2) dX10_see_18 (rfl)
  ·
    refine wc_iload_n X 7 2 dX10_see_7 rfl ?_
    refine wc_if_lt X 8 16 dX10_see_8 (by decide) (fun c8_2 => ?_) (fun c8_2 => ?_)
    ·
      refine wc_bipush X 16 (-2) dX10_see_16 (by decide) ?_
      exact ret 18 _ (-2) dX10_see_18 (rfl)
    ·
      refine wc_iload_n X 11 2 dX10_see_11 rfl ?_
      refine wc_iconstN X 12 1 dX10_see_12 ?_
      refine wc_icmp_le X 13 19 dX10_see_13 (by decide) (fun c13_3 => ?_) (fun c13_3 => ?_)
      ·
        rcases ho with ho | ho
        · exact absurd c4_1 (by rw [ho]; decide)
        · exact (out_cls ho (by decide) (by decide) c8_2 c13_3).elim
      ·
        refine wc_bipush X 16 (-2) dX10_see_16 (by decide) ?_
        exact ret 18 _ (-2) dX10_see_18 (rfl)

set_option maxHeartbeats 4000000 in
set_option maxRecDepth 100000 in
theorem c_X10_seeU (l : Launch) (G : GG) (x xt xn xr xa xs xf xw xi sn : Nat) (sd : Int64) (xe xp xg xl xk xh xv : Nat) (y k : Nat) (hy : y < 2147483648) (hw : wordOk y = true) (hk : k ≤ 1) (hs : sn = 6) : RM l G yX10_see (Cond.code yX10_see cX10_see 3 (some .int)) { frames := 2, cells := 0, slots := 0, locals := 42 } [.ref x, .int (nI y), .int (nI k)] [ob x 10 [.ref xt, .ref xn, .ref xr, .ref xa, .ref xs, .ref xf, .ref xw, .ref xi, .int (nI sn), .long sd, .ref xe, .ref xp, .ref xg, .ref xl, .ref xk, .ref xh, .ref xv]] (.int (-4)) := by
  refine RM.ofI (by decide) rfl (fun Γ X ret => ?_)
  show Wc Γ 0 0 0 [(0, .ref x), (1, .int (nI y)), (2, .int (nI k))] [] [ob x 10 [.ref xt, .ref xn, .ref xr, .ref xa, .ref xs, .ref xf, .ref xw, .ref xi, .int (nI sn), .long sd, .ref xe, .ref xp, .ref xg, .ref xl, .ref xk, .ref xh, .ref xv]]
  refine wc_iload_n X 0 1 dX10_see_0 rfl ?_
  refine wc_callS X 1 [] (c_X10_isWordN l G y (by first | assumption | omega)) ys_X10_isWord rfl q_449 ⟨rfl, rfl⟩ ⟨rfl, rfl⟩ ⟨rfl, rfl⟩ rfl rfl rfl dX10_see_1 ?_
  refine wc_topi (b2i true) (congrArg b2i hw) ?_
  refine wc_if_eqB X 4 16 dX10_see_4 (by decide) (fun c4_1 => ?_) (fun c4_1 => ?_)
  ·
    exact absurd c4_1 (by decide)
  ·
    refine wc_iload_n X 7 2 dX10_see_7 rfl ?_
    refine wc_ifltF X 8 (tgt := 16) dX10_see_8 (by decide) (by omega) ?_
    refine wc_iload_n X 11 2 dX10_see_11 rfl ?_
    refine wc_iconstN X 12 1 dX10_see_12 ?_
    refine wc_icmp_leN X 13 19 dX10_see_13 (by decide) (by omega) (by decide) (fun c13_3 => ?_) (fun c13_3 => ?_)
    ·
      refine wc_aload_n X 19 0 dX10_see_19 rfl ?_
      refine wc_get X 20 0 8 kd10 rfl (by decide) q_241 rfl dX10_see_20 ?_
      refine wc_bipush X 23 (nI 6) dX10_see_23 (by decide) ?_
      refine wc_icmp_ltN X 25 31 dX10_see_25 (by decide) (by omega) (by decide) (fun c25_4 => ?_) (fun c25_4 => ?_)
      ·
        exact absurd c25_4 (by omega)
      ·
        refine wc_bipush X 28 (-4) dX10_see_28 (by decide) ?_
        exact ret 30 _ (-4) dX10_see_30 (rfl)
    ·
      exact absurd c13_3 (by omega)

set_option maxHeartbeats 4000000 in
set_option maxRecDepth 100000 in
theorem c_X10_seeS (l : Launch) (G : GG) (x xt xn xr xa xs xf xw xi sn : Nat) (sd : Int64) (xe xp xg xl xk xh xv : Nat) (sw si : Nat → Nat) (y k : Nat) (hy : y < 2147483648) (hw : wordOk y = true) (hk : k ≤ 1) (hs : sn < 6) : MM l G yX10_see (Cond.code yX10_see cX10_see 3 (some .int)) { frames := 2, cells := 0, slots := 0, locals := 42 } [.ref x, .int (nI y), .int (nI k)] [ob x 10 [.ref xt, .ref xn, .ref xr, .ref xa, .ref xs, .ref xf, .ref xw, .ref xi, .int (nI sn), .long sd, .ref xe, .ref xp, .ref xg, .ref xl, .ref xk, .ref xh, .ref xv], aI G xw 6 (nF sw), aI G xi 6 (nF si)] (fun (v : Option Value) (w : va_W) => v = some (.int (nI (sn + 1))) ∧ w = [ob x 10 [.ref xt, .ref xn, .ref xr, .ref xa, .ref xs, .ref xf, .ref xw, .ref xi, .int (nI (sn + 1)), .long sd, .ref xe, .ref xp, .ref xg, .ref xl, .ref xk, .ref xh, .ref xv], aI G xw 6 (nF (up sw sn y)), aI G xi 6 (nF (up si sn k))]) 0 0 := by
  refine MM.ofI (by decide) rfl (fun Γ X Y hnm ret => ?_)
  show Wc Γ 0 0 0 [(0, .ref x), (1, .int (nI y)), (2, .int (nI k))] [] [ob x 10 [.ref xt, .ref xn, .ref xr, .ref xa, .ref xs, .ref xf, .ref xw, .ref xi, .int (nI sn), .long sd, .ref xe, .ref xp, .ref xg, .ref xl, .ref xk, .ref xh, .ref xv], aI G xw 6 (nF sw), aI G xi 6 (nF si)]
  refine wc_iload_n X 0 1 dX10_see_0 rfl ?_
  refine wc_callS X 1 [] (c_X10_isWordN l G y (by first | assumption | omega)) ys_X10_isWord rfl q_449 ⟨rfl, rfl⟩ ⟨rfl, rfl⟩ ⟨rfl, rfl⟩ rfl rfl rfl dX10_see_1 ?_
  refine wc_topi (b2i true) (congrArg b2i hw) ?_
  refine wc_if_eqB X 4 16 dX10_see_4 (by decide) (fun c4_1 => ?_) (fun c4_1 => ?_)
  ·
    exact absurd c4_1 (by decide)
  ·
    refine wc_iload_n X 7 2 dX10_see_7 rfl ?_
    refine wc_ifltF X 8 (tgt := 16) dX10_see_8 (by decide) (by omega) ?_
    refine wc_iload_n X 11 2 dX10_see_11 rfl ?_
    refine wc_iconstN X 12 1 dX10_see_12 ?_
    refine wc_icmp_leN X 13 19 dX10_see_13 (by decide) (by omega) (by decide) (fun c13_3 => ?_) (fun c13_3 => ?_)
    ·
      refine wc_aload_n X 19 0 dX10_see_19 rfl ?_
      refine wc_get X 20 0 8 kd10 rfl (by decide) q_241 rfl dX10_see_20 ?_
      refine wc_bipush X 23 (nI 6) dX10_see_23 (by decide) ?_
      refine wc_icmp_ltN X 25 31 dX10_see_25 (by decide) (by omega) (by decide) (fun c25_4 => ?_) (fun c25_4 => ?_)
      ·
        refine wc_aload_n X 31 0 dX10_see_31 rfl ?_
        refine wc_get X 32 0 6 kd10 rfl (by decide) q_239 rfl dX10_see_32 ?_
        refine wc_aload_n X 35 0 dX10_see_35 rfl ?_
        refine wc_get X 36 0 8 kd10 rfl (by decide) q_241 rfl dX10_see_36 ?_
        refine wc_iload_n X 39 1 dX10_see_39 rfl ?_
        refine wc_iastG X Y 40 1 rfl (by omega) (by decide) (ws' := [ob x 10 [.ref xt, .ref xn, .ref xr, .ref xa, .ref xs, .ref xf, .ref xw, .ref xi, .int (nI sn), .long sd, .ref xe, .ref xp, .ref xg, .ref xl, .ref xk, .ref xh, .ref xv], aI G xw 6 (nF (up sw sn y)), aI G xi 6 (nF si)]) rfl dX10_see_40 ?_
        refine wc_aload_n X 41 0 dX10_see_41 rfl ?_
        refine wc_get X 42 0 7 kd10 rfl (by decide) q_240 rfl dX10_see_42 ?_
        refine wc_aload_n X 45 0 dX10_see_45 rfl ?_
        refine wc_get X 46 0 8 kd10 rfl (by decide) q_241 rfl dX10_see_46 ?_
        refine wc_iload_n X 49 2 dX10_see_49 rfl ?_
        refine wc_iastG X Y 50 2 rfl (by omega) (by decide) (ws' := [ob x 10 [.ref xt, .ref xn, .ref xr, .ref xa, .ref xs, .ref xf, .ref xw, .ref xi, .int (nI sn), .long sd, .ref xe, .ref xp, .ref xg, .ref xl, .ref xk, .ref xh, .ref xv], aI G xw 6 (nF (up sw sn y)), aI G xi 6 (nF (up si sn k))]) rfl dX10_see_50 ?_
        refine wc_aload_n X 51 0 dX10_see_51 rfl ?_
        refine wc_dup X 52 dX10_see_52 rfl ?_
        refine wc_get X 53 0 8 kd10 rfl (by decide) q_241 rfl dX10_see_53 ?_
        refine wc_iconstN X 56 1 dX10_see_56 ?_
        refine wc_iaddN X 57 dX10_see_57 ?_
        refine wc_put X Y 58 0 8 kd10 rfl (by decide) q_241 rfl rfl rfl (Nat.le_of_ble_eq_true rfl) (ws' := [ob x 10 [.ref xt, .ref xn, .ref xr, .ref xa, .ref xs, .ref xf, .ref xw, .ref xi, .int (nI (sn + 1)), .long sd, .ref xe, .ref xp, .ref xg, .ref xl, .ref xk, .ref xh, .ref xv], aI G xw 6 (nF (up sw sn y)), aI G xi 6 (nF (up si sn k))]) rfl dX10_see_58 ?_
        refine wc_aload_n X 61 0 dX10_see_61 rfl ?_
        refine wc_get X 62 0 8 kd10 rfl (by decide) q_241 rfl dX10_see_62 ?_
        exact ret 65 _ (nI (sn + 1)) _ dX10_see_65 (⟨rfl, rfl⟩)
      ·
        exact absurd c25_4 (by omega)
    ·
      exact absurd c13_3 (by omega)

set_option maxHeartbeats 4000000 in
set_option maxRecDepth 100000 in
theorem c_X10_unsee (l : Launch) (G : GG) (x xt xn xr xa xs xf xw xi sn : Nat) (sd : Int64) (xe xp xg xl xk xh xv : Nat)  : MM l G yX10_unsee (Cond.code yX10_unsee cX10_unsee 2 (some .int)) { frames := 0, cells := 0, slots := 0, locals := 0 } [.ref x] [ob x 10 [.ref xt, .ref xn, .ref xr, .ref xa, .ref xs, .ref xf, .ref xw, .ref xi, .int (nI sn), .long sd, .ref xe, .ref xp, .ref xg, .ref xl, .ref xk, .ref xh, .ref xv]] (fun (v : Option Value) (w : va_W) => v = some (.int (nI sn)) ∧ w = [ob x 10 [.ref xt, .ref xn, .ref xr, .ref xa, .ref xs, .ref xf, .ref xw, .ref xi, .int (nI 0), .long sd, .ref xe, .ref xp, .ref xg, .ref xl, .ref xk, .ref xh, .ref xv]]) 0 0 := by
  refine MM.ofI (by decide) rfl (fun Γ X Y hnm ret => ?_)
  show Wc Γ 0 0 0 [(0, .ref x)] [] [ob x 10 [.ref xt, .ref xn, .ref xr, .ref xa, .ref xs, .ref xf, .ref xw, .ref xi, .int (nI sn), .long sd, .ref xe, .ref xp, .ref xg, .ref xl, .ref xk, .ref xh, .ref xv]]
  refine wc_aload_n X 0 0 dX10_unsee_0 rfl ?_
  refine wc_get X 1 0 8 kd10 rfl (by decide) q_241 rfl dX10_unsee_1 ?_
  refine wc_istore_n X 4 (L' := [(0, .ref x), (1, .int (nI sn))]) dX10_unsee_4 (by decide) rfl ?_
  refine wc_aload_n X 5 0 dX10_unsee_5 rfl ?_
  refine wc_iconstN X 6 0 dX10_unsee_6 ?_
  refine wc_put X Y 7 0 8 kd10 rfl (by decide) q_241 rfl rfl rfl (Nat.le_of_ble_eq_true rfl) (ws' := [ob x 10 [.ref xt, .ref xn, .ref xr, .ref xa, .ref xs, .ref xf, .ref xw, .ref xi, .int (nI 0), .long sd, .ref xe, .ref xp, .ref xg, .ref xl, .ref xk, .ref xh, .ref xv]]) rfl dX10_unsee_7 ?_
  refine wc_iload_n X 10 1 dX10_unsee_10 rfl ?_
  exact ret 11 _ (nI sn) _ dX10_unsee_11 (⟨rfl, rfl⟩)

set_option maxHeartbeats 4000000 in
set_option maxRecDepth 100000 in
theorem c_X10_seed (l : Launch) (G : GG) (x xt xn xr xa xs xf xw xi sn : Nat) (sd : Int64) (xe xp xg xl xk xh xv : Nat) (u : Int64)  : MM l G yX10_seed (Cond.code yX10_seed cX10_seed 5 (some .long)) { frames := 0, cells := 0, slots := 0, locals := 0 } [.ref x, .long u] [ob x 10 [.ref xt, .ref xn, .ref xr, .ref xa, .ref xs, .ref xf, .ref xw, .ref xi, .int (nI sn), .long sd, .ref xe, .ref xp, .ref xg, .ref xl, .ref xk, .ref xh, .ref xv]] (fun (v : Option Value) (w : va_W) => v = some (.long sd) ∧ w = [ob x 10 [.ref xt, .ref xn, .ref xr, .ref xa, .ref xs, .ref xf, .ref xw, .ref xi, .int (nI sn), .long u, .ref xe, .ref xp, .ref xg, .ref xl, .ref xk, .ref xh, .ref xv]]) 0 0 := by
  refine MM.ofL (by decide) rfl (fun Γ X Y hnm ret => ?_)
  show Wc Γ 0 0 0 [(0, .ref x), (1, .long u)] [] [ob x 10 [.ref xt, .ref xn, .ref xr, .ref xa, .ref xs, .ref xf, .ref xw, .ref xi, .int (nI sn), .long sd, .ref xe, .ref xp, .ref xg, .ref xl, .ref xk, .ref xh, .ref xv]]
  refine wc_aload_n X 0 0 dX10_seed_0 rfl ?_
  refine wc_get X 1 0 9 kd10 rfl (by decide) q_242 rfl dX10_seed_1 ?_
  refine wc_lstore_n X 4 (L' := [(0, .ref x), (1, .long u), (3, .long sd)]) dX10_seed_4 (by decide) rfl ?_
  refine wc_aload_n X 5 0 dX10_seed_5 rfl ?_
  refine wc_lload_n X 6 1 dX10_seed_6 rfl ?_
  refine wc_put X Y 7 0 9 kd10 rfl (by decide) q_242 rfl rfl rfl (Nat.le_of_ble_eq_true rfl) (ws' := [ob x 10 [.ref xt, .ref xn, .ref xr, .ref xa, .ref xs, .ref xf, .ref xw, .ref xi, .int (nI sn), .long u, .ref xe, .ref xp, .ref xg, .ref xl, .ref xk, .ref xh, .ref xv]]) rfl dX10_seed_7 ?_
  refine wc_lload_n X 10 2 dX10_seed_10 rfl ?_
  exact ret 11 _ sd _ dX10_seed_11 (⟨rfl, rfl⟩)

set_option maxHeartbeats 4000000 in
set_option maxRecDepth 100000 in
theorem c_X10_countF (l : Launch) (G : GG) (x xt xn xr xa xs xf xw xi sn : Nat) (sd : Int64) (xe xp xg xl xk xh xv : Nat) (k : Int32) (ho : outR k 0 8) : RM l G yX10_count (Cond.code yX10_count cX10_count 2 (some .int)) { frames := 0, cells := 0, slots := 0, locals := 0 } [.ref x, .int k] [ob x 10 [.ref xt, .ref xn, .ref xr, .ref xa, .ref xs, .ref xf, .ref xw, .ref xi, .int (nI sn), .long sd, .ref xe, .ref xp, .ref xg, .ref xl, .ref xk, .ref xh, .ref xv]] (.int (-2)) := by
  refine RM.ofI (by decide) rfl (fun Γ X ret => ?_)
  show Wc Γ 0 0 0 [(0, .ref x), (1, .int k)] [] [ob x 10 [.ref xt, .ref xn, .ref xr, .ref xa, .ref xs, .ref xf, .ref xw, .ref xi, .int (nI sn), .long sd, .ref xe, .ref xp, .ref xg, .ref xl, .ref xk, .ref xh, .ref xv]]
  refine wc_iload_n X 0 1 dX10_count_0 rfl ?_
  refine wc_tsO X 1 139 dX10_count_1 (out_sw ho) (by decide) ?_
  refine wc_bipush X 139 (-2) dX10_count_139 (by decide) ?_
  exact ret 141 _ (-2) dX10_count_141 (rfl)

set_option maxHeartbeats 4000000 in
set_option maxRecDepth 100000 in
theorem c_X10_count0 (l : Launch) (G : GG) (x xt xn xr xa xs xf xw xi sn : Nat) (sd : Int64) (xe xp xg xl xk xh xv : Nat) (xtl ts : Nat) (t : Nat → Nat) (na nla nb nlb : Nat) (p : Nat → Nat) (xal dn : Nat) (ac : Nat → Nat) (hr : pgOk p) : RM l G yX10_count (Cond.code yX10_count cX10_count 2 (some .int)) { frames := 0, cells := 0, slots := 0, locals := 0 } [.ref x, .int (nI 0)] [ob x 10 [.ref xt, .ref xn, .ref xr, .ref xa, .ref xs, .ref xf, .ref xw, .ref xi, .int (nI sn), .long sd, .ref xe, .ref xp, .ref xg, .ref xl, .ref xk, .ref xh, .ref xv], ob xt 7 [.int (nI ts), .ref xtl], aI G xtl 80 (nF t), ob xn 1 [.ref na, .ref nb], ob na 6 [.int (nI (p 0)), .int (nI (p 2)), .ref nla], aI G nla 10 (nF (gz p)), ob nb 6 [.int (nI (p 1)), .int (nI (p 3)), .ref nlb], aI G nlb 10 (nF (go p)), ob xa 0 [.int (nI dn), .ref xal], aI G xal 14 (nF ac)] (.int (nI ts)) := by
  refine RM.ofI (by decide) rfl (fun Γ X ret => ?_)
  show Wc Γ 0 0 0 [(0, .ref x), (1, .int (nI 0))] [] [ob x 10 [.ref xt, .ref xn, .ref xr, .ref xa, .ref xs, .ref xf, .ref xw, .ref xi, .int (nI sn), .long sd, .ref xe, .ref xp, .ref xg, .ref xl, .ref xk, .ref xh, .ref xv], ob xt 7 [.int (nI ts), .ref xtl], aI G xtl 80 (nF t), ob xn 1 [.ref na, .ref nb], ob na 6 [.int (nI (p 0)), .int (nI (p 2)), .ref nla], aI G nla 10 (nF (gz p)), ob nb 6 [.int (nI (p 1)), .int (nI (p 3)), .ref nlb], aI G nlb 10 (nF (go p)), ob xa 0 [.int (nI dn), .ref xal], aI G xal 14 (nF ac)]
  have hn0 := hr.2.1
  have hn01 := hr.1
  have hn1 := hr.2.2.2.1
  have hn11 := hr.2.2.1
  have he0 := pg_e0 hr
  have he1 := hr.2.2.2.2.1 3
  have hg0 := hr.2.2.2.2.2.1
  have hg1 := (fun j => hr.2.2.2.2.1 (12 + j) : ∀ j, go p j < 32)
  have hg0n := (hr.2.2.2.2.2.2.1 0 (by decide) : ∀ j, gz p j < 2 ^ p 0)
  have hg1n := (hr.2.2.2.2.2.2.1 1 (by decide) : ∀ j, go p j < 2 ^ p 1)
  have he0n := hr.2.2.2.2.2.2.2 0 (by decide)
  have he1n := hr.2.2.2.2.2.2.2 1 (by decide)
  have hg0w := (fun j => Nat.lt_trans (hg0 j) (by decide) : ∀ j, gz p j < 32)
  refine wc_iload_n X 0 1 dX10_count_0 rfl ?_
  refine wc_tsI X 1 52 0 (nI 0) (off := 51) dX10_count_1 rfl (by decide) (by decide) (by decide) (by decide) ?_
  refine wc_aload_n X 52 0 dX10_count_52 rfl ?_
  refine wc_get X 53 0 0 kd10 rfl (by decide) q_233 rfl dX10_count_53 ?_
  refine wc_get X 56 1 0 kd7 rfl (by decide) q_31 rfl dX10_count_56 ?_
  exact ret 59 _ (nI ts) dX10_count_59 (rfl)

set_option maxHeartbeats 4000000 in
set_option maxRecDepth 100000 in
theorem c_X10_count1 (l : Launch) (G : GG) (x xt xn xr xa xs xf xw xi sn : Nat) (sd : Int64) (xe xp xg xl xk xh xv : Nat) (xtl ts : Nat) (t : Nat → Nat) (na nla nb nlb : Nat) (p : Nat → Nat) (xal dn : Nat) (ac : Nat → Nat) (hr : pgOk p) : RM l G yX10_count (Cond.code yX10_count cX10_count 2 (some .int)) { frames := 0, cells := 0, slots := 0, locals := 0 } [.ref x, .int (nI 1)] [ob x 10 [.ref xt, .ref xn, .ref xr, .ref xa, .ref xs, .ref xf, .ref xw, .ref xi, .int (nI sn), .long sd, .ref xe, .ref xp, .ref xg, .ref xl, .ref xk, .ref xh, .ref xv], ob xt 7 [.int (nI ts), .ref xtl], aI G xtl 80 (nF t), ob xn 1 [.ref na, .ref nb], ob na 6 [.int (nI (p 0)), .int (nI (p 2)), .ref nla], aI G nla 10 (nF (gz p)), ob nb 6 [.int (nI (p 1)), .int (nI (p 3)), .ref nlb], aI G nlb 10 (nF (go p)), ob xa 0 [.int (nI dn), .ref xal], aI G xal 14 (nF ac)] (.int (nI (p 0))) := by
  refine RM.ofI (by decide) rfl (fun Γ X ret => ?_)
  show Wc Γ 0 0 0 [(0, .ref x), (1, .int (nI 1))] [] [ob x 10 [.ref xt, .ref xn, .ref xr, .ref xa, .ref xs, .ref xf, .ref xw, .ref xi, .int (nI sn), .long sd, .ref xe, .ref xp, .ref xg, .ref xl, .ref xk, .ref xh, .ref xv], ob xt 7 [.int (nI ts), .ref xtl], aI G xtl 80 (nF t), ob xn 1 [.ref na, .ref nb], ob na 6 [.int (nI (p 0)), .int (nI (p 2)), .ref nla], aI G nla 10 (nF (gz p)), ob nb 6 [.int (nI (p 1)), .int (nI (p 3)), .ref nlb], aI G nlb 10 (nF (go p)), ob xa 0 [.int (nI dn), .ref xal], aI G xal 14 (nF ac)]
  have hn0 := hr.2.1
  have hn01 := hr.1
  have hn1 := hr.2.2.2.1
  have hn11 := hr.2.2.1
  have he0 := pg_e0 hr
  have he1 := hr.2.2.2.2.1 3
  have hg0 := hr.2.2.2.2.2.1
  have hg1 := (fun j => hr.2.2.2.2.1 (12 + j) : ∀ j, go p j < 32)
  have hg0n := (hr.2.2.2.2.2.2.1 0 (by decide) : ∀ j, gz p j < 2 ^ p 0)
  have hg1n := (hr.2.2.2.2.2.2.1 1 (by decide) : ∀ j, go p j < 2 ^ p 1)
  have he0n := hr.2.2.2.2.2.2.2 0 (by decide)
  have he1n := hr.2.2.2.2.2.2.2 1 (by decide)
  have hg0w := (fun j => Nat.lt_trans (hg0 j) (by decide) : ∀ j, gz p j < 32)
  refine wc_iload_n X 0 1 dX10_count_0 rfl ?_
  refine wc_tsI X 1 60 1 (nI 1) (off := 59) dX10_count_1 rfl (by decide) (by decide) (by decide) (by decide) ?_
  refine wc_aload_n X 60 0 dX10_count_60 rfl ?_
  refine wc_get X 61 0 1 kd10 rfl (by decide) q_234 rfl dX10_count_61 ?_
  refine wc_get X 64 3 0 kd1 rfl (by decide) q_73 rfl dX10_count_64 ?_
  refine wc_get X 67 4 0 kd6 rfl (by decide) q_53 rfl dX10_count_67 ?_
  exact ret 70 _ (nI (p 0)) dX10_count_70 (rfl)

set_option maxHeartbeats 4000000 in
set_option maxRecDepth 100000 in
theorem c_X10_count2 (l : Launch) (G : GG) (x xt xn xr xa xs xf xw xi sn : Nat) (sd : Int64) (xe xp xg xl xk xh xv : Nat) (xtl ts : Nat) (t : Nat → Nat) (na nla nb nlb : Nat) (p : Nat → Nat) (xal dn : Nat) (ac : Nat → Nat) (hr : pgOk p) : RM l G yX10_count (Cond.code yX10_count cX10_count 2 (some .int)) { frames := 0, cells := 0, slots := 0, locals := 0 } [.ref x, .int (nI 2)] [ob x 10 [.ref xt, .ref xn, .ref xr, .ref xa, .ref xs, .ref xf, .ref xw, .ref xi, .int (nI sn), .long sd, .ref xe, .ref xp, .ref xg, .ref xl, .ref xk, .ref xh, .ref xv], ob xt 7 [.int (nI ts), .ref xtl], aI G xtl 80 (nF t), ob xn 1 [.ref na, .ref nb], ob na 6 [.int (nI (p 0)), .int (nI (p 2)), .ref nla], aI G nla 10 (nF (gz p)), ob nb 6 [.int (nI (p 1)), .int (nI (p 3)), .ref nlb], aI G nlb 10 (nF (go p)), ob xa 0 [.int (nI dn), .ref xal], aI G xal 14 (nF ac)] (.int (nI (p 1))) := by
  refine RM.ofI (by decide) rfl (fun Γ X ret => ?_)
  show Wc Γ 0 0 0 [(0, .ref x), (1, .int (nI 2))] [] [ob x 10 [.ref xt, .ref xn, .ref xr, .ref xa, .ref xs, .ref xf, .ref xw, .ref xi, .int (nI sn), .long sd, .ref xe, .ref xp, .ref xg, .ref xl, .ref xk, .ref xh, .ref xv], ob xt 7 [.int (nI ts), .ref xtl], aI G xtl 80 (nF t), ob xn 1 [.ref na, .ref nb], ob na 6 [.int (nI (p 0)), .int (nI (p 2)), .ref nla], aI G nla 10 (nF (gz p)), ob nb 6 [.int (nI (p 1)), .int (nI (p 3)), .ref nlb], aI G nlb 10 (nF (go p)), ob xa 0 [.int (nI dn), .ref xal], aI G xal 14 (nF ac)]
  have hn0 := hr.2.1
  have hn01 := hr.1
  have hn1 := hr.2.2.2.1
  have hn11 := hr.2.2.1
  have he0 := pg_e0 hr
  have he1 := hr.2.2.2.2.1 3
  have hg0 := hr.2.2.2.2.2.1
  have hg1 := (fun j => hr.2.2.2.2.1 (12 + j) : ∀ j, go p j < 32)
  have hg0n := (hr.2.2.2.2.2.2.1 0 (by decide) : ∀ j, gz p j < 2 ^ p 0)
  have hg1n := (hr.2.2.2.2.2.2.1 1 (by decide) : ∀ j, go p j < 2 ^ p 1)
  have he0n := hr.2.2.2.2.2.2.2 0 (by decide)
  have he1n := hr.2.2.2.2.2.2.2 1 (by decide)
  have hg0w := (fun j => Nat.lt_trans (hg0 j) (by decide) : ∀ j, gz p j < 32)
  refine wc_iload_n X 0 1 dX10_count_0 rfl ?_
  refine wc_tsI X 1 71 2 (nI 2) (off := 70) dX10_count_1 rfl (by decide) (by decide) (by decide) (by decide) ?_
  refine wc_aload_n X 71 0 dX10_count_71 rfl ?_
  refine wc_get X 72 0 1 kd10 rfl (by decide) q_234 rfl dX10_count_72 ?_
  refine wc_get X 75 3 1 kd1 rfl (by decide) q_80 rfl dX10_count_75 ?_
  refine wc_get X 78 6 0 kd6 rfl (by decide) q_53 rfl dX10_count_78 ?_
  exact ret 81 _ (nI (p 1)) dX10_count_81 (rfl)

set_option maxHeartbeats 4000000 in
set_option maxRecDepth 100000 in
theorem c_X10_count3 (l : Launch) (G : GG) (x xt xn xr xa xs xf xw xi sn : Nat) (sd : Int64) (xe xp xg xl xk xh xv : Nat) (xtl ts : Nat) (t : Nat → Nat) (na nla nb nlb : Nat) (p : Nat → Nat) (xal dn : Nat) (ac : Nat → Nat) (hr : pgOk p) : RM l G yX10_count (Cond.code yX10_count cX10_count 2 (some .int)) { frames := 3, cells := 0, slots := 0, locals := 66 } [.ref x, .int (nI 3)] [ob x 10 [.ref xt, .ref xn, .ref xr, .ref xa, .ref xs, .ref xf, .ref xw, .ref xi, .int (nI sn), .long sd, .ref xe, .ref xp, .ref xg, .ref xl, .ref xk, .ref xh, .ref xv], ob xt 7 [.int (nI ts), .ref xtl], aI G xtl 80 (nF t), ob xn 1 [.ref na, .ref nb], ob na 6 [.int (nI (p 0)), .int (nI (p 2)), .ref nla], aI G nla 10 (nF (gz p)), ob nb 6 [.int (nI (p 1)), .int (nI (p 3)), .ref nlb], aI G nlb 10 (nF (go p)), ob xa 0 [.int (nI dn), .ref xal], aI G xal 14 (nF ac)] (.int (nI (edgN (gz p) (p 0)))) := by
  refine RM.ofI (by decide) rfl (fun Γ X ret => ?_)
  show Wc Γ 0 0 0 [(0, .ref x), (1, .int (nI 3))] [] [ob x 10 [.ref xt, .ref xn, .ref xr, .ref xa, .ref xs, .ref xf, .ref xw, .ref xi, .int (nI sn), .long sd, .ref xe, .ref xp, .ref xg, .ref xl, .ref xk, .ref xh, .ref xv], ob xt 7 [.int (nI ts), .ref xtl], aI G xtl 80 (nF t), ob xn 1 [.ref na, .ref nb], ob na 6 [.int (nI (p 0)), .int (nI (p 2)), .ref nla], aI G nla 10 (nF (gz p)), ob nb 6 [.int (nI (p 1)), .int (nI (p 3)), .ref nlb], aI G nlb 10 (nF (go p)), ob xa 0 [.int (nI dn), .ref xal], aI G xal 14 (nF ac)]
  have hn0 := hr.2.1
  have hn01 := hr.1
  have hn1 := hr.2.2.2.1
  have hn11 := hr.2.2.1
  have he0 := pg_e0 hr
  have he1 := hr.2.2.2.2.1 3
  have hg0 := hr.2.2.2.2.2.1
  have hg1 := (fun j => hr.2.2.2.2.1 (12 + j) : ∀ j, go p j < 32)
  have hg0n := (hr.2.2.2.2.2.2.1 0 (by decide) : ∀ j, gz p j < 2 ^ p 0)
  have hg1n := (hr.2.2.2.2.2.2.1 1 (by decide) : ∀ j, go p j < 2 ^ p 1)
  have he0n := hr.2.2.2.2.2.2.2 0 (by decide)
  have he1n := hr.2.2.2.2.2.2.2 1 (by decide)
  have hg0w := (fun j => Nat.lt_trans (hg0 j) (by decide) : ∀ j, gz p j < 32)
  refine wc_iload_n X 0 1 dX10_count_0 rfl ?_
  refine wc_tsI X 1 82 3 (nI 3) (off := 81) dX10_count_1 rfl (by decide) (by decide) (by decide) (by decide) ?_
  refine wc_aload_n X 82 0 dX10_count_82 rfl ?_
  refine wc_get X 83 0 1 kd10 rfl (by decide) q_234 rfl dX10_count_83 ?_
  refine wc_get X 86 3 0 kd1 rfl (by decide) q_73 rfl dX10_count_86 ?_
  refine wc_callV X 89 [4, 5] 4 (c_X6_edgeTotal l G na nla (p 0) (p 2) (gz p) (by omega) hg0w) yv_X6_edgeTotal kd6 rfl rfl q_758 ⟨rfl, rfl⟩ ⟨rfl, rfl⟩ ⟨rfl, rfl⟩ rfl rfl rfl dX10_count_89 ?_
  exact ret 92 _ (nI (edgN (gz p) (p 0))) dX10_count_92 (rfl)

set_option maxHeartbeats 4000000 in
set_option maxRecDepth 100000 in
theorem c_X10_count4 (l : Launch) (G : GG) (x xt xn xr xa xs xf xw xi sn : Nat) (sd : Int64) (xe xp xg xl xk xh xv : Nat) (xtl ts : Nat) (t : Nat → Nat) (na nla nb nlb : Nat) (p : Nat → Nat) (xal dn : Nat) (ac : Nat → Nat) (hr : pgOk p) : RM l G yX10_count (Cond.code yX10_count cX10_count 2 (some .int)) { frames := 3, cells := 0, slots := 0, locals := 66 } [.ref x, .int (nI 4)] [ob x 10 [.ref xt, .ref xn, .ref xr, .ref xa, .ref xs, .ref xf, .ref xw, .ref xi, .int (nI sn), .long sd, .ref xe, .ref xp, .ref xg, .ref xl, .ref xk, .ref xh, .ref xv], ob xt 7 [.int (nI ts), .ref xtl], aI G xtl 80 (nF t), ob xn 1 [.ref na, .ref nb], ob na 6 [.int (nI (p 0)), .int (nI (p 2)), .ref nla], aI G nla 10 (nF (gz p)), ob nb 6 [.int (nI (p 1)), .int (nI (p 3)), .ref nlb], aI G nlb 10 (nF (go p)), ob xa 0 [.int (nI dn), .ref xal], aI G xal 14 (nF ac)] (.int (nI (edgN (go p) (p 1)))) := by
  refine RM.ofI (by decide) rfl (fun Γ X ret => ?_)
  show Wc Γ 0 0 0 [(0, .ref x), (1, .int (nI 4))] [] [ob x 10 [.ref xt, .ref xn, .ref xr, .ref xa, .ref xs, .ref xf, .ref xw, .ref xi, .int (nI sn), .long sd, .ref xe, .ref xp, .ref xg, .ref xl, .ref xk, .ref xh, .ref xv], ob xt 7 [.int (nI ts), .ref xtl], aI G xtl 80 (nF t), ob xn 1 [.ref na, .ref nb], ob na 6 [.int (nI (p 0)), .int (nI (p 2)), .ref nla], aI G nla 10 (nF (gz p)), ob nb 6 [.int (nI (p 1)), .int (nI (p 3)), .ref nlb], aI G nlb 10 (nF (go p)), ob xa 0 [.int (nI dn), .ref xal], aI G xal 14 (nF ac)]
  have hn0 := hr.2.1
  have hn01 := hr.1
  have hn1 := hr.2.2.2.1
  have hn11 := hr.2.2.1
  have he0 := pg_e0 hr
  have he1 := hr.2.2.2.2.1 3
  have hg0 := hr.2.2.2.2.2.1
  have hg1 := (fun j => hr.2.2.2.2.1 (12 + j) : ∀ j, go p j < 32)
  have hg0n := (hr.2.2.2.2.2.2.1 0 (by decide) : ∀ j, gz p j < 2 ^ p 0)
  have hg1n := (hr.2.2.2.2.2.2.1 1 (by decide) : ∀ j, go p j < 2 ^ p 1)
  have he0n := hr.2.2.2.2.2.2.2 0 (by decide)
  have he1n := hr.2.2.2.2.2.2.2 1 (by decide)
  have hg0w := (fun j => Nat.lt_trans (hg0 j) (by decide) : ∀ j, gz p j < 32)
  refine wc_iload_n X 0 1 dX10_count_0 rfl ?_
  refine wc_tsI X 1 93 4 (nI 4) (off := 92) dX10_count_1 rfl (by decide) (by decide) (by decide) (by decide) ?_
  refine wc_aload_n X 93 0 dX10_count_93 rfl ?_
  refine wc_get X 94 0 1 kd10 rfl (by decide) q_234 rfl dX10_count_94 ?_
  refine wc_get X 97 3 1 kd1 rfl (by decide) q_80 rfl dX10_count_97 ?_
  refine wc_callV X 100 [6, 7] 6 (c_X6_edgeTotal l G nb nlb (p 1) (p 3) (go p) (by first | assumption | omega) (by first | assumption | omega)) yv_X6_edgeTotal kd6 rfl rfl q_758 ⟨rfl, rfl⟩ ⟨rfl, rfl⟩ ⟨rfl, rfl⟩ rfl rfl rfl dX10_count_100 ?_
  exact ret 103 _ (nI (edgN (go p) (p 1))) dX10_count_103 (rfl)

set_option maxHeartbeats 4000000 in
set_option maxRecDepth 100000 in
theorem c_X10_count5 (l : Launch) (G : GG) (x xt xn xr xa xs xf xw xi sn : Nat) (sd : Int64) (xe xp xg xl xk xh xv : Nat) (xtl ts : Nat) (t : Nat → Nat) (na nla nb nlb : Nat) (p : Nat → Nat) (xal dn : Nat) (ac : Nat → Nat) (hr : pgOk p) : RM l G yX10_count (Cond.code yX10_count cX10_count 2 (some .int)) { frames := 0, cells := 0, slots := 0, locals := 0 } [.ref x, .int (nI 5)] [ob x 10 [.ref xt, .ref xn, .ref xr, .ref xa, .ref xs, .ref xf, .ref xw, .ref xi, .int (nI sn), .long sd, .ref xe, .ref xp, .ref xg, .ref xl, .ref xk, .ref xh, .ref xv], ob xt 7 [.int (nI ts), .ref xtl], aI G xtl 80 (nF t), ob xn 1 [.ref na, .ref nb], ob na 6 [.int (nI (p 0)), .int (nI (p 2)), .ref nla], aI G nla 10 (nF (gz p)), ob nb 6 [.int (nI (p 1)), .int (nI (p 3)), .ref nlb], aI G nlb 10 (nF (go p)), ob xa 0 [.int (nI dn), .ref xal], aI G xal 14 (nF ac)] (.int (nI (p 2))) := by
  refine RM.ofI (by decide) rfl (fun Γ X ret => ?_)
  show Wc Γ 0 0 0 [(0, .ref x), (1, .int (nI 5))] [] [ob x 10 [.ref xt, .ref xn, .ref xr, .ref xa, .ref xs, .ref xf, .ref xw, .ref xi, .int (nI sn), .long sd, .ref xe, .ref xp, .ref xg, .ref xl, .ref xk, .ref xh, .ref xv], ob xt 7 [.int (nI ts), .ref xtl], aI G xtl 80 (nF t), ob xn 1 [.ref na, .ref nb], ob na 6 [.int (nI (p 0)), .int (nI (p 2)), .ref nla], aI G nla 10 (nF (gz p)), ob nb 6 [.int (nI (p 1)), .int (nI (p 3)), .ref nlb], aI G nlb 10 (nF (go p)), ob xa 0 [.int (nI dn), .ref xal], aI G xal 14 (nF ac)]
  have hn0 := hr.2.1
  have hn01 := hr.1
  have hn1 := hr.2.2.2.1
  have hn11 := hr.2.2.1
  have he0 := pg_e0 hr
  have he1 := hr.2.2.2.2.1 3
  have hg0 := hr.2.2.2.2.2.1
  have hg1 := (fun j => hr.2.2.2.2.1 (12 + j) : ∀ j, go p j < 32)
  have hg0n := (hr.2.2.2.2.2.2.1 0 (by decide) : ∀ j, gz p j < 2 ^ p 0)
  have hg1n := (hr.2.2.2.2.2.2.1 1 (by decide) : ∀ j, go p j < 2 ^ p 1)
  have he0n := hr.2.2.2.2.2.2.2 0 (by decide)
  have he1n := hr.2.2.2.2.2.2.2 1 (by decide)
  have hg0w := (fun j => Nat.lt_trans (hg0 j) (by decide) : ∀ j, gz p j < 32)
  refine wc_iload_n X 0 1 dX10_count_0 rfl ?_
  refine wc_tsI X 1 104 5 (nI 5) (off := 103) dX10_count_1 rfl (by decide) (by decide) (by decide) (by decide) ?_
  refine wc_aload_n X 104 0 dX10_count_104 rfl ?_
  refine wc_get X 105 0 1 kd10 rfl (by decide) q_234 rfl dX10_count_105 ?_
  refine wc_get X 108 3 0 kd1 rfl (by decide) q_73 rfl dX10_count_108 ?_
  refine wc_get X 111 4 1 kd6 rfl (by decide) q_58 rfl dX10_count_111 ?_
  exact ret 114 _ (nI (p 2)) dX10_count_114 (rfl)

set_option maxHeartbeats 4000000 in
set_option maxRecDepth 100000 in
theorem c_X10_count6 (l : Launch) (G : GG) (x xt xn xr xa xs xf xw xi sn : Nat) (sd : Int64) (xe xp xg xl xk xh xv : Nat) (xtl ts : Nat) (t : Nat → Nat) (na nla nb nlb : Nat) (p : Nat → Nat) (xal dn : Nat) (ac : Nat → Nat) (hr : pgOk p) : RM l G yX10_count (Cond.code yX10_count cX10_count 2 (some .int)) { frames := 0, cells := 0, slots := 0, locals := 0 } [.ref x, .int (nI 6)] [ob x 10 [.ref xt, .ref xn, .ref xr, .ref xa, .ref xs, .ref xf, .ref xw, .ref xi, .int (nI sn), .long sd, .ref xe, .ref xp, .ref xg, .ref xl, .ref xk, .ref xh, .ref xv], ob xt 7 [.int (nI ts), .ref xtl], aI G xtl 80 (nF t), ob xn 1 [.ref na, .ref nb], ob na 6 [.int (nI (p 0)), .int (nI (p 2)), .ref nla], aI G nla 10 (nF (gz p)), ob nb 6 [.int (nI (p 1)), .int (nI (p 3)), .ref nlb], aI G nlb 10 (nF (go p)), ob xa 0 [.int (nI dn), .ref xal], aI G xal 14 (nF ac)] (.int (nI (p 3))) := by
  refine RM.ofI (by decide) rfl (fun Γ X ret => ?_)
  show Wc Γ 0 0 0 [(0, .ref x), (1, .int (nI 6))] [] [ob x 10 [.ref xt, .ref xn, .ref xr, .ref xa, .ref xs, .ref xf, .ref xw, .ref xi, .int (nI sn), .long sd, .ref xe, .ref xp, .ref xg, .ref xl, .ref xk, .ref xh, .ref xv], ob xt 7 [.int (nI ts), .ref xtl], aI G xtl 80 (nF t), ob xn 1 [.ref na, .ref nb], ob na 6 [.int (nI (p 0)), .int (nI (p 2)), .ref nla], aI G nla 10 (nF (gz p)), ob nb 6 [.int (nI (p 1)), .int (nI (p 3)), .ref nlb], aI G nlb 10 (nF (go p)), ob xa 0 [.int (nI dn), .ref xal], aI G xal 14 (nF ac)]
  have hn0 := hr.2.1
  have hn01 := hr.1
  have hn1 := hr.2.2.2.1
  have hn11 := hr.2.2.1
  have he0 := pg_e0 hr
  have he1 := hr.2.2.2.2.1 3
  have hg0 := hr.2.2.2.2.2.1
  have hg1 := (fun j => hr.2.2.2.2.1 (12 + j) : ∀ j, go p j < 32)
  have hg0n := (hr.2.2.2.2.2.2.1 0 (by decide) : ∀ j, gz p j < 2 ^ p 0)
  have hg1n := (hr.2.2.2.2.2.2.1 1 (by decide) : ∀ j, go p j < 2 ^ p 1)
  have he0n := hr.2.2.2.2.2.2.2 0 (by decide)
  have he1n := hr.2.2.2.2.2.2.2 1 (by decide)
  have hg0w := (fun j => Nat.lt_trans (hg0 j) (by decide) : ∀ j, gz p j < 32)
  refine wc_iload_n X 0 1 dX10_count_0 rfl ?_
  refine wc_tsI X 1 115 6 (nI 6) (off := 114) dX10_count_1 rfl (by decide) (by decide) (by decide) (by decide) ?_
  refine wc_aload_n X 115 0 dX10_count_115 rfl ?_
  refine wc_get X 116 0 1 kd10 rfl (by decide) q_234 rfl dX10_count_116 ?_
  refine wc_get X 119 3 1 kd1 rfl (by decide) q_80 rfl dX10_count_119 ?_
  refine wc_get X 122 6 1 kd6 rfl (by decide) q_58 rfl dX10_count_122 ?_
  exact ret 125 _ (nI (p 3)) dX10_count_125 (rfl)

set_option maxHeartbeats 4000000 in
set_option maxRecDepth 100000 in
theorem c_X10_count7 (l : Launch) (G : GG) (x xt xn xr xa xs xf xw xi sn : Nat) (sd : Int64) (xe xp xg xl xk xh xv : Nat) (xtl ts : Nat) (t : Nat → Nat) (na nla nb nlb : Nat) (p : Nat → Nat) (xal dn : Nat) (ac : Nat → Nat) (hr : pgOk p) : RM l G yX10_count (Cond.code yX10_count cX10_count 2 (some .int)) { frames := 0, cells := 0, slots := 0, locals := 0 } [.ref x, .int (nI 7)] [ob x 10 [.ref xt, .ref xn, .ref xr, .ref xa, .ref xs, .ref xf, .ref xw, .ref xi, .int (nI sn), .long sd, .ref xe, .ref xp, .ref xg, .ref xl, .ref xk, .ref xh, .ref xv], ob xt 7 [.int (nI ts), .ref xtl], aI G xtl 80 (nF t), ob xn 1 [.ref na, .ref nb], ob na 6 [.int (nI (p 0)), .int (nI (p 2)), .ref nla], aI G nla 10 (nF (gz p)), ob nb 6 [.int (nI (p 1)), .int (nI (p 3)), .ref nlb], aI G nlb 10 (nF (go p)), ob xa 0 [.int (nI dn), .ref xal], aI G xal 14 (nF ac)] (.int (nI dn)) := by
  refine RM.ofI (by decide) rfl (fun Γ X ret => ?_)
  show Wc Γ 0 0 0 [(0, .ref x), (1, .int (nI 7))] [] [ob x 10 [.ref xt, .ref xn, .ref xr, .ref xa, .ref xs, .ref xf, .ref xw, .ref xi, .int (nI sn), .long sd, .ref xe, .ref xp, .ref xg, .ref xl, .ref xk, .ref xh, .ref xv], ob xt 7 [.int (nI ts), .ref xtl], aI G xtl 80 (nF t), ob xn 1 [.ref na, .ref nb], ob na 6 [.int (nI (p 0)), .int (nI (p 2)), .ref nla], aI G nla 10 (nF (gz p)), ob nb 6 [.int (nI (p 1)), .int (nI (p 3)), .ref nlb], aI G nlb 10 (nF (go p)), ob xa 0 [.int (nI dn), .ref xal], aI G xal 14 (nF ac)]
  have hn0 := hr.2.1
  have hn01 := hr.1
  have hn1 := hr.2.2.2.1
  have hn11 := hr.2.2.1
  have he0 := pg_e0 hr
  have he1 := hr.2.2.2.2.1 3
  have hg0 := hr.2.2.2.2.2.1
  have hg1 := (fun j => hr.2.2.2.2.1 (12 + j) : ∀ j, go p j < 32)
  have hg0n := (hr.2.2.2.2.2.2.1 0 (by decide) : ∀ j, gz p j < 2 ^ p 0)
  have hg1n := (hr.2.2.2.2.2.2.1 1 (by decide) : ∀ j, go p j < 2 ^ p 1)
  have he0n := hr.2.2.2.2.2.2.2 0 (by decide)
  have he1n := hr.2.2.2.2.2.2.2 1 (by decide)
  have hg0w := (fun j => Nat.lt_trans (hg0 j) (by decide) : ∀ j, gz p j < 32)
  refine wc_iload_n X 0 1 dX10_count_0 rfl ?_
  refine wc_tsI X 1 126 7 (nI 7) (off := 125) dX10_count_1 rfl (by decide) (by decide) (by decide) (by decide) ?_
  refine wc_aload_n X 126 0 dX10_count_126 rfl ?_
  refine wc_get X 127 0 3 kd10 rfl (by decide) q_236 rfl dX10_count_127 ?_
  refine wc_get X 130 8 0 kd0 rfl (by decide) q_93 rfl dX10_count_130 ?_
  exact ret 133 _ (nI dn) dX10_count_133 (rfl)

set_option maxHeartbeats 4000000 in
set_option maxRecDepth 100000 in
theorem c_X10_count8 (l : Launch) (G : GG) (x xt xn xr xa xs xf xw xi sn : Nat) (sd : Int64) (xe xp xg xl xk xh xv : Nat) (xtl ts : Nat) (t : Nat → Nat) (na nla nb nlb : Nat) (p : Nat → Nat) (xal dn : Nat) (ac : Nat → Nat) (hr : pgOk p) : RM l G yX10_count (Cond.code yX10_count cX10_count 2 (some .int)) { frames := 0, cells := 0, slots := 0, locals := 0 } [.ref x, .int (nI 8)] [ob x 10 [.ref xt, .ref xn, .ref xr, .ref xa, .ref xs, .ref xf, .ref xw, .ref xi, .int (nI sn), .long sd, .ref xe, .ref xp, .ref xg, .ref xl, .ref xk, .ref xh, .ref xv], ob xt 7 [.int (nI ts), .ref xtl], aI G xtl 80 (nF t), ob xn 1 [.ref na, .ref nb], ob na 6 [.int (nI (p 0)), .int (nI (p 2)), .ref nla], aI G nla 10 (nF (gz p)), ob nb 6 [.int (nI (p 1)), .int (nI (p 3)), .ref nlb], aI G nlb 10 (nF (go p)), ob xa 0 [.int (nI dn), .ref xal], aI G xal 14 (nF ac)] (.int (nI sn)) := by
  refine RM.ofI (by decide) rfl (fun Γ X ret => ?_)
  show Wc Γ 0 0 0 [(0, .ref x), (1, .int (nI 8))] [] [ob x 10 [.ref xt, .ref xn, .ref xr, .ref xa, .ref xs, .ref xf, .ref xw, .ref xi, .int (nI sn), .long sd, .ref xe, .ref xp, .ref xg, .ref xl, .ref xk, .ref xh, .ref xv], ob xt 7 [.int (nI ts), .ref xtl], aI G xtl 80 (nF t), ob xn 1 [.ref na, .ref nb], ob na 6 [.int (nI (p 0)), .int (nI (p 2)), .ref nla], aI G nla 10 (nF (gz p)), ob nb 6 [.int (nI (p 1)), .int (nI (p 3)), .ref nlb], aI G nlb 10 (nF (go p)), ob xa 0 [.int (nI dn), .ref xal], aI G xal 14 (nF ac)]
  have hn0 := hr.2.1
  have hn01 := hr.1
  have hn1 := hr.2.2.2.1
  have hn11 := hr.2.2.1
  have he0 := pg_e0 hr
  have he1 := hr.2.2.2.2.1 3
  have hg0 := hr.2.2.2.2.2.1
  have hg1 := (fun j => hr.2.2.2.2.1 (12 + j) : ∀ j, go p j < 32)
  have hg0n := (hr.2.2.2.2.2.2.1 0 (by decide) : ∀ j, gz p j < 2 ^ p 0)
  have hg1n := (hr.2.2.2.2.2.2.1 1 (by decide) : ∀ j, go p j < 2 ^ p 1)
  have he0n := hr.2.2.2.2.2.2.2 0 (by decide)
  have he1n := hr.2.2.2.2.2.2.2 1 (by decide)
  have hg0w := (fun j => Nat.lt_trans (hg0 j) (by decide) : ∀ j, gz p j < 32)
  refine wc_iload_n X 0 1 dX10_count_0 rfl ?_
  refine wc_tsI X 1 134 8 (nI 8) (off := 133) dX10_count_1 rfl (by decide) (by decide) (by decide) (by decide) ?_
  refine wc_aload_n X 134 0 dX10_count_134 rfl ?_
  refine wc_get X 135 0 8 kd10 rfl (by decide) q_241 rfl dX10_count_135 ?_
  exact ret 138 _ (nI sn) dX10_count_138 (rfl)

set_option maxHeartbeats 4000000 in
set_option maxRecDepth 100000 in
theorem c_X10_keepF (l : Launch) (G : GG) (x xt xn xr xa xs xf xw xi sn : Nat) (sd : Int64) (xe xp xg xl xk xh xv : Nat) (k : Int32) (ho : outR k 0 1) : RM l G yX10_keep (Cond.code yX10_keep cX10_keep 2 (some .int)) { frames := 1, cells := 0, slots := 0, locals := 20 } [.ref x, .int k] [ob x 10 [.ref xt, .ref xn, .ref xr, .ref xa, .ref xs, .ref xf, .ref xw, .ref xi, .int (nI sn), .long sd, .ref xe, .ref xp, .ref xg, .ref xl, .ref xk, .ref xh, .ref xv]] (.int (-1)) := by
  refine RM.ofI (by decide) rfl (fun Γ X ret => ?_)
  show Wc Γ 0 0 0 [(0, .ref x), (1, .int k)] [] [ob x 10 [.ref xt, .ref xn, .ref xr, .ref xa, .ref xs, .ref xf, .ref xw, .ref xi, .int (nI sn), .long sd, .ref xe, .ref xp, .ref xg, .ref xl, .ref xk, .ref xh, .ref xv]]
  refine wc_iload_n X 0 1 dX10_keep_0 rfl ?_
  refine wc_callS X 1 [] (c_X10_isSlot l G k ) ys_X10_isSlot rfl q_747 ⟨rfl, rfl⟩ ⟨rfl, rfl⟩ ⟨rfl, rfl⟩ rfl rfl rfl dX10_keep_1 ?_
  refine wc_if_neB X 4 9 dX10_keep_4 (by decide) (fun c4_1 => ?_) (fun c4_1 => ?_)
  ·
    exact absurd (show knB 2 k = true from c4_1) (by rw [knB_out (n := 2) ho (by decide) (by decide)]; decide)
  ·
    refine wc_iconst X 7 (-1) dX10_keep_7 (by decide) ?_
    exact ret 8 _ (-1) dX10_keep_8 (rfl)

set_option maxHeartbeats 4000000 in
set_option maxRecDepth 100000 in
theorem c_X10_againF (l : Launch) (G : GG) (x xt xn xr xa xs xf xw xi sn : Nat) (sd : Int64) (xe xp xg xl xk xh xv : Nat) (k : Int32) (ho : outR k 0 1) : RM l G yX10_again (Cond.code yX10_again cX10_again 2 (some .int)) { frames := 1, cells := 0, slots := 0, locals := 20 } [.ref x, .int k] [ob x 10 [.ref xt, .ref xn, .ref xr, .ref xa, .ref xs, .ref xf, .ref xw, .ref xi, .int (nI sn), .long sd, .ref xe, .ref xp, .ref xg, .ref xl, .ref xk, .ref xh, .ref xv]] (.int (-1)) := by
  refine RM.ofI (by decide) rfl (fun Γ X ret => ?_)
  show Wc Γ 0 0 0 [(0, .ref x), (1, .int k)] [] [ob x 10 [.ref xt, .ref xn, .ref xr, .ref xa, .ref xs, .ref xf, .ref xw, .ref xi, .int (nI sn), .long sd, .ref xe, .ref xp, .ref xg, .ref xl, .ref xk, .ref xh, .ref xv]]
  refine wc_iload_n X 0 1 dX10_again_0 rfl ?_
  refine wc_callS X 1 [] (c_X10_isSlot l G k ) ys_X10_isSlot rfl q_747 ⟨rfl, rfl⟩ ⟨rfl, rfl⟩ ⟨rfl, rfl⟩ rfl rfl rfl dX10_again_1 ?_
  refine wc_if_neB X 4 9 dX10_again_4 (by decide) (fun c4_1 => ?_) (fun c4_1 => ?_)
  ·
    exact absurd (show knB 2 k = true from c4_1) (by rw [knB_out (n := 2) ho (by decide) (by decide)]; decide)
  ·
    refine wc_iconst X 7 (-1) dX10_again_7 (by decide) ?_
    exact ret 8 _ (-1) dX10_again_8 (rfl)

set_option maxHeartbeats 4000000 in
set_option maxRecDepth 100000 in
theorem c_X10_keep0 (l : Launch) (G : GG) (x xt xn xr xa xs xf xw xi sn : Nat) (sd : Int64) (xe xp xg xl xk xh xv : Nat) (na nla nb nlb : Nat) (p : Nat → Nat) (fi : Nat → Bool) (s0 s1 a0 b0 k0 f0 : Nat) (g0 : Nat → Nat) (c0 d0 l0 h0 : Nat) (q0 : Nat → Nat) (hr : pgOk p) : MM l G yX10_keep (Cond.code yX10_keep cX10_keep 2 (some .int)) { frames := 4, cells := 0, slots := 0, locals := 86 } [.ref x, .int (nI 0)] [ob x 10 [.ref xt, .ref xn, .ref xr, .ref xa, .ref xs, .ref xf, .ref xw, .ref xi, .int (nI sn), .long sd, .ref xe, .ref xp, .ref xg, .ref xl, .ref xk, .ref xh, .ref xv], ob xn 1 [.ref na, .ref nb], ob na 6 [.int (nI (p 0)), .int (nI (p 2)), .ref nla], aI G nla 10 (nF (gz p)), ob nb 6 [.int (nI (p 1)), .int (nI (p 3)), .ref nlb], aI G nlb 10 (nF (go p)), aZ G xf 2 (bF fi), aO G xs 2 (fun j => if j = 0 then some s0 else some s1), ob s0 1 [.ref a0, .ref c0], ob a0 6 [.int (nI k0), .int (nI f0), .ref b0], aI G b0 10 (nF g0), ob c0 6 [.int (nI l0), .int (nI h0), .ref d0], aI G d0 10 (nF q0)] (fun (v : Option Value) (w : va_W) => v = some (.int (nI (edgN (gz p) (p 0) + edgN (go p) (p 1)))) ∧ w = [ob x 10 [.ref xt, .ref xn, .ref xr, .ref xa, .ref xs, .ref xf, .ref xw, .ref xi, .int (nI sn), .long sd, .ref xe, .ref xp, .ref xg, .ref xl, .ref xk, .ref xh, .ref xv], ob xn 1 [.ref na, .ref nb], ob na 6 [.int (nI (p 0)), .int (nI (p 2)), .ref nla], aI G nla 10 (nF (gz p)), ob nb 6 [.int (nI (p 1)), .int (nI (p 3)), .ref nlb], aI G nlb 10 (nF (go p)), aZ G xf 2 (bF (up fi 0 true)), aO G xs 2 (fun j => if j = 0 then some s0 else some s1), ob s0 1 [.ref a0, .ref c0], ob a0 6 [.int (nI (p 0)), .int (nI (p 2)), .ref b0], aI G b0 10 (nF (gz p)), ob c0 6 [.int (nI (p 1)), .int (nI (p 3)), .ref d0], aI G d0 10 (nF (go p))]) 0 0 := by
  refine MM.ofI (by decide) rfl (fun Γ X Y hnm ret => ?_)
  show Wc Γ 0 0 0 [(0, .ref x), (1, .int (nI 0))] [] [ob x 10 [.ref xt, .ref xn, .ref xr, .ref xa, .ref xs, .ref xf, .ref xw, .ref xi, .int (nI sn), .long sd, .ref xe, .ref xp, .ref xg, .ref xl, .ref xk, .ref xh, .ref xv], ob xn 1 [.ref na, .ref nb], ob na 6 [.int (nI (p 0)), .int (nI (p 2)), .ref nla], aI G nla 10 (nF (gz p)), ob nb 6 [.int (nI (p 1)), .int (nI (p 3)), .ref nlb], aI G nlb 10 (nF (go p)), aZ G xf 2 (bF fi), aO G xs 2 (fun j => if j = 0 then some s0 else some s1), ob s0 1 [.ref a0, .ref c0], ob a0 6 [.int (nI k0), .int (nI f0), .ref b0], aI G b0 10 (nF g0), ob c0 6 [.int (nI l0), .int (nI h0), .ref d0], aI G d0 10 (nF q0)]
  have hn0 := hr.2.1
  have hn01 := hr.1
  have hn1 := hr.2.2.2.1
  have hn11 := hr.2.2.1
  have he0 := pg_e0 hr
  have he1 := hr.2.2.2.2.1 3
  have hg0 := hr.2.2.2.2.2.1
  have hg1 := (fun j => hr.2.2.2.2.1 (12 + j) : ∀ j, go p j < 32)
  have hg0n := (hr.2.2.2.2.2.2.1 0 (by decide) : ∀ j, gz p j < 2 ^ p 0)
  have hg1n := (hr.2.2.2.2.2.2.1 1 (by decide) : ∀ j, go p j < 2 ^ p 1)
  have he0n := hr.2.2.2.2.2.2.2 0 (by decide)
  have he1n := hr.2.2.2.2.2.2.2 1 (by decide)
  have hg0w := (fun j => Nat.lt_trans (hg0 j) (by decide) : ∀ j, gz p j < 32)
  refine wc_iload_n X 0 1 dX10_keep_0 rfl ?_
  refine wc_callS X 1 [] (c_X10_isSlot l G (nI 0) ) ys_X10_isSlot rfl q_747 ⟨rfl, rfl⟩ ⟨rfl, rfl⟩ ⟨rfl, rfl⟩ rfl rfl rfl dX10_keep_1 ?_
  refine wc_topi (b2i true) (by decide) ?_
  refine wc_if_neB X 4 9 dX10_keep_4 (by decide) (fun c4_1 => ?_) (fun c4_1 => ?_)
  ·
    refine wc_aload_n X 9 0 dX10_keep_9 rfl ?_
    refine wc_get X 10 0 4 kd10 rfl (by decide) q_237 rfl dX10_keep_10 ?_
    refine wc_iload_n X 13 1 dX10_keep_13 rfl ?_
    refine wc_aaldN X 14 7 rfl (by decide) (by decide) dX10_keep_14 ?_
    refine wc_st (st' := [.ref s0]) rfl ?_
    refine wc_aload_n X 15 0 dX10_keep_15 rfl ?_
    refine wc_get X 16 0 1 kd10 rfl (by decide) q_234 rfl dX10_keep_16 ?_
    refine wc_mutV X Y 19 [8, 9, 10, 11, 12, 1, 2, 3, 4, 5] [0, 6, 7] 8 (c_X1_copyFrom l G s0 a0 b0 k0 f0 g0 c0 d0 l0 h0 q0 xn na nla (p 0) (p 2) (gz p) nb nlb (p 1) (p 3) (go p) ) yv_X1_copyFrom kd1 rfl rfl (wr := [ob x 10 [.ref xt, .ref xn, .ref xr, .ref xa, .ref xs, .ref xf, .ref xw, .ref xi, .int (nI sn), .long sd, .ref xe, .ref xp, .ref xg, .ref xl, .ref xk, .ref xh, .ref xv], aZ G xf 2 (bF fi), aO G xs 2 (fun j => if j = 0 then some s0 else some s1)]) rfl ⟨rfl, rfl, rfl⟩ q_374 ⟨rfl, rfl⟩ ⟨rfl, rfl⟩ ⟨rfl, rfl⟩ rfl rfl rfl dX10_keep_19 (fun v w hp_2 => ?_)
    obtain ⟨rfl, rfl⟩ := hp_2
    refine wc_perm Y [0, 8, 9, 10, 11, 12, 1, 2, 3, 4, 5, 6, 7] [ob x 10 [.ref xt, .ref xn, .ref xr, .ref xa, .ref xs, .ref xf, .ref xw, .ref xi, .int (nI sn), .long sd, .ref xe, .ref xp, .ref xg, .ref xl, .ref xk, .ref xh, .ref xv], ob xn 1 [.ref na, .ref nb], ob na 6 [.int (nI (p 0)), .int (nI (p 2)), .ref nla], aI G nla 10 (nF (gz p)), ob nb 6 [.int (nI (p 1)), .int (nI (p 3)), .ref nlb], aI G nlb 10 (nF (go p)), aZ G xf 2 (bF fi), aO G xs 2 (fun j => if j = 0 then some s0 else some s1), ob s0 1 [.ref a0, .ref c0], ob a0 6 [.int (nI (p 0)), .int (nI (p 2)), .ref b0], aI G b0 10 (nF (gz p)), ob c0 6 [.int (nI (p 1)), .int (nI (p 3)), .ref d0], aI G d0 10 (nF (go p))] rfl rfl ?_
    show Wc Γ 0 0 22 [(0, .ref x), (1, .int (nI 0))] [] [ob x 10 [.ref xt, .ref xn, .ref xr, .ref xa, .ref xs, .ref xf, .ref xw, .ref xi, .int (nI sn), .long sd, .ref xe, .ref xp, .ref xg, .ref xl, .ref xk, .ref xh, .ref xv], ob xn 1 [.ref na, .ref nb], ob na 6 [.int (nI (p 0)), .int (nI (p 2)), .ref nla], aI G nla 10 (nF (gz p)), ob nb 6 [.int (nI (p 1)), .int (nI (p 3)), .ref nlb], aI G nlb 10 (nF (go p)), aZ G xf 2 (bF fi), aO G xs 2 (fun j => if j = 0 then some s0 else some s1), ob s0 1 [.ref a0, .ref c0], ob a0 6 [.int (nI (p 0)), .int (nI (p 2)), .ref b0], aI G b0 10 (nF (gz p)), ob c0 6 [.int (nI (p 1)), .int (nI (p 3)), .ref d0], aI G d0 10 (nF (go p))]
    refine wc_aload_n X 22 0 dX10_keep_22 rfl ?_
    refine wc_get X 23 0 5 kd10 rfl (by decide) q_238 rfl dX10_keep_23 ?_
    refine wc_iload_n X 26 1 dX10_keep_26 rfl ?_
    refine wc_iconstN X 27 1 dX10_keep_27 ?_
    refine wc_st (st' := [.int (b2i true), .int (nI 0), .ref xf]) rfl ?_
    refine wc_zastG X Y 28 6 rfl (by decide) (by decide) (ws' := [ob x 10 [.ref xt, .ref xn, .ref xr, .ref xa, .ref xs, .ref xf, .ref xw, .ref xi, .int (nI sn), .long sd, .ref xe, .ref xp, .ref xg, .ref xl, .ref xk, .ref xh, .ref xv], ob xn 1 [.ref na, .ref nb], ob na 6 [.int (nI (p 0)), .int (nI (p 2)), .ref nla], aI G nla 10 (nF (gz p)), ob nb 6 [.int (nI (p 1)), .int (nI (p 3)), .ref nlb], aI G nlb 10 (nF (go p)), aZ G xf 2 (bF (up fi 0 true)), aO G xs 2 (fun j => if j = 0 then some s0 else some s1), ob s0 1 [.ref a0, .ref c0], ob a0 6 [.int (nI (p 0)), .int (nI (p 2)), .ref b0], aI G b0 10 (nF (gz p)), ob c0 6 [.int (nI (p 1)), .int (nI (p 3)), .ref d0], aI G d0 10 (nF (go p))]) rfl dX10_keep_28 ?_
    refine wc_aload_n X 29 0 dX10_keep_29 rfl ?_
    refine wc_get X 30 0 1 kd10 rfl (by decide) q_234 rfl dX10_keep_30 ?_
    refine wc_callV X 33 [1, 2, 3, 4, 5] 1 (c_X1_edges l G xn na nla (p 0) (p 2) (gz p) nb nlb (p 1) (p 3) (go p) (by first | assumption | omega) (by first | assumption | omega) (by first | assumption | omega) (by first | assumption | omega) (by first | assumption | omega) (by first | assumption | omega)) yv_X1_edges kd1 rfl rfl q_385 ⟨rfl, rfl⟩ ⟨rfl, rfl⟩ ⟨rfl, rfl⟩ rfl rfl rfl dX10_keep_33 ?_
    exact ret 36 _ (nI (edgN (gz p) (p 0) + edgN (go p) (p 1))) _ dX10_keep_36 (⟨rfl, rfl⟩)
  ·
    exact absurd c4_1 (by decide)

set_option maxHeartbeats 4000000 in
set_option maxRecDepth 100000 in
theorem c_X10_againN0 (l : Launch) (G : GG) (x xt xn xr xa xs xf xw xi sn : Nat) (sd : Int64) (xe xp xg xl xk xh xv : Nat) (fi : Nat → Bool) (hf : fi 0 = false) : RM l G yX10_again (Cond.code yX10_again cX10_again 2 (some .int)) { frames := 1, cells := 0, slots := 0, locals := 20 } [.ref x, .int (nI 0)] [ob x 10 [.ref xt, .ref xn, .ref xr, .ref xa, .ref xs, .ref xf, .ref xw, .ref xi, .int (nI sn), .long sd, .ref xe, .ref xp, .ref xg, .ref xl, .ref xk, .ref xh, .ref xv], aZ G xf 2 (bF fi)] (.int (-3)) := by
  refine RM.ofI (by decide) rfl (fun Γ X ret => ?_)
  show Wc Γ 0 0 0 [(0, .ref x), (1, .int (nI 0))] [] [ob x 10 [.ref xt, .ref xn, .ref xr, .ref xa, .ref xs, .ref xf, .ref xw, .ref xi, .int (nI sn), .long sd, .ref xe, .ref xp, .ref xg, .ref xl, .ref xk, .ref xh, .ref xv], aZ G xf 2 (bF fi)]
  refine wc_iload_n X 0 1 dX10_again_0 rfl ?_
  refine wc_callS X 1 [] (c_X10_isSlot l G (nI 0) ) ys_X10_isSlot rfl q_747 ⟨rfl, rfl⟩ ⟨rfl, rfl⟩ ⟨rfl, rfl⟩ rfl rfl rfl dX10_again_1 ?_
  refine wc_topi (b2i true) (by decide) ?_
  refine wc_if_neB X 4 9 dX10_again_4 (by decide) (fun c4_1 => ?_) (fun c4_1 => ?_)
  ·
    refine wc_aload_n X 9 0 dX10_again_9 rfl ?_
    refine wc_get X 10 0 5 kd10 rfl (by decide) q_238 rfl dX10_again_10 ?_
    refine wc_iload_n X 13 1 dX10_again_13 rfl ?_
    refine wc_zaldG X 14 1 rfl (by decide) (by decide) dX10_again_14 ?_
    refine wc_if_neB X 15 21 dX10_again_15 (by decide) (fun c15_2 => ?_) (fun c15_2 => ?_)
    ·
      exact absurd c15_2 (by rw [hf]; decide)
    ·
      refine wc_bipush X 18 (-3) dX10_again_18 (by decide) ?_
      exact ret 20 _ (-3) dX10_again_20 (rfl)
  ·
    exact absurd c4_1 (by decide)

set_option maxHeartbeats 4000000 in
set_option maxRecDepth 100000 in
theorem c_X10_againS0 (l : Launch) (G : GG) (x xt xn xr xa xs xf xw xi sn : Nat) (sd : Int64) (xe xp xg xl xk xh xv : Nat) (na nla nb nlb : Nat) (p : Nat → Nat) (xal dn : Nat) (ac : Nat → Nat) (fi : Nat → Bool) (s0 s1 a0 b0 c0 d0 : Nat) (q : Nat → Nat) (hr : pgOk q) (hf : fi 0 = true) : MM l G yX10_again (Cond.code yX10_again cX10_again 2 (some .int)) { frames := 4, cells := 0, slots := 0, locals := 86 } [.ref x, .int (nI 0)] [ob x 10 [.ref xt, .ref xn, .ref xr, .ref xa, .ref xs, .ref xf, .ref xw, .ref xi, .int (nI sn), .long sd, .ref xe, .ref xp, .ref xg, .ref xl, .ref xk, .ref xh, .ref xv], ob xn 1 [.ref na, .ref nb], ob na 6 [.int (nI (p 0)), .int (nI (p 2)), .ref nla], aI G nla 10 (nF (gz p)), ob nb 6 [.int (nI (p 1)), .int (nI (p 3)), .ref nlb], aI G nlb 10 (nF (go p)), ob xa 0 [.int (nI dn), .ref xal], aI G xal 14 (nF ac), aZ G xf 2 (bF fi), aO G xs 2 (fun j => if j = 0 then some s0 else some s1), ob s0 1 [.ref a0, .ref c0], ob a0 6 [.int (nI (q 0)), .int (nI (q 2)), .ref b0], aI G b0 10 (nF (gz q)), ob c0 6 [.int (nI (q 1)), .int (nI (q 3)), .ref d0], aI G d0 10 (nF (go q))] (fun (v : Option Value) (w : va_W) => v = some (.int (nI (edgN (gz q) (q 0) + edgN (go q) (q 1)))) ∧ w = [ob x 10 [.ref xt, .ref xn, .ref xr, .ref xa, .ref xs, .ref xf, .ref xw, .ref xi, .int (nI sn), .long sd, .ref xe, .ref xp, .ref xg, .ref xl, .ref xk, .ref xh, .ref xv], ob xn 1 [.ref na, .ref nb], ob na 6 [.int (nI (q 0)), .int (nI (q 2)), .ref nla], aI G nla 10 (nF (gz q)), ob nb 6 [.int (nI (q 1)), .int (nI (q 3)), .ref nlb], aI G nlb 10 (nF (go q)), ob xa 0 [.int (nI 0), .ref xal], aI G xal 14 (nF ac), aZ G xf 2 (bF fi), aO G xs 2 (fun j => if j = 0 then some s0 else some s1), ob s0 1 [.ref a0, .ref c0], ob a0 6 [.int (nI (q 0)), .int (nI (q 2)), .ref b0], aI G b0 10 (nF (gz q)), ob c0 6 [.int (nI (q 1)), .int (nI (q 3)), .ref d0], aI G d0 10 (nF (go q))]) 0 0 := by
  refine MM.ofI (by decide) rfl (fun Γ X Y hnm ret => ?_)
  show Wc Γ 0 0 0 [(0, .ref x), (1, .int (nI 0))] [] [ob x 10 [.ref xt, .ref xn, .ref xr, .ref xa, .ref xs, .ref xf, .ref xw, .ref xi, .int (nI sn), .long sd, .ref xe, .ref xp, .ref xg, .ref xl, .ref xk, .ref xh, .ref xv], ob xn 1 [.ref na, .ref nb], ob na 6 [.int (nI (p 0)), .int (nI (p 2)), .ref nla], aI G nla 10 (nF (gz p)), ob nb 6 [.int (nI (p 1)), .int (nI (p 3)), .ref nlb], aI G nlb 10 (nF (go p)), ob xa 0 [.int (nI dn), .ref xal], aI G xal 14 (nF ac), aZ G xf 2 (bF fi), aO G xs 2 (fun j => if j = 0 then some s0 else some s1), ob s0 1 [.ref a0, .ref c0], ob a0 6 [.int (nI (q 0)), .int (nI (q 2)), .ref b0], aI G b0 10 (nF (gz q)), ob c0 6 [.int (nI (q 1)), .int (nI (q 3)), .ref d0], aI G d0 10 (nF (go q))]
  have hn0 := hr.2.1
  have hn01 := hr.1
  have hn1 := hr.2.2.2.1
  have hn11 := hr.2.2.1
  have he0 := pg_e0 hr
  have he1 := hr.2.2.2.2.1 3
  have hg0 := hr.2.2.2.2.2.1
  have hg1 := (fun j => hr.2.2.2.2.1 (12 + j) : ∀ j, go q j < 32)
  have hg0n := (hr.2.2.2.2.2.2.1 0 (by decide) : ∀ j, gz q j < 2 ^ q 0)
  have hg1n := (hr.2.2.2.2.2.2.1 1 (by decide) : ∀ j, go q j < 2 ^ q 1)
  have he0n := hr.2.2.2.2.2.2.2 0 (by decide)
  have he1n := hr.2.2.2.2.2.2.2 1 (by decide)
  have hg0w := (fun j => Nat.lt_trans (hg0 j) (by decide) : ∀ j, gz q j < 32)
  refine wc_iload_n X 0 1 dX10_again_0 rfl ?_
  refine wc_callS X 1 [] (c_X10_isSlot l G (nI 0) ) ys_X10_isSlot rfl q_747 ⟨rfl, rfl⟩ ⟨rfl, rfl⟩ ⟨rfl, rfl⟩ rfl rfl rfl dX10_again_1 ?_
  refine wc_topi (b2i true) (by decide) ?_
  refine wc_if_neB X 4 9 dX10_again_4 (by decide) (fun c4_1 => ?_) (fun c4_1 => ?_)
  ·
    refine wc_aload_n X 9 0 dX10_again_9 rfl ?_
    refine wc_get X 10 0 5 kd10 rfl (by decide) q_238 rfl dX10_again_10 ?_
    refine wc_iload_n X 13 1 dX10_again_13 rfl ?_
    refine wc_zaldG X 14 8 rfl (by decide) (by decide) dX10_again_14 ?_
    refine wc_if_neB X 15 21 dX10_again_15 (by decide) (fun c15_2 => ?_) (fun c15_2 => ?_)
    ·
      refine wc_aload_n X 21 0 dX10_again_21 rfl ?_
      refine wc_get X 22 0 1 kd10 rfl (by decide) q_234 rfl dX10_again_22 ?_
      refine wc_aload_n X 25 0 dX10_again_25 rfl ?_
      refine wc_get X 26 0 4 kd10 rfl (by decide) q_237 rfl dX10_again_26 ?_
      refine wc_iload_n X 29 1 dX10_again_29 rfl ?_
      refine wc_aaldN X 30 9 rfl (by decide) (by decide) dX10_again_30 ?_
      refine wc_st (st' := [.ref s0, .ref xn]) rfl ?_
      refine wc_mutV X Y 31 [1, 2, 3, 4, 5, 10, 11, 12, 13, 14] [0, 6, 7, 8, 9] 1 (c_X1_copyFrom l G xn na nla (p 0) (p 2) (gz p) nb nlb (p 1) (p 3) (go p) s0 a0 b0 (q 0) (q 2) (gz q) c0 d0 (q 1) (q 3) (go q) ) yv_X1_copyFrom kd1 rfl rfl (wr := [ob x 10 [.ref xt, .ref xn, .ref xr, .ref xa, .ref xs, .ref xf, .ref xw, .ref xi, .int (nI sn), .long sd, .ref xe, .ref xp, .ref xg, .ref xl, .ref xk, .ref xh, .ref xv], ob xa 0 [.int (nI dn), .ref xal], aI G xal 14 (nF ac), aZ G xf 2 (bF fi), aO G xs 2 (fun j => if j = 0 then some s0 else some s1)]) rfl ⟨rfl, rfl, rfl⟩ q_374 ⟨rfl, rfl⟩ ⟨rfl, rfl⟩ ⟨rfl, rfl⟩ rfl rfl rfl dX10_again_31 (fun v w hp_3 => ?_)
      obtain ⟨rfl, rfl⟩ := hp_3
      refine wc_perm Y [0, 5, 6, 7, 8, 9, 1, 2, 3, 4, 10, 11, 12, 13, 14] [ob x 10 [.ref xt, .ref xn, .ref xr, .ref xa, .ref xs, .ref xf, .ref xw, .ref xi, .int (nI sn), .long sd, .ref xe, .ref xp, .ref xg, .ref xl, .ref xk, .ref xh, .ref xv], ob xn 1 [.ref na, .ref nb], ob na 6 [.int (nI (q 0)), .int (nI (q 2)), .ref nla], aI G nla 10 (nF (gz q)), ob nb 6 [.int (nI (q 1)), .int (nI (q 3)), .ref nlb], aI G nlb 10 (nF (go q)), ob xa 0 [.int (nI dn), .ref xal], aI G xal 14 (nF ac), aZ G xf 2 (bF fi), aO G xs 2 (fun j => if j = 0 then some s0 else some s1), ob s0 1 [.ref a0, .ref c0], ob a0 6 [.int (nI (q 0)), .int (nI (q 2)), .ref b0], aI G b0 10 (nF (gz q)), ob c0 6 [.int (nI (q 1)), .int (nI (q 3)), .ref d0], aI G d0 10 (nF (go q))] rfl rfl ?_
      show Wc Γ 0 0 34 [(0, .ref x), (1, .int (nI 0))] [] [ob x 10 [.ref xt, .ref xn, .ref xr, .ref xa, .ref xs, .ref xf, .ref xw, .ref xi, .int (nI sn), .long sd, .ref xe, .ref xp, .ref xg, .ref xl, .ref xk, .ref xh, .ref xv], ob xn 1 [.ref na, .ref nb], ob na 6 [.int (nI (q 0)), .int (nI (q 2)), .ref nla], aI G nla 10 (nF (gz q)), ob nb 6 [.int (nI (q 1)), .int (nI (q 3)), .ref nlb], aI G nlb 10 (nF (go q)), ob xa 0 [.int (nI dn), .ref xal], aI G xal 14 (nF ac), aZ G xf 2 (bF fi), aO G xs 2 (fun j => if j = 0 then some s0 else some s1), ob s0 1 [.ref a0, .ref c0], ob a0 6 [.int (nI (q 0)), .int (nI (q 2)), .ref b0], aI G b0 10 (nF (gz q)), ob c0 6 [.int (nI (q 1)), .int (nI (q 3)), .ref d0], aI G d0 10 (nF (go q))]
      refine wc_aload_n X 34 0 dX10_again_34 rfl ?_
      refine wc_get X 35 0 3 kd10 rfl (by decide) q_236 rfl dX10_again_35 ?_
      refine wc_iconstN X 38 0 dX10_again_38 ?_
      refine wc_put X Y 39 6 0 kd0 rfl (by decide) q_93 rfl rfl rfl (Nat.le_of_ble_eq_true rfl) (ws' := [ob x 10 [.ref xt, .ref xn, .ref xr, .ref xa, .ref xs, .ref xf, .ref xw, .ref xi, .int (nI sn), .long sd, .ref xe, .ref xp, .ref xg, .ref xl, .ref xk, .ref xh, .ref xv], ob xn 1 [.ref na, .ref nb], ob na 6 [.int (nI (q 0)), .int (nI (q 2)), .ref nla], aI G nla 10 (nF (gz q)), ob nb 6 [.int (nI (q 1)), .int (nI (q 3)), .ref nlb], aI G nlb 10 (nF (go q)), ob xa 0 [.int (nI 0), .ref xal], aI G xal 14 (nF ac), aZ G xf 2 (bF fi), aO G xs 2 (fun j => if j = 0 then some s0 else some s1), ob s0 1 [.ref a0, .ref c0], ob a0 6 [.int (nI (q 0)), .int (nI (q 2)), .ref b0], aI G b0 10 (nF (gz q)), ob c0 6 [.int (nI (q 1)), .int (nI (q 3)), .ref d0], aI G d0 10 (nF (go q))]) rfl dX10_again_39 ?_
      refine wc_aload_n X 42 0 dX10_again_42 rfl ?_
      refine wc_get X 43 0 1 kd10 rfl (by decide) q_234 rfl dX10_again_43 ?_
      refine wc_callV X 46 [1, 2, 3, 4, 5] 1 (c_X1_edges l G xn na nla (q 0) (q 2) (gz q) nb nlb (q 1) (q 3) (go q) (by first | assumption | omega) (by first | assumption | omega) (by first | assumption | omega) (by first | assumption | omega) (by first | assumption | omega) (by first | assumption | omega)) yv_X1_edges kd1 rfl rfl q_385 ⟨rfl, rfl⟩ ⟨rfl, rfl⟩ ⟨rfl, rfl⟩ rfl rfl rfl dX10_again_46 ?_
      exact ret 49 _ (nI (edgN (gz q) (q 0) + edgN (go q) (q 1))) _ dX10_again_49 (⟨rfl, rfl⟩)
    ·
      exact absurd c15_2 (by rw [hf]; decide)
  ·
    exact absurd c4_1 (by decide)

set_option maxHeartbeats 4000000 in
set_option maxRecDepth 100000 in
theorem c_X10_keep1 (l : Launch) (G : GG) (x xt xn xr xa xs xf xw xi sn : Nat) (sd : Int64) (xe xp xg xl xk xh xv : Nat) (na nla nb nlb : Nat) (p : Nat → Nat) (fi : Nat → Bool) (s0 s1 a1 b1 k1 f1 : Nat) (g1 : Nat → Nat) (c1 d1 l1 h1 : Nat) (q1 : Nat → Nat) (hr : pgOk p) : MM l G yX10_keep (Cond.code yX10_keep cX10_keep 2 (some .int)) { frames := 4, cells := 0, slots := 0, locals := 86 } [.ref x, .int (nI 1)] [ob x 10 [.ref xt, .ref xn, .ref xr, .ref xa, .ref xs, .ref xf, .ref xw, .ref xi, .int (nI sn), .long sd, .ref xe, .ref xp, .ref xg, .ref xl, .ref xk, .ref xh, .ref xv], ob xn 1 [.ref na, .ref nb], ob na 6 [.int (nI (p 0)), .int (nI (p 2)), .ref nla], aI G nla 10 (nF (gz p)), ob nb 6 [.int (nI (p 1)), .int (nI (p 3)), .ref nlb], aI G nlb 10 (nF (go p)), aZ G xf 2 (bF fi), aO G xs 2 (fun j => if j = 0 then some s0 else some s1), ob s1 1 [.ref a1, .ref c1], ob a1 6 [.int (nI k1), .int (nI f1), .ref b1], aI G b1 10 (nF g1), ob c1 6 [.int (nI l1), .int (nI h1), .ref d1], aI G d1 10 (nF q1)] (fun (v : Option Value) (w : va_W) => v = some (.int (nI (edgN (gz p) (p 0) + edgN (go p) (p 1)))) ∧ w = [ob x 10 [.ref xt, .ref xn, .ref xr, .ref xa, .ref xs, .ref xf, .ref xw, .ref xi, .int (nI sn), .long sd, .ref xe, .ref xp, .ref xg, .ref xl, .ref xk, .ref xh, .ref xv], ob xn 1 [.ref na, .ref nb], ob na 6 [.int (nI (p 0)), .int (nI (p 2)), .ref nla], aI G nla 10 (nF (gz p)), ob nb 6 [.int (nI (p 1)), .int (nI (p 3)), .ref nlb], aI G nlb 10 (nF (go p)), aZ G xf 2 (bF (up fi 1 true)), aO G xs 2 (fun j => if j = 0 then some s0 else some s1), ob s1 1 [.ref a1, .ref c1], ob a1 6 [.int (nI (p 0)), .int (nI (p 2)), .ref b1], aI G b1 10 (nF (gz p)), ob c1 6 [.int (nI (p 1)), .int (nI (p 3)), .ref d1], aI G d1 10 (nF (go p))]) 0 0 := by
  refine MM.ofI (by decide) rfl (fun Γ X Y hnm ret => ?_)
  show Wc Γ 0 0 0 [(0, .ref x), (1, .int (nI 1))] [] [ob x 10 [.ref xt, .ref xn, .ref xr, .ref xa, .ref xs, .ref xf, .ref xw, .ref xi, .int (nI sn), .long sd, .ref xe, .ref xp, .ref xg, .ref xl, .ref xk, .ref xh, .ref xv], ob xn 1 [.ref na, .ref nb], ob na 6 [.int (nI (p 0)), .int (nI (p 2)), .ref nla], aI G nla 10 (nF (gz p)), ob nb 6 [.int (nI (p 1)), .int (nI (p 3)), .ref nlb], aI G nlb 10 (nF (go p)), aZ G xf 2 (bF fi), aO G xs 2 (fun j => if j = 0 then some s0 else some s1), ob s1 1 [.ref a1, .ref c1], ob a1 6 [.int (nI k1), .int (nI f1), .ref b1], aI G b1 10 (nF g1), ob c1 6 [.int (nI l1), .int (nI h1), .ref d1], aI G d1 10 (nF q1)]
  have hn0 := hr.2.1
  have hn01 := hr.1
  have hn1 := hr.2.2.2.1
  have hn11 := hr.2.2.1
  have he0 := pg_e0 hr
  have he1 := hr.2.2.2.2.1 3
  have hg0 := hr.2.2.2.2.2.1
  have hg1 := (fun j => hr.2.2.2.2.1 (12 + j) : ∀ j, go p j < 32)
  have hg0n := (hr.2.2.2.2.2.2.1 0 (by decide) : ∀ j, gz p j < 2 ^ p 0)
  have hg1n := (hr.2.2.2.2.2.2.1 1 (by decide) : ∀ j, go p j < 2 ^ p 1)
  have he0n := hr.2.2.2.2.2.2.2 0 (by decide)
  have he1n := hr.2.2.2.2.2.2.2 1 (by decide)
  have hg0w := (fun j => Nat.lt_trans (hg0 j) (by decide) : ∀ j, gz p j < 32)
  refine wc_iload_n X 0 1 dX10_keep_0 rfl ?_
  refine wc_callS X 1 [] (c_X10_isSlot l G (nI 1) ) ys_X10_isSlot rfl q_747 ⟨rfl, rfl⟩ ⟨rfl, rfl⟩ ⟨rfl, rfl⟩ rfl rfl rfl dX10_keep_1 ?_
  refine wc_topi (b2i true) (by decide) ?_
  refine wc_if_neB X 4 9 dX10_keep_4 (by decide) (fun c4_1 => ?_) (fun c4_1 => ?_)
  ·
    refine wc_aload_n X 9 0 dX10_keep_9 rfl ?_
    refine wc_get X 10 0 4 kd10 rfl (by decide) q_237 rfl dX10_keep_10 ?_
    refine wc_iload_n X 13 1 dX10_keep_13 rfl ?_
    refine wc_aaldN X 14 7 rfl (by decide) (by decide) dX10_keep_14 ?_
    refine wc_st (st' := [.ref s1]) rfl ?_
    refine wc_aload_n X 15 0 dX10_keep_15 rfl ?_
    refine wc_get X 16 0 1 kd10 rfl (by decide) q_234 rfl dX10_keep_16 ?_
    refine wc_mutV X Y 19 [8, 9, 10, 11, 12, 1, 2, 3, 4, 5] [0, 6, 7] 8 (c_X1_copyFrom l G s1 a1 b1 k1 f1 g1 c1 d1 l1 h1 q1 xn na nla (p 0) (p 2) (gz p) nb nlb (p 1) (p 3) (go p) ) yv_X1_copyFrom kd1 rfl rfl (wr := [ob x 10 [.ref xt, .ref xn, .ref xr, .ref xa, .ref xs, .ref xf, .ref xw, .ref xi, .int (nI sn), .long sd, .ref xe, .ref xp, .ref xg, .ref xl, .ref xk, .ref xh, .ref xv], aZ G xf 2 (bF fi), aO G xs 2 (fun j => if j = 0 then some s0 else some s1)]) rfl ⟨rfl, rfl, rfl⟩ q_374 ⟨rfl, rfl⟩ ⟨rfl, rfl⟩ ⟨rfl, rfl⟩ rfl rfl rfl dX10_keep_19 (fun v w hp_2 => ?_)
    obtain ⟨rfl, rfl⟩ := hp_2
    refine wc_perm Y [0, 8, 9, 10, 11, 12, 1, 2, 3, 4, 5, 6, 7] [ob x 10 [.ref xt, .ref xn, .ref xr, .ref xa, .ref xs, .ref xf, .ref xw, .ref xi, .int (nI sn), .long sd, .ref xe, .ref xp, .ref xg, .ref xl, .ref xk, .ref xh, .ref xv], ob xn 1 [.ref na, .ref nb], ob na 6 [.int (nI (p 0)), .int (nI (p 2)), .ref nla], aI G nla 10 (nF (gz p)), ob nb 6 [.int (nI (p 1)), .int (nI (p 3)), .ref nlb], aI G nlb 10 (nF (go p)), aZ G xf 2 (bF fi), aO G xs 2 (fun j => if j = 0 then some s0 else some s1), ob s1 1 [.ref a1, .ref c1], ob a1 6 [.int (nI (p 0)), .int (nI (p 2)), .ref b1], aI G b1 10 (nF (gz p)), ob c1 6 [.int (nI (p 1)), .int (nI (p 3)), .ref d1], aI G d1 10 (nF (go p))] rfl rfl ?_
    show Wc Γ 0 0 22 [(0, .ref x), (1, .int (nI 1))] [] [ob x 10 [.ref xt, .ref xn, .ref xr, .ref xa, .ref xs, .ref xf, .ref xw, .ref xi, .int (nI sn), .long sd, .ref xe, .ref xp, .ref xg, .ref xl, .ref xk, .ref xh, .ref xv], ob xn 1 [.ref na, .ref nb], ob na 6 [.int (nI (p 0)), .int (nI (p 2)), .ref nla], aI G nla 10 (nF (gz p)), ob nb 6 [.int (nI (p 1)), .int (nI (p 3)), .ref nlb], aI G nlb 10 (nF (go p)), aZ G xf 2 (bF fi), aO G xs 2 (fun j => if j = 0 then some s0 else some s1), ob s1 1 [.ref a1, .ref c1], ob a1 6 [.int (nI (p 0)), .int (nI (p 2)), .ref b1], aI G b1 10 (nF (gz p)), ob c1 6 [.int (nI (p 1)), .int (nI (p 3)), .ref d1], aI G d1 10 (nF (go p))]
    refine wc_aload_n X 22 0 dX10_keep_22 rfl ?_
    refine wc_get X 23 0 5 kd10 rfl (by decide) q_238 rfl dX10_keep_23 ?_
    refine wc_iload_n X 26 1 dX10_keep_26 rfl ?_
    refine wc_iconstN X 27 1 dX10_keep_27 ?_
    refine wc_st (st' := [.int (b2i true), .int (nI 1), .ref xf]) rfl ?_
    refine wc_zastG X Y 28 6 rfl (by decide) (by decide) (ws' := [ob x 10 [.ref xt, .ref xn, .ref xr, .ref xa, .ref xs, .ref xf, .ref xw, .ref xi, .int (nI sn), .long sd, .ref xe, .ref xp, .ref xg, .ref xl, .ref xk, .ref xh, .ref xv], ob xn 1 [.ref na, .ref nb], ob na 6 [.int (nI (p 0)), .int (nI (p 2)), .ref nla], aI G nla 10 (nF (gz p)), ob nb 6 [.int (nI (p 1)), .int (nI (p 3)), .ref nlb], aI G nlb 10 (nF (go p)), aZ G xf 2 (bF (up fi 1 true)), aO G xs 2 (fun j => if j = 0 then some s0 else some s1), ob s1 1 [.ref a1, .ref c1], ob a1 6 [.int (nI (p 0)), .int (nI (p 2)), .ref b1], aI G b1 10 (nF (gz p)), ob c1 6 [.int (nI (p 1)), .int (nI (p 3)), .ref d1], aI G d1 10 (nF (go p))]) rfl dX10_keep_28 ?_
    refine wc_aload_n X 29 0 dX10_keep_29 rfl ?_
    refine wc_get X 30 0 1 kd10 rfl (by decide) q_234 rfl dX10_keep_30 ?_
    refine wc_callV X 33 [1, 2, 3, 4, 5] 1 (c_X1_edges l G xn na nla (p 0) (p 2) (gz p) nb nlb (p 1) (p 3) (go p) (by first | assumption | omega) (by first | assumption | omega) (by first | assumption | omega) (by first | assumption | omega) (by first | assumption | omega) (by first | assumption | omega)) yv_X1_edges kd1 rfl rfl q_385 ⟨rfl, rfl⟩ ⟨rfl, rfl⟩ ⟨rfl, rfl⟩ rfl rfl rfl dX10_keep_33 ?_
    exact ret 36 _ (nI (edgN (gz p) (p 0) + edgN (go p) (p 1))) _ dX10_keep_36 (⟨rfl, rfl⟩)
  ·
    exact absurd c4_1 (by decide)

set_option maxHeartbeats 4000000 in
set_option maxRecDepth 100000 in
theorem c_X10_againN1 (l : Launch) (G : GG) (x xt xn xr xa xs xf xw xi sn : Nat) (sd : Int64) (xe xp xg xl xk xh xv : Nat) (fi : Nat → Bool) (hf : fi 1 = false) : RM l G yX10_again (Cond.code yX10_again cX10_again 2 (some .int)) { frames := 1, cells := 0, slots := 0, locals := 20 } [.ref x, .int (nI 1)] [ob x 10 [.ref xt, .ref xn, .ref xr, .ref xa, .ref xs, .ref xf, .ref xw, .ref xi, .int (nI sn), .long sd, .ref xe, .ref xp, .ref xg, .ref xl, .ref xk, .ref xh, .ref xv], aZ G xf 2 (bF fi)] (.int (-3)) := by
  refine RM.ofI (by decide) rfl (fun Γ X ret => ?_)
  show Wc Γ 0 0 0 [(0, .ref x), (1, .int (nI 1))] [] [ob x 10 [.ref xt, .ref xn, .ref xr, .ref xa, .ref xs, .ref xf, .ref xw, .ref xi, .int (nI sn), .long sd, .ref xe, .ref xp, .ref xg, .ref xl, .ref xk, .ref xh, .ref xv], aZ G xf 2 (bF fi)]
  refine wc_iload_n X 0 1 dX10_again_0 rfl ?_
  refine wc_callS X 1 [] (c_X10_isSlot l G (nI 1) ) ys_X10_isSlot rfl q_747 ⟨rfl, rfl⟩ ⟨rfl, rfl⟩ ⟨rfl, rfl⟩ rfl rfl rfl dX10_again_1 ?_
  refine wc_topi (b2i true) (by decide) ?_
  refine wc_if_neB X 4 9 dX10_again_4 (by decide) (fun c4_1 => ?_) (fun c4_1 => ?_)
  ·
    refine wc_aload_n X 9 0 dX10_again_9 rfl ?_
    refine wc_get X 10 0 5 kd10 rfl (by decide) q_238 rfl dX10_again_10 ?_
    refine wc_iload_n X 13 1 dX10_again_13 rfl ?_
    refine wc_zaldG X 14 1 rfl (by decide) (by decide) dX10_again_14 ?_
    refine wc_if_neB X 15 21 dX10_again_15 (by decide) (fun c15_2 => ?_) (fun c15_2 => ?_)
    ·
      exact absurd c15_2 (by rw [hf]; decide)
    ·
      refine wc_bipush X 18 (-3) dX10_again_18 (by decide) ?_
      exact ret 20 _ (-3) dX10_again_20 (rfl)
  ·
    exact absurd c4_1 (by decide)

set_option maxHeartbeats 4000000 in
set_option maxRecDepth 100000 in
theorem c_X10_againS1 (l : Launch) (G : GG) (x xt xn xr xa xs xf xw xi sn : Nat) (sd : Int64) (xe xp xg xl xk xh xv : Nat) (na nla nb nlb : Nat) (p : Nat → Nat) (xal dn : Nat) (ac : Nat → Nat) (fi : Nat → Bool) (s0 s1 a1 b1 c1 d1 : Nat) (q : Nat → Nat) (hr : pgOk q) (hf : fi 1 = true) : MM l G yX10_again (Cond.code yX10_again cX10_again 2 (some .int)) { frames := 4, cells := 0, slots := 0, locals := 86 } [.ref x, .int (nI 1)] [ob x 10 [.ref xt, .ref xn, .ref xr, .ref xa, .ref xs, .ref xf, .ref xw, .ref xi, .int (nI sn), .long sd, .ref xe, .ref xp, .ref xg, .ref xl, .ref xk, .ref xh, .ref xv], ob xn 1 [.ref na, .ref nb], ob na 6 [.int (nI (p 0)), .int (nI (p 2)), .ref nla], aI G nla 10 (nF (gz p)), ob nb 6 [.int (nI (p 1)), .int (nI (p 3)), .ref nlb], aI G nlb 10 (nF (go p)), ob xa 0 [.int (nI dn), .ref xal], aI G xal 14 (nF ac), aZ G xf 2 (bF fi), aO G xs 2 (fun j => if j = 0 then some s0 else some s1), ob s1 1 [.ref a1, .ref c1], ob a1 6 [.int (nI (q 0)), .int (nI (q 2)), .ref b1], aI G b1 10 (nF (gz q)), ob c1 6 [.int (nI (q 1)), .int (nI (q 3)), .ref d1], aI G d1 10 (nF (go q))] (fun (v : Option Value) (w : va_W) => v = some (.int (nI (edgN (gz q) (q 0) + edgN (go q) (q 1)))) ∧ w = [ob x 10 [.ref xt, .ref xn, .ref xr, .ref xa, .ref xs, .ref xf, .ref xw, .ref xi, .int (nI sn), .long sd, .ref xe, .ref xp, .ref xg, .ref xl, .ref xk, .ref xh, .ref xv], ob xn 1 [.ref na, .ref nb], ob na 6 [.int (nI (q 0)), .int (nI (q 2)), .ref nla], aI G nla 10 (nF (gz q)), ob nb 6 [.int (nI (q 1)), .int (nI (q 3)), .ref nlb], aI G nlb 10 (nF (go q)), ob xa 0 [.int (nI 0), .ref xal], aI G xal 14 (nF ac), aZ G xf 2 (bF fi), aO G xs 2 (fun j => if j = 0 then some s0 else some s1), ob s1 1 [.ref a1, .ref c1], ob a1 6 [.int (nI (q 0)), .int (nI (q 2)), .ref b1], aI G b1 10 (nF (gz q)), ob c1 6 [.int (nI (q 1)), .int (nI (q 3)), .ref d1], aI G d1 10 (nF (go q))]) 0 0 := by
  refine MM.ofI (by decide) rfl (fun Γ X Y hnm ret => ?_)
  show Wc Γ 0 0 0 [(0, .ref x), (1, .int (nI 1))] [] [ob x 10 [.ref xt, .ref xn, .ref xr, .ref xa, .ref xs, .ref xf, .ref xw, .ref xi, .int (nI sn), .long sd, .ref xe, .ref xp, .ref xg, .ref xl, .ref xk, .ref xh, .ref xv], ob xn 1 [.ref na, .ref nb], ob na 6 [.int (nI (p 0)), .int (nI (p 2)), .ref nla], aI G nla 10 (nF (gz p)), ob nb 6 [.int (nI (p 1)), .int (nI (p 3)), .ref nlb], aI G nlb 10 (nF (go p)), ob xa 0 [.int (nI dn), .ref xal], aI G xal 14 (nF ac), aZ G xf 2 (bF fi), aO G xs 2 (fun j => if j = 0 then some s0 else some s1), ob s1 1 [.ref a1, .ref c1], ob a1 6 [.int (nI (q 0)), .int (nI (q 2)), .ref b1], aI G b1 10 (nF (gz q)), ob c1 6 [.int (nI (q 1)), .int (nI (q 3)), .ref d1], aI G d1 10 (nF (go q))]
  have hn0 := hr.2.1
  have hn01 := hr.1
  have hn1 := hr.2.2.2.1
  have hn11 := hr.2.2.1
  have he0 := pg_e0 hr
  have he1 := hr.2.2.2.2.1 3
  have hg0 := hr.2.2.2.2.2.1
  have hg1 := (fun j => hr.2.2.2.2.1 (12 + j) : ∀ j, go q j < 32)
  have hg0n := (hr.2.2.2.2.2.2.1 0 (by decide) : ∀ j, gz q j < 2 ^ q 0)
  have hg1n := (hr.2.2.2.2.2.2.1 1 (by decide) : ∀ j, go q j < 2 ^ q 1)
  have he0n := hr.2.2.2.2.2.2.2 0 (by decide)
  have he1n := hr.2.2.2.2.2.2.2 1 (by decide)
  have hg0w := (fun j => Nat.lt_trans (hg0 j) (by decide) : ∀ j, gz q j < 32)
  refine wc_iload_n X 0 1 dX10_again_0 rfl ?_
  refine wc_callS X 1 [] (c_X10_isSlot l G (nI 1) ) ys_X10_isSlot rfl q_747 ⟨rfl, rfl⟩ ⟨rfl, rfl⟩ ⟨rfl, rfl⟩ rfl rfl rfl dX10_again_1 ?_
  refine wc_topi (b2i true) (by decide) ?_
  refine wc_if_neB X 4 9 dX10_again_4 (by decide) (fun c4_1 => ?_) (fun c4_1 => ?_)
  ·
    refine wc_aload_n X 9 0 dX10_again_9 rfl ?_
    refine wc_get X 10 0 5 kd10 rfl (by decide) q_238 rfl dX10_again_10 ?_
    refine wc_iload_n X 13 1 dX10_again_13 rfl ?_
    refine wc_zaldG X 14 8 rfl (by decide) (by decide) dX10_again_14 ?_
    refine wc_if_neB X 15 21 dX10_again_15 (by decide) (fun c15_2 => ?_) (fun c15_2 => ?_)
    ·
      refine wc_aload_n X 21 0 dX10_again_21 rfl ?_
      refine wc_get X 22 0 1 kd10 rfl (by decide) q_234 rfl dX10_again_22 ?_
      refine wc_aload_n X 25 0 dX10_again_25 rfl ?_
      refine wc_get X 26 0 4 kd10 rfl (by decide) q_237 rfl dX10_again_26 ?_
      refine wc_iload_n X 29 1 dX10_again_29 rfl ?_
      refine wc_aaldN X 30 9 rfl (by decide) (by decide) dX10_again_30 ?_
      refine wc_st (st' := [.ref s1, .ref xn]) rfl ?_
      refine wc_mutV X Y 31 [1, 2, 3, 4, 5, 10, 11, 12, 13, 14] [0, 6, 7, 8, 9] 1 (c_X1_copyFrom l G xn na nla (p 0) (p 2) (gz p) nb nlb (p 1) (p 3) (go p) s1 a1 b1 (q 0) (q 2) (gz q) c1 d1 (q 1) (q 3) (go q) ) yv_X1_copyFrom kd1 rfl rfl (wr := [ob x 10 [.ref xt, .ref xn, .ref xr, .ref xa, .ref xs, .ref xf, .ref xw, .ref xi, .int (nI sn), .long sd, .ref xe, .ref xp, .ref xg, .ref xl, .ref xk, .ref xh, .ref xv], ob xa 0 [.int (nI dn), .ref xal], aI G xal 14 (nF ac), aZ G xf 2 (bF fi), aO G xs 2 (fun j => if j = 0 then some s0 else some s1)]) rfl ⟨rfl, rfl, rfl⟩ q_374 ⟨rfl, rfl⟩ ⟨rfl, rfl⟩ ⟨rfl, rfl⟩ rfl rfl rfl dX10_again_31 (fun v w hp_3 => ?_)
      obtain ⟨rfl, rfl⟩ := hp_3
      refine wc_perm Y [0, 5, 6, 7, 8, 9, 1, 2, 3, 4, 10, 11, 12, 13, 14] [ob x 10 [.ref xt, .ref xn, .ref xr, .ref xa, .ref xs, .ref xf, .ref xw, .ref xi, .int (nI sn), .long sd, .ref xe, .ref xp, .ref xg, .ref xl, .ref xk, .ref xh, .ref xv], ob xn 1 [.ref na, .ref nb], ob na 6 [.int (nI (q 0)), .int (nI (q 2)), .ref nla], aI G nla 10 (nF (gz q)), ob nb 6 [.int (nI (q 1)), .int (nI (q 3)), .ref nlb], aI G nlb 10 (nF (go q)), ob xa 0 [.int (nI dn), .ref xal], aI G xal 14 (nF ac), aZ G xf 2 (bF fi), aO G xs 2 (fun j => if j = 0 then some s0 else some s1), ob s1 1 [.ref a1, .ref c1], ob a1 6 [.int (nI (q 0)), .int (nI (q 2)), .ref b1], aI G b1 10 (nF (gz q)), ob c1 6 [.int (nI (q 1)), .int (nI (q 3)), .ref d1], aI G d1 10 (nF (go q))] rfl rfl ?_
      show Wc Γ 0 0 34 [(0, .ref x), (1, .int (nI 1))] [] [ob x 10 [.ref xt, .ref xn, .ref xr, .ref xa, .ref xs, .ref xf, .ref xw, .ref xi, .int (nI sn), .long sd, .ref xe, .ref xp, .ref xg, .ref xl, .ref xk, .ref xh, .ref xv], ob xn 1 [.ref na, .ref nb], ob na 6 [.int (nI (q 0)), .int (nI (q 2)), .ref nla], aI G nla 10 (nF (gz q)), ob nb 6 [.int (nI (q 1)), .int (nI (q 3)), .ref nlb], aI G nlb 10 (nF (go q)), ob xa 0 [.int (nI dn), .ref xal], aI G xal 14 (nF ac), aZ G xf 2 (bF fi), aO G xs 2 (fun j => if j = 0 then some s0 else some s1), ob s1 1 [.ref a1, .ref c1], ob a1 6 [.int (nI (q 0)), .int (nI (q 2)), .ref b1], aI G b1 10 (nF (gz q)), ob c1 6 [.int (nI (q 1)), .int (nI (q 3)), .ref d1], aI G d1 10 (nF (go q))]
      refine wc_aload_n X 34 0 dX10_again_34 rfl ?_
      refine wc_get X 35 0 3 kd10 rfl (by decide) q_236 rfl dX10_again_35 ?_
      refine wc_iconstN X 38 0 dX10_again_38 ?_
      refine wc_put X Y 39 6 0 kd0 rfl (by decide) q_93 rfl rfl rfl (Nat.le_of_ble_eq_true rfl) (ws' := [ob x 10 [.ref xt, .ref xn, .ref xr, .ref xa, .ref xs, .ref xf, .ref xw, .ref xi, .int (nI sn), .long sd, .ref xe, .ref xp, .ref xg, .ref xl, .ref xk, .ref xh, .ref xv], ob xn 1 [.ref na, .ref nb], ob na 6 [.int (nI (q 0)), .int (nI (q 2)), .ref nla], aI G nla 10 (nF (gz q)), ob nb 6 [.int (nI (q 1)), .int (nI (q 3)), .ref nlb], aI G nlb 10 (nF (go q)), ob xa 0 [.int (nI 0), .ref xal], aI G xal 14 (nF ac), aZ G xf 2 (bF fi), aO G xs 2 (fun j => if j = 0 then some s0 else some s1), ob s1 1 [.ref a1, .ref c1], ob a1 6 [.int (nI (q 0)), .int (nI (q 2)), .ref b1], aI G b1 10 (nF (gz q)), ob c1 6 [.int (nI (q 1)), .int (nI (q 3)), .ref d1], aI G d1 10 (nF (go q))]) rfl dX10_again_39 ?_
      refine wc_aload_n X 42 0 dX10_again_42 rfl ?_
      refine wc_get X 43 0 1 kd10 rfl (by decide) q_234 rfl dX10_again_43 ?_
      refine wc_callV X 46 [1, 2, 3, 4, 5] 1 (c_X1_edges l G xn na nla (q 0) (q 2) (gz q) nb nlb (q 1) (q 3) (go q) (by first | assumption | omega) (by first | assumption | omega) (by first | assumption | omega) (by first | assumption | omega) (by first | assumption | omega) (by first | assumption | omega)) yv_X1_edges kd1 rfl rfl q_385 ⟨rfl, rfl⟩ ⟨rfl, rfl⟩ ⟨rfl, rfl⟩ rfl rfl rfl dX10_again_46 ?_
      exact ret 49 _ (nI (edgN (gz q) (q 0) + edgN (go q) (q 1))) _ dX10_again_49 (⟨rfl, rfl⟩)
    ·
      exact absurd c15_2 (by rw [hf]; decide)
  ·
    exact absurd c4_1 (by decide)

set_option maxHeartbeats 4000000 in
set_option maxRecDepth 100000 in
theorem c_X4_meetO (l : Launch) (G : GG) (o qm qr n : Nat) (mt row : Nat → Nat) (q S : Nat) (hq : q < 4) (hS : S < 32) (hb : Nat.testBit (mt q) S = true) : MM l G yX4_meet (Cond.code yX4_meet cX4_meet 3 none) { frames := 0, cells := 0, slots := 0, locals := 0 } [.ref o, .int (nI q), .int (nI S)] [ob o 4 [.ref qm, .ref qr, .int (nI n)], aI G qm 4 (nF mt), aI G qr 128 (nF row)] (fun (v : Option Value) (w : va_W) => v = none ∧ w = [ob o 4 [.ref qm, .ref qr, .int (nI n)], aI G qm 4 (nF mt), aI G qr 128 (nF row)]) 0 0 := by
  refine MM.ofV (by decide) rfl (fun Γ X Y hnm ret => ?_)
  show Wc Γ 0 0 0 [(0, .ref o), (1, .int (nI q)), (2, .int (nI S))] [] [ob o 4 [.ref qm, .ref qr, .int (nI n)], aI G qm 4 (nF mt), aI G qr 128 (nF row)]
  refine wc_iload_n X 0 1 dX4_meet_0 rfl ?_
  refine wc_ifltF X 1 (tgt := 22) dX4_meet_1 (by decide) (by omega) ?_
  refine wc_iload_n X 4 1 dX4_meet_4 rfl ?_
  refine wc_iconstN X 5 4 dX4_meet_5 ?_
  refine wc_icmp_geN X 6 22 dX4_meet_6 (by decide) (by omega) (by decide) (fun c6_2 => ?_) (fun c6_2 => ?_)
  ·
    exact absurd c6_2 (by omega)
  ·
    refine wc_aload_n X 9 0 dX4_meet_9 rfl ?_
    refine wc_get X 10 0 0 kd4 rfl (by decide) q_150 rfl dX4_meet_10 ?_
    refine wc_iload_n X 13 1 dX4_meet_13 rfl ?_
    refine wc_ialdG X 14 1 rfl (by omega) (by decide) dX4_meet_14 ?_
    refine wc_iload_n X 15 2 dX4_meet_15 rfl ?_
    refine wc_ishr X 16 dX4_meet_16 ?_
    refine wc_iconstN X 17 1 dX4_meet_17 ?_
    refine wc_iand X 18 dX4_meet_18 ?_
    refine wc_topi (b2i (Nat.testBit (mt q) S)) (sbit _ (by omega)) ?_
    refine wc_if_eqB X 19 23 dX4_meet_19 (by decide) (fun c19_3 => ?_) (fun c19_3 => ?_)
    ·
      exact absurd c19_3 (by rw [hb]; decide)
    ·
      exact ret 22 _ _ dX4_meet_22 (⟨rfl, rfl⟩)

set_option maxHeartbeats 4000000 in
set_option maxRecDepth 100000 in
theorem c_X4_meetN (l : Launch) (G : GG) (o qm qr n : Nat) (mt row : Nat → Nat) (q S : Nat) (hq : q < 4) (hS : S < 32) (hb : Nat.testBit (mt q) S = false) (hn : n < 128) : MM l G yX4_meet (Cond.code yX4_meet cX4_meet 3 none) { frames := 0, cells := 0, slots := 0, locals := 0 } [.ref o, .int (nI q), .int (nI S)] [ob o 4 [.ref qm, .ref qr, .int (nI n)], aI G qm 4 (nF mt), aI G qr 128 (nF row)] (fun (v : Option Value) (w : va_W) => v = none ∧ w = [ob o 4 [.ref qm, .ref qr, .int (nI (n + 1))], aI G qm 4 (nF (up mt q (mt q ||| 2 ^ S))), aI G qr 128 (nF (up row n (q * 32 + S)))]) 0 0 := by
  refine MM.ofV (by decide) rfl (fun Γ X Y hnm ret => ?_)
  show Wc Γ 0 0 0 [(0, .ref o), (1, .int (nI q)), (2, .int (nI S))] [] [ob o 4 [.ref qm, .ref qr, .int (nI n)], aI G qm 4 (nF mt), aI G qr 128 (nF row)]
  refine wc_iload_n X 0 1 dX4_meet_0 rfl ?_
  refine wc_ifltF X 1 (tgt := 22) dX4_meet_1 (by decide) (by omega) ?_
  refine wc_iload_n X 4 1 dX4_meet_4 rfl ?_
  refine wc_iconstN X 5 4 dX4_meet_5 ?_
  refine wc_icmp_geN X 6 22 dX4_meet_6 (by decide) (by omega) (by decide) (fun c6_2 => ?_) (fun c6_2 => ?_)
  ·
    exact absurd c6_2 (by omega)
  ·
    refine wc_aload_n X 9 0 dX4_meet_9 rfl ?_
    refine wc_get X 10 0 0 kd4 rfl (by decide) q_150 rfl dX4_meet_10 ?_
    refine wc_iload_n X 13 1 dX4_meet_13 rfl ?_
    refine wc_ialdG X 14 1 rfl (by omega) (by decide) dX4_meet_14 ?_
    refine wc_iload_n X 15 2 dX4_meet_15 rfl ?_
    refine wc_ishr X 16 dX4_meet_16 ?_
    refine wc_iconstN X 17 1 dX4_meet_17 ?_
    refine wc_iand X 18 dX4_meet_18 ?_
    refine wc_topi (b2i (Nat.testBit (mt q) S)) (sbit _ (by omega)) ?_
    refine wc_if_eqB X 19 23 dX4_meet_19 (by decide) (fun c19_3 => ?_) (fun c19_3 => ?_)
    ·
      refine wc_aload_n X 23 0 dX4_meet_23 rfl ?_
      refine wc_get X 24 0 0 kd4 rfl (by decide) q_150 rfl dX4_meet_24 ?_
      refine wc_iload_n X 27 1 dX4_meet_27 rfl ?_
      refine wc_dup2 X 28 dX4_meet_28 rfl rfl ?_
      refine wc_ialdG X 29 1 rfl (by omega) (by decide) dX4_meet_29 ?_
      refine wc_iconstN X 30 1 dX4_meet_30 ?_
      refine wc_iload_n X 31 2 dX4_meet_31 rfl ?_
      refine wc_shl1 X 32 dX4_meet_32 (by omega) ?_
      refine wc_iorN X 33 dX4_meet_33 ?_
      refine wc_iastG X Y 34 1 rfl (by omega) (by decide) (ws' := [ob o 4 [.ref qm, .ref qr, .int (nI n)], aI G qm 4 (nF (up mt q ((mt q) ||| (2 ^ S)))), aI G qr 128 (nF row)]) rfl dX4_meet_34 ?_
      refine wc_aload_n X 35 0 dX4_meet_35 rfl ?_
      refine wc_get X 36 0 2 kd4 rfl (by decide) q_152 rfl dX4_meet_36 ?_
      refine wc_sipush X 39 (nI 128) dX4_meet_39 (by decide) ?_
      refine wc_icmp_geN X 42 70 dX4_meet_42 (by decide) (by omega) (by decide) (fun c42_4 => ?_) (fun c42_4 => ?_)
      ·
        exact absurd c42_4 (by omega)
      ·
        refine wc_aload_n X 45 0 dX4_meet_45 rfl ?_
        refine wc_get X 46 0 1 kd4 rfl (by decide) q_151 rfl dX4_meet_46 ?_
        refine wc_aload_n X 49 0 dX4_meet_49 rfl ?_
        refine wc_get X 50 0 2 kd4 rfl (by decide) q_152 rfl dX4_meet_50 ?_
        refine wc_iload_n X 53 1 dX4_meet_53 rfl ?_
        refine wc_bipush X 54 (nI 32) dX4_meet_54 (by decide) ?_
        refine wc_imulN X 56 dX4_meet_56 ?_
        refine wc_iload_n X 57 2 dX4_meet_57 rfl ?_
        refine wc_iaddN X 58 dX4_meet_58 ?_
        refine wc_iastG X Y 59 2 rfl (by omega) (by decide) (ws' := [ob o 4 [.ref qm, .ref qr, .int (nI n)], aI G qm 4 (nF (up mt q ((mt q) ||| (2 ^ S)))), aI G qr 128 (nF (up row n ((q * 32) + S)))]) rfl dX4_meet_59 ?_
        refine wc_aload_n X 60 0 dX4_meet_60 rfl ?_
        refine wc_dup X 61 dX4_meet_61 rfl ?_
        refine wc_get X 62 0 2 kd4 rfl (by decide) q_152 rfl dX4_meet_62 ?_
        refine wc_iconstN X 65 1 dX4_meet_65 ?_
        refine wc_iaddN X 66 dX4_meet_66 ?_
        refine wc_put X Y 67 0 2 kd4 rfl (by decide) q_152 rfl rfl rfl (Nat.le_of_ble_eq_true rfl) (ws' := [ob o 4 [.ref qm, .ref qr, .int (nI (n + 1))], aI G qm 4 (nF (up mt q ((mt q) ||| (2 ^ S)))), aI G qr 128 (nF (up row n ((q * 32) + S)))]) rfl dX4_meet_67 ?_
        exact ret 70 _ _ dX4_meet_70 (⟨rfl, rfl⟩)
    ·
      exact absurd c19_3 (by rw [hb]; decide)

set_option maxHeartbeats 4000000 in
set_option maxRecDepth 100000 in
theorem c_X4_start (l : Launch) (G : GG) (o qm qr n : Nat) (mt row : Nat → Nat)  : MM l G yX4_start (Cond.code yX4_start cX4_start 1 none) { frames := 1, cells := 0, slots := 0, locals := 23 } [.ref o] [ob o 4 [.ref qm, .ref qr, .int (nI n)], aI G qm 4 (nF mt), aI G qr 128 (nF row)] (fun (v : Option Value) (w : va_W) => v = none ∧ w = [ob o 4 [.ref qm, .ref qr, .int (nI (0 + 1))], aI G qm 4 (nF (up (fun _ => 0) 0 ((fun _ => 0) 0 ||| 2 ^ 1))), aI G qr 128 (nF (up row 0 (0 * 32 + 1)))]) 0 0 := by
  refine MM.ofV (by decide) rfl (fun Γ X Y hnm ret => ?_)
  show Wc Γ 0 0 0 [(0, .ref o)] [] [ob o 4 [.ref qm, .ref qr, .int (nI n)], aI G qm 4 (nF mt), aI G qr 128 (nF row)]
  refine wc_aload_n X 0 0 dX4_start_0 rfl ?_
  refine wc_get X 1 0 0 kd4 rfl (by decide) q_150 rfl dX4_start_1 ?_
  refine wc_iconstN X 4 0 dX4_start_4 ?_
  refine wc_mutS X Y 5 [1] [0, 2] (c_J7_fill_53178 l G qm 4 (nF mt) (nI 0) (by decide)) ys_J7_fill_53178 rfl (wr := [ob o 4 [.ref qm, .ref qr, .int (nI n)], aI G qr 128 (nF row)]) rfl ⟨rfl, rfl, rfl⟩ q_511 ⟨rfl, rfl⟩ ⟨rfl, rfl⟩ ⟨rfl, rfl⟩ rfl rfl rfl dX4_start_5 (fun v w hp_1 => ?_)
  obtain ⟨rfl, rfl⟩ := hp_1
  refine wc_perm Y [0, 2, 1] [ob o 4 [.ref qm, .ref qr, .int (nI n)], aI G qm 4 (fillF (nF mt) (nI 0) 4), aI G qr 128 (nF row)] rfl rfl ?_
  show Wc Γ 0 0 8 [(0, .ref o)] [] [ob o 4 [.ref qm, .ref qr, .int (nI n)], aI G qm 4 (fillF (nF mt) (nI 0) 4), aI G qr 128 (nF row)]
  refine wc_ext X Y 1 (f' := nF (fun _ => 0)) rfl (fun j hj => by unfold fillF; rw [if_pos hj]; rfl) (ws' := [ob o 4 [.ref qm, .ref qr, .int (nI n)], aI G qm 4 (nF (fun _ => 0)), aI G qr 128 (nF row)]) rfl ?_
  refine wc_aload_n X 8 0 dX4_start_8 rfl ?_
  refine wc_iconstN X 9 0 dX4_start_9 ?_
  refine wc_put X Y 10 0 2 kd4 rfl (by decide) q_152 rfl rfl rfl (Nat.le_of_ble_eq_true rfl) (ws' := [ob o 4 [.ref qm, .ref qr, .int (nI 0)], aI G qm 4 (nF (fun _ => 0)), aI G qr 128 (nF row)]) rfl dX4_start_10 ?_
  refine wc_aload_n X 13 0 dX4_start_13 rfl ?_
  refine wc_iconstN X 14 0 dX4_start_14 ?_
  refine wc_iconstN X 15 1 dX4_start_15 ?_
  refine wc_mutV X Y 16 [0, 1, 2] [] 0 (c_X4_meetN l G o qm qr 0 (fun _ => 0) row 0 1 (by decide) (by decide) rfl (by decide)) yv_X4_meet kd4 rfl rfl (wr := []) rfl ⟨rfl, rfl, rfl⟩ q_512 ⟨rfl, rfl⟩ ⟨rfl, rfl⟩ ⟨rfl, rfl⟩ rfl rfl rfl dX4_start_16 (fun v w hp_2 => ?_)
  obtain ⟨rfl, rfl⟩ := hp_2
  refine wc_perm Y [0, 1, 2] [ob o 4 [.ref qm, .ref qr, .int (nI (0 + 1))], aI G qm 4 (nF (up (fun _ => 0) 0 ((fun _ => 0) 0 ||| 2 ^ 1))), aI G qr 128 (nF (up row 0 (0 * 32 + 1)))] rfl rfl ?_
  show Wc Γ 0 0 19 [(0, .ref o)] [] [ob o 4 [.ref qm, .ref qr, .int (nI (0 + 1))], aI G qm 4 (nF (up (fun _ => 0) 0 ((fun _ => 0) 0 ||| 2 ^ 1))), aI G qr 128 (nF (up row 0 (0 * 32 + 1)))]
  exact ret 19 _ _ dX4_start_19 (⟨rfl, rfl⟩)

set_option maxHeartbeats 4000000 in
set_option maxRecDepth 100000 in
theorem c_X4_isBad (l : Launch) (G : GG) (z qa qb la n0 e0 pr E : Nat) (hn0 : n0 ≤ 4) (he0 : e0 < 16) (hpr : pr < 128) : RM l G yX4_isBad (Cond.code yX4_isBad cX4_isBad 3 (some .boolean)) { frames := 2, cells := 0, slots := 0, locals := 42 } [.ref z, .int (nI pr), .int (nI E)] [ob z 1 [.ref qa, .ref qb], ob qa 6 [.int (nI n0), .int (nI e0), .ref la]] (.int (b2i (decide (pr / 32 < n0) && Nat.testBit e0 (pr / 32) && (pr % 32 &&& E == 0)))) := by
  refine RM.ofZ (by decide) rfl (fun Γ X ret => ?_)
  show Wc Γ 0 0 0 [(0, .ref z), (1, .int (nI pr)), (2, .int (nI E))] [] [ob z 1 [.ref qa, .ref qb], ob qa 6 [.int (nI n0), .int (nI e0), .ref la]]
  refine wc_aload_n X 0 0 dX4_isBad_0 rfl ?_
  refine wc_get X 1 0 0 kd1 rfl (by decide) q_72 rfl dX4_isBad_1 ?_
  refine wc_iload_n X 4 1 dX4_isBad_4 rfl ?_
  refine wc_bipush X 5 (nI 32) dX4_isBad_5 (by decide) ?_
  refine wc_idivN X 7 dX4_isBad_7 (by omega) (by decide) (by decide) ?_
  refine wc_callV X 8 [1] 1 (c_X6_isEnd l G qa la n0 e0 (pr / 32) (by first | assumption | omega) (by first | assumption | omega) (by first | assumption | omega)) yv_X6_isEnd kd6 rfl rfl q_519 ⟨rfl, rfl⟩ ⟨rfl, rfl⟩ ⟨rfl, rfl⟩ rfl rfl rfl dX4_isBad_8 ?_
  refine wc_if_eqB X 11 27 dX4_isBad_11 (by decide) (fun c11_1 => ?_) (fun c11_1 => ?_)
  ·
    refine wc_iconstN X 27 0 dX4_isBad_27 ?_
    refine wc_st (st' := [.int (b2i false)]) rfl ?_
    exact ret 28 _ false dX4_isBad_28 (by rw [c11_1]; rfl)
  ·
    refine wc_iload_n X 14 1 dX4_isBad_14 rfl ?_
    refine wc_bipush X 15 (nI 32) dX4_isBad_15 (by decide) ?_
    refine wc_iremN X 17 dX4_isBad_17 (by omega) (by decide) (by decide) ?_
    refine wc_iload_n X 18 2 dX4_isBad_18 rfl ?_
    refine wc_iandN X 19 dX4_isBad_19 ?_
    refine wc_if_neN X 20 27 dX4_isBad_20 (by decide) (and_lt (by omega)) (fun c20_2 => ?_) (fun c20_2 => ?_)
    ·
      refine wc_iconstN X 27 0 dX4_isBad_27 ?_
      refine wc_st (st' := [.int (b2i false)]) rfl ?_
      exact ret 28 _ false dX4_isBad_28 (by rw [c11_1]; simp [c20_2])
    ·
      refine wc_iconstN X 23 1 dX4_isBad_23 ?_
      refine wc_goto X 24 28 dX4_isBad_24 (by decide) ?_
      refine wc_st (st' := [.int (b2i true)]) rfl ?_
      exact ret 28 _ true dX4_isBad_28 (by rw [c11_1]; simp [c20_2])

set_option maxHeartbeats 4000000 in
set_option maxRecDepth 100000 in
theorem c_X4_goOn (l : Launch) (G : GG) (o qm qr n : Nat) (mt row : Nat → Nat) (z qa la n0 e0 : Nat) (g0 : Nat → Nat) (qb lb n1 e1 : Nat) (g1 : Nat → Nat) (wd : Nat → Nat) (k pr : Nat) (hn0 : n0 ≤ 4) (he0 : e0 < 16) (hg0 : ∀ j, g0 j < 16) (hn1 : n1 ≤ 5) (he1 : e1 < 32) (hg1 : ∀ j, g1 j < 32) (hI : Ic g0 n0 g1 n1 mt row wd n) (hk : k < n) (hpr : pr = row k) (hg0n : ∀ j, g0 j < 2 ^ n0) (hn01 : 1 ≤ n0) : MM l G yX4_goOn (Cond.code yX4_goOn cX4_goOn 7 none) { frames := 2, cells := 0, slots := 0, locals := 47 } [.ref o, .ref z, .int (nI pr)] [ob o 4 [.ref qm, .ref qr, .int (nI n)], aI G qm 4 (nF mt), aI G qr 128 (nF row), ob z 1 [.ref qa, .ref qb], ob qa 6 [.int (nI n0), .int (nI e0), .ref la], aI G la 10 (nF g0), ob qb 6 [.int (nI n1), .int (nI e1), .ref lb], aI G lb 10 (nF g1)] (fun (v : Option Value) (w : va_W) => ∃ (mt2 row2 : Nat → Nat) (n2 : Nat), v = none ∧ w = [ob o 4 [.ref qm, .ref qr, .int (nI n2)], aI G qm 4 (nF mt2), aI G qr 128 (nF row2), ob z 1 [.ref qa, .ref qb], ob qa 6 [.int (nI n0), .int (nI e0), .ref la], aI G la 10 (nF g0), ob qb 6 [.int (nI n1), .int (nI e1), .ref lb], aI G lb 10 (nF g1)] ∧ (∃ wd2, Gw g0 n0 g1 n1 mt2 row2 wd2 n2 row n ∧ ∀ c q, 1 ≤ c → c ≤ 2 → q < 4 → Cl g0 g1 n1 row2 n2 pr c q)) 0 0 := by
  refine MM.ofV (by decide) rfl (fun Γ X Y hnm ret => ?_)
  show Wc Γ 0 0 0 [(0, .ref o), (1, .ref z), (2, .int (nI pr))] [] [ob o 4 [.ref qm, .ref qr, .int (nI n)], aI G qm 4 (nF mt), aI G qr 128 (nF row), ob z 1 [.ref qa, .ref qb], ob qa 6 [.int (nI n0), .int (nI e0), .ref la], aI G la 10 (nF g0), ob qb 6 [.int (nI n1), .int (nI e1), .ref lb], aI G lb 10 (nF g1)]
  have hprl : pr < 128 := by rw [hpr]; exact hI.2.1 k hk
  refine wc_iconstN X 0 1 dX4_goOn_0 ?_
  refine wc_istore_n X 1 (L' := [(0, .ref o), (1, .ref z), (2, .int (nI pr)), (3, .int (nI 1))]) dX4_goOn_1 (by decide) rfl ?_
  have LP_2 : ∀ (fuel_1 : Nat) (c : Nat) (n2 : Nat) (m2 : Nat → Nat) (r2 : Nat → Nat) (w2 : Nat → Nat), (Gw g0 n0 g1 n1 m2 r2 w2 n2 row n) → (1 ≤ c) → (c ≤ 3) → (∀ b q, 1 ≤ b → b < c → q < 4 → Cl g0 g1 n1 r2 n2 pr b q) → 3 - c < fuel_1 → Wc Γ 0 0 2 [(0, .ref o), (1, .ref z), (2, .int (nI pr)), (3, .int (nI c))] [] [ob o 4 [.ref qm, .ref qr, .int (nI n2)], aI G qm 4 (nF m2), aI G qr 128 (nF r2), ob z 1 [.ref qa, .ref qb], ob qa 6 [.int (nI n0), .int (nI e0), .ref la], aI G la 10 (nF g0), ob qb 6 [.int (nI n1), .int (nI e1), .ref lb], aI G lb 10 (nF g1)] := by
    intro fuel_1
    induction fuel_1 with
    | zero => intro c n2 m2 r2 w2 hG hc1 hc3 hcl hm; exact absurd hm (Nat.not_lt_zero _)
    | succ fuel_1 ih_3 =>
      intro c n2 m2 r2 w2 hG hc1 hc3 hcl hm_4
      refine wc_iload_n X 2 3 dX4_goOn_2 rfl ?_
      refine wc_iconstN X 3 2 dX4_goOn_3 ?_
      refine wc_icmp_gtN X 4 79 dX4_goOn_4 (by decide) (by omega) (by decide) (fun c4_5 => ?_) (fun c4_5 => ?_)
      ·
        exact ret 79 _ _ dX4_goOn_79 (⟨m2, r2, n2, rfl, rfl, w2, hG, fun b q h1 h2 h3 => hcl b q h1 (by omega) h3⟩)
      ·
        refine wc_aload_n X 7 1 dX4_goOn_7 rfl ?_
        refine wc_get X 8 3 0 kd1 rfl (by decide) q_72 rfl dX4_goOn_8 ?_
        refine wc_iload_n X 11 2 dX4_goOn_11 rfl ?_
        refine wc_bipush X 12 (nI 32) dX4_goOn_12 (by decide) ?_
        refine wc_idivN X 14 dX4_goOn_14 (by omega) (by decide) (by decide) ?_
        refine wc_iload_n X 15 3 dX4_goOn_15 rfl ?_
        refine wc_callV X 16 [4, 5] 4 (c_X6_targets l G qa la n0 e0 g0 (pr / 32) c (by omega) (by first | assumption | omega) (by omega)) yv_X6_targets kd6 rfl rfl q_524 ⟨rfl, rfl⟩ ⟨rfl, rfl⟩ ⟨rfl, rfl⟩ rfl rfl rfl dX4_goOn_16 ?_
        refine wc_istore X 19 (L' := [(0, .ref o), (1, .ref z), (2, .int (nI pr)), (3, .int (nI c)), (4, .int (nI (g0 ((pr / 32) * 2 + c - 1))))]) dX4_goOn_19 (by decide) rfl ?_
        refine wc_iload X 21 4 dX4_goOn_21 rfl ?_
        refine wc_if_eqN X 23 73 dX4_goOn_23 (by decide) (Nat.lt_trans (hg0 _) (by decide)) (fun c23_6 => ?_) (fun c23_6 => ?_)
        ·
          refine wc_iincN X 73 3 (L' := [(0, .ref o), (1, .ref z), (2, .int (nI pr)), (3, .int (nI (c + 1))), (4, .int (nI (g0 ((pr / 32) * 2 + c - 1))))]) dX4_goOn_73 rfl (by decide) rfl ?_
          refine wc_goto X 76 2 dX4_goOn_76 (by decide) ?_
          refine wc_loc [0, 1, 2, 3] (L' := [(0, .ref o), (1, .ref z), (2, .int (nI pr)), (3, .int (nI (c + 1)))]) rfl ?_
          refine wc_L (L' := [(0, .ref o), (1, .ref z), (2, .int (nI pr)), (3, .int (nI (c + 1)))]) (by rfl) ?_
          exact ih_3 (c + 1) n2 m2 r2 w2 hG (by omega) (by omega) (lt4_ext hcl (fun q hq => Cl_zero c23_6)) (by omega)
        ·
          refine wc_aload_n X 26 1 dX4_goOn_26 rfl ?_
          refine wc_get X 27 3 1 kd1 rfl (by decide) q_75 rfl dX4_goOn_27 ?_
          refine wc_iload_n X 30 2 dX4_goOn_30 rfl ?_
          refine wc_bipush X 31 (nI 32) dX4_goOn_31 (by decide) ?_
          refine wc_iremN X 33 dX4_goOn_33 (by omega) (by decide) (by decide) ?_
          refine wc_iload_n X 34 3 dX4_goOn_34 rfl ?_
          refine wc_callV X 35 [6, 7] 6 (c_X6_step l G qb lb n1 e1 g1 (pr % 32) c (by first | assumption | omega) (by omega) (by first | assumption | omega) (by omega)) yv_X6_step kd6 rfl rfl q_525 ⟨rfl, rfl⟩ ⟨rfl, rfl⟩ ⟨rfl, rfl⟩ rfl rfl rfl dX4_goOn_35 ?_
          refine wc_istore X 38 (L' := [(0, .ref o), (1, .ref z), (2, .int (nI pr)), (3, .int (nI c)), (4, .int (nI (g0 ((pr / 32) * 2 + c - 1)))), (5, .int (nI (stepN g1 (pr % 32) c n1)))]) dX4_goOn_38 (by decide) rfl ?_
          refine wc_iconstN X 40 0 dX4_goOn_40 ?_
          refine wc_istore X 41 (L' := [(0, .ref o), (1, .ref z), (2, .int (nI pr)), (3, .int (nI c)), (4, .int (nI (g0 ((pr / 32) * 2 + c - 1)))), (5, .int (nI (stepN g1 (pr % 32) c n1))), (6, .int (nI 0))]) dX4_goOn_41 (by decide) rfl ?_
          have LP_8 : ∀ (fuel_7 : Nat) (q : Nat) (n3 : Nat) (m3 : Nat → Nat) (r3 : Nat → Nat) (w3 : Nat → Nat), (Gw g0 n0 g1 n1 m3 r3 w3 n3 row n) → (∀ b q, 1 ≤ b → b < c → q < 4 → Cl g0 g1 n1 r3 n3 pr b q) → (q ≤ 4) → (∀ p, p < q → Cl g0 g1 n1 r3 n3 pr c p) → 4 - q < fuel_7 → Wc Γ 0 0 43 [(0, .ref o), (1, .ref z), (2, .int (nI pr)), (3, .int (nI c)), (4, .int (nI (g0 ((pr / 32) * 2 + c - 1)))), (5, .int (nI (stepN g1 (pr % 32) c n1))), (6, .int (nI q))] [] [ob o 4 [.ref qm, .ref qr, .int (nI n3)], aI G qm 4 (nF m3), aI G qr 128 (nF r3), ob z 1 [.ref qa, .ref qb], ob qa 6 [.int (nI n0), .int (nI e0), .ref la], aI G la 10 (nF g0), ob qb 6 [.int (nI n1), .int (nI e1), .ref lb], aI G lb 10 (nF g1)] := by
            intro fuel_7
            induction fuel_7 with
            | zero => intro q n3 m3 r3 w3 hG3 hcl3 hq4 hcq hm; exact absurd hm (Nat.not_lt_zero _)
            | succ fuel_7 ih_9 =>
              intro q n3 m3 r3 w3 hG3 hcl3 hq4 hcq hm_10
              refine wc_iload X 43 6 dX4_goOn_43 rfl ?_
              refine wc_iconstN X 45 4 dX4_goOn_45 ?_
              refine wc_icmp_geN X 46 73 dX4_goOn_46 (by decide) (by omega) (by decide) (fun c46_11 => ?_) (fun c46_11 => ?_)
              ·
                refine wc_iincN X 73 3 (L' := [(0, .ref o), (1, .ref z), (2, .int (nI pr)), (3, .int (nI (c + 1))), (4, .int (nI (g0 ((pr / 32) * 2 + c - 1)))), (5, .int (nI (stepN g1 (pr % 32) c n1))), (6, .int (nI q))]) dX4_goOn_73 rfl (by decide) rfl ?_
                refine wc_goto X 76 2 dX4_goOn_76 (by decide) ?_
                refine wc_loc [0, 1, 2, 3] (L' := [(0, .ref o), (1, .ref z), (2, .int (nI pr)), (3, .int (nI (c + 1)))]) rfl ?_
                refine wc_L (L' := [(0, .ref o), (1, .ref z), (2, .int (nI pr)), (3, .int (nI (c + 1)))]) (by rfl) ?_
                exact ih_3 (c + 1) n3 m3 r3 w3 hG3 (by omega) (by omega) (lt4_ext hcl3 (fun q hq => hcq q (by omega))) (by omega)
              ·
                refine wc_iload X 49 4 dX4_goOn_49 rfl ?_
                refine wc_iload X 51 6 dX4_goOn_51 rfl ?_
                refine wc_ishrN X 53 dX4_goOn_53 (by omega) (Nat.lt_trans (hg0 _) (by decide)) ?_
                refine wc_iconstN X 54 1 dX4_goOn_54 ?_
                refine wc_iandN X 55 dX4_goOn_55 ?_
                refine wc_topi (b2i (Nat.testBit (g0 ((pr / 32) * 2 + c - 1)) q)) (nI_bit _ _) ?_
                refine wc_if_eqB X 56 67 dX4_goOn_56 (by decide) (fun c56_12 => ?_) (fun c56_12 => ?_)
                ·
                  refine wc_iincN X 67 6 (L' := [(0, .ref o), (1, .ref z), (2, .int (nI pr)), (3, .int (nI c)), (4, .int (nI (g0 ((pr / 32) * 2 + c - 1)))), (5, .int (nI (stepN g1 (pr % 32) c n1))), (6, .int (nI (q + 1)))]) dX4_goOn_67 rfl (by decide) rfl ?_
                  refine wc_goto X 70 43 dX4_goOn_70 (by decide) ?_
                  refine wc_L (L' := [(0, .ref o), (1, .ref z), (2, .int (nI pr)), (3, .int (nI c)), (4, .int (nI (g0 ((pr / 32) * 2 + c - 1)))), (5, .int (nI (stepN g1 (pr % 32) c n1))), (6, .int (nI (q + 1)))]) (by rfl) ?_
                  exact ih_9 (q + 1) n3 m3 r3 w3 hG3 hcl3 (by omega) (lt_ext hcq (Cl_off c56_12)) (by omega)
                ·
                  refine wc_aload_n X 59 0 dX4_goOn_59 rfl ?_
                  refine wc_iload X 60 6 dX4_goOn_60 rfl ?_
                  refine wc_iload X 62 5 dX4_goOn_62 rfl ?_
                  rcases hb : Nat.testBit (m3 q) (stepN g1 (pr % 32) c n1) with _ | _
                  ·
                    have hlt := Ic_lt hG3.1 (show q < 4 by omega) (stepN_ltP (k := 5) hg1 _ _ _) hb
                    refine wc_mutV X Y 64 [0, 1, 2] [3, 4, 5, 6, 7] 0 (c_X4_meetN l G o qm qr n3 m3 r3 q (stepN g1 (pr % 32) c n1) (by omega) (stepN_ltP (k := 5) hg1 _ _ _) hb (by first | assumption | omega)) yv_X4_meet kd4 rfl rfl (wr := [ob z 1 [.ref qa, .ref qb], ob qa 6 [.int (nI n0), .int (nI e0), .ref la], aI G la 10 (nF g0), ob qb 6 [.int (nI n1), .int (nI e1), .ref lb], aI G lb 10 (nF g1)]) rfl ⟨rfl, rfl, rfl⟩ q_512 ⟨rfl, rfl⟩ ⟨rfl, rfl⟩ ⟨rfl, rfl⟩ rfl rfl rfl dX4_goOn_64 (fun v w hp_13 => ?_)
                    obtain ⟨rfl, rfl⟩ := hp_13
                    refine wc_perm Y [5, 6, 7, 0, 1, 2, 3, 4] [ob o 4 [.ref qm, .ref qr, .int (nI (n3 + 1))], aI G qm 4 (nF (up m3 q (m3 q ||| 2 ^ (stepN g1 (pr % 32) c n1)))), aI G qr 128 (nF (up r3 n3 (q * 32 + (stepN g1 (pr % 32) c n1)))), ob z 1 [.ref qa, .ref qb], ob qa 6 [.int (nI n0), .int (nI e0), .ref la], aI G la 10 (nF g0), ob qb 6 [.int (nI n1), .int (nI e1), .ref lb], aI G lb 10 (nF g1)] rfl rfl ?_
                    show Wc Γ 0 0 67 [(0, .ref o), (1, .ref z), (2, .int (nI pr)), (3, .int (nI c)), (4, .int (nI (g0 ((pr / 32) * 2 + c - 1)))), (5, .int (nI (stepN g1 (pr % 32) c n1))), (6, .int (nI q))] [] [ob o 4 [.ref qm, .ref qr, .int (nI (n3 + 1))], aI G qm 4 (nF (up m3 q (m3 q ||| 2 ^ (stepN g1 (pr % 32) c n1)))), aI G qr 128 (nF (up r3 n3 (q * 32 + (stepN g1 (pr % 32) c n1)))), ob z 1 [.ref qa, .ref qb], ob qa 6 [.int (nI n0), .int (nI e0), .ref la], aI G la 10 (nF g0), ob qb 6 [.int (nI n1), .int (nI e1), .ref lb], aI G lb 10 (nF g1)]
                    refine wc_iincN X 67 6 (L' := [(0, .ref o), (1, .ref z), (2, .int (nI pr)), (3, .int (nI c)), (4, .int (nI (g0 ((pr / 32) * 2 + c - 1)))), (5, .int (nI (stepN g1 (pr % 32) c n1))), (6, .int (nI (q + 1)))]) dX4_goOn_67 rfl (by decide) rfl ?_
                    refine wc_goto X 70 43 dX4_goOn_70 (by decide) ?_
                    refine wc_L (L' := [(0, .ref o), (1, .ref z), (2, .int (nI pr)), (3, .int (nI c)), (4, .int (nI (g0 ((pr / 32) * 2 + c - 1)))), (5, .int (nI (stepN g1 (pr % 32) c n1))), (6, .int (nI (q + 1)))]) (by rfl) ?_
                    exact ih_9 (q + 1) (n3 + 1) (up m3 q (m3 q ||| 2 ^ (stepN g1 (pr % 32) c n1))) (up r3 n3 (q * 32 + (stepN g1 (pr % 32) c n1))) (up w3 n3 (2 * w3 k + c)) (Gw_new hG3 hg0n hg1 hn01 hk hpr hc1 (by omega) (by omega) c56_12 hb) (fun b p h1 h2 h3 => Cl_up (hcl3 b p h1 h2 h3)) (by omega) (lt_ext (fun p hp => Cl_up (hcq p hp)) Cl_here) (by omega)
                  ·
                    refine wc_mutV X Y 64 [0, 1, 2] [3, 4, 5, 6, 7] 0 (c_X4_meetO l G o qm qr n3 m3 r3 q (stepN g1 (pr % 32) c n1) (by omega) (stepN_ltP (k := 5) hg1 _ _ _) hb) yv_X4_meet kd4 rfl rfl (wr := [ob z 1 [.ref qa, .ref qb], ob qa 6 [.int (nI n0), .int (nI e0), .ref la], aI G la 10 (nF g0), ob qb 6 [.int (nI n1), .int (nI e1), .ref lb], aI G lb 10 (nF g1)]) rfl ⟨rfl, rfl, rfl⟩ q_512 ⟨rfl, rfl⟩ ⟨rfl, rfl⟩ ⟨rfl, rfl⟩ rfl rfl rfl dX4_goOn_64 (fun v w hp_14 => ?_)
                    obtain ⟨rfl, rfl⟩ := hp_14
                    refine wc_perm Y [5, 6, 7, 0, 1, 2, 3, 4] [ob o 4 [.ref qm, .ref qr, .int (nI n3)], aI G qm 4 (nF m3), aI G qr 128 (nF r3), ob z 1 [.ref qa, .ref qb], ob qa 6 [.int (nI n0), .int (nI e0), .ref la], aI G la 10 (nF g0), ob qb 6 [.int (nI n1), .int (nI e1), .ref lb], aI G lb 10 (nF g1)] rfl rfl ?_
                    show Wc Γ 0 0 67 [(0, .ref o), (1, .ref z), (2, .int (nI pr)), (3, .int (nI c)), (4, .int (nI (g0 ((pr / 32) * 2 + c - 1)))), (5, .int (nI (stepN g1 (pr % 32) c n1))), (6, .int (nI q))] [] [ob o 4 [.ref qm, .ref qr, .int (nI n3)], aI G qm 4 (nF m3), aI G qr 128 (nF r3), ob z 1 [.ref qa, .ref qb], ob qa 6 [.int (nI n0), .int (nI e0), .ref la], aI G la 10 (nF g0), ob qb 6 [.int (nI n1), .int (nI e1), .ref lb], aI G lb 10 (nF g1)]
                    refine wc_iincN X 67 6 (L' := [(0, .ref o), (1, .ref z), (2, .int (nI pr)), (3, .int (nI c)), (4, .int (nI (g0 ((pr / 32) * 2 + c - 1)))), (5, .int (nI (stepN g1 (pr % 32) c n1))), (6, .int (nI (q + 1)))]) dX4_goOn_67 rfl (by decide) rfl ?_
                    refine wc_goto X 70 43 dX4_goOn_70 (by decide) ?_
                    refine wc_L (L' := [(0, .ref o), (1, .ref z), (2, .int (nI pr)), (3, .int (nI c)), (4, .int (nI (g0 ((pr / 32) * 2 + c - 1)))), (5, .int (nI (stepN g1 (pr % 32) c n1))), (6, .int (nI (q + 1)))]) (by rfl) ?_
                    exact ih_9 (q + 1) n3 m3 r3 w3 hG3 hcl3 (by omega) (lt_ext hcq (Cl_old hG3.1 hg1 (by omega) hb)) (by omega)
          exact LP_8 (4 - 0 + 1) 0 n2 m2 r2 w2 hG hcl (by decide) (fun p hp => absurd hp (Nat.not_lt_zero _)) (Nat.lt_succ_self _)
  exact LP_2 (3 - 1 + 1) 1 n mt row wd ⟨hI, Nat.le_refl _, fun _ _ => rfl⟩ (by decide) (by decide) (fun b q h1 h2 => absurd h2 (by omega)) (Nat.lt_succ_self _)

set_option maxHeartbeats 4000000 in
set_option maxRecDepth 100000 in
theorem c_X4_holds (l : Launch) (G : GG) (o qm qr n : Nat) (mt row : Nat → Nat) (z qa la n0 e0 : Nat) (g0 : Nat → Nat) (qb lb n1 e1 : Nat) (g1 : Nat → Nat) (hn0 : n0 ≤ 4) (he0 : e0 < 16) (hg0 : ∀ j, g0 j < 16) (hn1 : n1 ≤ 5) (he1 : e1 < 32) (hg1 : ∀ j, g1 j < 32) (hg0n : ∀ j, g0 j < 2 ^ n0) (hn01 : 1 ≤ n0) (he0n : e0 < 2 ^ n0) : MM l G yX4_holds (Cond.code yX4_holds cX4_holds 3 (some .boolean)) { frames := 3, cells := 0, slots := 0, locals := 73 } [.ref o, .ref z] [ob o 4 [.ref qm, .ref qr, .int (nI n)], aI G qm 4 (nF mt), aI G qr 128 (nF row), ob z 1 [.ref qa, .ref qb], ob qa 6 [.int (nI n0), .int (nI e0), .ref la], aI G la 10 (nF g0), ob qb 6 [.int (nI n1), .int (nI e1), .ref lb], aI G lb 10 (nF g1)] (fun (v : Option Value) (w : va_W) => ∃ (mt2 row2 : Nat → Nat) (n2 : Nat), v = some (.int (b2i (withB g0 n0 e0 g1 n1 e1))) ∧ w = [ob o 4 [.ref qm, .ref qr, .int (nI n2)], aI G qm 4 (nF mt2), aI G qr 128 (nF row2), ob z 1 [.ref qa, .ref qb], ob qa 6 [.int (nI n0), .int (nI e0), .ref la], aI G la 10 (nF g0), ob qb 6 [.int (nI n1), .int (nI e1), .ref lb], aI G lb 10 (nF g1)]) 0 0 := by
  refine MM.ofZ (by decide) rfl (fun Γ X Y hnm ret => ?_)
  show Wc Γ 0 0 0 [(0, .ref o), (1, .ref z)] [] [ob o 4 [.ref qm, .ref qr, .int (nI n)], aI G qm 4 (nF mt), aI G qr 128 (nF row), ob z 1 [.ref qa, .ref qb], ob qa 6 [.int (nI n0), .int (nI e0), .ref la], aI G la 10 (nF g0), ob qb 6 [.int (nI n1), .int (nI e1), .ref lb], aI G lb 10 (nF g1)]
  refine wc_aload_n X 0 0 dX4_holds_0 rfl ?_
  refine wc_mutV X Y 1 [0, 1, 2] [3, 4, 5, 6, 7] 0 (c_X4_start l G o qm qr n mt row ) yv_X4_start kd4 rfl rfl (wr := [ob z 1 [.ref qa, .ref qb], ob qa 6 [.int (nI n0), .int (nI e0), .ref la], aI G la 10 (nF g0), ob qb 6 [.int (nI n1), .int (nI e1), .ref lb], aI G lb 10 (nF g1)]) rfl ⟨rfl, rfl, rfl⟩ q_507 ⟨rfl, rfl⟩ ⟨rfl, rfl⟩ ⟨rfl, rfl⟩ rfl rfl rfl dX4_holds_1 (fun v w hp_1 => ?_)
  obtain ⟨rfl, rfl⟩ := hp_1
  refine wc_perm Y [5, 6, 7, 0, 1, 2, 3, 4] [ob o 4 [.ref qm, .ref qr, .int (nI (0 + 1))], aI G qm 4 (nF (up (fun _ => 0) 0 ((fun _ => 0) 0 ||| 2 ^ 1))), aI G qr 128 (nF (up row 0 (0 * 32 + 1))), ob z 1 [.ref qa, .ref qb], ob qa 6 [.int (nI n0), .int (nI e0), .ref la], aI G la 10 (nF g0), ob qb 6 [.int (nI n1), .int (nI e1), .ref lb], aI G lb 10 (nF g1)] rfl rfl ?_
  show Wc Γ 0 0 4 [(0, .ref o), (1, .ref z)] [] [ob o 4 [.ref qm, .ref qr, .int (nI (0 + 1))], aI G qm 4 (nF (up (fun _ => 0) 0 ((fun _ => 0) 0 ||| 2 ^ 1))), aI G qr 128 (nF (up row 0 (0 * 32 + 1))), ob z 1 [.ref qa, .ref qb], ob qa 6 [.int (nI n0), .int (nI e0), .ref la], aI G la 10 (nF g0), ob qb 6 [.int (nI n1), .int (nI e1), .ref lb], aI G lb 10 (nF g1)]
  refine wc_iconstN X 4 0 dX4_holds_4 ?_
  refine wc_istore_n X 5 (L' := [(0, .ref o), (1, .ref z), (2, .int (nI 0))]) dX4_holds_5 (by decide) rfl ?_
  have LP_3 : ∀ (fuel_2 : Nat) (k : Nat) (n2 : Nat) (m2 : Nat → Nat) (r2 : Nat → Nat) (w2 : Nat → Nat), (Ic g0 n0 g1 n1 m2 r2 w2 n2) → (k ≤ n2) → (∀ i c q, i < k → 1 ≤ c → c ≤ 2 → q < 4 → Cl g0 g1 n1 r2 n2 (r2 i) c q) → (∀ i, i < k → (decide (r2 i / 32 < n0) && Nat.testBit e0 (r2 i / 32) && (r2 i % 32 &&& e1 == 0)) = false) → 128 - k < fuel_2 → Wc Γ 0 0 6 [(0, .ref o), (1, .ref z), (2, .int (nI k))] [] [ob o 4 [.ref qm, .ref qr, .int (nI n2)], aI G qm 4 (nF m2), aI G qr 128 (nF r2), ob z 1 [.ref qa, .ref qb], ob qa 6 [.int (nI n0), .int (nI e0), .ref la], aI G la 10 (nF g0), ob qb 6 [.int (nI n1), .int (nI e1), .ref lb], aI G lb 10 (nF g1)] := by
    intro fuel_2
    induction fuel_2 with
    | zero => intro k n2 m2 r2 w2 hI hk hcl hnb hm; exact absurd hm (Nat.not_lt_zero _)
    | succ fuel_2 ih_4 =>
      intro k n2 m2 r2 w2 hI hk hcl hnb hm_5
      have hle := Ic_le hI
      refine wc_iload_n X 6 2 dX4_holds_6 rfl ?_
      refine wc_aload_n X 7 0 dX4_holds_7 rfl ?_
      refine wc_get X 8 0 2 kd4 rfl (by decide) q_152 rfl dX4_holds_8 ?_
      refine wc_icmp_geN X 11 60 dX4_holds_11 (by decide) (by omega) (by omega) (fun c11_6 => ?_) (fun c11_6 => ?_)
      ·
        refine wc_iconstN X 60 1 dX4_holds_60 ?_
        refine wc_st (st' := [.int (b2i true)]) rfl ?_
        exact ret 61 _ true _ dX4_holds_61 (⟨_, _, _, by rw [withB_of hI (fun i c q h1 h2 h3 h4 => hcl i c q (by omega) h2 h3 h4) hg0 hg1 he0n (fun i h => hnb i (by omega))], rfl⟩)
      ·
        have hk2 : k < n2 := c11_6
        have hrk := hI.2.1 k hk2
        refine wc_iload_n X 14 2 dX4_holds_14 rfl ?_
        refine wc_sipush X 15 (nI 128) dX4_holds_15 (by decide) ?_
        refine wc_icmp_geN X 18 60 dX4_holds_18 (by decide) (by omega) (by decide) (fun c18_7 => ?_) (fun c18_7 => ?_)
        ·
          exact absurd c18_7 (by omega)
        ·
          refine wc_aload_n X 21 1 dX4_holds_21 rfl ?_
          refine wc_aload_n X 22 0 dX4_holds_22 rfl ?_
          refine wc_get X 23 0 1 kd4 rfl (by decide) q_151 rfl dX4_holds_23 ?_
          refine wc_iload_n X 26 2 dX4_holds_26 rfl ?_
          refine wc_ialdG X 27 2 rfl (by omega) (by decide) dX4_holds_27 ?_
          refine wc_aload_n X 28 1 dX4_holds_28 rfl ?_
          refine wc_get X 29 3 1 kd1 rfl (by decide) q_75 rfl dX4_holds_29 ?_
          refine wc_get X 32 6 1 kd6 rfl (by decide) q_55 rfl dX4_holds_32 ?_
          refine wc_callS X 35 [3, 4] (c_X4_isBad l G z qa qb la n0 e0 (r2 k) e1 (by first | assumption | omega) (by first | assumption | omega) hrk) ys_X4_isBad rfl q_516 ⟨rfl, rfl⟩ ⟨rfl, rfl⟩ ⟨rfl, rfl⟩ rfl rfl rfl dX4_holds_35 ?_
          refine wc_if_eqB X 38 43 dX4_holds_38 (by decide) (fun c38_8 => ?_) (fun c38_8 => ?_)
          ·
            refine wc_aload_n X 43 0 dX4_holds_43 rfl ?_
            refine wc_aload_n X 44 1 dX4_holds_44 rfl ?_
            refine wc_aload_n X 45 0 dX4_holds_45 rfl ?_
            refine wc_get X 46 0 1 kd4 rfl (by decide) q_151 rfl dX4_holds_46 ?_
            refine wc_iload_n X 49 2 dX4_holds_49 rfl ?_
            refine wc_ialdG X 50 2 rfl (by omega) (by decide) dX4_holds_50 ?_
            refine wc_mutV X Y 51 [0, 1, 2, 3, 4, 5, 6, 7] [] 0 (c_X4_goOn l G o qm qr n2 m2 r2 z qa la n0 e0 g0 qb lb n1 e1 g1 w2 k (r2 k) (by first | assumption | omega) (by first | assumption | omega) (by first | assumption | omega) (by first | assumption | omega) (by first | assumption | omega) (by first | assumption | omega) hI hk2 rfl (by first | assumption | omega) (by first | assumption | omega)) yv_X4_goOn kd4 rfl rfl (wr := []) rfl ⟨rfl, rfl, rfl⟩ q_520 ⟨rfl, rfl⟩ ⟨rfl, rfl⟩ ⟨rfl, rfl⟩ rfl rfl rfl dX4_holds_51 (fun v w hp_9 => ?_)
            obtain ⟨mt2_10, row2_11, n2_12, rfl, rfl, hf_13⟩ := hp_9
            refine wc_perm Y [0, 1, 2, 3, 4, 5, 6, 7] [ob o 4 [.ref qm, .ref qr, .int (nI n2_12)], aI G qm 4 (nF mt2_10), aI G qr 128 (nF row2_11), ob z 1 [.ref qa, .ref qb], ob qa 6 [.int (nI n0), .int (nI e0), .ref la], aI G la 10 (nF g0), ob qb 6 [.int (nI n1), .int (nI e1), .ref lb], aI G lb 10 (nF g1)] rfl rfl ?_
            show Wc Γ 0 0 54 [(0, .ref o), (1, .ref z), (2, .int (nI k))] [] [ob o 4 [.ref qm, .ref qr, .int (nI n2_12)], aI G qm 4 (nF mt2_10), aI G qr 128 (nF row2_11), ob z 1 [.ref qa, .ref qb], ob qa 6 [.int (nI n0), .int (nI e0), .ref la], aI G la 10 (nF g0), ob qb 6 [.int (nI n1), .int (nI e1), .ref lb], aI G lb 10 (nF g1)]
            refine wc_iincN X 54 2 (L' := [(0, .ref o), (1, .ref z), (2, .int (nI (k + 1)))]) dX4_holds_54 rfl (by decide) rfl ?_
            refine wc_goto X 57 6 dX4_holds_57 (by decide) ?_
            obtain ⟨w9, hG2, hcl2⟩ := hf_13
            refine wc_L (L' := [(0, .ref o), (1, .ref z), (2, .int (nI (k + 1)))]) (by rfl) ?_
            exact ih_4 (k + 1) n2_12 mt2_10 row2_11 w9 hG2.1 (by have := hG2.2.1; omega) (inc_cl hk2 hcl hG2 hcl2) (inc_nb hk2 hG2 hnb c38_8) (by omega)
          ·
            refine wc_iconstN X 41 0 dX4_holds_41 ?_
            refine wc_st (st' := [.int (b2i false)]) rfl ?_
            exact ret 42 _ false _ dX4_holds_42 (⟨_, _, _, by rw [withB_bad hI hk2 c38_8], rfl⟩)
  exact LP_3 (128 - 0 + 1) 0 (0 + 1) (up (fun _ => 0) 0 ((fun _ => 0) 0 ||| 2 ^ 1)) (up row 0 (0 * 32 + 1)) (fun _ => 0) (Ic_first (fun _ _ => rfl)) (by decide) (fun i c q h => absurd h (Nat.not_lt_zero _)) (fun i h => absurd h (Nat.not_lt_zero _)) (Nat.lt_succ_self _)

set_option maxHeartbeats 4000000 in
set_option maxRecDepth 100000 in
theorem c_X4_meetAll (l : Launch) (G : GG) (o qm qr n : Nat) (mt row : Nat → Nat) (z qa la n0 e0 : Nat) (g0 : Nat → Nat) (qb lb n1 e1 : Nat) (g1 : Nat → Nat) (hn0 : n0 ≤ 4) (he0 : e0 < 16) (hg0 : ∀ j, g0 j < 16) (hn1 : n1 ≤ 5) (he1 : e1 < 32) (hg1 : ∀ j, g1 j < 32) (hg0n : ∀ j, g0 j < 2 ^ n0) (hn01 : 1 ≤ n0) (he0n : e0 < 2 ^ n0) : MM l G yX4_meetAll (Cond.code yX4_meetAll cX4_meetAll 3 none) { frames := 3, cells := 0, slots := 0, locals := 73 } [.ref o, .ref z] [ob o 4 [.ref qm, .ref qr, .int (nI n)], aI G qm 4 (nF mt), aI G qr 128 (nF row), ob z 1 [.ref qa, .ref qb], ob qa 6 [.int (nI n0), .int (nI e0), .ref la], aI G la 10 (nF g0), ob qb 6 [.int (nI n1), .int (nI e1), .ref lb], aI G lb 10 (nF g1)] (fun (v : Option Value) (w : va_W) => ∃ (mt2 row2 : Nat → Nat) (n2 : Nat), v = none ∧ w = [ob o 4 [.ref qm, .ref qr, .int (nI n2)], aI G qm 4 (nF mt2), aI G qr 128 (nF row2), ob z 1 [.ref qa, .ref qb], ob qa 6 [.int (nI n0), .int (nI e0), .ref la], aI G la 10 (nF g0), ob qb 6 [.int (nI n1), .int (nI e1), .ref lb], aI G lb 10 (nF g1)] ∧ (∃ wd2, Ic g0 n0 g1 n1 mt2 row2 wd2 n2 ∧ ∀ k c q, k < n2 → 1 ≤ c → c ≤ 2 → q < 4 → Cl g0 g1 n1 row2 n2 (row2 k) c q)) 0 0 := by
  refine MM.ofV (by decide) rfl (fun Γ X Y hnm ret => ?_)
  show Wc Γ 0 0 0 [(0, .ref o), (1, .ref z)] [] [ob o 4 [.ref qm, .ref qr, .int (nI n)], aI G qm 4 (nF mt), aI G qr 128 (nF row), ob z 1 [.ref qa, .ref qb], ob qa 6 [.int (nI n0), .int (nI e0), .ref la], aI G la 10 (nF g0), ob qb 6 [.int (nI n1), .int (nI e1), .ref lb], aI G lb 10 (nF g1)]
  refine wc_aload_n X 0 0 dX4_meetAll_0 rfl ?_
  refine wc_mutV X Y 1 [0, 1, 2] [3, 4, 5, 6, 7] 0 (c_X4_start l G o qm qr n mt row ) yv_X4_start kd4 rfl rfl (wr := [ob z 1 [.ref qa, .ref qb], ob qa 6 [.int (nI n0), .int (nI e0), .ref la], aI G la 10 (nF g0), ob qb 6 [.int (nI n1), .int (nI e1), .ref lb], aI G lb 10 (nF g1)]) rfl ⟨rfl, rfl, rfl⟩ q_507 ⟨rfl, rfl⟩ ⟨rfl, rfl⟩ ⟨rfl, rfl⟩ rfl rfl rfl dX4_meetAll_1 (fun v w hp_1 => ?_)
  obtain ⟨rfl, rfl⟩ := hp_1
  refine wc_perm Y [5, 6, 7, 0, 1, 2, 3, 4] [ob o 4 [.ref qm, .ref qr, .int (nI (0 + 1))], aI G qm 4 (nF (up (fun _ => 0) 0 ((fun _ => 0) 0 ||| 2 ^ 1))), aI G qr 128 (nF (up row 0 (0 * 32 + 1))), ob z 1 [.ref qa, .ref qb], ob qa 6 [.int (nI n0), .int (nI e0), .ref la], aI G la 10 (nF g0), ob qb 6 [.int (nI n1), .int (nI e1), .ref lb], aI G lb 10 (nF g1)] rfl rfl ?_
  show Wc Γ 0 0 4 [(0, .ref o), (1, .ref z)] [] [ob o 4 [.ref qm, .ref qr, .int (nI (0 + 1))], aI G qm 4 (nF (up (fun _ => 0) 0 ((fun _ => 0) 0 ||| 2 ^ 1))), aI G qr 128 (nF (up row 0 (0 * 32 + 1))), ob z 1 [.ref qa, .ref qb], ob qa 6 [.int (nI n0), .int (nI e0), .ref la], aI G la 10 (nF g0), ob qb 6 [.int (nI n1), .int (nI e1), .ref lb], aI G lb 10 (nF g1)]
  refine wc_iconstN X 4 0 dX4_meetAll_4 ?_
  refine wc_istore_n X 5 (L' := [(0, .ref o), (1, .ref z), (2, .int (nI 0))]) dX4_meetAll_5 (by decide) rfl ?_
  have LP_3 : ∀ (fuel_2 : Nat) (k : Nat) (n2 : Nat) (m2 : Nat → Nat) (r2 : Nat → Nat) (w2 : Nat → Nat), (Ic g0 n0 g1 n1 m2 r2 w2 n2) → (k ≤ n2) → (∀ i c q, i < k → 1 ≤ c → c ≤ 2 → q < 4 → Cl g0 g1 n1 r2 n2 (r2 i) c q) → 128 - k < fuel_2 → Wc Γ 0 0 6 [(0, .ref o), (1, .ref z), (2, .int (nI k))] [] [ob o 4 [.ref qm, .ref qr, .int (nI n2)], aI G qm 4 (nF m2), aI G qr 128 (nF r2), ob z 1 [.ref qa, .ref qb], ob qa 6 [.int (nI n0), .int (nI e0), .ref la], aI G la 10 (nF g0), ob qb 6 [.int (nI n1), .int (nI e1), .ref lb], aI G lb 10 (nF g1)] := by
    intro fuel_2
    induction fuel_2 with
    | zero => intro k n2 m2 r2 w2 hI hk hcl hm; exact absurd hm (Nat.not_lt_zero _)
    | succ fuel_2 ih_4 =>
      intro k n2 m2 r2 w2 hI hk hcl hm_5
      have hle := Ic_le hI
      refine wc_iload_n X 6 2 dX4_meetAll_6 rfl ?_
      refine wc_aload_n X 7 0 dX4_meetAll_7 rfl ?_
      refine wc_get X 8 0 2 kd4 rfl (by decide) q_152 rfl dX4_meetAll_8 ?_
      refine wc_icmp_geN X 11 38 dX4_meetAll_11 (by decide) (by omega) (by omega) (fun c11_6 => ?_) (fun c11_6 => ?_)
      ·
        exact ret 38 _ _ dX4_meetAll_38 (⟨m2, r2, n2, rfl, rfl, w2, hI, fun i c q h1 h2 h3 h4 => hcl i c q (by omega) h2 h3 h4⟩)
      ·
        have hk2 : k < n2 := c11_6
        have hrk := hI.2.1 k hk2
        refine wc_iload_n X 14 2 dX4_meetAll_14 rfl ?_
        refine wc_sipush X 15 (nI 128) dX4_meetAll_15 (by decide) ?_
        refine wc_icmp_geN X 18 38 dX4_meetAll_18 (by decide) (by omega) (by decide) (fun c18_7 => ?_) (fun c18_7 => ?_)
        ·
          exact absurd c18_7 (by omega)
        ·
          refine wc_aload_n X 21 0 dX4_meetAll_21 rfl ?_
          refine wc_aload_n X 22 1 dX4_meetAll_22 rfl ?_
          refine wc_aload_n X 23 0 dX4_meetAll_23 rfl ?_
          refine wc_get X 24 0 1 kd4 rfl (by decide) q_151 rfl dX4_meetAll_24 ?_
          refine wc_iload_n X 27 2 dX4_meetAll_27 rfl ?_
          refine wc_ialdG X 28 2 rfl (by omega) (by decide) dX4_meetAll_28 ?_
          refine wc_mutV X Y 29 [0, 1, 2, 3, 4, 5, 6, 7] [] 0 (c_X4_goOn l G o qm qr n2 m2 r2 z qa la n0 e0 g0 qb lb n1 e1 g1 w2 k (r2 k) (by first | assumption | omega) (by first | assumption | omega) (by first | assumption | omega) (by first | assumption | omega) (by first | assumption | omega) (by first | assumption | omega) hI hk2 rfl (by first | assumption | omega) (by first | assumption | omega)) yv_X4_goOn kd4 rfl rfl (wr := []) rfl ⟨rfl, rfl, rfl⟩ q_520 ⟨rfl, rfl⟩ ⟨rfl, rfl⟩ ⟨rfl, rfl⟩ rfl rfl rfl dX4_meetAll_29 (fun v w hp_8 => ?_)
          obtain ⟨mt2_9, row2_10, n2_11, rfl, rfl, hf_12⟩ := hp_8
          refine wc_perm Y [0, 1, 2, 3, 4, 5, 6, 7] [ob o 4 [.ref qm, .ref qr, .int (nI n2_11)], aI G qm 4 (nF mt2_9), aI G qr 128 (nF row2_10), ob z 1 [.ref qa, .ref qb], ob qa 6 [.int (nI n0), .int (nI e0), .ref la], aI G la 10 (nF g0), ob qb 6 [.int (nI n1), .int (nI e1), .ref lb], aI G lb 10 (nF g1)] rfl rfl ?_
          show Wc Γ 0 0 32 [(0, .ref o), (1, .ref z), (2, .int (nI k))] [] [ob o 4 [.ref qm, .ref qr, .int (nI n2_11)], aI G qm 4 (nF mt2_9), aI G qr 128 (nF row2_10), ob z 1 [.ref qa, .ref qb], ob qa 6 [.int (nI n0), .int (nI e0), .ref la], aI G la 10 (nF g0), ob qb 6 [.int (nI n1), .int (nI e1), .ref lb], aI G lb 10 (nF g1)]
          refine wc_iincN X 32 2 (L' := [(0, .ref o), (1, .ref z), (2, .int (nI (k + 1)))]) dX4_meetAll_32 rfl (by decide) rfl ?_
          refine wc_goto X 35 6 dX4_meetAll_35 (by decide) ?_
          obtain ⟨w9, hG2, hcl2⟩ := hf_12
          refine wc_L (L' := [(0, .ref o), (1, .ref z), (2, .int (nI (k + 1)))]) (by rfl) ?_
          exact ih_4 (k + 1) n2_11 mt2_9 row2_10 w9 hG2.1 (by have := hG2.2.1; omega) (inc_cl hk2 hcl hG2 hcl2) (by omega)
  exact LP_3 (128 - 0 + 1) 0 (0 + 1) (up (fun _ => 0) 0 ((fun _ => 0) 0 ||| 2 ^ 1)) (up row 0 (0 * 32 + 1)) (fun _ => 0) (Ic_first (fun _ _ => rfl)) (by decide) (fun i c q h => absurd h (Nat.not_lt_zero _)) (Nat.lt_succ_self _)

set_option maxHeartbeats 4000000 in
set_option maxRecDepth 100000 in
theorem c_X4_holdsBy (l : Launch) (G : GG) (o qm qr n : Nat) (mt row : Nat → Nat) (z qa la n0 e0 : Nat) (g0 : Nat → Nat) (qb lb n1 e1 : Nat) (g1 : Nat → Nat) (wd : Nat → Nat) (E : Nat) (hn0 : n0 ≤ 4) (he0 : e0 < 16) (hg0 : ∀ j, g0 j < 16) (hn1 : n1 ≤ 5) (he1 : e1 < 32) (hg1 : ∀ j, g1 j < 32) (hg0n : ∀ j, g0 j < 2 ^ n0) (hn01 : 1 ≤ n0) (he0n : e0 < 2 ^ n0) (hI : Ic g0 n0 g1 n1 mt row wd n) (hc : ∀ k c q, k < n → 1 ≤ c → c ≤ 2 → q < 4 → Cl g0 g1 n1 row n (row k) c q) : RM l G yX4_holdsBy (Cond.code yX4_holdsBy cX4_holdsBy 4 (some .boolean)) { frames := 3, cells := 0, slots := 0, locals := 64 } [.ref o, .ref z, .int (nI E)] [ob o 4 [.ref qm, .ref qr, .int (nI n)], aI G qm 4 (nF mt), aI G qr 128 (nF row), ob z 1 [.ref qa, .ref qb], ob qa 6 [.int (nI n0), .int (nI e0), .ref la], aI G la 10 (nF g0), ob qb 6 [.int (nI n1), .int (nI e1), .ref lb], aI G lb 10 (nF g1)] (.int (b2i (withB g0 n0 e0 g1 n1 E))) := by
  refine RM.ofZ (by decide) rfl (fun Γ X ret => ?_)
  show Wc Γ 0 0 0 [(0, .ref o), (1, .ref z), (2, .int (nI E))] [] [ob o 4 [.ref qm, .ref qr, .int (nI n)], aI G qm 4 (nF mt), aI G qr 128 (nF row), ob z 1 [.ref qa, .ref qb], ob qa 6 [.int (nI n0), .int (nI e0), .ref la], aI G la 10 (nF g0), ob qb 6 [.int (nI n1), .int (nI e1), .ref lb], aI G lb 10 (nF g1)]
  have hle := Ic_le hI
  refine wc_iconstN X 0 0 dX4_holdsBy_0 ?_
  refine wc_istore_n X 1 (L' := [(0, .ref o), (1, .ref z), (2, .int (nI E)), (3, .int (nI 0))]) dX4_holdsBy_1 (by decide) rfl ?_
  have LP_2 : ∀ (fuel_1 : Nat) (k : Nat), (k ≤ n) → (∀ i, i < k → (decide (row i / 32 < n0) && Nat.testBit e0 (row i / 32) && (row i % 32 &&& E == 0)) = false) → n - k < fuel_1 → Wc Γ 0 0 2 [(0, .ref o), (1, .ref z), (2, .int (nI E)), (3, .int (nI k))] [] [ob o 4 [.ref qm, .ref qr, .int (nI n)], aI G qm 4 (nF mt), aI G qr 128 (nF row), ob z 1 [.ref qa, .ref qb], ob qa 6 [.int (nI n0), .int (nI e0), .ref la], aI G la 10 (nF g0), ob qb 6 [.int (nI n1), .int (nI e1), .ref lb], aI G lb 10 (nF g1)] := by
    intro fuel_1
    induction fuel_1 with
    | zero => intro k hk hnb hm; exact absurd hm (Nat.not_lt_zero _)
    | succ fuel_1 ih_3 =>
      intro k hk hnb hm_4
      refine wc_iload_n X 2 3 dX4_holdsBy_2 rfl ?_
      refine wc_aload_n X 3 0 dX4_holdsBy_3 rfl ?_
      refine wc_get X 4 0 2 kd4 rfl (by decide) q_152 rfl dX4_holdsBy_4 ?_
      refine wc_icmp_geN X 7 39 dX4_holdsBy_7 (by decide) (by omega) (by omega) (fun c7_5 => ?_) (fun c7_5 => ?_)
      ·
        refine wc_iconstN X 39 1 dX4_holdsBy_39 ?_
        refine wc_st (st' := [.int (b2i true)]) rfl ?_
        exact ret 40 _ true dX4_holdsBy_40 ((withB_of hI hc hg0 hg1 he0n (fun i h => hnb i (by omega))).symm)
      ·
        refine wc_iload_n X 10 3 dX4_holdsBy_10 rfl ?_
        refine wc_sipush X 11 (nI 128) dX4_holdsBy_11 (by decide) ?_
        refine wc_icmp_geN X 14 39 dX4_holdsBy_14 (by decide) (by omega) (by decide) (fun c14_6 => ?_) (fun c14_6 => ?_)
        ·
          exact absurd c14_6 (by omega)
        ·
          refine wc_aload_n X 17 1 dX4_holdsBy_17 rfl ?_
          refine wc_aload_n X 18 0 dX4_holdsBy_18 rfl ?_
          refine wc_get X 19 0 1 kd4 rfl (by decide) q_151 rfl dX4_holdsBy_19 ?_
          refine wc_iload_n X 22 3 dX4_holdsBy_22 rfl ?_
          refine wc_ialdG X 23 2 rfl (by omega) (by decide) dX4_holdsBy_23 ?_
          refine wc_iload_n X 24 2 dX4_holdsBy_24 rfl ?_
          refine wc_callS X 25 [3, 4] (c_X4_isBad l G z qa qb la n0 e0 (row k) E (by first | assumption | omega) (by first | assumption | omega) (hI.2.1 k (by omega))) ys_X4_isBad rfl q_516 ⟨rfl, rfl⟩ ⟨rfl, rfl⟩ ⟨rfl, rfl⟩ rfl rfl rfl dX4_holdsBy_25 ?_
          refine wc_if_eqB X 28 33 dX4_holdsBy_28 (by decide) (fun c28_7 => ?_) (fun c28_7 => ?_)
          ·
            refine wc_iincN X 33 3 (L' := [(0, .ref o), (1, .ref z), (2, .int (nI E)), (3, .int (nI (k + 1)))]) dX4_holdsBy_33 rfl (by decide) rfl ?_
            refine wc_goto X 36 2 dX4_holdsBy_36 (by decide) ?_
            refine wc_L (L' := [(0, .ref o), (1, .ref z), (2, .int (nI E)), (3, .int (nI (k + 1)))]) (by rfl) ?_
            exact ih_3 (k + 1) (by omega) (lt_ext hnb c28_7) (by omega)
          ·
            refine wc_iconstN X 31 0 dX4_holdsBy_31 ?_
            refine wc_st (st' := [.int (b2i false)]) rfl ?_
            exact ret 32 _ false dX4_holdsBy_32 ((withB_bad hI (by omega) c28_7).symm)
  exact LP_2 (n - 0 + 1) 0 (Nat.zero_le _) (fun i h => absurd h (Nat.not_lt_zero _)) (Nat.lt_succ_self _)

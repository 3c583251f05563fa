set_option maxHeartbeats 4000000 in
set_option maxRecDepth 100000 in
theorem c_X11_followsSome (l : Launch) (G : GG) (o : Nat) (th : Int32) (qtx ts pl qrp qpg qtr qbk dn qkp qik sn qsw qsi : Nat) (sd : Int64) (qln qfm qby qwy wz qfo qon qmn qpr qle qst qwt rc tk ps gn : Nat) (bd : Int32) (qwo : Nat) (fo : Nat → Bool) (F : Nat → Nat → Bool) (x S : Nat) (hF : ∀ x y, x < 9 → y < 9 → fo (9 * x + y) = F x y) (hx : x < 9) (hS : S < 32) : RM l G yX11_followsSome (Cond.code yX11_followsSome cX11_followsSome 5 (some .boolean)) { frames := 1, cells := 0, slots := 0, locals := 21 } [.ref o, .int (nI x), .int (nI S)] [ob o 11 [.int th, .ref qtx, .int (nI ts), .int (nI pl), .ref qrp, .ref qpg, .ref qtr, .ref qbk, .int (nI dn), .ref qkp, .ref qik, .int (nI sn), .ref qsw, .ref qsi, .long sd, .ref qln, .ref qfm, .ref qby, .ref qwy, .int (nI wz), .ref qfo, .ref qon, .ref qmn, .ref qpr, .ref qle, .ref qst, .ref qwt, .int (nI rc), .int (nI tk), .int (nI ps), .int (nI gn), .int bd, .ref qwo], aZ G qfo 81 (bF fo)] (.int (b2i (folS F x S))) := by
  refine RM.ofZ (by decide) rfl (fun Γ X ret => ?_)
  show Wc Γ 0 0 0 [(0, .ref o), (1, .int (nI x)), (2, .int (nI S))] [] [ob o 11 [.int th, .ref qtx, .int (nI ts), .int (nI pl), .ref qrp, .ref qpg, .ref qtr, .ref qbk, .int (nI dn), .ref qkp, .ref qik, .int (nI sn), .ref qsw, .ref qsi, .long sd, .ref qln, .ref qfm, .ref qby, .ref qwy, .int (nI wz), .ref qfo, .ref qon, .ref qmn, .ref qpr, .ref qle, .ref qst, .ref qwt, .int (nI rc), .int (nI tk), .int (nI ps), .int (nI gn), .int bd, .ref qwo], aZ G qfo 81 (bF fo)]
  refine wc_iconstN X 0 0 dX11_followsSome_0 ?_
  refine wc_istore_n X 1 (L' := [(0, .ref o), (1, .int (nI x)), (2, .int (nI S)), (3, .int (nI 0))]) dX11_followsSome_1 (by decide) rfl ?_
  refine wc_iconstN X 2 0 dX11_followsSome_2 ?_
  refine wc_istore X 3 (L' := [(0, .ref o), (1, .int (nI x)), (2, .int (nI S)), (3, .int (nI 0)), (4, .int (nI 0))]) dX11_followsSome_3 (by decide) rfl ?_
  have LP_2 : ∀ (fuel_1 : Nat) (t : Nat) (b : Bool), (t ≤ 5) → (b = true ↔ ∃ j, j < t ∧ (Nat.testBit S j = true ∧ F x (4 + j) = true)) → 5 - t < fuel_1 → Wc Γ 0 0 5 [(0, .ref o), (1, .int (nI x)), (2, .int (nI S)), (3, .int (b2i b)), (4, .int (nI t))] [] [ob o 11 [.int th, .ref qtx, .int (nI ts), .int (nI pl), .ref qrp, .ref qpg, .ref qtr, .ref qbk, .int (nI dn), .ref qkp, .ref qik, .int (nI sn), .ref qsw, .ref qsi, .long sd, .ref qln, .ref qfm, .ref qby, .ref qwy, .int (nI wz), .ref qfo, .ref qon, .ref qmn, .ref qpr, .ref qle, .ref qst, .ref qwt, .int (nI rc), .int (nI tk), .int (nI ps), .int (nI gn), .int bd, .ref qwo], aZ G qfo 81 (bF fo)] := by
    intro fuel_1
    induction fuel_1 with
    | zero => intro t b ht hb hm; exact absurd hm (Nat.not_lt_zero _)
    | succ fuel_1 ih_3 =>
      intro t b ht hb hm_4
      refine wc_iload X 5 4 dX11_followsSome_5 rfl ?_
      refine wc_iconstN X 7 5 dX11_followsSome_7 ?_
      refine wc_icmp_geN X 8 53 dX11_followsSome_8 (by decide) (by omega) (by decide) (fun c8_5 => ?_) (fun c8_5 => ?_)
      ·
        refine wc_iload_n X 53 3 dX11_followsSome_53 rfl ?_
        exact ret 54 _ b dX11_followsSome_54 (by unfold folS; rw [show t = 5 by omega] at hb; exact iff_decB hb)
      ·
        refine wc_iload_n X 11 3 dX11_followsSome_11 rfl ?_
        refine wc_if_neB X 12 41 dX11_followsSome_12 (by decide) (fun c12_6 => ?_) (fun c12_6 => ?_)
        ·
          refine wc_iconstN X 41 1 dX11_followsSome_41 ?_
          refine wc_goto X 42 46 dX11_followsSome_42 (by decide) ?_
          refine wc_istore_n X 46 (L' := [(0, .ref o), (1, .int (nI x)), (2, .int (nI S)), (3, .int (nI 1)), (4, .int (nI t))]) dX11_followsSome_46 (by decide) rfl ?_
          refine wc_iincN X 47 4 (L' := [(0, .ref o), (1, .int (nI x)), (2, .int (nI S)), (3, .int (nI 1)), (4, .int (nI (t + 1)))]) dX11_followsSome_47 rfl (by decide) rfl ?_
          refine wc_goto X 50 5 dX11_followsSome_50 (by decide) ?_
          have e_7 : (.int (nI 1) : Value) = .int (b2i true) := rfl
          refine wc_L (L' := [(0, .ref o), (1, .int (nI x)), (2, .int (nI S)), (3, .int (b2i true)), (4, .int (nI (t + 1)))]) (by first | (rw [e_7]; done) | (rw [e_7]; rfl) | rfl) ?_
          exact ih_3 (t + 1) true (by omega) (ex_t1 hb c12_6) (by omega)
        ·
          refine wc_iload_n X 15 2 dX11_followsSome_15 rfl ?_
          refine wc_iload X 16 4 dX11_followsSome_16 rfl ?_
          refine wc_callS X 18 [] (c_X11_has l G S t (Nat.lt_trans hS (by decide)) (by omega)) ys_X11_has rfl q_916 ⟨rfl, rfl⟩ ⟨rfl, rfl⟩ ⟨rfl, rfl⟩ rfl rfl rfl dX11_followsSome_18 ?_
          refine wc_if_eqB X 21 45 dX11_followsSome_21 (by decide) (fun c21_8 => ?_) (fun c21_8 => ?_)
          ·
            refine wc_iconstN X 45 0 dX11_followsSome_45 ?_
            refine wc_istore_n X 46 (L' := [(0, .ref o), (1, .int (nI x)), (2, .int (nI S)), (3, .int (nI 0)), (4, .int (nI t))]) dX11_followsSome_46 (by decide) rfl ?_
            refine wc_iincN X 47 4 (L' := [(0, .ref o), (1, .int (nI x)), (2, .int (nI S)), (3, .int (nI 0)), (4, .int (nI (t + 1)))]) dX11_followsSome_47 rfl (by decide) rfl ?_
            refine wc_goto X 50 5 dX11_followsSome_50 (by decide) ?_
            have e_9 : (.int (nI 0) : Value) = .int (b2i false) := rfl
            refine wc_L (L' := [(0, .ref o), (1, .int (nI x)), (2, .int (nI S)), (3, .int (b2i false)), (4, .int (nI (t + 1)))]) (by first | (rw [e_9]; done) | (rw [e_9]; rfl) | rfl) ?_
            exact ih_3 (t + 1) false (by omega) (ex_f hb c12_6 (fun z => by rw [z.1] at c21_8; cases c21_8)) (by omega)
          ·
            refine wc_aload_n X 24 0 dX11_followsSome_24 rfl ?_
            refine wc_get X 25 0 20 kd11 rfl (by decide) q_785 rfl dX11_followsSome_25 ?_
            refine wc_bipush X 28 (nI 9) dX11_followsSome_28 (by decide) ?_
            refine wc_iload_n X 30 1 dX11_followsSome_30 rfl ?_
            refine wc_imulN X 31 dX11_followsSome_31 ?_
            refine wc_iconstN X 32 4 dX11_followsSome_32 ?_
            refine wc_iaddN X 33 dX11_followsSome_33 ?_
            refine wc_iload X 34 4 dX11_followsSome_34 rfl ?_
            refine wc_iaddN X 36 dX11_followsSome_36 ?_
            refine wc_zaldG X 37 1 rfl (by omega) (by decide) dX11_followsSome_37 ?_
            refine wc_topi (b2i (F x (4 + t))) (congrArg b2i (by rw [Nat.add_assoc]; exact hF _ _ hx (by omega))) ?_
            refine wc_if_eqB X 38 45 dX11_followsSome_38 (by decide) (fun c38_10 => ?_) (fun c38_10 => ?_)
            ·
              refine wc_iconstN X 45 0 dX11_followsSome_45 ?_
              refine wc_istore_n X 46 (L' := [(0, .ref o), (1, .int (nI x)), (2, .int (nI S)), (3, .int (nI 0)), (4, .int (nI t))]) dX11_followsSome_46 (by decide) rfl ?_
              refine wc_iincN X 47 4 (L' := [(0, .ref o), (1, .int (nI x)), (2, .int (nI S)), (3, .int (nI 0)), (4, .int (nI (t + 1)))]) dX11_followsSome_47 rfl (by decide) rfl ?_
              refine wc_goto X 50 5 dX11_followsSome_50 (by decide) ?_
              have e_11 : (.int (nI 0) : Value) = .int (b2i false) := rfl
              refine wc_L (L' := [(0, .ref o), (1, .int (nI x)), (2, .int (nI S)), (3, .int (b2i false)), (4, .int (nI (t + 1)))]) (by first | (rw [e_11]; done) | (rw [e_11]; rfl) | rfl) ?_
              exact ih_3 (t + 1) false (by omega) (ex_f hb c12_6 (fun z => by rw [z.2] at c38_10; cases c38_10)) (by omega)
            ·
              refine wc_iconstN X 41 1 dX11_followsSome_41 ?_
              refine wc_goto X 42 46 dX11_followsSome_42 (by decide) ?_
              refine wc_istore_n X 46 (L' := [(0, .ref o), (1, .int (nI x)), (2, .int (nI S)), (3, .int (nI 1)), (4, .int (nI t))]) dX11_followsSome_46 (by decide) rfl ?_
              refine wc_iincN X 47 4 (L' := [(0, .ref o), (1, .int (nI x)), (2, .int (nI S)), (3, .int (nI 1)), (4, .int (nI (t + 1)))]) dX11_followsSome_47 rfl (by decide) rfl ?_
              refine wc_goto X 50 5 dX11_followsSome_50 (by decide) ?_
              have e_12 : (.int (nI 1) : Value) = .int (b2i true) := rfl
              refine wc_L (L' := [(0, .ref o), (1, .int (nI x)), (2, .int (nI S)), (3, .int (b2i true)), (4, .int (nI (t + 1)))]) (by first | (rw [e_12]; done) | (rw [e_12]; rfl) | rfl) ?_
              exact ih_3 (t + 1) true (by omega) (ex_t2 ⟨c21_8, c38_10⟩) (by omega)
  have e_13 : (.int (nI 0) : Value) = .int (b2i false) := rfl
  refine wc_L (L' := [(0, .ref o), (1, .int (nI x)), (2, .int (nI S)), (3, .int (b2i false)), (4, .int (nI 0))]) (by first | (rw [e_13]; done) | (rw [e_13]; rfl) | rfl) ?_
  exact LP_2 (5 - 0 + 1) 0 false (by decide) ex_0 (Nat.lt_succ_self _)

set_option maxHeartbeats 4000000 in
set_option maxRecDepth 100000 in
theorem c_X11_allFollow (l : Launch) (G : GG) (o : Nat) (th : Int32) (qtx ts pl qrp qpg qtr qbk dn qkp qik sn qsw qsi : Nat) (sd : Int64) (qln qfm qby qwy wz qfo qon qmn qpr qle qst qwt rc tk ps gn : Nat) (bd : Int32) (qwo : Nat) (fo : Nat → Bool) (F : Nat → Nat → Bool) (T S : Nat) (hF : ∀ x y, x < 9 → y < 9 → fo (9 * x + y) = F x y) (hT : T < 32) (hS : S < 32) : RM l G yX11_allFollow (Cond.code yX11_allFollow cX11_allFollow 5 (some .boolean)) { frames := 2, cells := 0, slots := 0, locals := 45 } [.ref o, .int (nI T), .int (nI S)] [ob o 11 [.int th, .ref qtx, .int (nI ts), .int (nI pl), .ref qrp, .ref qpg, .ref qtr, .ref qbk, .int (nI dn), .ref qkp, .ref qik, .int (nI sn), .ref qsw, .ref qsi, .long sd, .ref qln, .ref qfm, .ref qby, .ref qwy, .int (nI wz), .ref qfo, .ref qon, .ref qmn, .ref qpr, .ref qle, .ref qst, .ref qwt, .int (nI rc), .int (nI tk), .int (nI ps), .int (nI gn), .int bd, .ref qwo], aZ G qfo 81 (bF fo)] (.int (b2i (folA F T S))) := by
  refine RM.ofZ (by decide) rfl (fun Γ X ret => ?_)
  show Wc Γ 0 0 0 [(0, .ref o), (1, .int (nI T)), (2, .int (nI S))] [] [ob o 11 [.int th, .ref qtx, .int (nI ts), .int (nI pl), .ref qrp, .ref qpg, .ref qtr, .ref qbk, .int (nI dn), .ref qkp, .ref qik, .int (nI sn), .ref qsw, .ref qsi, .long sd, .ref qln, .ref qfm, .ref qby, .ref qwy, .int (nI wz), .ref qfo, .ref qon, .ref qmn, .ref qpr, .ref qle, .ref qst, .ref qwt, .int (nI rc), .int (nI tk), .int (nI ps), .int (nI gn), .int bd, .ref qwo], aZ G qfo 81 (bF fo)]
  refine wc_iconstN X 0 1 dX11_allFollow_0 ?_
  refine wc_istore_n X 1 (L' := [(0, .ref o), (1, .int (nI T)), (2, .int (nI S)), (3, .int (nI 1))]) dX11_allFollow_1 (by decide) rfl ?_
  refine wc_iconstN X 2 0 dX11_allFollow_2 ?_
  refine wc_istore X 3 (L' := [(0, .ref o), (1, .int (nI T)), (2, .int (nI S)), (3, .int (nI 1)), (4, .int (nI 0))]) dX11_allFollow_3 (by decide) rfl ?_
  have LP_2 : ∀ (fuel_1 : Nat) (t : Nat) (b : Bool), (t ≤ 5) → (b = true ↔ ∀ j, j < t → (Nat.testBit T j = true → folS F (4 + j) S = true)) → 5 - t < fuel_1 → Wc Γ 0 0 5 [(0, .ref o), (1, .int (nI T)), (2, .int (nI S)), (3, .int (b2i b)), (4, .int (nI t))] [] [ob o 11 [.int th, .ref qtx, .int (nI ts), .int (nI pl), .ref qrp, .ref qpg, .ref qtr, .ref qbk, .int (nI dn), .ref qkp, .ref qik, .int (nI sn), .ref qsw, .ref qsi, .long sd, .ref qln, .ref qfm, .ref qby, .ref qwy, .int (nI wz), .ref qfo, .ref qon, .ref qmn, .ref qpr, .ref qle, .ref qst, .ref qwt, .int (nI rc), .int (nI tk), .int (nI ps), .int (nI gn), .int bd, .ref qwo], aZ G qfo 81 (bF fo)] := by
    intro fuel_1
    induction fuel_1 with
    | zero => intro t b ht hb hm; exact absurd hm (Nat.not_lt_zero _)
    | succ fuel_1 ih_3 =>
      intro t b ht hb hm_4
      refine wc_iload X 5 4 dX11_allFollow_5 rfl ?_
      refine wc_iconstN X 7 5 dX11_allFollow_7 ?_
      refine wc_icmp_geN X 8 48 dX11_allFollow_8 (by decide) (by omega) (by decide) (fun c8_5 => ?_) (fun c8_5 => ?_)
      ·
        refine wc_iload_n X 48 3 dX11_allFollow_48 rfl ?_
        exact ret 49 _ b dX11_allFollow_49 (by unfold folA; rw [show t = 5 by omega] at hb; exact iff_decB hb)
      ·
        refine wc_iload_n X 11 3 dX11_allFollow_11 rfl ?_
        refine wc_if_eqB X 12 40 dX11_allFollow_12 (by decide) (fun c12_6 => ?_) (fun c12_6 => ?_)
        ·
          refine wc_iconstN X 40 0 dX11_allFollow_40 ?_
          refine wc_istore_n X 41 (L' := [(0, .ref o), (1, .int (nI T)), (2, .int (nI S)), (3, .int (nI 0)), (4, .int (nI t))]) dX11_allFollow_41 (by decide) rfl ?_
          refine wc_iincN X 42 4 (L' := [(0, .ref o), (1, .int (nI T)), (2, .int (nI S)), (3, .int (nI 0)), (4, .int (nI (t + 1)))]) dX11_allFollow_42 rfl (by decide) rfl ?_
          refine wc_goto X 45 5 dX11_allFollow_45 (by decide) ?_
          have e_7 : (.int (nI 0) : Value) = .int (b2i false) := rfl
          refine wc_L (L' := [(0, .ref o), (1, .int (nI T)), (2, .int (nI S)), (3, .int (b2i false)), (4, .int (nI (t + 1)))]) (by first | (rw [e_7]; done) | (rw [e_7]; rfl) | rfl) ?_
          exact ih_3 (t + 1) false (by omega) (al_f1 hb c12_6) (by omega)
        ·
          refine wc_iload_n X 15 1 dX11_allFollow_15 rfl ?_
          refine wc_iload X 16 4 dX11_allFollow_16 rfl ?_
          refine wc_callS X 18 [] (c_X11_has l G T t (Nat.lt_trans hT (by decide)) (by omega)) ys_X11_has rfl q_916 ⟨rfl, rfl⟩ ⟨rfl, rfl⟩ ⟨rfl, rfl⟩ rfl rfl rfl dX11_allFollow_18 ?_
          refine wc_if_eqB X 21 36 dX11_allFollow_21 (by decide) (fun c21_8 => ?_) (fun c21_8 => ?_)
          ·
            refine wc_iconstN X 36 1 dX11_allFollow_36 ?_
            refine wc_goto X 37 41 dX11_allFollow_37 (by decide) ?_
            refine wc_istore_n X 41 (L' := [(0, .ref o), (1, .int (nI T)), (2, .int (nI S)), (3, .int (nI 1)), (4, .int (nI t))]) dX11_allFollow_41 (by decide) rfl ?_
            refine wc_iincN X 42 4 (L' := [(0, .ref o), (1, .int (nI T)), (2, .int (nI S)), (3, .int (nI 1)), (4, .int (nI (t + 1)))]) dX11_allFollow_42 rfl (by decide) rfl ?_
            refine wc_goto X 45 5 dX11_allFollow_45 (by decide) ?_
            have e_9 : (.int (nI 1) : Value) = .int (b2i true) := rfl
            refine wc_L (L' := [(0, .ref o), (1, .int (nI T)), (2, .int (nI S)), (3, .int (b2i true)), (4, .int (nI (t + 1)))]) (by first | (rw [e_9]; done) | (rw [e_9]; rfl) | rfl) ?_
            exact ih_3 (t + 1) true (by omega) (al_t hb c12_6 (fun z => by rw [z] at c21_8; cases c21_8)) (by omega)
          ·
            refine wc_aload_n X 24 0 dX11_allFollow_24 rfl ?_
            refine wc_iconstN X 25 4 dX11_allFollow_25 ?_
            refine wc_iload X 26 4 dX11_allFollow_26 rfl ?_
            refine wc_iaddN X 28 dX11_allFollow_28 ?_
            refine wc_iload_n X 29 2 dX11_allFollow_29 rfl ?_
            refine wc_callV X 30 [0, 1] 0 (c_X11_followsSome l G o th qtx ts pl qrp qpg qtr qbk dn qkp qik sn qsw qsi sd qln qfm qby qwy wz qfo qon qmn qpr qle qst qwt rc tk ps gn bd qwo fo F (4 + t) S (by first | assumption | omega) (by omega) (by first | assumption | omega)) yv_X11_followsSome kd11 rfl rfl q_1074 ⟨rfl, rfl⟩ ⟨rfl, rfl⟩ ⟨rfl, rfl⟩ rfl rfl rfl dX11_allFollow_30 ?_
            refine wc_if_eqB X 33 40 dX11_allFollow_33 (by decide) (fun c33_10 => ?_) (fun c33_10 => ?_)
            ·
              refine wc_iconstN X 40 0 dX11_allFollow_40 ?_
              refine wc_istore_n X 41 (L' := [(0, .ref o), (1, .int (nI T)), (2, .int (nI S)), (3, .int (nI 0)), (4, .int (nI t))]) dX11_allFollow_41 (by decide) rfl ?_
              refine wc_iincN X 42 4 (L' := [(0, .ref o), (1, .int (nI T)), (2, .int (nI S)), (3, .int (nI 0)), (4, .int (nI (t + 1)))]) dX11_allFollow_42 rfl (by decide) rfl ?_
              refine wc_goto X 45 5 dX11_allFollow_45 (by decide) ?_
              have e_11 : (.int (nI 0) : Value) = .int (b2i false) := rfl
              refine wc_L (L' := [(0, .ref o), (1, .int (nI T)), (2, .int (nI S)), (3, .int (b2i false)), (4, .int (nI (t + 1)))]) (by first | (rw [e_11]; done) | (rw [e_11]; rfl) | rfl) ?_
              exact ih_3 (t + 1) false (by omega) (al_f2 (fun z => by rw [z c21_8] at c33_10; cases c33_10)) (by omega)
            ·
              refine wc_iconstN X 36 1 dX11_allFollow_36 ?_
              refine wc_goto X 37 41 dX11_allFollow_37 (by decide) ?_
              refine wc_istore_n X 41 (L' := [(0, .ref o), (1, .int (nI T)), (2, .int (nI S)), (3, .int (nI 1)), (4, .int (nI t))]) dX11_allFollow_41 (by decide) rfl ?_
              refine wc_iincN X 42 4 (L' := [(0, .ref o), (1, .int (nI T)), (2, .int (nI S)), (3, .int (nI 1)), (4, .int (nI (t + 1)))]) dX11_allFollow_42 rfl (by decide) rfl ?_
              refine wc_goto X 45 5 dX11_allFollow_45 (by decide) ?_
              have e_12 : (.int (nI 1) : Value) = .int (b2i true) := rfl
              refine wc_L (L' := [(0, .ref o), (1, .int (nI T)), (2, .int (nI S)), (3, .int (b2i true)), (4, .int (nI (t + 1)))]) (by first | (rw [e_12]; done) | (rw [e_12]; rfl) | rfl) ?_
              exact ih_3 (t + 1) true (by omega) (al_t hb c12_6 (fun z => c33_10)) (by omega)
  have e_13 : (.int (nI 1) : Value) = .int (b2i true) := rfl
  refine wc_L (L' := [(0, .ref o), (1, .int (nI T)), (2, .int (nI S)), (3, .int (b2i true)), (4, .int (nI 0))]) (by first | (rw [e_13]; done) | (rw [e_13]; rfl) | rfl) ?_
  exact LP_2 (5 - 0 + 1) 0 true (by decide) al_0 (Nat.lt_succ_self _)

set_option maxHeartbeats 4000000 in
set_option maxRecDepth 100000 in
theorem c_X11_isCovered (l : Launch) (G : GG) (o : Nat) (th : Int32) (qtx ts pl qrp qpg qtr qbk dn qkp qik sn qsw qsi : Nat) (sd : Int64) (qln qfm qby qwy wz qfo qon qmn qpr qle qst qwt rc tk ps gn : Nat) (bd : Int32) (qwo : Nat) (fo : Nat → Bool) (F : Nat → Nat → Bool) (md p S q T : Nat) (hF : ∀ x y, x < 9 → y < 9 → fo (9 * x + y) = F x y) (hmd : md ≤ 2) (hp : p < 4) (hS : S < 32) (hq : q < 4) (hT : T < 32) : RM l G yX11_isCovered (Cond.code yX11_isCovered cX11_isCovered 6 (some .boolean)) { frames := 3, cells := 0, slots := 0, locals := 69 } [.ref o, .int (nI md), .int (nI p), .int (nI S), .int (nI q), .int (nI T)] [ob o 11 [.int th, .ref qtx, .int (nI ts), .int (nI pl), .ref qrp, .ref qpg, .ref qtr, .ref qbk, .int (nI dn), .ref qkp, .ref qik, .int (nI sn), .ref qsw, .ref qsi, .long sd, .ref qln, .ref qfm, .ref qby, .ref qwy, .int (nI wz), .ref qfo, .ref qon, .ref qmn, .ref qpr, .ref qle, .ref qst, .ref qwt, .int (nI rc), .int (nI tk), .int (nI ps), .int (nI gn), .int bd, .ref qwo], aZ G qfo 81 (bF fo)] (.int (b2i (cov F md p S q T))) := by
  refine RM.ofZ (by decide) rfl (fun Γ X ret => ?_)
  show Wc Γ 0 0 0 [(0, .ref o), (1, .int (nI md)), (2, .int (nI p)), (3, .int (nI S)), (4, .int (nI q)), (5, .int (nI T))] [] [ob o 11 [.int th, .ref qtx, .int (nI ts), .int (nI pl), .ref qrp, .ref qpg, .ref qtr, .ref qbk, .int (nI dn), .ref qkp, .ref qik, .int (nI sn), .ref qsw, .ref qsi, .long sd, .ref qln, .ref qfm, .ref qby, .ref qwy, .int (nI wz), .ref qfo, .ref qon, .ref qmn, .ref qpr, .ref qle, .ref qst, .ref qwt, .int (nI rc), .int (nI tk), .int (nI ps), .int (nI gn), .int bd, .ref qwo], aZ G qfo 81 (bF fo)]
  refine wc_iload_n X 0 1 dX11_isCovered_0 rfl ?_
  refine wc_iconstN X 1 2 dX11_isCovered_1 ?_
  refine wc_icmp_neN X 2 36 dX11_isCovered_2 (by decide) (by omega) (by decide) (fun c2_1 => ?_) (fun c2_1 => ?_)
  ·
    refine wc_iload_n X 36 2 dX11_isCovered_36 rfl ?_
    refine wc_iload X 37 4 dX11_isCovered_37 rfl ?_
    refine wc_icmp_neN X 39 68 dX11_isCovered_39 (by decide) (by omega) (by omega) (fun c39_2 => ?_) (fun c39_2 => ?_)
    ·
      refine wc_iconstN X 68 0 dX11_isCovered_68 ?_
      refine wc_st (st' := [.int (b2i false)]) rfl ?_
      exact ret 69 _ false dX11_isCovered_69 (by unfold cov; simp [c2_1, c39_2] <;> (intros; omega))
    ·
      refine wc_iload_n X 42 1 dX11_isCovered_42 rfl ?_
      refine wc_if_neN X 43 55 dX11_isCovered_43 (by decide) (by omega) (fun c43_3 => ?_) (fun c43_3 => ?_)
      ·
        have hm1 : md = 1 := by omega
        refine wc_iload X 55 5 dX11_isCovered_55 rfl ?_
        refine wc_iload_n X 57 3 dX11_isCovered_57 rfl ?_
        refine wc_iconst X 58 (-1) dX11_isCovered_58 (by decide) ?_
        refine wc_ixor X 59 dX11_isCovered_59 ?_
        refine wc_iand X 60 dX11_isCovered_60 ?_
        refine wc_if_ne X 61 68 dX11_isCovered_61 (by decide) (fun c61_4 => ?_) (fun c61_4 => ?_)
        ·
          refine wc_iconstN X 68 0 dX11_isCovered_68 ?_
          refine wc_st (st' := [.int (b2i false)]) rfl ?_
          exact ret 69 _ false dX11_isCovered_69 (by unfold cov; have hz := cov_and S hS T hT; rw [hz] at c61_4; simp [c2_1, c39_2, c43_3, hm1, c61_4])
        ·
          refine wc_iconstN X 64 1 dX11_isCovered_64 ?_
          refine wc_goto X 65 69 dX11_isCovered_65 (by decide) ?_
          refine wc_st (st' := [.int (b2i true)]) rfl ?_
          exact ret 69 _ true dX11_isCovered_69 (by unfold cov; have hz := cov_and S hS T hT; rw [hz] at c61_4; simp [c2_1, c39_2, c43_3, hm1, c61_4])
      ·
        refine wc_iload_n X 46 3 dX11_isCovered_46 rfl ?_
        refine wc_iload X 47 5 dX11_isCovered_47 rfl ?_
        refine wc_icmp_neN X 49 68 dX11_isCovered_49 (by decide) (by omega) (by omega) (fun c49_5 => ?_) (fun c49_5 => ?_)
        ·
          refine wc_iconstN X 68 0 dX11_isCovered_68 ?_
          refine wc_st (st' := [.int (b2i false)]) rfl ?_
          exact ret 69 _ false dX11_isCovered_69 (by unfold cov; simp [c2_1, c39_2, c43_3, c49_5] <;> (intros; omega))
        ·
          refine wc_goto X 52 64 dX11_isCovered_52 (by decide) ?_
          refine wc_iconstN X 64 1 dX11_isCovered_64 ?_
          refine wc_goto X 65 69 dX11_isCovered_65 (by decide) ?_
          refine wc_st (st' := [.int (b2i true)]) rfl ?_
          exact ret 69 _ true dX11_isCovered_69 (by unfold cov; simp [c2_1, c39_2, c43_3, c49_5] <;> (intros; omega))
  ·
    refine wc_aload_n X 5 0 dX11_isCovered_5 rfl ?_
    refine wc_get X 6 0 20 kd11 rfl (by decide) q_785 rfl dX11_isCovered_6 ?_
    refine wc_bipush X 9 (nI 9) dX11_isCovered_9 (by decide) ?_
    refine wc_iload_n X 11 2 dX11_isCovered_11 rfl ?_
    refine wc_imulN X 12 dX11_isCovered_12 ?_
    refine wc_iload X 13 4 dX11_isCovered_13 rfl ?_
    refine wc_iaddN X 15 dX11_isCovered_15 ?_
    refine wc_zaldG X 16 1 rfl (by omega) (by decide) dX11_isCovered_16 ?_
    refine wc_topi (b2i (F p q)) (congrArg b2i (hF _ _ (by omega) (by omega))) ?_
    refine wc_if_eqB X 17 34 dX11_isCovered_17 (by decide) (fun c17_6 => ?_) (fun c17_6 => ?_)
    ·
      refine wc_iconstN X 34 0 dX11_isCovered_34 ?_
      refine wc_st (st' := [.int (b2i false)]) rfl ?_
      exact ret 35 _ false dX11_isCovered_35 (by unfold cov; simp [c2_1, c17_6] <;> (intros; omega))
    ·
      refine wc_aload_n X 20 0 dX11_isCovered_20 rfl ?_
      refine wc_iload X 21 5 dX11_isCovered_21 rfl ?_
      refine wc_iload_n X 23 3 dX11_isCovered_23 rfl ?_
      refine wc_callV X 24 [0, 1] 0 (c_X11_allFollow l G o th qtx ts pl qrp qpg qtr qbk dn qkp qik sn qsw qsi sd qln qfm qby qwy wz qfo qon qmn qpr qle qst qwt rc tk ps gn bd qwo fo F T S (by first | assumption | omega) (by first | assumption | omega) (by first | assumption | omega)) yv_X11_allFollow kd11 rfl rfl q_1082 ⟨rfl, rfl⟩ ⟨rfl, rfl⟩ ⟨rfl, rfl⟩ rfl rfl rfl dX11_isCovered_24 ?_
      refine wc_if_eqB X 27 34 dX11_isCovered_27 (by decide) (fun c27_7 => ?_) (fun c27_7 => ?_)
      ·
        refine wc_iconstN X 34 0 dX11_isCovered_34 ?_
        refine wc_st (st' := [.int (b2i false)]) rfl ?_
        exact ret 35 _ false dX11_isCovered_35 (by unfold cov; simp [c2_1, c17_6, c27_7] <;> (intros; omega))
      ·
        refine wc_iconstN X 30 1 dX11_isCovered_30 ?_
        refine wc_goto X 31 35 dX11_isCovered_31 (by decide) ?_
        refine wc_st (st' := [.int (b2i true)]) rfl ?_
        exact ret 35 _ true dX11_isCovered_35 (by unfold cov; simp [c2_1, c17_6, c27_7] <;> (intros; omega))

set_option maxHeartbeats 4000000 in
set_option maxRecDepth 100000 in
theorem c_X11_passes (l : Launch) (G : GG) (o : Nat) (th : Int32) (qtx ts pl qrp qpg qtr qbk dn qkp qik sn qsw qsi : Nat) (sd : Int64) (qln qfm qby qwy wz qfo qon qmn qpr qle qst qwt qwo : Nat) (fo : Nat → Bool) (F : Nat → Nat → Bool) (md : Nat) (s : Sr) (p S : Nat) (hF : ∀ x y, x < 9 → y < 9 → fo (9 * x + y) = F x y) (hmd : md ≤ 2) (hn : srN s ≤ 128) (hA : ∀ i, i < srN s → srO s i < 4 ∧ srM s i < 32) (hp : p < 4) (hS : S < 32) : RM l G yX11_passes (Cond.code yX11_passes cX11_passes 6 (some .boolean)) { frames := 4, cells := 0, slots := 0, locals := 94 } [.ref o, .int (nI md), .int (nI p), .int (nI S)] [ob o 11 [.int th, .ref qtx, .int (nI ts), .int (nI pl), .ref qrp, .ref qpg, .ref qtr, .ref qbk, .int (nI dn), .ref qkp, .ref qik, .int (nI sn), .ref qsw, .ref qsi, .long sd, .ref qln, .ref qfm, .ref qby, .ref qwy, .int (nI wz), .ref qfo, .ref qon, .ref qmn, .ref qpr, .ref qle, .ref qst, .ref qwt, .int (nI (srN s)), .int (nI (srT s)), .int (nI (srA s)), .int (nI (srD s)), .int (bI (srB s)), .ref qwo], aZ G qfo 81 (bF fo), aI G qon 128 (nF (srO s)), aI G qmn 128 (nF (srM s)), aZ G qst 128 (bF (ntF (srG s)))] (.int (b2i (passS F md s p S))) := by
  refine RM.ofZ (by decide) rfl (fun Γ X ret => ?_)
  show Wc Γ 0 0 0 [(0, .ref o), (1, .int (nI md)), (2, .int (nI p)), (3, .int (nI S))] [] [ob o 11 [.int th, .ref qtx, .int (nI ts), .int (nI pl), .ref qrp, .ref qpg, .ref qtr, .ref qbk, .int (nI dn), .ref qkp, .ref qik, .int (nI sn), .ref qsw, .ref qsi, .long sd, .ref qln, .ref qfm, .ref qby, .ref qwy, .int (nI wz), .ref qfo, .ref qon, .ref qmn, .ref qpr, .ref qle, .ref qst, .ref qwt, .int (nI (srN s)), .int (nI (srT s)), .int (nI (srA s)), .int (nI (srD s)), .int (bI (srB s)), .ref qwo], aZ G qfo 81 (bF fo), aI G qon 128 (nF (srO s)), aI G qmn 128 (nF (srM s)), aZ G qst 128 (bF (ntF (srG s)))]
  refine wc_iload_n X 0 1 dX11_passes_0 rfl ?_
  refine wc_iconstN X 1 2 dX11_passes_1 ?_
  refine wc_icmp_neN X 2 16 dX11_passes_2 (by decide) (by omega) (by decide) (fun c2_1 => ?_) (fun c2_1 => ?_)
  ·
    refine wc_iconstN X 16 0 dX11_passes_16 ?_
    refine wc_istore X 17 (L' := [(0, .ref o), (1, .int (nI md)), (2, .int (nI p)), (3, .int (nI S)), (4, .int (nI 0))]) dX11_passes_17 (by decide) rfl ?_
    refine wc_iconstN X 19 0 dX11_passes_19 ?_
    refine wc_istore X 20 (L' := [(0, .ref o), (1, .int (nI md)), (2, .int (nI p)), (3, .int (nI S)), (4, .int (nI 0)), (5, .int (nI 0))]) dX11_passes_20 (by decide) rfl ?_
    have LP_3 : ∀ (fuel_2 : Nat) (i : Nat) (b : Bool), (i ≤ srN s) → (b = true ↔ ∃ j, j < i ∧ (srG s j = false ∧ cov F md p S (srO s j) (srM s j) = true)) → 128 - i < fuel_2 → Wc Γ 0 0 22 [(0, .ref o), (1, .int (nI md)), (2, .int (nI p)), (3, .int (nI S)), (4, .int (b2i b)), (5, .int (nI i))] [] [ob o 11 [.int th, .ref qtx, .int (nI ts), .int (nI pl), .ref qrp, .ref qpg, .ref qtr, .ref qbk, .int (nI dn), .ref qkp, .ref qik, .int (nI sn), .ref qsw, .ref qsi, .long sd, .ref qln, .ref qfm, .ref qby, .ref qwy, .int (nI wz), .ref qfo, .ref qon, .ref qmn, .ref qpr, .ref qle, .ref qst, .ref qwt, .int (nI (srN s)), .int (nI (srT s)), .int (nI (srA s)), .int (nI (srD s)), .int (bI (srB s)), .ref qwo], aZ G qfo 81 (bF fo), aI G qon 128 (nF (srO s)), aI G qmn 128 (nF (srM s)), aZ G qst 128 (bF (ntF (srG s)))] := by
      intro fuel_2
      induction fuel_2 with
      | zero => intro i b hi hb hm; exact absurd hm (Nat.not_lt_zero _)
      | succ fuel_2 ih_4 =>
        intro i b hi hb hm_5
        refine wc_iload X 22 5 dX11_passes_22 rfl ?_
        refine wc_aload_n X 24 0 dX11_passes_24 rfl ?_
        refine wc_get X 25 0 27 kd11 rfl (by decide) q_792 rfl dX11_passes_25 ?_
        refine wc_icmp_geN X 28 83 dX11_passes_28 (by decide) (by omega) (by omega) (fun c28_6 => ?_) (fun c28_6 => ?_)
        ·
          refine wc_iload X 83 4 dX11_passes_83 rfl ?_
          exact ret 85 _ b dX11_passes_85 (pass_of (by simp [c2_1]) (by rw [show i = srN s by omega] at hb; exact hb))
        ·
          refine wc_iload X 31 4 dX11_passes_31 rfl ?_
          refine wc_if_neB X 33 70 dX11_passes_33 (by decide) (fun c33_7 => ?_) (fun c33_7 => ?_)
          ·
            refine wc_iconstN X 70 1 dX11_passes_70 ?_
            refine wc_goto X 71 75 dX11_passes_71 (by decide) ?_
            refine wc_istore X 75 (L' := [(0, .ref o), (1, .int (nI md)), (2, .int (nI p)), (3, .int (nI S)), (4, .int (nI 1)), (5, .int (nI i))]) dX11_passes_75 (by decide) rfl ?_
            refine wc_iincN X 77 5 (L' := [(0, .ref o), (1, .int (nI md)), (2, .int (nI p)), (3, .int (nI S)), (4, .int (nI 1)), (5, .int (nI (i + 1)))]) dX11_passes_77 rfl (by decide) rfl ?_
            refine wc_goto X 80 22 dX11_passes_80 (by decide) ?_
            have e_8 : (.int (nI 1) : Value) = .int (b2i true) := rfl
            refine wc_L (L' := [(0, .ref o), (1, .int (nI md)), (2, .int (nI p)), (3, .int (nI S)), (4, .int (b2i true)), (5, .int (nI (i + 1)))]) (by first | (rw [e_8]; done) | (rw [e_8]; rfl) | rfl) ?_
            exact ih_4 (i + 1) true (by omega) (ex_t1 hb c33_7) (by omega)
          ·
            refine wc_aload_n X 36 0 dX11_passes_36 rfl ?_
            refine wc_get X 37 0 25 kd11 rfl (by decide) q_790 rfl dX11_passes_37 ?_
            refine wc_iload X 40 5 dX11_passes_40 rfl ?_
            refine wc_zaldG X 42 4 rfl (by omega) (by decide) dX11_passes_42 ?_
            refine wc_if_eqB X 43 74 dX11_passes_43 (by decide) (fun c43_9 => ?_) (fun c43_9 => ?_)
            ·
              refine wc_iconstN X 74 0 dX11_passes_74 ?_
              refine wc_istore X 75 (L' := [(0, .ref o), (1, .int (nI md)), (2, .int (nI p)), (3, .int (nI S)), (4, .int (nI 0)), (5, .int (nI i))]) dX11_passes_75 (by decide) rfl ?_
              refine wc_iincN X 77 5 (L' := [(0, .ref o), (1, .int (nI md)), (2, .int (nI p)), (3, .int (nI S)), (4, .int (nI 0)), (5, .int (nI (i + 1)))]) dX11_passes_77 rfl (by decide) rfl ?_
              refine wc_goto X 80 22 dX11_passes_80 (by decide) ?_
              have e_10 : (.int (nI 0) : Value) = .int (b2i false) := rfl
              refine wc_L (L' := [(0, .ref o), (1, .int (nI md)), (2, .int (nI p)), (3, .int (nI S)), (4, .int (b2i false)), (5, .int (nI (i + 1)))]) (by first | (rw [e_10]; done) | (rw [e_10]; rfl) | rfl) ?_
              exact ih_4 (i + 1) false (by omega) (ex_f hb c33_7 (fun z => by rw [ntF_f c43_9] at z; cases z.1)) (by omega)
            ·
              refine wc_aload_n X 46 0 dX11_passes_46 rfl ?_
              refine wc_iload_n X 47 1 dX11_passes_47 rfl ?_
              refine wc_iload_n X 48 2 dX11_passes_48 rfl ?_
              refine wc_iload_n X 49 3 dX11_passes_49 rfl ?_
              refine wc_aload_n X 50 0 dX11_passes_50 rfl ?_
              refine wc_get X 51 0 21 kd11 rfl (by decide) q_786 rfl dX11_passes_51 ?_
              refine wc_iload X 54 5 dX11_passes_54 rfl ?_
              refine wc_ialdG X 56 2 rfl (by omega) (by decide) dX11_passes_56 ?_
              refine wc_aload_n X 57 0 dX11_passes_57 rfl ?_
              refine wc_get X 58 0 22 kd11 rfl (by decide) q_787 rfl dX11_passes_58 ?_
              refine wc_iload X 61 5 dX11_passes_61 rfl ?_
              refine wc_ialdG X 63 3 rfl (by omega) (by decide) dX11_passes_63 ?_
              refine wc_callV X 64 [0, 1] 0 (c_X11_isCovered l G o th qtx ts pl qrp qpg qtr qbk dn qkp qik sn qsw qsi sd qln qfm qby qwy wz qfo qon qmn qpr qle qst qwt (srN s) (srT s) (srA s) (srD s) (bI (srB s)) qwo fo F md p S ((srO s) i) ((srM s) i) (by first | assumption | omega) (by first | assumption | omega) (by first | assumption | omega) (by first | assumption | omega) (hA _ (by omega)).1 (hA _ (by omega)).2) yv_X11_isCovered kd11 rfl rfl q_1078 ⟨rfl, rfl⟩ ⟨rfl, rfl⟩ ⟨rfl, rfl⟩ rfl rfl rfl dX11_passes_64 ?_
              refine wc_if_eqB X 67 74 dX11_passes_67 (by decide) (fun c67_11 => ?_) (fun c67_11 => ?_)
              ·
                refine wc_iconstN X 74 0 dX11_passes_74 ?_
                refine wc_istore X 75 (L' := [(0, .ref o), (1, .int (nI md)), (2, .int (nI p)), (3, .int (nI S)), (4, .int (nI 0)), (5, .int (nI i))]) dX11_passes_75 (by decide) rfl ?_
                refine wc_iincN X 77 5 (L' := [(0, .ref o), (1, .int (nI md)), (2, .int (nI p)), (3, .int (nI S)), (4, .int (nI 0)), (5, .int (nI (i + 1)))]) dX11_passes_77 rfl (by decide) rfl ?_
                refine wc_goto X 80 22 dX11_passes_80 (by decide) ?_
                have e_12 : (.int (nI 0) : Value) = .int (b2i false) := rfl
                refine wc_L (L' := [(0, .ref o), (1, .int (nI md)), (2, .int (nI p)), (3, .int (nI S)), (4, .int (b2i false)), (5, .int (nI (i + 1)))]) (by first | (rw [e_12]; done) | (rw [e_12]; rfl) | rfl) ?_
                exact ih_4 (i + 1) false (by omega) (ex_f hb c33_7 (fun z => by rw [z.2] at c67_11; cases c67_11)) (by omega)
              ·
                refine wc_iconstN X 70 1 dX11_passes_70 ?_
                refine wc_goto X 71 75 dX11_passes_71 (by decide) ?_
                refine wc_istore X 75 (L' := [(0, .ref o), (1, .int (nI md)), (2, .int (nI p)), (3, .int (nI S)), (4, .int (nI 1)), (5, .int (nI i))]) dX11_passes_75 (by decide) rfl ?_
                refine wc_iincN X 77 5 (L' := [(0, .ref o), (1, .int (nI md)), (2, .int (nI p)), (3, .int (nI S)), (4, .int (nI 1)), (5, .int (nI (i + 1)))]) dX11_passes_77 rfl (by decide) rfl ?_
                refine wc_goto X 80 22 dX11_passes_80 (by decide) ?_
                have e_13 : (.int (nI 1) : Value) = .int (b2i true) := rfl
                refine wc_L (L' := [(0, .ref o), (1, .int (nI md)), (2, .int (nI p)), (3, .int (nI S)), (4, .int (b2i true)), (5, .int (nI (i + 1)))]) (by first | (rw [e_13]; done) | (rw [e_13]; rfl) | rfl) ?_
                exact ih_4 (i + 1) true (by omega) (ex_t2 ⟨ntF_t c43_9, c67_11⟩) (by omega)
    have e_14 : (.int (nI 0) : Value) = .int (b2i false) := rfl
    refine wc_L (L' := [(0, .ref o), (1, .int (nI md)), (2, .int (nI p)), (3, .int (nI S)), (4, .int (b2i false)), (5, .int (nI 0))]) (by first | (rw [e_14]; done) | (rw [e_14]; rfl) | rfl) ?_
    exact LP_3 (128 - 0 + 1) 0 false (by omega) ex_0 (Nat.lt_succ_self _)
  ·
    refine wc_aload_n X 5 0 dX11_passes_5 rfl ?_
    refine wc_iload_n X 6 2 dX11_passes_6 rfl ?_
    refine wc_iload_n X 7 3 dX11_passes_7 rfl ?_
    refine wc_callV X 8 [0, 1] 0 (c_X11_followsSome l G o th qtx ts pl qrp qpg qtr qbk dn qkp qik sn qsw qsi sd qln qfm qby qwy wz qfo qon qmn qpr qle qst qwt (srN s) (srT s) (srA s) (srD s) (bI (srB s)) qwo fo F p S (by first | assumption | omega) (by omega) (by first | assumption | omega)) yv_X11_followsSome kd11 rfl rfl q_1074 ⟨rfl, rfl⟩ ⟨rfl, rfl⟩ ⟨rfl, rfl⟩ rfl rfl rfl dX11_passes_8 ?_
    refine wc_if_eqB X 11 16 dX11_passes_11 (by decide) (fun c11_15 => ?_) (fun c11_15 => ?_)
    ·
      refine wc_iconstN X 16 0 dX11_passes_16 ?_
      refine wc_istore X 17 (L' := [(0, .ref o), (1, .int (nI md)), (2, .int (nI p)), (3, .int (nI S)), (4, .int (nI 0))]) dX11_passes_17 (by decide) rfl ?_
      refine wc_iconstN X 19 0 dX11_passes_19 ?_
      refine wc_istore X 20 (L' := [(0, .ref o), (1, .int (nI md)), (2, .int (nI p)), (3, .int (nI S)), (4, .int (nI 0)), (5, .int (nI 0))]) dX11_passes_20 (by decide) rfl ?_
      have LP_17 : ∀ (fuel_16 : Nat) (i : Nat) (b : Bool), (i ≤ srN s) → (b = true ↔ ∃ j, j < i ∧ (srG s j = false ∧ cov F md p S (srO s j) (srM s j) = true)) → 128 - i < fuel_16 → Wc Γ 0 0 22 [(0, .ref o), (1, .int (nI md)), (2, .int (nI p)), (3, .int (nI S)), (4, .int (b2i b)), (5, .int (nI i))] [] [ob o 11 [.int th, .ref qtx, .int (nI ts), .int (nI pl), .ref qrp, .ref qpg, .ref qtr, .ref qbk, .int (nI dn), .ref qkp, .ref qik, .int (nI sn), .ref qsw, .ref qsi, .long sd, .ref qln, .ref qfm, .ref qby, .ref qwy, .int (nI wz), .ref qfo, .ref qon, .ref qmn, .ref qpr, .ref qle, .ref qst, .ref qwt, .int (nI (srN s)), .int (nI (srT s)), .int (nI (srA s)), .int (nI (srD s)), .int (bI (srB s)), .ref qwo], aZ G qfo 81 (bF fo), aI G qon 128 (nF (srO s)), aI G qmn 128 (nF (srM s)), aZ G qst 128 (bF (ntF (srG s)))] := by
        intro fuel_16
        induction fuel_16 with
        | zero => intro i b hi hb hm; exact absurd hm (Nat.not_lt_zero _)
        | succ fuel_16 ih_18 =>
          intro i b hi hb hm_19
          refine wc_iload X 22 5 dX11_passes_22 rfl ?_
          refine wc_aload_n X 24 0 dX11_passes_24 rfl ?_
          refine wc_get X 25 0 27 kd11 rfl (by decide) q_792 rfl dX11_passes_25 ?_
          refine wc_icmp_geN X 28 83 dX11_passes_28 (by decide) (by omega) (by omega) (fun c28_20 => ?_) (fun c28_20 => ?_)
          ·
            refine wc_iload X 83 4 dX11_passes_83 rfl ?_
            exact ret 85 _ b dX11_passes_85 (pass_of (by simp [c2_1, c11_15]) (by rw [show i = srN s by omega] at hb; exact hb))
          ·
            refine wc_iload X 31 4 dX11_passes_31 rfl ?_
            refine wc_if_neB X 33 70 dX11_passes_33 (by decide) (fun c33_21 => ?_) (fun c33_21 => ?_)
            ·
              refine wc_iconstN X 70 1 dX11_passes_70 ?_
              refine wc_goto X 71 75 dX11_passes_71 (by decide) ?_
              refine wc_istore X 75 (L' := [(0, .ref o), (1, .int (nI md)), (2, .int (nI p)), (3, .int (nI S)), (4, .int (nI 1)), (5, .int (nI i))]) dX11_passes_75 (by decide) rfl ?_
              refine wc_iincN X 77 5 (L' := [(0, .ref o), (1, .int (nI md)), (2, .int (nI p)), (3, .int (nI S)), (4, .int (nI 1)), (5, .int (nI (i + 1)))]) dX11_passes_77 rfl (by decide) rfl ?_
              refine wc_goto X 80 22 dX11_passes_80 (by decide) ?_
              have e_22 : (.int (nI 1) : Value) = .int (b2i true) := rfl
              refine wc_L (L' := [(0, .ref o), (1, .int (nI md)), (2, .int (nI p)), (3, .int (nI S)), (4, .int (b2i true)), (5, .int (nI (i + 1)))]) (by first | (rw [e_22]; done) | (rw [e_22]; rfl) | rfl) ?_
              exact ih_18 (i + 1) true (by omega) (ex_t1 hb c33_21) (by omega)
            ·
              refine wc_aload_n X 36 0 dX11_passes_36 rfl ?_
              refine wc_get X 37 0 25 kd11 rfl (by decide) q_790 rfl dX11_passes_37 ?_
              refine wc_iload X 40 5 dX11_passes_40 rfl ?_
              refine wc_zaldG X 42 4 rfl (by omega) (by decide) dX11_passes_42 ?_
              refine wc_if_eqB X 43 74 dX11_passes_43 (by decide) (fun c43_23 => ?_) (fun c43_23 => ?_)
              ·
                refine wc_iconstN X 74 0 dX11_passes_74 ?_
                refine wc_istore X 75 (L' := [(0, .ref o), (1, .int (nI md)), (2, .int (nI p)), (3, .int (nI S)), (4, .int (nI 0)), (5, .int (nI i))]) dX11_passes_75 (by decide) rfl ?_
                refine wc_iincN X 77 5 (L' := [(0, .ref o), (1, .int (nI md)), (2, .int (nI p)), (3, .int (nI S)), (4, .int (nI 0)), (5, .int (nI (i + 1)))]) dX11_passes_77 rfl (by decide) rfl ?_
                refine wc_goto X 80 22 dX11_passes_80 (by decide) ?_
                have e_24 : (.int (nI 0) : Value) = .int (b2i false) := rfl
                refine wc_L (L' := [(0, .ref o), (1, .int (nI md)), (2, .int (nI p)), (3, .int (nI S)), (4, .int (b2i false)), (5, .int (nI (i + 1)))]) (by first | (rw [e_24]; done) | (rw [e_24]; rfl) | rfl) ?_
                exact ih_18 (i + 1) false (by omega) (ex_f hb c33_21 (fun z => by rw [ntF_f c43_23] at z; cases z.1)) (by omega)
              ·
                refine wc_aload_n X 46 0 dX11_passes_46 rfl ?_
                refine wc_iload_n X 47 1 dX11_passes_47 rfl ?_
                refine wc_iload_n X 48 2 dX11_passes_48 rfl ?_
                refine wc_iload_n X 49 3 dX11_passes_49 rfl ?_
                refine wc_aload_n X 50 0 dX11_passes_50 rfl ?_
                refine wc_get X 51 0 21 kd11 rfl (by decide) q_786 rfl dX11_passes_51 ?_
                refine wc_iload X 54 5 dX11_passes_54 rfl ?_
                refine wc_ialdG X 56 2 rfl (by omega) (by decide) dX11_passes_56 ?_
                refine wc_aload_n X 57 0 dX11_passes_57 rfl ?_
                refine wc_get X 58 0 22 kd11 rfl (by decide) q_787 rfl dX11_passes_58 ?_
                refine wc_iload X 61 5 dX11_passes_61 rfl ?_
                refine wc_ialdG X 63 3 rfl (by omega) (by decide) dX11_passes_63 ?_
                refine wc_callV X 64 [0, 1] 0 (c_X11_isCovered l G o th qtx ts pl qrp qpg qtr qbk dn qkp qik sn qsw qsi sd qln qfm qby qwy wz qfo qon qmn qpr qle qst qwt (srN s) (srT s) (srA s) (srD s) (bI (srB s)) qwo fo F md p S ((srO s) i) ((srM s) i) (by first | assumption | omega) (by first | assumption | omega) (by first | assumption | omega) (by first | assumption | omega) (hA _ (by omega)).1 (hA _ (by omega)).2) yv_X11_isCovered kd11 rfl rfl q_1078 ⟨rfl, rfl⟩ ⟨rfl, rfl⟩ ⟨rfl, rfl⟩ rfl rfl rfl dX11_passes_64 ?_
                refine wc_if_eqB X 67 74 dX11_passes_67 (by decide) (fun c67_25 => ?_) (fun c67_25 => ?_)
                ·
                  refine wc_iconstN X 74 0 dX11_passes_74 ?_
                  refine wc_istore X 75 (L' := [(0, .ref o), (1, .int (nI md)), (2, .int (nI p)), (3, .int (nI S)), (4, .int (nI 0)), (5, .int (nI i))]) dX11_passes_75 (by decide) rfl ?_
                  refine wc_iincN X 77 5 (L' := [(0, .ref o), (1, .int (nI md)), (2, .int (nI p)), (3, .int (nI S)), (4, .int (nI 0)), (5, .int (nI (i + 1)))]) dX11_passes_77 rfl (by decide) rfl ?_
                  refine wc_goto X 80 22 dX11_passes_80 (by decide) ?_
                  have e_26 : (.int (nI 0) : Value) = .int (b2i false) := rfl
                  refine wc_L (L' := [(0, .ref o), (1, .int (nI md)), (2, .int (nI p)), (3, .int (nI S)), (4, .int (b2i false)), (5, .int (nI (i + 1)))]) (by first | (rw [e_26]; done) | (rw [e_26]; rfl) | rfl) ?_
                  exact ih_18 (i + 1) false (by omega) (ex_f hb c33_21 (fun z => by rw [z.2] at c67_25; cases c67_25)) (by omega)
                ·
                  refine wc_iconstN X 70 1 dX11_passes_70 ?_
                  refine wc_goto X 71 75 dX11_passes_71 (by decide) ?_
                  refine wc_istore X 75 (L' := [(0, .ref o), (1, .int (nI md)), (2, .int (nI p)), (3, .int (nI S)), (4, .int (nI 1)), (5, .int (nI i))]) dX11_passes_75 (by decide) rfl ?_
                  refine wc_iincN X 77 5 (L' := [(0, .ref o), (1, .int (nI md)), (2, .int (nI p)), (3, .int (nI S)), (4, .int (nI 1)), (5, .int (nI (i + 1)))]) dX11_passes_77 rfl (by decide) rfl ?_
                  refine wc_goto X 80 22 dX11_passes_80 (by decide) ?_
                  have e_27 : (.int (nI 1) : Value) = .int (b2i true) := rfl
                  refine wc_L (L' := [(0, .ref o), (1, .int (nI md)), (2, .int (nI p)), (3, .int (nI S)), (4, .int (b2i true)), (5, .int (nI (i + 1)))]) (by first | (rw [e_27]; done) | (rw [e_27]; rfl) | rfl) ?_
                  exact ih_18 (i + 1) true (by omega) (ex_t2 ⟨ntF_t c43_23, c67_25⟩) (by omega)
      have e_28 : (.int (nI 0) : Value) = .int (b2i false) := rfl
      refine wc_L (L' := [(0, .ref o), (1, .int (nI md)), (2, .int (nI p)), (3, .int (nI S)), (4, .int (b2i false)), (5, .int (nI 0))]) (by first | (rw [e_28]; done) | (rw [e_28]; rfl) | rfl) ?_
      exact LP_17 (128 - 0 + 1) 0 false (by omega) ex_0 (Nat.lt_succ_self _)
    ·
      refine wc_iconstN X 14 1 dX11_passes_14 ?_
      refine wc_st (st' := [.int (b2i true)]) rfl ?_
      exact ret 15 _ true dX11_passes_15 (pass_t1 c2_1 c11_15)

set_option maxHeartbeats 4000000 in
set_option maxRecDepth 100000 in
theorem c_X11_come (l : Launch) (G : GG) (o : Nat) (th : Int32) (qtx ts pl qrp qpg qtr qbk dn qkp qik sn qsw qsi : Nat) (sd : Int64) (qln qfm qby qwy wz qfo qon qmn qpr qle qst qwt qwo : Nat) (fo : Nat → Bool) (F : Nat → Nat → Bool) (md : Nat) (s : Sr) (wt : Nat → Bool) (kk : Nat) (p : Nat → Nat) (q S : Nat) (pr : Int32) (c : Nat) (hF : ∀ x y, x < 9 → y < 9 → fo (9 * x + y) = F x y) (hmd : md ≤ 2) (hr : pgOk p) (hC : Cvr F (p 0) (p 1)) (hI : Inv F md (p 0) (p 1) s) (hb0 : srB s = none) (hkk : kk ≤ srN s) (hw : ∀ j, j < srN s → wt j = (decide (kk ≤ j) && !srG s j)) (h0 : q < p 0) (hS : S < 2 ^ p 1) : MM l G yX11_come (Cond.code yX11_come cX11_come 7 (some .boolean)) { frames := 5, cells := 0, slots := 0, locals := 119 } [.ref o, .int (nI md), .int (nI q), .int (nI S), .int pr, .int (nI c)] [ob o 11 [.int th, .ref qtx, .int (nI ts), .int (nI pl), .ref qrp, .ref qpg, .ref qtr, .ref qbk, .int (nI dn), .ref qkp, .ref qik, .int (nI sn), .ref qsw, .ref qsi, .long sd, .ref qln, .ref qfm, .ref qby, .ref qwy, .int (nI wz), .ref qfo, .ref qon, .ref qmn, .ref qpr, .ref qle, .ref qst, .ref qwt, .int (nI (srN s)), .int (nI (srT s)), .int (nI (srA s)), .int (nI (srD s)), .int (bI (srB s)), .ref qwo], aI G qpg 22 (nF p), aZ G qfo 81 (bF fo), aI G qon 128 (nF (srO s)), aI G qmn 128 (nF (srM s)), aI G qpr 128 (srP s), aI G qle 128 (nF (srL s)), aZ G qst 128 (bF (ntF (srG s))), aZ G qwt 128 (bF wt)] (fun (v : Option Value) (w : va_W) => ∃ (s2 : Sr) (wt2 : Nat → Bool), v = some (.int (b2i ((srB s2).isSome))) ∧ w = [ob o 11 [.int th, .ref qtx, .int (nI ts), .int (nI pl), .ref qrp, .ref qpg, .ref qtr, .ref qbk, .int (nI dn), .ref qkp, .ref qik, .int (nI sn), .ref qsw, .ref qsi, .long sd, .ref qln, .ref qfm, .ref qby, .ref qwy, .int (nI wz), .ref qfo, .ref qon, .ref qmn, .ref qpr, .ref qle, .ref qst, .ref qwt, .int (nI (srN s2)), .int (nI (srT s2)), .int (nI (srA s2)), .int (nI (srD s2)), .int (bI (srB s2)), .ref qwo], aI G qpg 22 (nF p), aZ G qfo 81 (bF fo), aI G qon 128 (nF (srO s2)), aI G qmn 128 (nF (srM s2)), aI G qpr 128 (srP s2), aI G qle 128 (nF (srL s2)), aZ G qst 128 (bF (ntF (srG s2))), aZ G qwt 128 (bF wt2)] ∧ s2 = comeS F md (p 2) (p 3) s q S pr c ∧ (∀ j, j < srN s2 → wt2 j = (decide (kk ≤ j) && !srG s2 j))) 0 0 := by
  refine MM.ofZ (by decide) rfl (fun Γ X Y hnm ret => ?_)
  show Wc Γ 0 0 0 [(0, .ref o), (1, .int (nI md)), (2, .int (nI q)), (3, .int (nI S)), (4, .int pr), (5, .int (nI c))] [] [ob o 11 [.int th, .ref qtx, .int (nI ts), .int (nI pl), .ref qrp, .ref qpg, .ref qtr, .ref qbk, .int (nI dn), .ref qkp, .ref qik, .int (nI sn), .ref qsw, .ref qsi, .long sd, .ref qln, .ref qfm, .ref qby, .ref qwy, .int (nI wz), .ref qfo, .ref qon, .ref qmn, .ref qpr, .ref qle, .ref qst, .ref qwt, .int (nI (srN s)), .int (nI (srT s)), .int (nI (srA s)), .int (nI (srD s)), .int (bI (srB s)), .ref qwo], aI G qpg 22 (nF p), aZ G qfo 81 (bF fo), aI G qon 128 (nF (srO s)), aI G qmn 128 (nF (srM s)), aI G qpr 128 (srP s), aI G qle 128 (nF (srL s)), aZ G qst 128 (bF (ntF (srG s))), aZ G qwt 128 (bF wt)]
  have hS32 := pw5 hr.2.2.2.1 hS
  have hq4 := Nat.lt_of_lt_of_le h0 hr.2.1
  refine wc_aload_n X 0 0 dX11_come_0 rfl ?_
  refine wc_iload_n X 1 1 dX11_come_1 rfl ?_
  refine wc_iload_n X 2 2 dX11_come_2 rfl ?_
  refine wc_iload_n X 3 3 dX11_come_3 rfl ?_
  refine wc_callV X 4 [0, 2, 3, 4, 7] 0 (c_X11_passes l G o th qtx ts pl qrp qpg qtr qbk dn qkp qik sn qsw qsi sd qln qfm qby qwy wz qfo qon qmn qpr qle qst qwt qwo fo F md s q S (by first | assumption | omega) (by first | assumption | omega) (Inv_le hr.2.1 hr.2.2.2.1 hI) (Inv_A hr.2.1 hr.2.2.2.1 hI) hq4 hS32) yv_X11_passes kd11 rfl rfl q_1070 ⟨rfl, rfl⟩ ⟨rfl, rfl⟩ ⟨rfl, rfl⟩ rfl rfl rfl dX11_come_4 ?_
  refine wc_if_eqB X 7 22 dX11_come_7 (by decide) (fun c7_1 => ?_) (fun c7_1 => ?_)
  ·
    have hps := c7_1
    have hlt := Inv_lt hr.2.1 hr.2.2.2.1 hI h0 hS hps
    refine wc_iconstN X 22 0 dX11_come_22 ?_
    refine wc_istore X 23 (L' := [(0, .ref o), (1, .int (nI md)), (2, .int (nI q)), (3, .int (nI S)), (4, .int pr), (5, .int (nI c)), (6, .int (nI 0))]) dX11_come_23 (by decide) rfl ?_
    have LP_3 : ∀ (fuel_2 : Nat) (i : Nat) (g : Nat → Bool) (d : Nat) (w : Nat → Bool), (i ≤ srN s) → (g = dropG F md (srO s) (srM s) q S (srG s) i ∧ d = dropC F md (srO s) (srM s) q S (srG s) (srD s) i) → (∀ j, j < srN s → w j = (decide (kk ≤ j) && !g j)) → 128 - i < fuel_2 → Wc Γ 0 0 25 [(0, .ref o), (1, .int (nI md)), (2, .int (nI q)), (3, .int (nI S)), (4, .int pr), (5, .int (nI c)), (6, .int (nI i))] [] [ob o 11 [.int th, .ref qtx, .int (nI ts), .int (nI pl), .ref qrp, .ref qpg, .ref qtr, .ref qbk, .int (nI dn), .ref qkp, .ref qik, .int (nI sn), .ref qsw, .ref qsi, .long sd, .ref qln, .ref qfm, .ref qby, .ref qwy, .int (nI wz), .ref qfo, .ref qon, .ref qmn, .ref qpr, .ref qle, .ref qst, .ref qwt, .int (nI (srN s)), .int (nI (srT s)), .int (nI (srA s)), .int (nI d), .int (bI (srB s)), .ref qwo], aI G qpg 22 (nF p), aZ G qfo 81 (bF fo), aI G qon 128 (nF (srO s)), aI G qmn 128 (nF (srM s)), aI G qpr 128 (srP s), aI G qle 128 (nF (srL s)), aZ G qst 128 (bF (ntF (g))), aZ G qwt 128 (bF w)] := by
      intro fuel_2
      induction fuel_2 with
      | zero => intro i g d w hi hg hw2 hm; exact absurd hm (Nat.not_lt_zero _)
      | succ fuel_2 ih_4 =>
        intro i g d w hi hg hw2 hm_5
        refine wc_iload X 25 6 dX11_come_25 rfl ?_
        refine wc_aload_n X 27 0 dX11_come_27 rfl ?_
        refine wc_get X 28 0 27 kd11 rfl (by decide) q_792 rfl dX11_come_28 ?_
        refine wc_icmp_geN X 31 100 dX11_come_31 (by decide) (by omega) (by omega) (fun c31_6 => ?_) (fun c31_6 => ?_)
        ·
          refine wc_loc [0, 1, 2, 3, 4, 5] (L' := [(0, .ref o), (1, .int (nI md)), (2, .int (nI q)), (3, .int (nI S)), (4, .int pr), (5, .int (nI c))]) rfl ?_
          obtain ⟨hg1, hg2⟩ := hg
          rw [show i = srN s by omega] at hg1 hg2
          subst hg1 hg2
          refine wc_aload_n X 100 0 dX11_come_100 rfl ?_
          refine wc_get X 101 0 21 kd11 rfl (by decide) q_786 rfl dX11_come_101 ?_
          refine wc_aload_n X 104 0 dX11_come_104 rfl ?_
          refine wc_get X 105 0 27 kd11 rfl (by decide) q_792 rfl dX11_come_105 ?_
          refine wc_iload_n X 108 2 dX11_come_108 rfl ?_
          refine wc_iastG X Y 109 3 rfl (by omega) (by decide) (ws' := [ob o 11 [.int th, .ref qtx, .int (nI ts), .int (nI pl), .ref qrp, .ref qpg, .ref qtr, .ref qbk, .int (nI dn), .ref qkp, .ref qik, .int (nI sn), .ref qsw, .ref qsi, .long sd, .ref qln, .ref qfm, .ref qby, .ref qwy, .int (nI wz), .ref qfo, .ref qon, .ref qmn, .ref qpr, .ref qle, .ref qst, .ref qwt, .int (nI (srN s)), .int (nI (srT s)), .int (nI (srA s)), .int (nI (dropC F md (srO s) (srM s) q S (srG s) (srD s) (srN s))), .int (bI (srB s)), .ref qwo], aI G qpg 22 (nF p), aZ G qfo 81 (bF fo), aI G qon 128 (nF (up (srO s) (srN s) q)), aI G qmn 128 (nF (srM s)), aI G qpr 128 (srP s), aI G qle 128 (nF (srL s)), aZ G qst 128 (bF (ntF ((dropG F md (srO s) (srM s) q S (srG s) (srN s))))), aZ G qwt 128 (bF w)]) rfl dX11_come_109 ?_
          refine wc_aload_n X 110 0 dX11_come_110 rfl ?_
          refine wc_get X 111 0 22 kd11 rfl (by decide) q_787 rfl dX11_come_111 ?_
          refine wc_aload_n X 114 0 dX11_come_114 rfl ?_
          refine wc_get X 115 0 27 kd11 rfl (by decide) q_792 rfl dX11_come_115 ?_
          refine wc_iload_n X 118 3 dX11_come_118 rfl ?_
          refine wc_iastG X Y 119 4 rfl (by omega) (by decide) (ws' := [ob o 11 [.int th, .ref qtx, .int (nI ts), .int (nI pl), .ref qrp, .ref qpg, .ref qtr, .ref qbk, .int (nI dn), .ref qkp, .ref qik, .int (nI sn), .ref qsw, .ref qsi, .long sd, .ref qln, .ref qfm, .ref qby, .ref qwy, .int (nI wz), .ref qfo, .ref qon, .ref qmn, .ref qpr, .ref qle, .ref qst, .ref qwt, .int (nI (srN s)), .int (nI (srT s)), .int (nI (srA s)), .int (nI (dropC F md (srO s) (srM s) q S (srG s) (srD s) (srN s))), .int (bI (srB s)), .ref qwo], aI G qpg 22 (nF p), aZ G qfo 81 (bF fo), aI G qon 128 (nF (up (srO s) (srN s) q)), aI G qmn 128 (nF (up (srM s) (srN s) S)), aI G qpr 128 (srP s), aI G qle 128 (nF (srL s)), aZ G qst 128 (bF (ntF ((dropG F md (srO s) (srM s) q S (srG s) (srN s))))), aZ G qwt 128 (bF w)]) rfl dX11_come_119 ?_
          refine wc_aload_n X 120 0 dX11_come_120 rfl ?_
          refine wc_get X 121 0 23 kd11 rfl (by decide) q_788 rfl dX11_come_121 ?_
          refine wc_aload_n X 124 0 dX11_come_124 rfl ?_
          refine wc_get X 125 0 27 kd11 rfl (by decide) q_792 rfl dX11_come_125 ?_
          refine wc_iload X 128 4 dX11_come_128 rfl ?_
          refine wc_iastN X Y 130 5 rfl (by omega) (by decide) (ws' := [ob o 11 [.int th, .ref qtx, .int (nI ts), .int (nI pl), .ref qrp, .ref qpg, .ref qtr, .ref qbk, .int (nI dn), .ref qkp, .ref qik, .int (nI sn), .ref qsw, .ref qsi, .long sd, .ref qln, .ref qfm, .ref qby, .ref qwy, .int (nI wz), .ref qfo, .ref qon, .ref qmn, .ref qpr, .ref qle, .ref qst, .ref qwt, .int (nI (srN s)), .int (nI (srT s)), .int (nI (srA s)), .int (nI (dropC F md (srO s) (srM s) q S (srG s) (srD s) (srN s))), .int (bI (srB s)), .ref qwo], aI G qpg 22 (nF p), aZ G qfo 81 (bF fo), aI G qon 128 (nF (up (srO s) (srN s) q)), aI G qmn 128 (nF (up (srM s) (srN s) S)), aI G qpr 128 (upd (srP s) (srN s) pr), aI G qle 128 (nF (srL s)), aZ G qst 128 (bF (ntF ((dropG F md (srO s) (srM s) q S (srG s) (srN s))))), aZ G qwt 128 (bF w)]) rfl dX11_come_130 ?_
          refine wc_aload_n X 131 0 dX11_come_131 rfl ?_
          refine wc_get X 132 0 24 kd11 rfl (by decide) q_789 rfl dX11_come_132 ?_
          refine wc_aload_n X 135 0 dX11_come_135 rfl ?_
          refine wc_get X 136 0 27 kd11 rfl (by decide) q_792 rfl dX11_come_136 ?_
          refine wc_iload X 139 5 dX11_come_139 rfl ?_
          refine wc_iastG X Y 141 6 rfl (by omega) (by decide) (ws' := [ob o 11 [.int th, .ref qtx, .int (nI ts), .int (nI pl), .ref qrp, .ref qpg, .ref qtr, .ref qbk, .int (nI dn), .ref qkp, .ref qik, .int (nI sn), .ref qsw, .ref qsi, .long sd, .ref qln, .ref qfm, .ref qby, .ref qwy, .int (nI wz), .ref qfo, .ref qon, .ref qmn, .ref qpr, .ref qle, .ref qst, .ref qwt, .int (nI (srN s)), .int (nI (srT s)), .int (nI (srA s)), .int (nI (dropC F md (srO s) (srM s) q S (srG s) (srD s) (srN s))), .int (bI (srB s)), .ref qwo], aI G qpg 22 (nF p), aZ G qfo 81 (bF fo), aI G qon 128 (nF (up (srO s) (srN s) q)), aI G qmn 128 (nF (up (srM s) (srN s) S)), aI G qpr 128 (upd (srP s) (srN s) pr), aI G qle 128 (nF (up (srL s) (srN s) c)), aZ G qst 128 (bF (ntF ((dropG F md (srO s) (srM s) q S (srG s) (srN s))))), aZ G qwt 128 (bF w)]) rfl dX11_come_141 ?_
          refine wc_aload_n X 142 0 dX11_come_142 rfl ?_
          refine wc_get X 143 0 25 kd11 rfl (by decide) q_790 rfl dX11_come_143 ?_
          refine wc_aload_n X 146 0 dX11_come_146 rfl ?_
          refine wc_get X 147 0 27 kd11 rfl (by decide) q_792 rfl dX11_come_147 ?_
          refine wc_iconstN X 150 1 dX11_come_150 ?_
          refine wc_st (st' := [.int (b2i true), .int (nI (srN s)), .ref qst]) rfl ?_
          refine wc_zastG X Y 151 7 rfl (by omega) (by decide) (ws' := [ob o 11 [.int th, .ref qtx, .int (nI ts), .int (nI pl), .ref qrp, .ref qpg, .ref qtr, .ref qbk, .int (nI dn), .ref qkp, .ref qik, .int (nI sn), .ref qsw, .ref qsi, .long sd, .ref qln, .ref qfm, .ref qby, .ref qwy, .int (nI wz), .ref qfo, .ref qon, .ref qmn, .ref qpr, .ref qle, .ref qst, .ref qwt, .int (nI (srN s)), .int (nI (srT s)), .int (nI (srA s)), .int (nI (dropC F md (srO s) (srM s) q S (srG s) (srD s) (srN s))), .int (bI (srB s)), .ref qwo], aI G qpg 22 (nF p), aZ G qfo 81 (bF fo), aI G qon 128 (nF (up (srO s) (srN s) q)), aI G qmn 128 (nF (up (srM s) (srN s) S)), aI G qpr 128 (upd (srP s) (srN s) pr), aI G qle 128 (nF (up (srL s) (srN s) c)), aZ G qst 128 (bF (up (ntF ((dropG F md (srO s) (srM s) q S (srG s) (srN s)))) (srN s) true)), aZ G qwt 128 (bF w)]) rfl dX11_come_151 ?_
          refine wc_aload_n X 152 0 dX11_come_152 rfl ?_
          refine wc_get X 153 0 26 kd11 rfl (by decide) q_791 rfl dX11_come_153 ?_
          refine wc_aload_n X 156 0 dX11_come_156 rfl ?_
          refine wc_get X 157 0 27 kd11 rfl (by decide) q_792 rfl dX11_come_157 ?_
          refine wc_iconstN X 160 1 dX11_come_160 ?_
          refine wc_st (st' := [.int (b2i true), .int (nI (srN s)), .ref qwt]) rfl ?_
          refine wc_zastG X Y 161 8 rfl (by omega) (by decide) (ws' := [ob o 11 [.int th, .ref qtx, .int (nI ts), .int (nI pl), .ref qrp, .ref qpg, .ref qtr, .ref qbk, .int (nI dn), .ref qkp, .ref qik, .int (nI sn), .ref qsw, .ref qsi, .long sd, .ref qln, .ref qfm, .ref qby, .ref qwy, .int (nI wz), .ref qfo, .ref qon, .ref qmn, .ref qpr, .ref qle, .ref qst, .ref qwt, .int (nI (srN s)), .int (nI (srT s)), .int (nI (srA s)), .int (nI (dropC F md (srO s) (srM s) q S (srG s) (srD s) (srN s))), .int (bI (srB s)), .ref qwo], aI G qpg 22 (nF p), aZ G qfo 81 (bF fo), aI G qon 128 (nF (up (srO s) (srN s) q)), aI G qmn 128 (nF (up (srM s) (srN s) S)), aI G qpr 128 (upd (srP s) (srN s) pr), aI G qle 128 (nF (up (srL s) (srN s) c)), aZ G qst 128 (bF (up (ntF ((dropG F md (srO s) (srM s) q S (srG s) (srN s)))) (srN s) true)), aZ G qwt 128 (bF (up w (srN s) true))]) rfl dX11_come_161 ?_
          refine wc_aload_n X 162 0 dX11_come_162 rfl ?_
          refine wc_dup X 163 dX11_come_163 rfl ?_
          refine wc_get X 164 0 27 kd11 rfl (by decide) q_792 rfl dX11_come_164 ?_
          refine wc_iconstN X 167 1 dX11_come_167 ?_
          refine wc_iaddN X 168 dX11_come_168 ?_
          refine wc_put X Y 169 0 27 kd11 rfl (by decide) q_792 rfl rfl rfl (Nat.le_of_ble_eq_true rfl) (ws' := [ob o 11 [.int th, .ref qtx, .int (nI ts), .int (nI pl), .ref qrp, .ref qpg, .ref qtr, .ref qbk, .int (nI dn), .ref qkp, .ref qik, .int (nI sn), .ref qsw, .ref qsi, .long sd, .ref qln, .ref qfm, .ref qby, .ref qwy, .int (nI wz), .ref qfo, .ref qon, .ref qmn, .ref qpr, .ref qle, .ref qst, .ref qwt, .int (nI ((srN s) + 1)), .int (nI (srT s)), .int (nI (srA s)), .int (nI (dropC F md (srO s) (srM s) q S (srG s) (srD s) (srN s))), .int (bI (srB s)), .ref qwo], aI G qpg 22 (nF p), aZ G qfo 81 (bF fo), aI G qon 128 (nF (up (srO s) (srN s) q)), aI G qmn 128 (nF (up (srM s) (srN s) S)), aI G qpr 128 (upd (srP s) (srN s) pr), aI G qle 128 (nF (up (srL s) (srN s) c)), aZ G qst 128 (bF (up (ntF ((dropG F md (srO s) (srM s) q S (srG s) (srN s)))) (srN s) true)), aZ G qwt 128 (bF (up w (srN s) true))]) rfl dX11_come_169 ?_
          refine wc_aload_n X 172 0 dX11_come_172 rfl ?_
          refine wc_get X 173 0 5 kd11 rfl (by decide) q_770 rfl dX11_come_173 ?_
          refine wc_iconstN X 176 2 dX11_come_176 ?_
          refine wc_ialdG X 177 1 rfl (by decide) (by decide) dX11_come_177 ?_
          refine wc_iload_n X 178 2 dX11_come_178 rfl ?_
          refine wc_callS X 179 [] (c_X11_has l G (p 2) q (Nat.lt_trans (hr.2.2.2.2.1 _) (by decide)) (by omega)) ys_X11_has rfl q_916 ⟨rfl, rfl⟩ ⟨rfl, rfl⟩ ⟨rfl, rfl⟩ rfl rfl rfl dX11_come_179 ?_
          refine wc_if_eqB X 182 200 dX11_come_182 (by decide) (fun c182_7 => ?_) (fun c182_7 => ?_)
          ·
            refine wc_iconstN X 200 0 dX11_come_200 ?_
            refine wc_istore X 201 (L' := [(0, .ref o), (1, .int (nI md)), (2, .int (nI q)), (3, .int (nI S)), (4, .int pr), (5, .int (nI c)), (6, .int (nI 0))]) dX11_come_201 (by decide) rfl ?_
            refine wc_aload_n X 203 0 dX11_come_203 rfl ?_
            refine wc_iload X 204 6 dX11_come_204 rfl ?_
            refine wc_if_eqN X 206 218 dX11_come_206 (by decide) (by decide) (fun c206_8 => ?_) (fun c206_8 => ?_)
            ·
              refine wc_aload_n X 218 0 dX11_come_218 rfl ?_
              refine wc_get X 219 0 31 kd11 rfl (by decide) q_796 rfl dX11_come_219 ?_
              refine wc_put X Y 222 0 31 kd11 rfl (by decide) q_796 rfl rfl rfl (Nat.le_of_ble_eq_true rfl) (ws' := [ob o 11 [.int th, .ref qtx, .int (nI ts), .int (nI pl), .ref qrp, .ref qpg, .ref qtr, .ref qbk, .int (nI dn), .ref qkp, .ref qik, .int (nI sn), .ref qsw, .ref qsi, .long sd, .ref qln, .ref qfm, .ref qby, .ref qwy, .int (nI wz), .ref qfo, .ref qon, .ref qmn, .ref qpr, .ref qle, .ref qst, .ref qwt, .int (nI ((srN s) + 1)), .int (nI (srT s)), .int (nI (srA s)), .int (nI (dropC F md (srO s) (srM s) q S (srG s) (srD s) (srN s))), .int (bI (srB s)), .ref qwo], aI G qpg 22 (nF p), aZ G qfo 81 (bF fo), aI G qon 128 (nF (up (srO s) (srN s) q)), aI G qmn 128 (nF (up (srM s) (srN s) S)), aI G qpr 128 (upd (srP s) (srN s) pr), aI G qle 128 (nF (up (srL s) (srN s) c)), aZ G qst 128 (bF (up (ntF ((dropG F md (srO s) (srM s) q S (srG s) (srN s)))) (srN s) true)), aZ G qwt 128 (bF (up w (srN s) true))]) rfl dX11_come_222 ?_
              refine wc_iload X 225 6 dX11_come_225 rfl ?_
              refine wc_st (st' := [.int (b2i false)]) rfl ?_
              exact ret 227 _ false _ dX11_come_227 (⟨keepT F md s q S pr c (srB s), up w (srN s) true, by show _ = some (Value.int (b2i (srB s).isSome)); rw [hb0]; rfl, by rw [ntF_up2]; rfl, keep_ok hps (by rw [c182_7]; rfl), wt_keep hw2 hkk⟩)
            ·
              exact absurd c206_8 (by decide)
          ·
            refine wc_iload_n X 185 3 dX11_come_185 rfl ?_
            refine wc_aload_n X 186 0 dX11_come_186 rfl ?_
            refine wc_get X 187 0 5 kd11 rfl (by decide) q_770 rfl dX11_come_187 ?_
            refine wc_iconstN X 190 3 dX11_come_190 ?_
            refine wc_ialdG X 191 1 rfl (by decide) (by decide) dX11_come_191 ?_
            refine wc_iandN X 192 dX11_come_192 ?_
            refine wc_if_neN X 193 200 dX11_come_193 (by decide) (and_lt (Nat.lt_trans hS32 (by decide))) (fun c193_9 => ?_) (fun c193_9 => ?_)
            ·
              refine wc_iconstN X 200 0 dX11_come_200 ?_
              refine wc_istore X 201 (L' := [(0, .ref o), (1, .int (nI md)), (2, .int (nI q)), (3, .int (nI S)), (4, .int pr), (5, .int (nI c)), (6, .int (nI 0))]) dX11_come_201 (by decide) rfl ?_
              refine wc_aload_n X 203 0 dX11_come_203 rfl ?_
              refine wc_iload X 204 6 dX11_come_204 rfl ?_
              refine wc_if_eqN X 206 218 dX11_come_206 (by decide) (by decide) (fun c206_10 => ?_) (fun c206_10 => ?_)
              ·
                refine wc_aload_n X 218 0 dX11_come_218 rfl ?_
                refine wc_get X 219 0 31 kd11 rfl (by decide) q_796 rfl dX11_come_219 ?_
                refine wc_put X Y 222 0 31 kd11 rfl (by decide) q_796 rfl rfl rfl (Nat.le_of_ble_eq_true rfl) (ws' := [ob o 11 [.int th, .ref qtx, .int (nI ts), .int (nI pl), .ref qrp, .ref qpg, .ref qtr, .ref qbk, .int (nI dn), .ref qkp, .ref qik, .int (nI sn), .ref qsw, .ref qsi, .long sd, .ref qln, .ref qfm, .ref qby, .ref qwy, .int (nI wz), .ref qfo, .ref qon, .ref qmn, .ref qpr, .ref qle, .ref qst, .ref qwt, .int (nI ((srN s) + 1)), .int (nI (srT s)), .int (nI (srA s)), .int (nI (dropC F md (srO s) (srM s) q S (srG s) (srD s) (srN s))), .int (bI (srB s)), .ref qwo], aI G qpg 22 (nF p), aZ G qfo 81 (bF fo), aI G qon 128 (nF (up (srO s) (srN s) q)), aI G qmn 128 (nF (up (srM s) (srN s) S)), aI G qpr 128 (upd (srP s) (srN s) pr), aI G qle 128 (nF (up (srL s) (srN s) c)), aZ G qst 128 (bF (up (ntF ((dropG F md (srO s) (srM s) q S (srG s) (srN s)))) (srN s) true)), aZ G qwt 128 (bF (up w (srN s) true))]) rfl dX11_come_222 ?_
                refine wc_iload X 225 6 dX11_come_225 rfl ?_
                refine wc_st (st' := [.int (b2i false)]) rfl ?_
                exact ret 227 _ false _ dX11_come_227 (⟨keepT F md s q S pr c (srB s), up w (srN s) true, by show _ = some (Value.int (b2i (srB s).isSome)); rw [hb0]; rfl, by rw [ntF_up2]; rfl, keep_ok hps (by rw [c182_7]; simp [c193_9]), wt_keep hw2 hkk⟩)
              ·
                exact absurd c206_10 (by decide)
            ·
              refine wc_iconstN X 196 1 dX11_come_196 ?_
              refine wc_goto X 197 201 dX11_come_197 (by decide) ?_
              refine wc_istore X 201 (L' := [(0, .ref o), (1, .int (nI md)), (2, .int (nI q)), (3, .int (nI S)), (4, .int pr), (5, .int (nI c)), (6, .int (nI 1))]) dX11_come_201 (by decide) rfl ?_
              refine wc_aload_n X 203 0 dX11_come_203 rfl ?_
              refine wc_iload X 204 6 dX11_come_204 rfl ?_
              refine wc_if_eqN X 206 218 dX11_come_206 (by decide) (by decide) (fun c206_11 => ?_) (fun c206_11 => ?_)
              ·
                exact absurd c206_11 (by decide)
              ·
                refine wc_aload_n X 209 0 dX11_come_209 rfl ?_
                refine wc_get X 210 0 27 kd11 rfl (by decide) q_792 rfl dX11_come_210 ?_
                refine wc_iconstN X 213 1 dX11_come_213 ?_
                refine wc_isubN X 214 dX11_come_214 (by omega) ?_
                refine wc_goto X 215 222 dX11_come_215 (by decide) ?_
                refine wc_put X Y 222 0 31 kd11 rfl (by decide) q_796 rfl rfl rfl (Nat.le_of_ble_eq_true rfl) (ws' := [ob o 11 [.int th, .ref qtx, .int (nI ts), .int (nI pl), .ref qrp, .ref qpg, .ref qtr, .ref qbk, .int (nI dn), .ref qkp, .ref qik, .int (nI sn), .ref qsw, .ref qsi, .long sd, .ref qln, .ref qfm, .ref qby, .ref qwy, .int (nI wz), .ref qfo, .ref qon, .ref qmn, .ref qpr, .ref qle, .ref qst, .ref qwt, .int (nI ((srN s) + 1)), .int (nI (srT s)), .int (nI (srA s)), .int (nI (dropC F md (srO s) (srM s) q S (srG s) (srD s) (srN s))), .int (nI (((srN s) + 1) - 1)), .ref qwo], aI G qpg 22 (nF p), aZ G qfo 81 (bF fo), aI G qon 128 (nF (up (srO s) (srN s) q)), aI G qmn 128 (nF (up (srM s) (srN s) S)), aI G qpr 128 (upd (srP s) (srN s) pr), aI G qle 128 (nF (up (srL s) (srN s) c)), aZ G qst 128 (bF (up (ntF ((dropG F md (srO s) (srM s) q S (srG s) (srN s)))) (srN s) true)), aZ G qwt 128 (bF (up w (srN s) true))]) rfl dX11_come_222 ?_
                refine wc_iload X 225 6 dX11_come_225 rfl ?_
                refine wc_st (st' := [.int (b2i true)]) rfl ?_
                exact ret 227 _ true _ dX11_come_227 (⟨keepT F md s q S pr c (some (srN s)), up w (srN s) true, rfl, by rw [ntF_up2]; rfl, keep_bad hps (by rw [c182_7]; simp [c193_9]), wt_keep hw2 hkk⟩)
        ·
          refine wc_aload_n X 34 0 dX11_come_34 rfl ?_
          refine wc_get X 35 0 25 kd11 rfl (by decide) q_790 rfl dX11_come_35 ?_
          refine wc_iload X 38 6 dX11_come_38 rfl ?_
          refine wc_zaldG X 40 7 rfl (by omega) (by decide) dX11_come_40 ?_
          refine wc_if_eqB X 41 94 dX11_come_41 (by decide) (fun c41_12 => ?_) (fun c41_12 => ?_)
          ·
            refine wc_iincN X 94 6 (L' := [(0, .ref o), (1, .int (nI md)), (2, .int (nI q)), (3, .int (nI S)), (4, .int pr), (5, .int (nI c)), (6, .int (nI (i + 1)))]) dX11_come_94 rfl (by decide) rfl ?_
            refine wc_goto X 97 25 dX11_come_97 (by decide) ?_
            refine wc_L (L' := [(0, .ref o), (1, .int (nI md)), (2, .int (nI q)), (3, .int (nI S)), (4, .int pr), (5, .int (nI c)), (6, .int (nI (i + 1)))]) (by rfl) ?_
            exact ih_4 (i + 1) g d w (by omega) (dg_off hg (by rw [ntF_f c41_12]; rfl)) hw2 (by omega)
          ·
            refine wc_aload_n X 44 0 dX11_come_44 rfl ?_
            refine wc_iload_n X 45 1 dX11_come_45 rfl ?_
            refine wc_aload_n X 46 0 dX11_come_46 rfl ?_
            refine wc_get X 47 0 21 kd11 rfl (by decide) q_786 rfl dX11_come_47 ?_
            refine wc_iload X 50 6 dX11_come_50 rfl ?_
            refine wc_ialdG X 52 3 rfl (by omega) (by decide) dX11_come_52 ?_
            refine wc_aload_n X 53 0 dX11_come_53 rfl ?_
            refine wc_get X 54 0 22 kd11 rfl (by decide) q_787 rfl dX11_come_54 ?_
            refine wc_iload X 57 6 dX11_come_57 rfl ?_
            refine wc_ialdG X 59 4 rfl (by omega) (by decide) dX11_come_59 ?_
            refine wc_iload_n X 60 2 dX11_come_60 rfl ?_
            refine wc_iload_n X 61 3 dX11_come_61 rfl ?_
            refine wc_callV X 62 [0, 2] 0 (c_X11_isCovered l G o th qtx ts pl qrp qpg qtr qbk dn qkp qik sn qsw qsi sd qln qfm qby qwy wz qfo qon qmn qpr qle qst qwt (srN s) (srT s) (srA s) d (bI (srB s)) qwo fo F md ((srO s) i) ((srM s) i) q S (by first | assumption | omega) (by first | assumption | omega) (Inv_A hr.2.1 hr.2.2.2.1 hI _ (by omega)).1 (Inv_A hr.2.1 hr.2.2.2.1 hI _ (by omega)).2 hq4 hS32) yv_X11_isCovered kd11 rfl rfl q_1078 ⟨rfl, rfl⟩ ⟨rfl, rfl⟩ ⟨rfl, rfl⟩ rfl rfl rfl dX11_come_62 ?_
            refine wc_if_eqB X 65 94 dX11_come_65 (by decide) (fun c65_13 => ?_) (fun c65_13 => ?_)
            ·
              refine wc_iincN X 94 6 (L' := [(0, .ref o), (1, .int (nI md)), (2, .int (nI q)), (3, .int (nI S)), (4, .int pr), (5, .int (nI c)), (6, .int (nI (i + 1)))]) dX11_come_94 rfl (by decide) rfl ?_
              refine wc_goto X 97 25 dX11_come_97 (by decide) ?_
              refine wc_L (L' := [(0, .ref o), (1, .int (nI md)), (2, .int (nI q)), (3, .int (nI S)), (4, .int pr), (5, .int (nI c)), (6, .int (nI (i + 1)))]) (by rfl) ?_
              exact ih_4 (i + 1) g d w (by omega) (dg_off hg (by rw [c65_13, Bool.and_false])) hw2 (by omega)
            ·
              refine wc_aload_n X 68 0 dX11_come_68 rfl ?_
              refine wc_get X 69 0 25 kd11 rfl (by decide) q_790 rfl dX11_come_69 ?_
              refine wc_iload X 72 6 dX11_come_72 rfl ?_
              refine wc_iconstN X 74 0 dX11_come_74 ?_
              refine wc_st (st' := [.int (b2i false), .int (nI i), .ref qst]) rfl ?_
              refine wc_zastG X Y 75 7 rfl (by omega) (by decide) (ws' := [ob o 11 [.int th, .ref qtx, .int (nI ts), .int (nI pl), .ref qrp, .ref qpg, .ref qtr, .ref qbk, .int (nI dn), .ref qkp, .ref qik, .int (nI sn), .ref qsw, .ref qsi, .long sd, .ref qln, .ref qfm, .ref qby, .ref qwy, .int (nI wz), .ref qfo, .ref qon, .ref qmn, .ref qpr, .ref qle, .ref qst, .ref qwt, .int (nI (srN s)), .int (nI (srT s)), .int (nI (srA s)), .int (nI d), .int (bI (srB s)), .ref qwo], aI G qpg 22 (nF p), aZ G qfo 81 (bF fo), aI G qon 128 (nF (srO s)), aI G qmn 128 (nF (srM s)), aI G qpr 128 (srP s), aI G qle 128 (nF (srL s)), aZ G qst 128 (bF (up (ntF (g)) i false)), aZ G qwt 128 (bF w)]) rfl dX11_come_75 ?_
              refine wc_aload_n X 76 0 dX11_come_76 rfl ?_
              refine wc_get X 77 0 26 kd11 rfl (by decide) q_791 rfl dX11_come_77 ?_
              refine wc_iload X 80 6 dX11_come_80 rfl ?_
              refine wc_iconstN X 82 0 dX11_come_82 ?_
              refine wc_st (st' := [.int (b2i false), .int (nI i), .ref qwt]) rfl ?_
              refine wc_zastG X Y 83 8 rfl (by omega) (by decide) (ws' := [ob o 11 [.int th, .ref qtx, .int (nI ts), .int (nI pl), .ref qrp, .ref qpg, .ref qtr, .ref qbk, .int (nI dn), .ref qkp, .ref qik, .int (nI sn), .ref qsw, .ref qsi, .long sd, .ref qln, .ref qfm, .ref qby, .ref qwy, .int (nI wz), .ref qfo, .ref qon, .ref qmn, .ref qpr, .ref qle, .ref qst, .ref qwt, .int (nI (srN s)), .int (nI (srT s)), .int (nI (srA s)), .int (nI d), .int (bI (srB s)), .ref qwo], aI G qpg 22 (nF p), aZ G qfo 81 (bF fo), aI G qon 128 (nF (srO s)), aI G qmn 128 (nF (srM s)), aI G qpr 128 (srP s), aI G qle 128 (nF (srL s)), aZ G qst 128 (bF (up (ntF (g)) i false)), aZ G qwt 128 (bF (up w i false))]) rfl dX11_come_83 ?_
              refine wc_aload_n X 84 0 dX11_come_84 rfl ?_
              refine wc_dup X 85 dX11_come_85 rfl ?_
              refine wc_get X 86 0 30 kd11 rfl (by decide) q_795 rfl dX11_come_86 ?_
              refine wc_iconstN X 89 1 dX11_come_89 ?_
              refine wc_iaddN X 90 dX11_come_90 ?_
              refine wc_put X Y 91 0 30 kd11 rfl (by decide) q_795 rfl rfl rfl (Nat.le_of_ble_eq_true rfl) (ws' := [ob o 11 [.int th, .ref qtx, .int (nI ts), .int (nI pl), .ref qrp, .ref qpg, .ref qtr, .ref qbk, .int (nI dn), .ref qkp, .ref qik, .int (nI sn), .ref qsw, .ref qsi, .long sd, .ref qln, .ref qfm, .ref qby, .ref qwy, .int (nI wz), .ref qfo, .ref qon, .ref qmn, .ref qpr, .ref qle, .ref qst, .ref qwt, .int (nI (srN s)), .int (nI (srT s)), .int (nI (srA s)), .int (nI (d + 1)), .int (bI (srB s)), .ref qwo], aI G qpg 22 (nF p), aZ G qfo 81 (bF fo), aI G qon 128 (nF (srO s)), aI G qmn 128 (nF (srM s)), aI G qpr 128 (srP s), aI G qle 128 (nF (srL s)), aZ G qst 128 (bF (up (ntF (g)) i false)), aZ G qwt 128 (bF (up w i false))]) rfl dX11_come_91 ?_
              refine wc_iincN X 94 6 (L' := [(0, .ref o), (1, .int (nI md)), (2, .int (nI q)), (3, .int (nI S)), (4, .int pr), (5, .int (nI c)), (6, .int (nI (i + 1)))]) dX11_come_94 rfl (by decide) rfl ?_
              refine wc_goto X 97 25 dX11_come_97 (by decide) ?_
              refine wc_L (L' := [(0, .ref o), (1, .int (nI md)), (2, .int (nI q)), (3, .int (nI S)), (4, .int pr), (5, .int (nI c)), (6, .int (nI (i + 1)))]) (by rfl) ?_
              refine wc_ws (ws' := [ob o 11 [.int th, .ref qtx, .int (nI ts), .int (nI pl), .ref qrp, .ref qpg, .ref qtr, .ref qbk, .int (nI dn), .ref qkp, .ref qik, .int (nI sn), .ref qsw, .ref qsi, .long sd, .ref qln, .ref qfm, .ref qby, .ref qwy, .int (nI wz), .ref qfo, .ref qon, .ref qmn, .ref qpr, .ref qle, .ref qst, .ref qwt, .int (nI (srN s)), .int (nI (srT s)), .int (nI (srA s)), .int (nI (d + 1)), .int (bI (srB s)), .ref qwo], aI G qpg 22 (nF p), aZ G qfo 81 (bF fo), aI G qon 128 (nF (srO s)), aI G qmn 128 (nF (srM s)), aI G qpr 128 (srP s), aI G qle 128 (nF (srL s)), aZ G qst 128 (bF (ntF ((up g i true)))), aZ G qwt 128 (bF (up w i false))]) (by rw [ntF_up]) ?_
              exact ih_4 (i + 1) (up g i true) (d + 1) (up w i false) (by omega) (dg_on hg (ntF_t c41_12) c65_13) (wt_off hw2) (by omega)
    refine wc_ws (ws' := [ob o 11 [.int th, .ref qtx, .int (nI ts), .int (nI pl), .ref qrp, .ref qpg, .ref qtr, .ref qbk, .int (nI dn), .ref qkp, .ref qik, .int (nI sn), .ref qsw, .ref qsi, .long sd, .ref qln, .ref qfm, .ref qby, .ref qwy, .int (nI wz), .ref qfo, .ref qon, .ref qmn, .ref qpr, .ref qle, .ref qst, .ref qwt, .int (nI (srN s)), .int (nI (srT s)), .int (nI (srA s)), .int (nI (srD s)), .int (bI (srB s)), .ref qwo], aI G qpg 22 (nF p), aZ G qfo 81 (bF fo), aI G qon 128 (nF (srO s)), aI G qmn 128 (nF (srM s)), aI G qpr 128 (srP s), aI G qle 128 (nF (srL s)), aZ G qst 128 (bF (ntF ((srG s)))), aZ G qwt 128 (bF wt)]) (rfl) ?_
    exact LP_3 (128 - 0 + 1) 0 (srG s) (srD s) wt (by omega) ⟨rfl, rfl⟩ hw (Nat.lt_succ_self _)
  ·
    refine wc_aload_n X 10 0 dX11_come_10 rfl ?_
    refine wc_dup X 11 dX11_come_11 rfl ?_
    refine wc_get X 12 0 29 kd11 rfl (by decide) q_794 rfl dX11_come_12 ?_
    refine wc_iconstN X 15 1 dX11_come_15 ?_
    refine wc_iaddN X 16 dX11_come_16 ?_
    refine wc_put X Y 17 0 29 kd11 rfl (by decide) q_794 rfl rfl rfl (Nat.le_of_ble_eq_true rfl) (ws' := [ob o 11 [.int th, .ref qtx, .int (nI ts), .int (nI pl), .ref qrp, .ref qpg, .ref qtr, .ref qbk, .int (nI dn), .ref qkp, .ref qik, .int (nI sn), .ref qsw, .ref qsi, .long sd, .ref qln, .ref qfm, .ref qby, .ref qwy, .int (nI wz), .ref qfo, .ref qon, .ref qmn, .ref qpr, .ref qle, .ref qst, .ref qwt, .int (nI (srN s)), .int (nI (srT s)), .int (nI ((srA s) + 1)), .int (nI (srD s)), .int (bI (srB s)), .ref qwo], aI G qpg 22 (nF p), aZ G qfo 81 (bF fo), aI G qon 128 (nF (srO s)), aI G qmn 128 (nF (srM s)), aI G qpr 128 (srP s), aI G qle 128 (nF (srL s)), aZ G qst 128 (bF (ntF (srG s))), aZ G qwt 128 (bF wt)]) rfl dX11_come_17 ?_
    refine wc_iconstN X 20 0 dX11_come_20 ?_
    refine wc_st (st' := [.int (b2i false)]) rfl ?_
    exact ret 21 _ false _ dX11_come_21 (⟨paS s, wt, by show _ = some (Value.int (b2i (srB s).isSome)); rw [hb0]; rfl, rfl, (come_p c7_1).symm, hw⟩)

set_option maxHeartbeats 4000000 in
set_option maxRecDepth 100000 in
theorem c_X11_firstWaiting (l : Launch) (G : GG) (o : Nat) (th : Int32) (qtx ts pl qrp qpg qtr qbk dn qkp qik sn qsw qsi : Nat) (sd : Int64) (qln qfm qby qwy wz qfo qon qmn qpr qle qst qwt qwo : Nat) (s : Sr) (wt : Nat → Bool) (hn : srN s ≤ 128) : MM l G yX11_firstWaiting (Cond.code yX11_firstWaiting cX11_firstWaiting 3 (some .int)) { frames := 0, cells := 0, slots := 0, locals := 0 } [.ref o] [ob o 11 [.int th, .ref qtx, .int (nI ts), .int (nI pl), .ref qrp, .ref qpg, .ref qtr, .ref qbk, .int (nI dn), .ref qkp, .ref qik, .int (nI sn), .ref qsw, .ref qsi, .long sd, .ref qln, .ref qfm, .ref qby, .ref qwy, .int (nI wz), .ref qfo, .ref qon, .ref qmn, .ref qpr, .ref qle, .ref qst, .ref qwt, .int (nI (srN s)), .int (nI (srT s)), .int (nI (srA s)), .int (nI (srD s)), .int (bI (srB s)), .ref qwo], aZ G qwt 128 (bF wt)] (fun (v : Option Value) (w : va_W) => ∃ (f : Option Nat), v = some (.int (bI f)) ∧ w = [ob o 11 [.int th, .ref qtx, .int (nI ts), .int (nI pl), .ref qrp, .ref qpg, .ref qtr, .ref qbk, .int (nI dn), .ref qkp, .ref qik, .int (nI sn), .ref qsw, .ref qsi, .long sd, .ref qln, .ref qfm, .ref qby, .ref qwy, .int (nI wz), .ref qfo, .ref qon, .ref qmn, .ref qpr, .ref qle, .ref qst, .ref qwt, .int (nI (srN s)), .int (nI (srT s)), .int (nI (srA s)), .int (nI (srD s)), .int (bI (srB s)), .ref qwo], aZ G qwt 128 (bF wt)] ∧ FW wt 0 (srN s) f) 0 0 := by
  refine MM.ofI (by decide) rfl (fun Γ X Y hnm ret => ?_)
  show Wc Γ 0 0 0 [(0, .ref o)] [] [ob o 11 [.int th, .ref qtx, .int (nI ts), .int (nI pl), .ref qrp, .ref qpg, .ref qtr, .ref qbk, .int (nI dn), .ref qkp, .ref qik, .int (nI sn), .ref qsw, .ref qsi, .long sd, .ref qln, .ref qfm, .ref qby, .ref qwy, .int (nI wz), .ref qfo, .ref qon, .ref qmn, .ref qpr, .ref qle, .ref qst, .ref qwt, .int (nI (srN s)), .int (nI (srT s)), .int (nI (srA s)), .int (nI (srD s)), .int (bI (srB s)), .ref qwo], aZ G qwt 128 (bF wt)]
  refine wc_bipush X 0 (-9) dX11_firstWaiting_0 (by decide) ?_
  refine wc_istore_n X 2 (L' := [(0, .ref o), (1, .int (-9))]) dX11_firstWaiting_2 (by decide) rfl ?_
  refine wc_aload_n X 3 0 dX11_firstWaiting_3 rfl ?_
  refine wc_get X 4 0 27 kd11 rfl (by decide) q_792 rfl dX11_firstWaiting_4 ?_
  refine wc_iconst X 7 (1) dX11_firstWaiting_7 (by decide) ?_
  refine wc_isub X 8 dX11_firstWaiting_8 ?_
  refine wc_istore_n X 9 (L' := [(0, .ref o), (1, .int (-9)), (2, .int ((nI (srN s)) - (1)))]) dX11_firstWaiting_9 (by decide) rfl ?_
  have LP_2 : ∀ (fuel_1 : Nat) (i : Nat) (f : Option Nat), (i ≤ srN s) → (FW wt i (srN s) f) → i < fuel_1 → Wc Γ 0 0 10 [(0, .ref o), (1, .int (bI f)), (2, .int (nI i - 1))] [] [ob o 11 [.int th, .ref qtx, .int (nI ts), .int (nI pl), .ref qrp, .ref qpg, .ref qtr, .ref qbk, .int (nI dn), .ref qkp, .ref qik, .int (nI sn), .ref qsw, .ref qsi, .long sd, .ref qln, .ref qfm, .ref qby, .ref qwy, .int (nI wz), .ref qfo, .ref qon, .ref qmn, .ref qpr, .ref qle, .ref qst, .ref qwt, .int (nI (srN s)), .int (nI (srT s)), .int (nI (srA s)), .int (nI (srD s)), .int (bI (srB s)), .ref qwo], aZ G qwt 128 (bF wt)] := by
    intro fuel_1
    induction fuel_1 with
    | zero => intro i f hi hf hm; exact absurd hm (Nat.not_lt_zero _)
    | succ fuel_1 ih_3 =>
      intro i f hi hf hm_4
      refine wc_iload_n X 10 2 dX11_firstWaiting_10 rfl ?_
      refine wc_if_lt X 11 35 dX11_firstWaiting_11 (by decide) (fun c11_5 => ?_) (fun c11_5 => ?_)
      ·
        have hi0 := nI_m1_0 (by omega) c11_5
        refine wc_iload_n X 35 1 dX11_firstWaiting_35 rfl ?_
        exact ret 36 _ (bI f) _ dX11_firstWaiting_36 (⟨f, rfl, rfl, by rw [hi0] at hf; exact hf⟩)
      ·
        obtain ⟨i1, rfl⟩ := nI_m1_s c11_5
        refine wc_L (L' := [(0, .ref o), (1, .int (bI f)), (2, .int (nI i1))]) (by rw [nI_pred]) ?_
        refine wc_aload_n X 14 0 dX11_firstWaiting_14 rfl ?_
        refine wc_get X 15 0 26 kd11 rfl (by decide) q_791 rfl dX11_firstWaiting_15 ?_
        refine wc_iload_n X 18 2 dX11_firstWaiting_18 rfl ?_
        refine wc_zaldG X 19 1 rfl (by omega) (by decide) dX11_firstWaiting_19 ?_
        refine wc_if_eqB X 20 27 dX11_firstWaiting_20 (by decide) (fun c20_6 => ?_) (fun c20_6 => ?_)
        ·
          refine wc_iload_n X 27 1 dX11_firstWaiting_27 rfl ?_
          refine wc_istore_n X 28 (L' := [(0, .ref o), (1, .int (bI f)), (2, .int (nI i1))]) dX11_firstWaiting_28 (by decide) rfl ?_
          refine wc_iinc X 29 2 (L' := [(0, .ref o), (1, .int (bI f)), (2, .int (nI i1 + (-1)))]) dX11_firstWaiting_29 rfl rfl (by decide) rfl ?_
          refine wc_goto X 32 10 dX11_firstWaiting_32 (by decide) ?_
          have e_7 : (nI i1 + (-1)) = nI i1 - 1 := by rw [Int32.sub_eq_add_neg]
          refine wc_L (L' := [(0, .ref o), (1, .int (bI f)), (2, .int (nI i1 - 1))]) (by first | (rw [e_7]; done) | (rw [e_7]; rfl) | rfl) ?_
          exact ih_3 i1 f (by omega) (FW_off hf c20_6) (by omega)
        ·
          refine wc_iload_n X 23 2 dX11_firstWaiting_23 rfl ?_
          refine wc_goto X 24 28 dX11_firstWaiting_24 (by decide) ?_
          refine wc_istore_n X 28 (L' := [(0, .ref o), (1, .int (nI i1)), (2, .int (nI i1))]) dX11_firstWaiting_28 (by decide) rfl ?_
          refine wc_iinc X 29 2 (L' := [(0, .ref o), (1, .int (nI i1)), (2, .int (nI i1 + (-1)))]) dX11_firstWaiting_29 rfl rfl (by decide) rfl ?_
          refine wc_goto X 32 10 dX11_firstWaiting_32 (by decide) ?_
          have e_8 : (.int (nI i1) : Value) = .int (bI (some i1)) := rfl
          have e_9 : (nI i1 + (-1)) = nI i1 - 1 := by rw [Int32.sub_eq_add_neg]
          refine wc_L (L' := [(0, .ref o), (1, .int (bI (some i1))), (2, .int (nI i1 - 1))]) (by first | (rw [e_8, e_9]; done) | (rw [e_8, e_9]; rfl) | rfl) ?_
          exact ih_3 i1 (some i1) (by omega) (FW_on (by omega) c20_6) (by omega)
  have e_10 : (-9) = bI none := rfl
  have e_11 : (nI (srN s)) - (1) = nI (srN s) - 1 := rfl
  refine wc_L (L' := [(0, .ref o), (1, .int (bI none)), (2, .int (nI (srN s) - 1))]) (by first | (rw [e_10, e_11]; done) | (rw [e_10, e_11]; rfl) | rfl) ?_
  exact LP_2 ((srN s) + 1) (srN s) none (Nat.le_refl _) FW_0 (Nat.lt_succ_self _)

set_option maxHeartbeats 4000000 in
set_option maxRecDepth 100000 in
theorem c_X11_take (l : Launch) (G : GG) (o : Nat) (th : Int32) (qtx ts pl qrp qpg qtr qbk dn qkp qik sn qsw qsi : Nat) (sd : Int64) (qln qfm qby qwy wz qfo qon qmn qpr qle qst qwt qwo : Nat) (fo : Nat → Bool) (F : Nat → Nat → Bool) (md : Nat) (s : Sr) (wt : Nat → Bool) (k : Nat) (p : Nat → Nat) (hF : ∀ x y, x < 9 → y < 9 → fo (9 * x + y) = F x y) (hmd : md ≤ 2) (hr : pgOk p) (hC : Cvr F (p 0) (p 1)) (hI : Inv F md (p 0) (p 1) s) (hb0 : srB s = none) (hk : k < srN s) (hw : ∀ j, j < srN s → wt j = (decide (k ≤ j) && !srG s j)) : MM l G yX11_take (Cond.code yX11_take cX11_take 8 (some .boolean)) { frames := 6, cells := 0, slots := 0, locals := 145 } [.ref o, .int (nI md), .int (nI k)] [ob o 11 [.int th, .ref qtx, .int (nI ts), .int (nI pl), .ref qrp, .ref qpg, .ref qtr, .ref qbk, .int (nI dn), .ref qkp, .ref qik, .int (nI sn), .ref qsw, .ref qsi, .long sd, .ref qln, .ref qfm, .ref qby, .ref qwy, .int (nI wz), .ref qfo, .ref qon, .ref qmn, .ref qpr, .ref qle, .ref qst, .ref qwt, .int (nI (srN s)), .int (nI (srT s)), .int (nI (srA s)), .int (nI (srD s)), .int (bI (srB s)), .ref qwo], aI G qpg 22 (nF p), aZ G qfo 81 (bF fo), aI G qon 128 (nF (srO s)), aI G qmn 128 (nF (srM s)), aI G qpr 128 (srP s), aI G qle 128 (nF (srL s)), aZ G qst 128 (bF (ntF (srG s))), aZ G qwt 128 (bF wt)] (fun (v : Option Value) (w : va_W) => ∃ (s2 : Sr) (wt2 : Nat → Bool), v = some (.int (b2i ((srB s2).isSome))) ∧ w = [ob o 11 [.int th, .ref qtx, .int (nI ts), .int (nI pl), .ref qrp, .ref qpg, .ref qtr, .ref qbk, .int (nI dn), .ref qkp, .ref qik, .int (nI sn), .ref qsw, .ref qsi, .long sd, .ref qln, .ref qfm, .ref qby, .ref qwy, .int (nI wz), .ref qfo, .ref qon, .ref qmn, .ref qpr, .ref qle, .ref qst, .ref qwt, .int (nI (srN s2)), .int (nI (srT s2)), .int (nI (srA s2)), .int (nI (srD s2)), .int (bI (srB s2)), .ref qwo], aI G qpg 22 (nF p), aZ G qfo 81 (bF fo), aI G qon 128 (nF (srO s2)), aI G qmn 128 (nF (srM s2)), aI G qpr 128 (srP s2), aI G qle 128 (nF (srL s2)), aZ G qst 128 (bF (ntF (srG s2))), aZ G qwt 128 (bF wt2)] ∧ s2 = goS F md (p 2) (p 3) (gz p) (go p) (p 1) (srO s k) (srM s k) k (tkS s) 8 ∧ (∀ j, j < srN s2 → wt2 j = (decide (k + 1 ≤ j) && !srG s2 j))) 0 0 := by
  refine MM.ofZ (by decide) rfl (fun Γ X Y hnm ret => ?_)
  show Wc Γ 0 0 0 [(0, .ref o), (1, .int (nI md)), (2, .int (nI k))] [] [ob o 11 [.int th, .ref qtx, .int (nI ts), .int (nI pl), .ref qrp, .ref qpg, .ref qtr, .ref qbk, .int (nI dn), .ref qkp, .ref qik, .int (nI sn), .ref qsw, .ref qsi, .long sd, .ref qln, .ref qfm, .ref qby, .ref qwy, .int (nI wz), .ref qfo, .ref qon, .ref qmn, .ref qpr, .ref qle, .ref qst, .ref qwt, .int (nI (srN s)), .int (nI (srT s)), .int (nI (srA s)), .int (nI (srD s)), .int (bI (srB s)), .ref qwo], aI G qpg 22 (nF p), aZ G qfo 81 (bF fo), aI G qon 128 (nF (srO s)), aI G qmn 128 (nF (srM s)), aI G qpr 128 (srP s), aI G qle 128 (nF (srL s)), aZ G qst 128 (bF (ntF (srG s))), aZ G qwt 128 (bF wt)]
  have hN := Inv_le hr.2.1 hr.2.2.2.1 hI
  have hO := (hI.1 k hk).1
  have hM := pw5 hr.2.2.2.1 (hI.1 k hk).2.1
  have hn04 := hr.2.1
  refine wc_aload_n X 0 0 dX11_take_0 rfl ?_
  refine wc_get X 1 0 26 kd11 rfl (by decide) q_791 rfl dX11_take_1 ?_
  refine wc_iload_n X 4 2 dX11_take_4 rfl ?_
  refine wc_iconstN X 5 0 dX11_take_5 ?_
  refine wc_st (st' := [.int (b2i false), .int (nI k), .ref qwt]) rfl ?_
  refine wc_zastG X Y 6 8 rfl (by omega) (by decide) (ws' := [ob o 11 [.int th, .ref qtx, .int (nI ts), .int (nI pl), .ref qrp, .ref qpg, .ref qtr, .ref qbk, .int (nI dn), .ref qkp, .ref qik, .int (nI sn), .ref qsw, .ref qsi, .long sd, .ref qln, .ref qfm, .ref qby, .ref qwy, .int (nI wz), .ref qfo, .ref qon, .ref qmn, .ref qpr, .ref qle, .ref qst, .ref qwt, .int (nI (srN s)), .int (nI (srT s)), .int (nI (srA s)), .int (nI (srD s)), .int (bI (srB s)), .ref qwo], aI G qpg 22 (nF p), aZ G qfo 81 (bF fo), aI G qon 128 (nF (srO s)), aI G qmn 128 (nF (srM s)), aI G qpr 128 (srP s), aI G qle 128 (nF (srL s)), aZ G qst 128 (bF (ntF (srG s))), aZ G qwt 128 (bF (up wt k false))]) rfl dX11_take_6 ?_
  refine wc_aload_n X 7 0 dX11_take_7 rfl ?_
  refine wc_dup X 8 dX11_take_8 rfl ?_
  refine wc_get X 9 0 28 kd11 rfl (by decide) q_793 rfl dX11_take_9 ?_
  refine wc_iconstN X 12 1 dX11_take_12 ?_
  refine wc_iaddN X 13 dX11_take_13 ?_
  refine wc_put X Y 14 0 28 kd11 rfl (by decide) q_793 rfl rfl rfl (Nat.le_of_ble_eq_true rfl) (ws' := [ob o 11 [.int th, .ref qtx, .int (nI ts), .int (nI pl), .ref qrp, .ref qpg, .ref qtr, .ref qbk, .int (nI dn), .ref qkp, .ref qik, .int (nI sn), .ref qsw, .ref qsi, .long sd, .ref qln, .ref qfm, .ref qby, .ref qwy, .int (nI wz), .ref qfo, .ref qon, .ref qmn, .ref qpr, .ref qle, .ref qst, .ref qwt, .int (nI (srN s)), .int (nI ((srT s) + 1)), .int (nI (srA s)), .int (nI (srD s)), .int (bI (srB s)), .ref qwo], aI G qpg 22 (nF p), aZ G qfo 81 (bF fo), aI G qon 128 (nF (srO s)), aI G qmn 128 (nF (srM s)), aI G qpr 128 (srP s), aI G qle 128 (nF (srL s)), aZ G qst 128 (bF (ntF (srG s))), aZ G qwt 128 (bF (up wt k false))]) rfl dX11_take_14 ?_
  refine wc_aload_n X 17 0 dX11_take_17 rfl ?_
  refine wc_get X 18 0 21 kd11 rfl (by decide) q_786 rfl dX11_take_18 ?_
  refine wc_iload_n X 21 2 dX11_take_21 rfl ?_
  refine wc_ialdG X 22 3 rfl (by omega) (by decide) dX11_take_22 ?_
  refine wc_istore_n X 23 (L' := [(0, .ref o), (1, .int (nI md)), (2, .int (nI k)), (3, .int (nI ((srO s) k)))]) dX11_take_23 (by decide) rfl ?_
  refine wc_aload_n X 24 0 dX11_take_24 rfl ?_
  refine wc_get X 25 0 22 kd11 rfl (by decide) q_787 rfl dX11_take_25 ?_
  refine wc_iload_n X 28 2 dX11_take_28 rfl ?_
  refine wc_ialdG X 29 4 rfl (by omega) (by decide) dX11_take_29 ?_
  refine wc_istore X 30 (L' := [(0, .ref o), (1, .int (nI md)), (2, .int (nI k)), (3, .int (nI ((srO s) k))), (4, .int (nI ((srM s) k)))]) dX11_take_30 (by decide) rfl ?_
  refine wc_iconstN X 32 1 dX11_take_32 ?_
  refine wc_istore X 33 (L' := [(0, .ref o), (1, .int (nI md)), (2, .int (nI k)), (3, .int (nI ((srO s) k))), (4, .int (nI ((srM s) k))), (5, .int (nI 1))]) dX11_take_33 (by decide) rfl ?_
  have LP_2 : ∀ (fuel_1 : Nat) (c : Nat) (t : Sr) (w : Nat → Bool), (1 ≤ c) → (c ≤ 3) → (t = goS F md (p 2) (p 3) (gz p) (go p) (p 1) (srO s k) (srM s k) k (tkS s) (4 * (c - 1))) → (srB t = none) → (∀ j, j < srN t → w j = (decide (k + 1 ≤ j) && !srG t j)) → 3 - c < fuel_1 → Wc Γ 0 0 35 [(0, .ref o), (1, .int (nI md)), (2, .int (nI k)), (3, .int (nI ((srO s) k))), (4, .int (nI ((srM s) k))), (5, .int (nI c))] [] [ob o 11 [.int th, .ref qtx, .int (nI ts), .int (nI pl), .ref qrp, .ref qpg, .ref qtr, .ref qbk, .int (nI dn), .ref qkp, .ref qik, .int (nI sn), .ref qsw, .ref qsi, .long sd, .ref qln, .ref qfm, .ref qby, .ref qwy, .int (nI wz), .ref qfo, .ref qon, .ref qmn, .ref qpr, .ref qle, .ref qst, .ref qwt, .int (nI (srN t)), .int (nI (srT t)), .int (nI (srA t)), .int (nI (srD t)), .int (bI (srB t)), .ref qwo], aI G qpg 22 (nF p), aZ G qfo 81 (bF fo), aI G qon 128 (nF (srO t)), aI G qmn 128 (nF (srM t)), aI G qpr 128 (srP t), aI G qle 128 (nF (srL t)), aZ G qst 128 (bF (ntF (srG t))), aZ G qwt 128 (bF w)] := by
    intro fuel_1
    induction fuel_1 with
    | zero => intro c t w hc1 hc3 ht htb htw hm; exact absurd hm (Nat.not_lt_zero _)
    | succ fuel_1 ih_3 =>
      intro c t w hc1 hc3 ht htb htw hm_4
      refine wc_iload X 35 5 dX11_take_35 rfl ?_
      refine wc_iconstN X 37 3 dX11_take_37 ?_
      refine wc_icmp_geN X 38 118 dX11_take_38 (by decide) (by omega) (by decide) (fun c38_5 => ?_) (fun c38_5 => ?_)
      ·
        refine wc_iconstN X 118 0 dX11_take_118 ?_
        refine wc_st (st' := [.int (b2i false)]) rfl ?_
        exact ret 119 _ false _ dX11_take_119 (⟨t, w, by rw [htb]; rfl, rfl, by rw [ht, show c = 3 by omega], htw⟩)
      ·
        refine wc_aload_n X 41 0 dX11_take_41 rfl ?_
        refine wc_get X 42 0 5 kd11 rfl (by decide) q_770 rfl dX11_take_42 ?_
        refine wc_iconstN X 45 1 dX11_take_45 ?_
        refine wc_iload X 46 4 dX11_take_46 rfl ?_
        refine wc_iload X 48 5 dX11_take_48 rfl ?_
        refine wc_callS X 50 [1] (c_X11_lead l G qpg p 1 ((srM s) k) c hr.2.1 hr.2.2.2.1 hr.2.2.2.2.1 (by decide) hM (by first | assumption | omega) (by omega)) ys_X11_lead rfl q_985 ⟨rfl, rfl⟩ ⟨rfl, rfl⟩ ⟨rfl, rfl⟩ rfl rfl rfl dX11_take_50 ?_
        refine wc_topi (nI (stepN (go p) (srM s k) c (p 1))) (congrArg nI (rfl)) ?_
        refine wc_istore X 53 (L' := [(0, .ref o), (1, .int (nI md)), (2, .int (nI k)), (3, .int (nI ((srO s) k))), (4, .int (nI ((srM s) k))), (5, .int (nI c)), (6, .int (nI (stepN (go p) (srM s k) c (p 1))))]) dX11_take_53 (by decide) rfl ?_
        refine wc_iconstN X 55 0 dX11_take_55 ?_
        refine wc_istore X 56 (L' := [(0, .ref o), (1, .int (nI md)), (2, .int (nI k)), (3, .int (nI ((srO s) k))), (4, .int (nI ((srM s) k))), (5, .int (nI c)), (6, .int (nI (stepN (go p) (srM s k) c (p 1)))), (7, .int (nI 0))]) dX11_take_56 (by decide) rfl ?_
        have LP_7 : ∀ (fuel_6 : Nat) (q : Nat) (u : Sr) (w2 : Nat → Bool), (q ≤ p 0) → (u = goS F md (p 2) (p 3) (gz p) (go p) (p 1) (srO s k) (srM s k) k (tkS s) (4 * (c - 1) + q)) → (srB u = none) → (∀ j, j < srN u → w2 j = (decide (k + 1 ≤ j) && !srG u j)) → p 0 - q < fuel_6 → Wc Γ 0 0 58 [(0, .ref o), (1, .int (nI md)), (2, .int (nI k)), (3, .int (nI ((srO s) k))), (4, .int (nI ((srM s) k))), (5, .int (nI c)), (6, .int (nI (stepN (go p) (srM s k) c (p 1)))), (7, .int (nI q))] [] [ob o 11 [.int th, .ref qtx, .int (nI ts), .int (nI pl), .ref qrp, .ref qpg, .ref qtr, .ref qbk, .int (nI dn), .ref qkp, .ref qik, .int (nI sn), .ref qsw, .ref qsi, .long sd, .ref qln, .ref qfm, .ref qby, .ref qwy, .int (nI wz), .ref qfo, .ref qon, .ref qmn, .ref qpr, .ref qle, .ref qst, .ref qwt, .int (nI (srN u)), .int (nI (srT u)), .int (nI (srA u)), .int (nI (srD u)), .int (bI (srB u)), .ref qwo], aI G qpg 22 (nF p), aZ G qfo 81 (bF fo), aI G qon 128 (nF (srO u)), aI G qmn 128 (nF (srM u)), aI G qpr 128 (srP u), aI G qle 128 (nF (srL u)), aZ G qst 128 (bF (ntF (srG u))), aZ G qwt 128 (bF w2)] := by
          intro fuel_6
          induction fuel_6 with
          | zero => intro q u w2 hq4 hu hub huw hm; exact absurd hm (Nat.not_lt_zero _)
          | succ fuel_6 ih_8 =>
            intro q u w2 hq4 hu hub huw hm_9
            have hiu : Inv F md (p 0) (p 1) u ∧ srN (tkS s) ≤ srN u ∧ ∀ j, j < srN (tkS s) → srO u j = srO (tkS s) j ∧ srM u j = srM (tkS s) j := by rw [hu]; exact goS_inv hC hr.2.2.2.1 (s := tkS s) hI hk (hr.2.2.2.2.2.2.1 0 (by decide)) (hr.2.2.2.2.2.2.1 1 (by decide)) _ (by omega)
            refine wc_iload X 58 7 dX11_take_58 rfl ?_
            refine wc_aload_n X 60 0 dX11_take_60 rfl ?_
            refine wc_get X 61 0 5 kd11 rfl (by decide) q_770 rfl dX11_take_61 ?_
            refine wc_iconstN X 64 0 dX11_take_64 ?_
            refine wc_ialdG X 65 1 rfl (by decide) (by decide) dX11_take_65 ?_
            refine wc_icmp_geN X 66 112 dX11_take_66 (by decide) (by omega) (by omega) (fun c66_10 => ?_) (fun c66_10 => ?_)
            ·
              refine wc_iincN X 112 5 (L' := [(0, .ref o), (1, .int (nI md)), (2, .int (nI k)), (3, .int (nI ((srO s) k))), (4, .int (nI ((srM s) k))), (5, .int (nI (c + 1))), (6, .int (nI (stepN (go p) (srM s k) c (p 1)))), (7, .int (nI q))]) dX11_take_112 rfl (by decide) rfl ?_
              refine wc_goto X 115 35 dX11_take_115 (by decide) ?_
              refine wc_loc [0, 1, 2, 3, 4, 5] (L' := [(0, .ref o), (1, .int (nI md)), (2, .int (nI k)), (3, .int (nI ((srO s) k))), (4, .int (nI ((srM s) k))), (5, .int (nI (c + 1)))]) rfl ?_
              refine wc_L (L' := [(0, .ref o), (1, .int (nI md)), (2, .int (nI k)), (3, .int (nI ((srO s) k))), (4, .int (nI ((srM s) k))), (5, .int (nI (c + 1)))]) (by rfl) ?_
              exact ih_3 (c + 1) u w2 (by omega) (by omega) (go_skip hr.2.1 (hr.2.2.2.2.2.2.1 0 (by decide)) hc1 (by rw [show q = p 0 by omega] at hu; exact hu)) hub huw (by omega)
            ·
              refine wc_aload_n X 69 0 dX11_take_69 rfl ?_
              refine wc_get X 70 0 5 kd11 rfl (by decide) q_770 rfl dX11_take_70 ?_
              refine wc_iconstN X 73 0 dX11_take_73 ?_
              refine wc_iload_n X 74 3 dX11_take_74 rfl ?_
              refine wc_iload X 75 5 dX11_take_75 rfl ?_
              refine wc_callS X 77 [] (c_X11_at l G 0 ((srO s) k) c (by decide) (by omega) (by first | assumption | omega) (by omega)) ys_X11_at rfl q_896 ⟨rfl, rfl⟩ ⟨rfl, rfl⟩ ⟨rfl, rfl⟩ rfl rfl rfl dX11_take_77 ?_
              refine wc_ialdG X 80 1 rfl (atN_lt (by omega) (by omega)) (by decide) dX11_take_80 ?_
              refine wc_topi (nI (gz p (srO s k * 2 + c - 1))) (congrArg nI (atN_mG (m := 0) (by decide) hr.2.1 hO hc1 (by omega))) ?_
              refine wc_iload X 81 7 dX11_take_81 rfl ?_
              refine wc_callS X 83 [] (c_X11_has l G (gz p (srO s k * 2 + c - 1)) q (Nat.lt_trans (Nat.lt_of_lt_of_le ((hr.2.2.2.2.2.2.1 0 (by decide)) _) (Nat.pow_le_pow_right (by decide) hr.2.1)) (by decide)) (by omega)) ys_X11_has rfl q_916 ⟨rfl, rfl⟩ ⟨rfl, rfl⟩ ⟨rfl, rfl⟩ rfl rfl rfl dX11_take_83 ?_
              refine wc_if_eqB X 86 106 dX11_take_86 (by decide) (fun c86_11 => ?_) (fun c86_11 => ?_)
              ·
                refine wc_iincN X 106 7 (L' := [(0, .ref o), (1, .int (nI md)), (2, .int (nI k)), (3, .int (nI ((srO s) k))), (4, .int (nI ((srM s) k))), (5, .int (nI c)), (6, .int (nI (stepN (go p) (srM s k) c (p 1)))), (7, .int (nI (q + 1)))]) dX11_take_106 rfl (by decide) rfl ?_
                refine wc_goto X 109 58 dX11_take_109 (by decide) ?_
                refine wc_L (L' := [(0, .ref o), (1, .int (nI md)), (2, .int (nI k)), (3, .int (nI ((srO s) k))), (4, .int (nI ((srM s) k))), (5, .int (nI c)), (6, .int (nI (stepN (go p) (srM s k) c (p 1)))), (7, .int (nI (q + 1)))]) (by rfl) ?_
                exact ih_8 (q + 1) u w2 (by omega) (go_off hu hc1 (by omega) c86_11) hub huw (by omega)
              ·
                refine wc_aload_n X 89 0 dX11_take_89 rfl ?_
                refine wc_iload_n X 90 1 dX11_take_90 rfl ?_
                refine wc_iload X 91 7 dX11_take_91 rfl ?_
                refine wc_iload X 93 6 dX11_take_93 rfl ?_
                refine wc_iload_n X 95 2 dX11_take_95 rfl ?_
                refine wc_iload X 96 5 dX11_take_96 rfl ?_
                refine wc_mutV X Y 98 [0, 1, 2, 3, 4, 5, 6, 7, 8] [] 0 (c_X11_come l G o th qtx ts pl qrp qpg qtr qbk dn qkp qik sn qsw qsi sd qln qfm qby qwy wz qfo qon qmn qpr qle qst qwt qwo fo F md u w2 (k + 1) p q (stepN (go p) (srM s k) c (p 1)) (nI k) c (by first | assumption | omega) (by first | assumption | omega) (by first | assumption | omega) (by first | assumption | omega) hiu.1 hub (Nat.le_trans hk hiu.2.1) huw (show q < p 0 by omega) (stepN_ltP (k := p 1) (hr.2.2.2.2.2.2.1 1 (by decide)) _ _ _)) yv_X11_come kd11 rfl rfl (wr := []) rfl ⟨rfl, rfl, rfl⟩ q_1066 ⟨rfl, rfl⟩ ⟨rfl, rfl⟩ ⟨rfl, rfl⟩ rfl rfl rfl dX11_take_98 (fun v w hp_12 => ?_)
                obtain ⟨s9, w9, rfl, rfl, hs9, hw9⟩ := hp_12
                refine wc_perm Y [0, 1, 2, 3, 4, 5, 6, 7, 8] [ob o 11 [.int th, .ref qtx, .int (nI ts), .int (nI pl), .ref qrp, .ref qpg, .ref qtr, .ref qbk, .int (nI dn), .ref qkp, .ref qik, .int (nI sn), .ref qsw, .ref qsi, .long sd, .ref qln, .ref qfm, .ref qby, .ref qwy, .int (nI wz), .ref qfo, .ref qon, .ref qmn, .ref qpr, .ref qle, .ref qst, .ref qwt, .int (nI (srN s9)), .int (nI (srT s9)), .int (nI (srA s9)), .int (nI (srD s9)), .int (bI (srB s9)), .ref qwo], aI G qpg 22 (nF p), aZ G qfo 81 (bF fo), aI G qon 128 (nF (srO s9)), aI G qmn 128 (nF (srM s9)), aI G qpr 128 (srP s9), aI G qle 128 (nF (srL s9)), aZ G qst 128 (bF (ntF (srG s9))), aZ G qwt 128 (bF w9)] rfl rfl ?_
                show Wc Γ 0 0 101 [(0, .ref o), (1, .int (nI md)), (2, .int (nI k)), (3, .int (nI ((srO s) k))), (4, .int (nI ((srM s) k))), (5, .int (nI c)), (6, .int (nI (stepN (go p) (srM s k) c (p 1)))), (7, .int (nI q))] [.int (b2i ((srB s9).isSome))] [ob o 11 [.int th, .ref qtx, .int (nI ts), .int (nI pl), .ref qrp, .ref qpg, .ref qtr, .ref qbk, .int (nI dn), .ref qkp, .ref qik, .int (nI sn), .ref qsw, .ref qsi, .long sd, .ref qln, .ref qfm, .ref qby, .ref qwy, .int (nI wz), .ref qfo, .ref qon, .ref qmn, .ref qpr, .ref qle, .ref qst, .ref qwt, .int (nI (srN s9)), .int (nI (srT s9)), .int (nI (srA s9)), .int (nI (srD s9)), .int (bI (srB s9)), .ref qwo], aI G qpg 22 (nF p), aZ G qfo 81 (bF fo), aI G qon 128 (nF (srO s9)), aI G qmn 128 (nF (srM s9)), aI G qpr 128 (srP s9), aI G qle 128 (nF (srL s9)), aZ G qst 128 (bF (ntF (srG s9))), aZ G qwt 128 (bF w9)]
                refine wc_if_eqB X 101 106 dX11_take_101 (by decide) (fun c101_13 => ?_) (fun c101_13 => ?_)
                ·
                  refine wc_iincN X 106 7 (L' := [(0, .ref o), (1, .int (nI md)), (2, .int (nI k)), (3, .int (nI ((srO s) k))), (4, .int (nI ((srM s) k))), (5, .int (nI c)), (6, .int (nI (stepN (go p) (srM s k) c (p 1)))), (7, .int (nI (q + 1)))]) dX11_take_106 rfl (by decide) rfl ?_
                  refine wc_goto X 109 58 dX11_take_109 (by decide) ?_
                  refine wc_L (L' := [(0, .ref o), (1, .int (nI md)), (2, .int (nI k)), (3, .int (nI ((srO s) k))), (4, .int (nI ((srM s) k))), (5, .int (nI c)), (6, .int (nI (stepN (go p) (srM s k) c (p 1)))), (7, .int (nI (q + 1)))]) (by rfl) ?_
                  exact ih_8 (q + 1) s9 w9 (by omega) (go_on hu hc1 (by omega) hub c86_11 hs9) (isSome_none c101_13) hw9 (by omega)
                ·
                  refine wc_iconstN X 104 1 dX11_take_104 ?_
                  refine wc_st (st' := [.int (b2i true)]) rfl ?_
                  exact ret 105 _ true _ dX11_take_105 (⟨s9, w9, by rw [c101_13], rfl, go_fin hc1 (by omega) (by omega) (go_on hu hc1 (by omega) hub c86_11 hs9) c101_13, hw9⟩)
        exact LP_7 (p 0 - 0 + 1) 0 t w (Nat.zero_le _) ht htb htw (Nat.lt_succ_self _)
  refine wc_ws (ws' := [ob o 11 [.int th, .ref qtx, .int (nI ts), .int (nI pl), .ref qrp, .ref qpg, .ref qtr, .ref qbk, .int (nI dn), .ref qkp, .ref qik, .int (nI sn), .ref qsw, .ref qsi, .long sd, .ref qln, .ref qfm, .ref qby, .ref qwy, .int (nI wz), .ref qfo, .ref qon, .ref qmn, .ref qpr, .ref qle, .ref qst, .ref qwt, .int (nI (srN (tkS s))), .int (nI (srT (tkS s))), .int (nI (srA (tkS s))), .int (nI (srD (tkS s))), .int (bI (srB (tkS s))), .ref qwo], aI G qpg 22 (nF p), aZ G qfo 81 (bF fo), aI G qon 128 (nF (srO (tkS s))), aI G qmn 128 (nF (srM (tkS s))), aI G qpr 128 (srP (tkS s)), aI G qle 128 (nF (srL (tkS s))), aZ G qst 128 (bF (ntF (srG (tkS s)))), aZ G qwt 128 (bF (up wt k false))]) (rfl) ?_
  exact LP_2 (3 - 1 + 1) 1 (tkS s) (up wt k false) (by decide) (by decide) rfl hb0 (wt_take hw) (Nat.lt_succ_self _)

set_option maxHeartbeats 4000000 in
set_option maxRecDepth 100000 in
theorem c_X11_goSearch (l : Launch) (G : GG) (o : Nat) (th : Int32) (qtx ts pl qrp qpg qtr qbk dn qkp qik sn qsw qsi : Nat) (sd : Int64) (qln qfm qby qwy wz qfo qon qmn qpr qle qst qwt qwo : Nat) (fo : Nat → Bool) (F : Nat → Nat → Bool) (md : Nat) (s : Sr) (wt : Nat → Bool) (p : Nat → Nat) (hmd : md ≤ 2) (hr : pgOk p) (hFo : ∀ x y, F x y = folB (gz p) (p 0) (p 2) (go p) (p 1) (p 3) x y) (hC : Cvr F (p 0) (p 1)) : MM l G yX11_goSearch (Cond.code yX11_goSearch cX11_goSearch 4 none) { frames := 7, cells := 0, slots := 0, locals := 172 } [.ref o, .int (nI md)] [ob o 11 [.int th, .ref qtx, .int (nI ts), .int (nI pl), .ref qrp, .ref qpg, .ref qtr, .ref qbk, .int (nI dn), .ref qkp, .ref qik, .int (nI sn), .ref qsw, .ref qsi, .long sd, .ref qln, .ref qfm, .ref qby, .ref qwy, .int (nI wz), .ref qfo, .ref qon, .ref qmn, .ref qpr, .ref qle, .ref qst, .ref qwt, .int (nI (srN s)), .int (nI (srT s)), .int (nI (srA s)), .int (nI (srD s)), .int (bI (srB s)), .ref qwo], aI G qpg 22 (nF p), aZ G qfo 81 (bF fo), aI G qon 128 (nF (srO s)), aI G qmn 128 (nF (srM s)), aI G qpr 128 (srP s), aI G qle 128 (nF (srL s)), aZ G qst 128 (bF (ntF (srG s))), aZ G qwt 128 (bF wt)] (fun (v : Option Value) (w : va_W) => ∃ (s2 : Sr) (wt2 : Nat → Bool) (fo2 : Nat → Bool), v = none ∧ w = [ob o 11 [.int th, .ref qtx, .int (nI ts), .int (nI pl), .ref qrp, .ref qpg, .ref qtr, .ref qbk, .int (nI dn), .ref qkp, .ref qik, .int (nI sn), .ref qsw, .ref qsi, .long sd, .ref qln, .ref qfm, .ref qby, .ref qwy, .int (nI wz), .ref qfo, .ref qon, .ref qmn, .ref qpr, .ref qle, .ref qst, .ref qwt, .int (nI (srN s2)), .int (nI (srT s2)), .int (nI (srA s2)), .int (nI (srD s2)), .int (bI (srB s2)), .ref qwo], aI G qpg 22 (nF p), aZ G qfo 81 (bF fo2), aI G qon 128 (nF (srO s2)), aI G qmn 128 (nF (srM s2)), aI G qpr 128 (srP s2), aI G qle 128 (nF (srL s2)), aZ G qst 128 (bF (ntF (srG s2))), aZ G qwt 128 (bF wt2)] ∧ s2 = runS F md (p 2) (p 3) (gz p) (go p) (p 1) (sZ s) 128) 0 0 := by
  refine MM.ofV (by decide) rfl (fun Γ X Y hnm ret => ?_)
  show Wc Γ 0 0 0 [(0, .ref o), (1, .int (nI md))] [] [ob o 11 [.int th, .ref qtx, .int (nI ts), .int (nI pl), .ref qrp, .ref qpg, .ref qtr, .ref qbk, .int (nI dn), .ref qkp, .ref qik, .int (nI sn), .ref qsw, .ref qsi, .long sd, .ref qln, .ref qfm, .ref qby, .ref qwy, .int (nI wz), .ref qfo, .ref qon, .ref qmn, .ref qpr, .ref qle, .ref qst, .ref qwt, .int (nI (srN s)), .int (nI (srT s)), .int (nI (srA s)), .int (nI (srD s)), .int (bI (srB s)), .ref qwo], aI G qpg 22 (nF p), aZ G qfo 81 (bF fo), aI G qon 128 (nF (srO s)), aI G qmn 128 (nF (srM s)), aI G qpr 128 (srP s), aI G qle 128 (nF (srL s)), aZ G qst 128 (bF (ntF (srG s))), aZ G qwt 128 (bF wt)]
  refine wc_aload_n X 0 0 dX11_goSearch_0 rfl ?_
  refine wc_aload_n X 1 0 dX11_goSearch_1 rfl ?_
  refine wc_get X 2 0 5 kd11 rfl (by decide) q_770 rfl dX11_goSearch_2 ?_
  refine wc_mutV X Y 5 [0, 1, 2] [3, 4, 5, 6, 7, 8] 0 (c_X11_findFollows l G o th qtx ts pl qrp qpg qtr qbk dn qkp qik sn qsw qsi sd qln qfm qby qwy wz qfo qon qmn qpr qle qst qwt (srN s) (srT s) (srA s) (srD s) (bI (srB s)) qwo qpg p fo (by first | assumption | omega)) yv_X11_findFollows kd11 rfl rfl (wr := [aI G qon 128 (nF (srO s)), aI G qmn 128 (nF (srM s)), aI G qpr 128 (srP s), aI G qle 128 (nF (srL s)), aZ G qst 128 (bF (ntF (srG s))), aZ G qwt 128 (bF wt)]) rfl ⟨rfl, rfl, rfl⟩ q_1040 ⟨rfl, rfl⟩ ⟨rfl, rfl⟩ ⟨rfl, rfl⟩ rfl rfl rfl dX11_goSearch_5 (fun v w hp_1 => ?_)
  obtain ⟨fo9, rfl, rfl, hfo9⟩ := hp_1
  refine wc_perm Y [6, 7, 8, 0, 1, 2, 3, 4, 5] [ob o 11 [.int th, .ref qtx, .int (nI ts), .int (nI pl), .ref qrp, .ref qpg, .ref qtr, .ref qbk, .int (nI dn), .ref qkp, .ref qik, .int (nI sn), .ref qsw, .ref qsi, .long sd, .ref qln, .ref qfm, .ref qby, .ref qwy, .int (nI wz), .ref qfo, .ref qon, .ref qmn, .ref qpr, .ref qle, .ref qst, .ref qwt, .int (nI (srN s)), .int (nI (srT s)), .int (nI (srA s)), .int (nI (srD s)), .int (bI (srB s)), .ref qwo], aI G qpg 22 (nF p), aZ G qfo 81 (bF fo9), aI G qon 128 (nF (srO s)), aI G qmn 128 (nF (srM s)), aI G qpr 128 (srP s), aI G qle 128 (nF (srL s)), aZ G qst 128 (bF (ntF (srG s))), aZ G qwt 128 (bF wt)] rfl rfl ?_
  show Wc Γ 0 0 8 [(0, .ref o), (1, .int (nI md))] [] [ob o 11 [.int th, .ref qtx, .int (nI ts), .int (nI pl), .ref qrp, .ref qpg, .ref qtr, .ref qbk, .int (nI dn), .ref qkp, .ref qik, .int (nI sn), .ref qsw, .ref qsi, .long sd, .ref qln, .ref qfm, .ref qby, .ref qwy, .int (nI wz), .ref qfo, .ref qon, .ref qmn, .ref qpr, .ref qle, .ref qst, .ref qwt, .int (nI (srN s)), .int (nI (srT s)), .int (nI (srA s)), .int (nI (srD s)), .int (bI (srB s)), .ref qwo], aI G qpg 22 (nF p), aZ G qfo 81 (bF fo9), aI G qon 128 (nF (srO s)), aI G qmn 128 (nF (srM s)), aI G qpr 128 (srP s), aI G qle 128 (nF (srL s)), aZ G qst 128 (bF (ntF (srG s))), aZ G qwt 128 (bF wt)]
  have hF1 : ∀ x y, x < 9 → y < 9 → fo9 (9 * x + y) = F x y := fun x y hx hy => by rw [hfo9 x y hx hy, hFo]
  refine wc_aload_n X 8 0 dX11_goSearch_8 rfl ?_
  refine wc_iconstN X 9 0 dX11_goSearch_9 ?_
  refine wc_put X Y 10 0 27 kd11 rfl (by decide) q_792 rfl rfl rfl (Nat.le_of_ble_eq_true rfl) (ws' := [ob o 11 [.int th, .ref qtx, .int (nI ts), .int (nI pl), .ref qrp, .ref qpg, .ref qtr, .ref qbk, .int (nI dn), .ref qkp, .ref qik, .int (nI sn), .ref qsw, .ref qsi, .long sd, .ref qln, .ref qfm, .ref qby, .ref qwy, .int (nI wz), .ref qfo, .ref qon, .ref qmn, .ref qpr, .ref qle, .ref qst, .ref qwt, .int (nI 0), .int (nI (srT s)), .int (nI (srA s)), .int (nI (srD s)), .int (bI (srB s)), .ref qwo], aI G qpg 22 (nF p), aZ G qfo 81 (bF fo9), aI G qon 128 (nF (srO s)), aI G qmn 128 (nF (srM s)), aI G qpr 128 (srP s), aI G qle 128 (nF (srL s)), aZ G qst 128 (bF (ntF (srG s))), aZ G qwt 128 (bF wt)]) rfl dX11_goSearch_10 ?_
  refine wc_aload_n X 13 0 dX11_goSearch_13 rfl ?_
  refine wc_iconstN X 14 0 dX11_goSearch_14 ?_
  refine wc_put X Y 15 0 28 kd11 rfl (by decide) q_793 rfl rfl rfl (Nat.le_of_ble_eq_true rfl) (ws' := [ob o 11 [.int th, .ref qtx, .int (nI ts), .int (nI pl), .ref qrp, .ref qpg, .ref qtr, .ref qbk, .int (nI dn), .ref qkp, .ref qik, .int (nI sn), .ref qsw, .ref qsi, .long sd, .ref qln, .ref qfm, .ref qby, .ref qwy, .int (nI wz), .ref qfo, .ref qon, .ref qmn, .ref qpr, .ref qle, .ref qst, .ref qwt, .int (nI 0), .int (nI 0), .int (nI (srA s)), .int (nI (srD s)), .int (bI (srB s)), .ref qwo], aI G qpg 22 (nF p), aZ G qfo 81 (bF fo9), aI G qon 128 (nF (srO s)), aI G qmn 128 (nF (srM s)), aI G qpr 128 (srP s), aI G qle 128 (nF (srL s)), aZ G qst 128 (bF (ntF (srG s))), aZ G qwt 128 (bF wt)]) rfl dX11_goSearch_15 ?_
  refine wc_aload_n X 18 0 dX11_goSearch_18 rfl ?_
  refine wc_iconstN X 19 0 dX11_goSearch_19 ?_
  refine wc_put X Y 20 0 29 kd11 rfl (by decide) q_794 rfl rfl rfl (Nat.le_of_ble_eq_true rfl) (ws' := [ob o 11 [.int th, .ref qtx, .int (nI ts), .int (nI pl), .ref qrp, .ref qpg, .ref qtr, .ref qbk, .int (nI dn), .ref qkp, .ref qik, .int (nI sn), .ref qsw, .ref qsi, .long sd, .ref qln, .ref qfm, .ref qby, .ref qwy, .int (nI wz), .ref qfo, .ref qon, .ref qmn, .ref qpr, .ref qle, .ref qst, .ref qwt, .int (nI 0), .int (nI 0), .int (nI 0), .int (nI (srD s)), .int (bI (srB s)), .ref qwo], aI G qpg 22 (nF p), aZ G qfo 81 (bF fo9), aI G qon 128 (nF (srO s)), aI G qmn 128 (nF (srM s)), aI G qpr 128 (srP s), aI G qle 128 (nF (srL s)), aZ G qst 128 (bF (ntF (srG s))), aZ G qwt 128 (bF wt)]) rfl dX11_goSearch_20 ?_
  refine wc_aload_n X 23 0 dX11_goSearch_23 rfl ?_
  refine wc_iconstN X 24 0 dX11_goSearch_24 ?_
  refine wc_put X Y 25 0 30 kd11 rfl (by decide) q_795 rfl rfl rfl (Nat.le_of_ble_eq_true rfl) (ws' := [ob o 11 [.int th, .ref qtx, .int (nI ts), .int (nI pl), .ref qrp, .ref qpg, .ref qtr, .ref qbk, .int (nI dn), .ref qkp, .ref qik, .int (nI sn), .ref qsw, .ref qsi, .long sd, .ref qln, .ref qfm, .ref qby, .ref qwy, .int (nI wz), .ref qfo, .ref qon, .ref qmn, .ref qpr, .ref qle, .ref qst, .ref qwt, .int (nI 0), .int (nI 0), .int (nI 0), .int (nI 0), .int (bI (srB s)), .ref qwo], aI G qpg 22 (nF p), aZ G qfo 81 (bF fo9), aI G qon 128 (nF (srO s)), aI G qmn 128 (nF (srM s)), aI G qpr 128 (srP s), aI G qle 128 (nF (srL s)), aZ G qst 128 (bF (ntF (srG s))), aZ G qwt 128 (bF wt)]) rfl dX11_goSearch_25 ?_
  refine wc_aload_n X 28 0 dX11_goSearch_28 rfl ?_
  refine wc_bipush X 29 (-9) dX11_goSearch_29 (by decide) ?_
  refine wc_put X Y 31 0 31 kd11 rfl (by decide) q_796 rfl rfl rfl (Nat.le_of_ble_eq_true rfl) (ws' := [ob o 11 [.int th, .ref qtx, .int (nI ts), .int (nI pl), .ref qrp, .ref qpg, .ref qtr, .ref qbk, .int (nI dn), .ref qkp, .ref qik, .int (nI sn), .ref qsw, .ref qsi, .long sd, .ref qln, .ref qfm, .ref qby, .ref qwy, .int (nI wz), .ref qfo, .ref qon, .ref qmn, .ref qpr, .ref qle, .ref qst, .ref qwt, .int (nI 0), .int (nI 0), .int (nI 0), .int (nI 0), .int (-9), .ref qwo], aI G qpg 22 (nF p), aZ G qfo 81 (bF fo9), aI G qon 128 (nF (srO s)), aI G qmn 128 (nF (srM s)), aI G qpr 128 (srP s), aI G qle 128 (nF (srL s)), aZ G qst 128 (bF (ntF (srG s))), aZ G qwt 128 (bF wt)]) rfl dX11_goSearch_31 ?_
  refine wc_aload_n X 34 0 dX11_goSearch_34 rfl ?_
  refine wc_iload_n X 35 1 dX11_goSearch_35 rfl ?_
  refine wc_iconstN X 36 0 dX11_goSearch_36 ?_
  refine wc_iconstN X 37 1 dX11_goSearch_37 ?_
  refine wc_bipush X 38 (-9) dX11_goSearch_38 (by decide) ?_
  refine wc_iconstN X 40 0 dX11_goSearch_40 ?_
  refine wc_mutV X Y 41 [0, 1, 2, 3, 4, 5, 6, 7, 8] [] 0 (c_X11_come l G o th qtx ts pl qrp qpg qtr qbk dn qkp qik sn qsw qsi sd qln qfm qby qwy wz qfo qon qmn qpr qle qst qwt qwo fo9 F md (sZ s) wt 0 p 0 1 (-9) 0 hF1 (by first | assumption | omega) (by first | assumption | omega) (by first | assumption | omega) ⟨fun i hi => absurd hi (Nat.not_lt_zero _), fun i hi => absurd hi (Nat.not_lt_zero _), fun i j hi => absurd hi (Nat.not_lt_zero _), fun k hk => by cases hk⟩ rfl (Nat.le_refl _) (fun j hj => absurd hj (Nat.not_lt_zero _)) (by have := hr.1; omega) (Nat.lt_of_lt_of_le (show 1 < 2 ^ 1 by decide) (Nat.pow_le_pow_right (by decide) hr.2.2.1))) yv_X11_come kd11 rfl rfl (wr := []) rfl ⟨rfl, rfl, rfl⟩ q_1066 ⟨rfl, rfl⟩ ⟨rfl, rfl⟩ ⟨rfl, rfl⟩ rfl rfl rfl dX11_goSearch_41 (fun v w hp_2 => ?_)
  obtain ⟨s9, w9, rfl, rfl, hs9, hw9⟩ := hp_2
  refine wc_perm Y [0, 1, 2, 3, 4, 5, 6, 7, 8] [ob o 11 [.int th, .ref qtx, .int (nI ts), .int (nI pl), .ref qrp, .ref qpg, .ref qtr, .ref qbk, .int (nI dn), .ref qkp, .ref qik, .int (nI sn), .ref qsw, .ref qsi, .long sd, .ref qln, .ref qfm, .ref qby, .ref qwy, .int (nI wz), .ref qfo, .ref qon, .ref qmn, .ref qpr, .ref qle, .ref qst, .ref qwt, .int (nI (srN s9)), .int (nI (srT s9)), .int (nI (srA s9)), .int (nI (srD s9)), .int (bI (srB s9)), .ref qwo], aI G qpg 22 (nF p), aZ G qfo 81 (bF fo9), aI G qon 128 (nF (srO s9)), aI G qmn 128 (nF (srM s9)), aI G qpr 128 (srP s9), aI G qle 128 (nF (srL s9)), aZ G qst 128 (bF (ntF (srG s9))), aZ G qwt 128 (bF w9)] rfl rfl ?_
  show Wc Γ 0 0 44 [(0, .ref o), (1, .int (nI md))] [.int (b2i ((srB s9).isSome))] [ob o 11 [.int th, .ref qtx, .int (nI ts), .int (nI pl), .ref qrp, .ref qpg, .ref qtr, .ref qbk, .int (nI dn), .ref qkp, .ref qik, .int (nI sn), .ref qsw, .ref qsi, .long sd, .ref qln, .ref qfm, .ref qby, .ref qwy, .int (nI wz), .ref qfo, .ref qon, .ref qmn, .ref qpr, .ref qle, .ref qst, .ref qwt, .int (nI (srN s9)), .int (nI (srT s9)), .int (nI (srA s9)), .int (nI (srD s9)), .int (bI (srB s9)), .ref qwo], aI G qpg 22 (nF p), aZ G qfo 81 (bF fo9), aI G qon 128 (nF (srO s9)), aI G qmn 128 (nF (srM s9)), aI G qpr 128 (srP s9), aI G qle 128 (nF (srL s9)), aZ G qst 128 (bF (ntF (srG s9))), aZ G qwt 128 (bF w9)]
  refine wc_istore_n X 44 (L' := [(0, .ref o), (1, .int (nI md)), (2, .int (b2i ((srB s9).isSome)))]) dX11_goSearch_44 (by decide) rfl ?_
  refine wc_aload_n X 45 0 dX11_goSearch_45 rfl ?_
  refine wc_mutV X Y 46 [0, 8] [1, 2, 3, 4, 5, 6, 7] 0 (c_X11_firstWaiting l G o th qtx ts pl qrp qpg qtr qbk dn qkp qik sn qsw qsi sd qln qfm qby qwy wz qfo qon qmn qpr qle qst qwt qwo s9 w9 (Inv_le hr.2.1 hr.2.2.2.1 (show Inv F md (p 0) (p 1) s9 by rw [hs9]; exact run_inv hC hr.1 hr.2.2.2.1 hr.2.2.1 (hr.2.2.2.2.2.2.1 0 (by decide)) (hr.2.2.2.2.2.2.1 1 (by decide)) rfl rfl 0))) yv_X11_firstWaiting kd11 rfl rfl (wr := [aI G qpg 22 (nF p), aZ G qfo 81 (bF fo9), aI G qon 128 (nF (srO s9)), aI G qmn 128 (nF (srM s9)), aI G qpr 128 (srP s9), aI G qle 128 (nF (srL s9)), aZ G qst 128 (bF (ntF (srG s9)))]) rfl ⟨rfl, rfl, rfl⟩ q_1086 ⟨rfl, rfl⟩ ⟨rfl, rfl⟩ ⟨rfl, rfl⟩ rfl rfl rfl dX11_goSearch_46 (fun v w hp_3 => ?_)
  obtain ⟨f9, rfl, rfl, hf9⟩ := hp_3
  refine wc_perm Y [7, 0, 1, 2, 3, 4, 5, 6, 8] [ob o 11 [.int th, .ref qtx, .int (nI ts), .int (nI pl), .ref qrp, .ref qpg, .ref qtr, .ref qbk, .int (nI dn), .ref qkp, .ref qik, .int (nI sn), .ref qsw, .ref qsi, .long sd, .ref qln, .ref qfm, .ref qby, .ref qwy, .int (nI wz), .ref qfo, .ref qon, .ref qmn, .ref qpr, .ref qle, .ref qst, .ref qwt, .int (nI (srN s9)), .int (nI (srT s9)), .int (nI (srA s9)), .int (nI (srD s9)), .int (bI (srB s9)), .ref qwo], aI G qpg 22 (nF p), aZ G qfo 81 (bF fo9), aI G qon 128 (nF (srO s9)), aI G qmn 128 (nF (srM s9)), aI G qpr 128 (srP s9), aI G qle 128 (nF (srL s9)), aZ G qst 128 (bF (ntF (srG s9))), aZ G qwt 128 (bF w9)] rfl rfl ?_
  show Wc Γ 0 0 49 [(0, .ref o), (1, .int (nI md)), (2, .int (b2i ((srB s9).isSome)))] [.int (bI f9)] [ob o 11 [.int th, .ref qtx, .int (nI ts), .int (nI pl), .ref qrp, .ref qpg, .ref qtr, .ref qbk, .int (nI dn), .ref qkp, .ref qik, .int (nI sn), .ref qsw, .ref qsi, .long sd, .ref qln, .ref qfm, .ref qby, .ref qwy, .int (nI wz), .ref qfo, .ref qon, .ref qmn, .ref qpr, .ref qle, .ref qst, .ref qwt, .int (nI (srN s9)), .int (nI (srT s9)), .int (nI (srA s9)), .int (nI (srD s9)), .int (bI (srB s9)), .ref qwo], aI G qpg 22 (nF p), aZ G qfo 81 (bF fo9), aI G qon 128 (nF (srO s9)), aI G qmn 128 (nF (srM s9)), aI G qpr 128 (srP s9), aI G qle 128 (nF (srL s9)), aZ G qst 128 (bF (ntF (srG s9))), aZ G qwt 128 (bF w9)]
  refine wc_istore_n X 49 (L' := [(0, .ref o), (1, .int (nI md)), (2, .int (b2i ((srB s9).isSome))), (3, .int (bI f9))]) dX11_goSearch_49 (by decide) rfl ?_
  have LP_5 : ∀ (fuel_4 : Nat) (kk : Nat) (t : Sr) (w : Nat → Bool) (f : Option Nat), (kk ≤ srN t) → (t = runS F md (p 2) (p 3) (gz p) (go p) (p 1) (sZ s) kk) → (∀ j, j < srN t → w j = (decide (kk ≤ j) && !srG t j)) → (FW w 0 (srN t) f) → ((srB t).isSome = true ∨ srB t = none) → 129 - kk < fuel_4 → Wc Γ 0 0 50 [(0, .ref o), (1, .int (nI md)), (2, .int (b2i ((srB t).isSome))), (3, .int (bI f))] [] [ob o 11 [.int th, .ref qtx, .int (nI ts), .int (nI pl), .ref qrp, .ref qpg, .ref qtr, .ref qbk, .int (nI dn), .ref qkp, .ref qik, .int (nI sn), .ref qsw, .ref qsi, .long sd, .ref qln, .ref qfm, .ref qby, .ref qwy, .int (nI wz), .ref qfo, .ref qon, .ref qmn, .ref qpr, .ref qle, .ref qst, .ref qwt, .int (nI (srN t)), .int (nI (srT t)), .int (nI (srA t)), .int (nI (srD t)), .int (bI (srB t)), .ref qwo], aI G qpg 22 (nF p), aZ G qfo 81 (bF fo9), aI G qon 128 (nF (srO t)), aI G qmn 128 (nF (srM t)), aI G qpr 128 (srP t), aI G qle 128 (nF (srL t)), aZ G qst 128 (bF (ntF (srG t))), aZ G qwt 128 (bF w)] := by
    intro fuel_4
    induction fuel_4 with
    | zero => intro kk t w f hkk ht htw hf hkb hm; exact absurd hm (Nat.not_lt_zero _)
    | succ fuel_4 ih_6 =>
      intro kk t w f hkk ht htw hf hkb hm_7
      have hit : Inv F md (p 0) (p 1) t := by rw [ht]; exact run_inv hC hr.1 hr.2.2.2.1 hr.2.2.1 (hr.2.2.2.2.2.2.1 0 (by decide)) (hr.2.2.2.2.2.2.1 1 (by decide)) rfl rfl kk
      have hN := Inv_le hr.2.1 hr.2.2.2.1 hit
      refine wc_iload_n X 50 2 dX11_goSearch_50 rfl ?_
      refine wc_if_neB X 51 75 dX11_goSearch_51 (by decide) (fun c51_8 => ?_) (fun c51_8 => ?_)
      ·
        exact ret 75 _ _ dX11_goSearch_75 (⟨t, w, _, rfl, rfl, (by obtain ⟨kb, hkb2⟩ := Option.isSome_iff_exists.mp c51_8; exact rn_end2 ht (by omega) hkb2)⟩)
      ·
        have hbn := isSome_none c51_8
        refine wc_iload_n X 54 3 dX11_goSearch_54 rfl ?_
        refine wc_bipush X 55 (-9) dX11_goSearch_55 (by decide) ?_
        rcases opt_cases f with hfe | ⟨j, hfe⟩
        ·
          refine wc_icmp_eq X 57 75 dX11_goSearch_57 (by decide) (fun c57_9 => ?_) (fun c57_9 => ?_)
          ·
            exact ret 75 _ _ dX11_goSearch_75 (⟨t, w, _, rfl, rfl, run_stop hkk hN ht htw (by rw [hfe] at hf; exact hf)⟩)
          ·
            exact absurd (show bI f = -9 by rw [hfe]; rfl) c57_9
        ·
          refine wc_L (L' := [(0, .ref o), (1, .int (nI md)), (2, .int (b2i ((srB t).isSome))), (3, .int (nI j))]) (by rw [hfe]; rfl) ?_
          rw [hfe] at hf
          obtain ⟨hj1, hj2, hj3, hj4, hj5⟩ := run_to ht htw hf
          refine wc_icmp_eq X 57 75 dX11_goSearch_57 (by decide) (fun c57_10 => ?_) (fun c57_10 => ?_)
          ·
            exact absurd c57_10 (show ¬ bI f = -9 by rw [hfe]; exact nI_ne9 (by omega))
          ·
            refine wc_aload_n X 60 0 dX11_goSearch_60 rfl ?_
            refine wc_iload_n X 61 1 dX11_goSearch_61 rfl ?_
            refine wc_iload_n X 62 3 dX11_goSearch_62 rfl ?_
            refine wc_mutV X Y 63 [0, 1, 2, 3, 4, 5, 6, 7, 8] [] 0 (c_X11_take l G o th qtx ts pl qrp qpg qtr qbk dn qkp qik sn qsw qsi sd qln qfm qby qwy wz qfo qon qmn qpr qle qst qwt qwo fo9 F md t w j p hF1 (by first | assumption | omega) (by first | assumption | omega) (by first | assumption | omega) hit hbn hj2 hj5) yv_X11_take kd11 rfl rfl (wr := []) rfl ⟨rfl, rfl, rfl⟩ q_1090 ⟨rfl, rfl⟩ ⟨rfl, rfl⟩ ⟨rfl, rfl⟩ rfl rfl rfl dX11_goSearch_63 (fun v w hp_11 => ?_)
            obtain ⟨s8, w8, rfl, rfl, hs8, hw8⟩ := hp_11
            refine wc_perm Y [0, 1, 2, 3, 4, 5, 6, 7, 8] [ob o 11 [.int th, .ref qtx, .int (nI ts), .int (nI pl), .ref qrp, .ref qpg, .ref qtr, .ref qbk, .int (nI dn), .ref qkp, .ref qik, .int (nI sn), .ref qsw, .ref qsi, .long sd, .ref qln, .ref qfm, .ref qby, .ref qwy, .int (nI wz), .ref qfo, .ref qon, .ref qmn, .ref qpr, .ref qle, .ref qst, .ref qwt, .int (nI (srN s8)), .int (nI (srT s8)), .int (nI (srA s8)), .int (nI (srD s8)), .int (bI (srB s8)), .ref qwo], aI G qpg 22 (nF p), aZ G qfo 81 (bF fo9), aI G qon 128 (nF (srO s8)), aI G qmn 128 (nF (srM s8)), aI G qpr 128 (srP s8), aI G qle 128 (nF (srL s8)), aZ G qst 128 (bF (ntF (srG s8))), aZ G qwt 128 (bF w8)] rfl rfl ?_
            show Wc Γ 0 0 66 [(0, .ref o), (1, .int (nI md)), (2, .int (b2i ((srB t).isSome))), (3, .int (nI j))] [.int (b2i ((srB s8).isSome))] [ob o 11 [.int th, .ref qtx, .int (nI ts), .int (nI pl), .ref qrp, .ref qpg, .ref qtr, .ref qbk, .int (nI dn), .ref qkp, .ref qik, .int (nI sn), .ref qsw, .ref qsi, .long sd, .ref qln, .ref qfm, .ref qby, .ref qwy, .int (nI wz), .ref qfo, .ref qon, .ref qmn, .ref qpr, .ref qle, .ref qst, .ref qwt, .int (nI (srN s8)), .int (nI (srT s8)), .int (nI (srA s8)), .int (nI (srD s8)), .int (bI (srB s8)), .ref qwo], aI G qpg 22 (nF p), aZ G qfo 81 (bF fo9), aI G qon 128 (nF (srO s8)), aI G qmn 128 (nF (srM s8)), aI G qpr 128 (srP s8), aI G qle 128 (nF (srL s8)), aZ G qst 128 (bF (ntF (srG s8))), aZ G qwt 128 (bF w8)]
            refine wc_istore_n X 66 (L' := [(0, .ref o), (1, .int (nI md)), (2, .int (b2i ((srB s8).isSome))), (3, .int (nI j))]) dX11_goSearch_66 (by decide) rfl ?_
            refine wc_aload_n X 67 0 dX11_goSearch_67 rfl ?_
            refine wc_mutV X Y 68 [0, 8] [1, 2, 3, 4, 5, 6, 7] 0 (c_X11_firstWaiting l G o th qtx ts pl qrp qpg qtr qbk dn qkp qik sn qsw qsi sd qln qfm qby qwy wz qfo qon qmn qpr qle qst qwt qwo s8 w8 (Inv_le hr.2.1 hr.2.2.2.1 (show Inv F md (p 0) (p 1) s8 by rw [hs8]; exact (goS_inv hC hr.2.2.2.1 (s := tkS t) hit hj2 (hr.2.2.2.2.2.2.1 0 (by decide)) (hr.2.2.2.2.2.2.1 1 (by decide)) 8 (Nat.le_refl _)).1))) yv_X11_firstWaiting kd11 rfl rfl (wr := [aI G qpg 22 (nF p), aZ G qfo 81 (bF fo9), aI G qon 128 (nF (srO s8)), aI G qmn 128 (nF (srM s8)), aI G qpr 128 (srP s8), aI G qle 128 (nF (srL s8)), aZ G qst 128 (bF (ntF (srG s8)))]) rfl ⟨rfl, rfl, rfl⟩ q_1086 ⟨rfl, rfl⟩ ⟨rfl, rfl⟩ ⟨rfl, rfl⟩ rfl rfl rfl dX11_goSearch_68 (fun v w hp_12 => ?_)
            obtain ⟨f8, rfl, rfl, hf8⟩ := hp_12
            refine wc_perm Y [7, 0, 1, 2, 3, 4, 5, 6, 8] [ob o 11 [.int th, .ref qtx, .int (nI ts), .int (nI pl), .ref qrp, .ref qpg, .ref qtr, .ref qbk, .int (nI dn), .ref qkp, .ref qik, .int (nI sn), .ref qsw, .ref qsi, .long sd, .ref qln, .ref qfm, .ref qby, .ref qwy, .int (nI wz), .ref qfo, .ref qon, .ref qmn, .ref qpr, .ref qle, .ref qst, .ref qwt, .int (nI (srN s8)), .int (nI (srT s8)), .int (nI (srA s8)), .int (nI (srD s8)), .int (bI (srB s8)), .ref qwo], aI G qpg 22 (nF p), aZ G qfo 81 (bF fo9), aI G qon 128 (nF (srO s8)), aI G qmn 128 (nF (srM s8)), aI G qpr 128 (srP s8), aI G qle 128 (nF (srL s8)), aZ G qst 128 (bF (ntF (srG s8))), aZ G qwt 128 (bF w8)] rfl rfl ?_
            show Wc Γ 0 0 71 [(0, .ref o), (1, .int (nI md)), (2, .int (b2i ((srB s8).isSome))), (3, .int (nI j))] [.int (bI f8)] [ob o 11 [.int th, .ref qtx, .int (nI ts), .int (nI pl), .ref qrp, .ref qpg, .ref qtr, .ref qbk, .int (nI dn), .ref qkp, .ref qik, .int (nI sn), .ref qsw, .ref qsi, .long sd, .ref qln, .ref qfm, .ref qby, .ref qwy, .int (nI wz), .ref qfo, .ref qon, .ref qmn, .ref qpr, .ref qle, .ref qst, .ref qwt, .int (nI (srN s8)), .int (nI (srT s8)), .int (nI (srA s8)), .int (nI (srD s8)), .int (bI (srB s8)), .ref qwo], aI G qpg 22 (nF p), aZ G qfo 81 (bF fo9), aI G qon 128 (nF (srO s8)), aI G qmn 128 (nF (srM s8)), aI G qpr 128 (srP s8), aI G qle 128 (nF (srL s8)), aZ G qst 128 (bF (ntF (srG s8))), aZ G qwt 128 (bF w8)]
            refine wc_istore_n X 71 (L' := [(0, .ref o), (1, .int (nI md)), (2, .int (b2i ((srB s8).isSome))), (3, .int (bI f8))]) dX11_goSearch_71 (by decide) rfl ?_
            refine wc_goto X 72 50 dX11_goSearch_72 (by decide) ?_
            exact ih_6 (j + 1) s8 w8 f8 (Nat.le_trans hj2 (by rw [hs8]; exact (goS_inv hC hr.2.2.2.1 (s := tkS t) hit hj2 (hr.2.2.2.2.2.2.1 0 (by decide)) (hr.2.2.2.2.2.2.1 1 (by decide)) 8 (Nat.le_refl _)).2.1)) (rn_on hj3 hbn hj2 hj4 hs8) hw8 hf8 (by cases srB s8 <;> simp) (by omega)
  exact LP_5 (129 - 0 + 1) 0 s9 w9 f9 (Nat.zero_le _) hs9 hw9 hf9 (by cases srB s9 <;> simp) (Nat.lt_succ_self _)

set_option maxHeartbeats 4000000 in
set_option maxRecDepth 100000 in
theorem c_X11_staying (l : Launch) (G : GG) (o : Nat) (th : Int32) (qtx ts pl qrp qpg qtr qbk dn qkp qik sn qsw qsi : Nat) (sd : Int64) (qln qfm qby qwy wz qfo qon qmn qpr qle qst qwt qwo : Nat) (s : Sr) (hn : srN s ≤ 128) : RM l G yX11_staying (Cond.code yX11_staying cX11_staying 3 (some .int)) { frames := 0, cells := 0, slots := 0, locals := 0 } [.ref o] [ob o 11 [.int th, .ref qtx, .int (nI ts), .int (nI pl), .ref qrp, .ref qpg, .ref qtr, .ref qbk, .int (nI dn), .ref qkp, .ref qik, .int (nI sn), .ref qsw, .ref qsi, .long sd, .ref qln, .ref qfm, .ref qby, .ref qwy, .int (nI wz), .ref qfo, .ref qon, .ref qmn, .ref qpr, .ref qle, .ref qst, .ref qwt, .int (nI (srN s)), .int (nI (srT s)), .int (nI (srA s)), .int (nI (srD s)), .int (bI (srB s)), .ref qwo], aZ G qst 128 (bF (ntF (srG s)))] (.int (nI (stay s (srN s)))) := by
  refine RM.ofI (by decide) rfl (fun Γ X ret => ?_)
  show Wc Γ 0 0 0 [(0, .ref o)] [] [ob o 11 [.int th, .ref qtx, .int (nI ts), .int (nI pl), .ref qrp, .ref qpg, .ref qtr, .ref qbk, .int (nI dn), .ref qkp, .ref qik, .int (nI sn), .ref qsw, .ref qsi, .long sd, .ref qln, .ref qfm, .ref qby, .ref qwy, .int (nI wz), .ref qfo, .ref qon, .ref qmn, .ref qpr, .ref qle, .ref qst, .ref qwt, .int (nI (srN s)), .int (nI (srT s)), .int (nI (srA s)), .int (nI (srD s)), .int (bI (srB s)), .ref qwo], aZ G qst 128 (bF (ntF (srG s)))]
  refine wc_iconstN X 0 0 dX11_staying_0 ?_
  refine wc_istore_n X 1 (L' := [(0, .ref o), (1, .int (nI 0))]) dX11_staying_1 (by decide) rfl ?_
  refine wc_iconstN X 2 0 dX11_staying_2 ?_
  refine wc_istore_n X 3 (L' := [(0, .ref o), (1, .int (nI 0)), (2, .int (nI 0))]) dX11_staying_3 (by decide) rfl ?_
  have LP_2 : ∀ (fuel_1 : Nat) (i : Nat), (i ≤ srN s) → 128 - i < fuel_1 → Wc Γ 0 0 4 [(0, .ref o), (1, .int (nI (stay s i))), (2, .int (nI i))] [] [ob o 11 [.int th, .ref qtx, .int (nI ts), .int (nI pl), .ref qrp, .ref qpg, .ref qtr, .ref qbk, .int (nI dn), .ref qkp, .ref qik, .int (nI sn), .ref qsw, .ref qsi, .long sd, .ref qln, .ref qfm, .ref qby, .ref qwy, .int (nI wz), .ref qfo, .ref qon, .ref qmn, .ref qpr, .ref qle, .ref qst, .ref qwt, .int (nI (srN s)), .int (nI (srT s)), .int (nI (srA s)), .int (nI (srD s)), .int (bI (srB s)), .ref qwo], aZ G qst 128 (bF (ntF (srG s)))] := by
    intro fuel_1
    induction fuel_1 with
    | zero => intro i hi hm; exact absurd hm (Nat.not_lt_zero _)
    | succ fuel_1 ih_3 =>
      intro i hi hm_4
      refine wc_iload_n X 4 2 dX11_staying_4 rfl ?_
      refine wc_aload_n X 5 0 dX11_staying_5 rfl ?_
      refine wc_get X 6 0 27 kd11 rfl (by decide) q_792 rfl dX11_staying_6 ?_
      refine wc_icmp_geN X 9 35 dX11_staying_9 (by decide) (by omega) (by omega) (fun c9_5 => ?_) (fun c9_5 => ?_)
      ·
        refine wc_iload_n X 35 1 dX11_staying_35 rfl ?_
        exact ret 36 _ (nI (stay s i)) dX11_staying_36 (by rw [show i = srN s by omega])
      ·
        refine wc_iload_n X 12 1 dX11_staying_12 rfl ?_
        refine wc_aload_n X 13 0 dX11_staying_13 rfl ?_
        refine wc_get X 14 0 25 kd11 rfl (by decide) q_790 rfl dX11_staying_14 ?_
        refine wc_iload_n X 17 2 dX11_staying_17 rfl ?_
        refine wc_zaldG X 18 1 rfl (by omega) (by decide) dX11_staying_18 ?_
        refine wc_if_eqB X 19 26 dX11_staying_19 (by decide) (fun c19_6 => ?_) (fun c19_6 => ?_)
        ·
          refine wc_iconstN X 26 0 dX11_staying_26 ?_
          refine wc_iaddN X 27 dX11_staying_27 ?_
          refine wc_istore_n X 28 (L' := [(0, .ref o), (1, .int (nI ((stay s i) + 0))), (2, .int (nI i))]) dX11_staying_28 (by decide) rfl ?_
          refine wc_iincN X 29 2 (L' := [(0, .ref o), (1, .int (nI ((stay s i) + 0))), (2, .int (nI (i + 1)))]) dX11_staying_29 rfl (by decide) rfl ?_
          refine wc_goto X 32 4 dX11_staying_32 (by decide) ?_
          have e_7 : (stay s i) + 0 = stay s (i + 1) := (stay_off (ntF_f c19_6))
          refine wc_L (L' := [(0, .ref o), (1, .int (nI (stay s (i + 1)))), (2, .int (nI (i + 1)))]) (by first | (rw [e_7]; done) | (rw [e_7]; rfl) | rfl) ?_
          exact ih_3 (i + 1) (by omega) (by omega)
        ·
          refine wc_iconstN X 22 1 dX11_staying_22 ?_
          refine wc_goto X 23 27 dX11_staying_23 (by decide) ?_
          refine wc_iaddN X 27 dX11_staying_27 ?_
          refine wc_istore_n X 28 (L' := [(0, .ref o), (1, .int (nI ((stay s i) + 1))), (2, .int (nI i))]) dX11_staying_28 (by decide) rfl ?_
          refine wc_iincN X 29 2 (L' := [(0, .ref o), (1, .int (nI ((stay s i) + 1))), (2, .int (nI (i + 1)))]) dX11_staying_29 rfl (by decide) rfl ?_
          refine wc_goto X 32 4 dX11_staying_32 (by decide) ?_
          have e_8 : (stay s i) + 1 = stay s (i + 1) := (stay_on (ntF_t c19_6))
          refine wc_L (L' := [(0, .ref o), (1, .int (nI (stay s (i + 1)))), (2, .int (nI (i + 1)))]) (by first | (rw [e_8]; done) | (rw [e_8]; rfl) | rfl) ?_
          exact ih_3 (i + 1) (by omega) (by omega)
  have e_9 : 0 = stay s 0 := rfl
  refine wc_L (L' := [(0, .ref o), (1, .int (nI (stay s 0))), (2, .int (nI 0))]) (by first | (rw [e_9]; done) | (rw [e_9]; rfl) | rfl) ?_
  exact LP_2 (128 - 0 + 1) 0 (by omega) (Nat.lt_succ_self _)

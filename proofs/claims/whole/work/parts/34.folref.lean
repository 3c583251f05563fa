set_option maxHeartbeats 4000000 in
set_option maxRecDepth 100000 in
theorem c_X11_holds (l : Launch) (G : GG) (o : Nat) (th : Int32) (qtx ts pl qrp qpg qtr qbk dn qkp qik sn qsw qsi : Nat) (sd : Int64) (qln qfm qby qwy wz qfo qon qmn qpr qle qst qwt rc tk ps gn : Nat) (bd : Int32) (qwo : Nat) (qx : Nat) (p : Nat → Nat) (fo : Nat → Bool) (x y : Nat) (hr : pgOk p) (hx : x < 9) (hy : y < 9) : RM l G yX11_holds (Cond.code yX11_holds cX11_holds 9 (some .boolean)) { frames := 2, cells := 0, slots := 0, locals := 44 } [.ref o, .ref qx, .int (nI x), .int (nI y)] [ob o 11 [.int th, .ref qtx, .int (nI ts), .int (nI pl), .ref qrp, .ref qpg, .ref qtr, .ref qbk, .int (nI dn), .ref qkp, .ref qik, .int (nI sn), .ref qsw, .ref qsi, .long sd, .ref qln, .ref qfm, .ref qby, .ref qwy, .int (nI wz), .ref qfo, .ref qon, .ref qmn, .ref qpr, .ref qle, .ref qst, .ref qwt, .int (nI rc), .int (nI tk), .int (nI ps), .int (nI gn), .int bd, .ref qwo], aI G qx 22 (nF p), aZ G qfo 81 (bF fo)] (.int (b2i (decB (Hd (gz p) (go p) (Fm fo) x y)))) := by
  refine RM.ofZ (by decide) rfl (fun Γ X ret => ?_)
  show Wc Γ 0 0 0 [(0, .ref o), (1, .ref qx), (2, .int (nI x)), (3, .int (nI y))] [] [ob o 11 [.int th, .ref qtx, .int (nI ts), .int (nI pl), .ref qrp, .ref qpg, .ref qtr, .ref qbk, .int (nI dn), .ref qkp, .ref qik, .int (nI sn), .ref qsw, .ref qsi, .long sd, .ref qln, .ref qfm, .ref qby, .ref qwy, .int (nI wz), .ref qfo, .ref qon, .ref qmn, .ref qpr, .ref qle, .ref qst, .ref qwt, .int (nI rc), .int (nI tk), .int (nI ps), .int (nI gn), .int bd, .ref qwo], aI G qx 22 (nF p), aZ G qfo 81 (bF fo)]
  refine wc_iconstN X 0 1 dX11_holds_0 ?_
  refine wc_istore X 1 (L' := [(0, .ref o), (1, .ref qx), (2, .int (nI x)), (3, .int (nI y)), (4, .int (nI 1))]) dX11_holds_1 (by decide) rfl ?_
  refine wc_iconstN X 3 1 dX11_holds_3 ?_
  refine wc_istore X 4 (L' := [(0, .ref o), (1, .ref qx), (2, .int (nI x)), (3, .int (nI y)), (4, .int (nI 1)), (5, .int (nI 1))]) dX11_holds_4 (by decide) rfl ?_
  have LP_2 : ∀ (fuel_1 : Nat) (c : Nat) (b : Bool), (1 ≤ c) → (c ≤ 3) → (b = true ↔ Hl (gz p) (go p) (Fm fo) x y (c - 1)) → 3 - c < fuel_1 → Wc Γ 0 0 6 [(0, .ref o), (1, .ref qx), (2, .int (nI x)), (3, .int (nI y)), (4, .int (b2i b)), (5, .int (nI c))] [] [ob o 11 [.int th, .ref qtx, .int (nI ts), .int (nI pl), .ref qrp, .ref qpg, .ref qtr, .ref qbk, .int (nI dn), .ref qkp, .ref qik, .int (nI sn), .ref qsw, .ref qsi, .long sd, .ref qln, .ref qfm, .ref qby, .ref qwy, .int (nI wz), .ref qfo, .ref qon, .ref qmn, .ref qpr, .ref qle, .ref qst, .ref qwt, .int (nI rc), .int (nI tk), .int (nI ps), .int (nI gn), .int bd, .ref qwo], aI G qx 22 (nF p), aZ G qfo 81 (bF fo)] := by
    intro fuel_1
    induction fuel_1 with
    | zero => intro c b hc1 hc3 hb hm; exact absurd hm (Nat.not_lt_zero _)
    | succ fuel_1 ih_3 =>
      intro c b hc1 hc3 hb hm_4
      refine wc_iload X 6 5 dX11_holds_6 rfl ?_
      refine wc_iconstN X 8 3 dX11_holds_8 ?_
      refine wc_icmp_geN X 9 132 dX11_holds_9 (by decide) (by omega) (by decide) (fun c9_5 => ?_) (fun c9_5 => ?_)
      ·
        refine wc_iload X 132 4 dX11_holds_132 rfl ?_
        exact ret 134 _ b dX11_holds_134 (hl_end (by omega) hb)
      ·
        refine wc_iconstN X 12 0 dX11_holds_12 ?_
        refine wc_istore X 13 (L' := [(0, .ref o), (1, .ref qx), (2, .int (nI x)), (3, .int (nI y)), (4, .int (b2i b)), (5, .int (nI c)), (6, .int (nI 0))]) dX11_holds_13 (by decide) rfl ?_
        have LP_7 : ∀ (fuel_6 : Nat) (e : Nat) (b2 : Bool), (e ≤ 9) → (b2 = true ↔ Hl (gz p) (go p) (Fm fo) x y (c - 1) ∧ ∀ j, j < e → Hc (gz p) (go p) (Fm fo) x y c j) → 9 - e < fuel_6 → Wc Γ 0 0 15 [(0, .ref o), (1, .ref qx), (2, .int (nI x)), (3, .int (nI y)), (4, .int (b2i b2)), (5, .int (nI c)), (6, .int (nI e))] [] [ob o 11 [.int th, .ref qtx, .int (nI ts), .int (nI pl), .ref qrp, .ref qpg, .ref qtr, .ref qbk, .int (nI dn), .ref qkp, .ref qik, .int (nI sn), .ref qsw, .ref qsi, .long sd, .ref qln, .ref qfm, .ref qby, .ref qwy, .int (nI wz), .ref qfo, .ref qon, .ref qmn, .ref qpr, .ref qle, .ref qst, .ref qwt, .int (nI rc), .int (nI tk), .int (nI ps), .int (nI gn), .int bd, .ref qwo], aI G qx 22 (nF p), aZ G qfo 81 (bF fo)] := by
          intro fuel_6
          induction fuel_6 with
          | zero => intro e b2 he9 hb2 hm; exact absurd hm (Nat.not_lt_zero _)
          | succ fuel_6 ih_8 =>
            intro e b2 he9 hb2 hm_9
            refine wc_iload X 15 6 dX11_holds_15 rfl ?_
            refine wc_bipush X 17 (nI 9) dX11_holds_17 (by decide) ?_
            refine wc_icmp_geN X 19 126 dX11_holds_19 (by decide) (by omega) (by decide) (fun c19_10 => ?_) (fun c19_10 => ?_)
            ·
              refine wc_iincN X 126 5 (L' := [(0, .ref o), (1, .ref qx), (2, .int (nI x)), (3, .int (nI y)), (4, .int (b2i b2)), (5, .int (nI (c + 1))), (6, .int (nI e))]) dX11_holds_126 rfl (by decide) rfl ?_
              refine wc_goto X 129 6 dX11_holds_129 (by decide) ?_
              refine wc_loc [0, 1, 2, 3, 4, 5] (L' := [(0, .ref o), (1, .ref qx), (2, .int (nI x)), (3, .int (nI y)), (4, .int (b2i b2)), (5, .int (nI (c + 1)))]) rfl ?_
              refine wc_L (L' := [(0, .ref o), (1, .ref qx), (2, .int (nI x)), (3, .int (nI y)), (4, .int (b2i b2)), (5, .int (nI (c + 1)))]) (by rfl) ?_
              exact ih_3 (c + 1) b2 (by omega) (by omega) (hl_s hc1 (by omega) hb2) (by omega)
            ·
              refine wc_aload_n X 22 1 dX11_holds_22 rfl ?_
              refine wc_iload_n X 23 2 dX11_holds_23 rfl ?_
              refine wc_iload X 24 5 dX11_holds_24 rfl ?_
              refine wc_callS X 26 [1] (c_X11_leadsTo l G qx p x c hr.2.1 hr.2.2.2.1 hr.2.2.2.2.1 (by first | assumption | omega) (by first | assumption | omega) (by omega)) ys_X11_leadsTo rfl q_1054 ⟨rfl, rfl⟩ ⟨rfl, rfl⟩ ⟨rfl, rfl⟩ rfl rfl rfl dX11_holds_26 ?_
              refine wc_topi (nI (le9 (gz p) (go p) x c)) (congrArg nI (le9_p hx hc1 (by omega))) ?_
              refine wc_iload X 29 6 dX11_holds_29 rfl ?_
              refine wc_callS X 31 [] (c_X11_has l G (le9 (gz p) (go p) x c) e (Nat.lt_trans (le9_lt hr.2.2.2.2.2.1 (fun j => hr.2.2.2.2.1 _) _ _) (by decide)) (by omega)) ys_X11_has rfl q_916 ⟨rfl, rfl⟩ ⟨rfl, rfl⟩ ⟨rfl, rfl⟩ rfl rfl rfl dX11_holds_31 ?_
              refine wc_if_neB X 34 41 dX11_holds_34 (by decide) (fun c34_11 => ?_) (fun c34_11 => ?_)
              ·
                refine wc_iconstN X 41 0 dX11_holds_41 ?_
                refine wc_istore X 42 (L' := [(0, .ref o), (1, .ref qx), (2, .int (nI x)), (3, .int (nI y)), (4, .int (b2i b2)), (5, .int (nI c)), (6, .int (nI e)), (7, .int (nI 0))]) dX11_holds_42 (by decide) rfl ?_
                refine wc_iconstN X 44 0 dX11_holds_44 ?_
                refine wc_istore X 45 (L' := [(0, .ref o), (1, .ref qx), (2, .int (nI x)), (3, .int (nI y)), (4, .int (b2i b2)), (5, .int (nI c)), (6, .int (nI e)), (7, .int (nI 0)), (8, .int (nI 0))]) dX11_holds_45 (by decide) rfl ?_
                have LP_13 : ∀ (fuel_12 : Nat) (f : Nat) (fb : Bool), (f ≤ 9) → (fb = true ↔ Nat.testBit (le9 (gz p) (go p) x c) e = false ∨ ∃ j, j < f ∧ (Nat.testBit (le9 (gz p) (go p) y c) j = true ∧ Fm fo e j = true)) → 9 - f < fuel_12 → Wc Γ 0 0 47 [(0, .ref o), (1, .ref qx), (2, .int (nI x)), (3, .int (nI y)), (4, .int (b2i b2)), (5, .int (nI c)), (6, .int (nI e)), (7, .int (b2i fb)), (8, .int (nI f))] [] [ob o 11 [.int th, .ref qtx, .int (nI ts), .int (nI pl), .ref qrp, .ref qpg, .ref qtr, .ref qbk, .int (nI dn), .ref qkp, .ref qik, .int (nI sn), .ref qsw, .ref qsi, .long sd, .ref qln, .ref qfm, .ref qby, .ref qwy, .int (nI wz), .ref qfo, .ref qon, .ref qmn, .ref qpr, .ref qle, .ref qst, .ref qwt, .int (nI rc), .int (nI tk), .int (nI ps), .int (nI gn), .int bd, .ref qwo], aI G qx 22 (nF p), aZ G qfo 81 (bF fo)] := by
                  intro fuel_12
                  induction fuel_12 with
                  | zero => intro f fb hf9 hfb hm; exact absurd hm (Nat.not_lt_zero _)
                  | succ fuel_12 ih_14 =>
                    intro f fb hf9 hfb hm_15
                    refine wc_iload X 47 8 dX11_holds_47 rfl ?_
                    refine wc_bipush X 49 (nI 9) dX11_holds_49 (by decide) ?_
                    refine wc_icmp_geN X 51 103 dX11_holds_51 (by decide) (by omega) (by decide) (fun c51_16 => ?_) (fun c51_16 => ?_)
                    ·
                      refine wc_iload X 103 4 dX11_holds_103 rfl ?_
                      refine wc_if_eqB X 105 117 dX11_holds_105 (by decide) (fun c105_17 => ?_) (fun c105_17 => ?_)
                      ·
                        refine wc_iconstN X 117 0 dX11_holds_117 ?_
                        refine wc_istore X 118 (L' := [(0, .ref o), (1, .ref qx), (2, .int (nI x)), (3, .int (nI y)), (4, .int (nI 0)), (5, .int (nI c)), (6, .int (nI e)), (7, .int (b2i fb)), (8, .int (nI f))]) dX11_holds_118 (by decide) rfl ?_
                        refine wc_iincN X 120 6 (L' := [(0, .ref o), (1, .ref qx), (2, .int (nI x)), (3, .int (nI y)), (4, .int (nI 0)), (5, .int (nI c)), (6, .int (nI (e + 1))), (7, .int (b2i fb)), (8, .int (nI f))]) dX11_holds_120 rfl (by decide) rfl ?_
                        refine wc_goto X 123 15 dX11_holds_123 (by decide) ?_
                        refine wc_loc [0, 1, 2, 3, 4, 5, 6] (L' := [(0, .ref o), (1, .ref qx), (2, .int (nI x)), (3, .int (nI y)), (4, .int (nI 0)), (5, .int (nI c)), (6, .int (nI (e + 1)))]) rfl ?_
                        have e_18 : (.int (nI 0) : Value) = .int (b2i false) := rfl
                        refine wc_L (L' := [(0, .ref o), (1, .ref qx), (2, .int (nI x)), (3, .int (nI y)), (4, .int (b2i false)), (5, .int (nI c)), (6, .int (nI (e + 1)))]) (by first | rfl | rw [e_18] | (rw [e_18]; rfl)) ?_
                        exact ih_8 (e + 1) false (by omega) (als_f1 hb2 c105_17) (by omega)
                      ·
                        refine wc_iload X 108 7 dX11_holds_108 rfl ?_
                        refine wc_if_eqB X 110 117 dX11_holds_110 (by decide) (fun c110_19 => ?_) (fun c110_19 => ?_)
                        ·
                          refine wc_iconstN X 117 0 dX11_holds_117 ?_
                          refine wc_istore X 118 (L' := [(0, .ref o), (1, .ref qx), (2, .int (nI x)), (3, .int (nI y)), (4, .int (nI 0)), (5, .int (nI c)), (6, .int (nI e)), (7, .int (b2i fb)), (8, .int (nI f))]) dX11_holds_118 (by decide) rfl ?_
                          refine wc_iincN X 120 6 (L' := [(0, .ref o), (1, .ref qx), (2, .int (nI x)), (3, .int (nI y)), (4, .int (nI 0)), (5, .int (nI c)), (6, .int (nI (e + 1))), (7, .int (b2i fb)), (8, .int (nI f))]) dX11_holds_120 rfl (by decide) rfl ?_
                          refine wc_goto X 123 15 dX11_holds_123 (by decide) ?_
                          refine wc_loc [0, 1, 2, 3, 4, 5, 6] (L' := [(0, .ref o), (1, .ref qx), (2, .int (nI x)), (3, .int (nI y)), (4, .int (nI 0)), (5, .int (nI c)), (6, .int (nI (e + 1)))]) rfl ?_
                          have e_20 : (.int (nI 0) : Value) = .int (b2i false) := rfl
                          refine wc_L (L' := [(0, .ref o), (1, .ref qx), (2, .int (nI x)), (3, .int (nI y)), (4, .int (b2i false)), (5, .int (nI c)), (6, .int (nI (e + 1)))]) (by first | rfl | rw [e_20] | (rw [e_20]; rfl)) ?_
                          exact ih_8 (e + 1) false (by omega) (als_f2 (fun z => by rw [(hc_of (by omega) hfb).mpr z] at c110_19; cases c110_19)) (by omega)
                        ·
                          refine wc_iconstN X 113 1 dX11_holds_113 ?_
                          refine wc_goto X 114 118 dX11_holds_114 (by decide) ?_
                          refine wc_istore X 118 (L' := [(0, .ref o), (1, .ref qx), (2, .int (nI x)), (3, .int (nI y)), (4, .int (nI 1)), (5, .int (nI c)), (6, .int (nI e)), (7, .int (b2i fb)), (8, .int (nI f))]) dX11_holds_118 (by decide) rfl ?_
                          refine wc_iincN X 120 6 (L' := [(0, .ref o), (1, .ref qx), (2, .int (nI x)), (3, .int (nI y)), (4, .int (nI 1)), (5, .int (nI c)), (6, .int (nI (e + 1))), (7, .int (b2i fb)), (8, .int (nI f))]) dX11_holds_120 rfl (by decide) rfl ?_
                          refine wc_goto X 123 15 dX11_holds_123 (by decide) ?_
                          refine wc_loc [0, 1, 2, 3, 4, 5, 6] (L' := [(0, .ref o), (1, .ref qx), (2, .int (nI x)), (3, .int (nI y)), (4, .int (nI 1)), (5, .int (nI c)), (6, .int (nI (e + 1)))]) rfl ?_
                          have e_21 : (.int (nI 1) : Value) = .int (b2i true) := rfl
                          refine wc_L (L' := [(0, .ref o), (1, .ref qx), (2, .int (nI x)), (3, .int (nI y)), (4, .int (b2i true)), (5, .int (nI c)), (6, .int (nI (e + 1)))]) (by first | rfl | rw [e_21] | (rw [e_21]; rfl)) ?_
                          exact ih_8 (e + 1) true (by omega) (als_t hb2 c105_17 ((hc_of (by omega) hfb).mp c110_19)) (by omega)
                    ·
                      refine wc_iload X 54 7 dX11_holds_54 rfl ?_
                      refine wc_if_neB X 56 90 dX11_holds_56 (by decide) (fun c56_22 => ?_) (fun c56_22 => ?_)
                      ·
                        refine wc_iconstN X 90 1 dX11_holds_90 ?_
                        refine wc_goto X 91 95 dX11_holds_91 (by decide) ?_
                        refine wc_istore X 95 (L' := [(0, .ref o), (1, .ref qx), (2, .int (nI x)), (3, .int (nI y)), (4, .int (b2i b2)), (5, .int (nI c)), (6, .int (nI e)), (7, .int (nI 1)), (8, .int (nI f))]) dX11_holds_95 (by decide) rfl ?_
                        refine wc_iincN X 97 8 (L' := [(0, .ref o), (1, .ref qx), (2, .int (nI x)), (3, .int (nI y)), (4, .int (b2i b2)), (5, .int (nI c)), (6, .int (nI e)), (7, .int (nI 1)), (8, .int (nI (f + 1)))]) dX11_holds_97 rfl (by decide) rfl ?_
                        refine wc_goto X 100 47 dX11_holds_100 (by decide) ?_
                        have e_23 : (.int (nI 1) : Value) = .int (b2i true) := rfl
                        refine wc_L (L' := [(0, .ref o), (1, .ref qx), (2, .int (nI x)), (3, .int (nI y)), (4, .int (b2i b2)), (5, .int (nI c)), (6, .int (nI e)), (7, .int (b2i true)), (8, .int (nI (f + 1)))]) (by first | rfl | rw [e_23] | (rw [e_23]; rfl)) ?_
                        exact ih_14 (f + 1) true (by omega) (exs_t1 hfb c56_22) (by omega)
                      ·
                        refine wc_aload_n X 59 1 dX11_holds_59 rfl ?_
                        refine wc_iload_n X 60 3 dX11_holds_60 rfl ?_
                        refine wc_iload X 61 5 dX11_holds_61 rfl ?_
                        refine wc_callS X 63 [1] (c_X11_leadsTo l G qx p y c hr.2.1 hr.2.2.2.1 hr.2.2.2.2.1 (by first | assumption | omega) (by first | assumption | omega) (by omega)) ys_X11_leadsTo rfl q_1054 ⟨rfl, rfl⟩ ⟨rfl, rfl⟩ ⟨rfl, rfl⟩ rfl rfl rfl dX11_holds_63 ?_
                        refine wc_topi (nI (le9 (gz p) (go p) y c)) (congrArg nI (le9_p hy hc1 (by omega))) ?_
                        refine wc_iload X 66 8 dX11_holds_66 rfl ?_
                        refine wc_callS X 68 [] (c_X11_has l G (le9 (gz p) (go p) y c) f (Nat.lt_trans (le9_lt hr.2.2.2.2.2.1 (fun j => hr.2.2.2.2.1 _) _ _) (by decide)) (by omega)) ys_X11_has rfl q_916 ⟨rfl, rfl⟩ ⟨rfl, rfl⟩ ⟨rfl, rfl⟩ rfl rfl rfl dX11_holds_68 ?_
                        refine wc_if_eqB X 71 94 dX11_holds_71 (by decide) (fun c71_24 => ?_) (fun c71_24 => ?_)
                        ·
                          refine wc_iconstN X 94 0 dX11_holds_94 ?_
                          refine wc_istore X 95 (L' := [(0, .ref o), (1, .ref qx), (2, .int (nI x)), (3, .int (nI y)), (4, .int (b2i b2)), (5, .int (nI c)), (6, .int (nI e)), (7, .int (nI 0)), (8, .int (nI f))]) dX11_holds_95 (by decide) rfl ?_
                          refine wc_iincN X 97 8 (L' := [(0, .ref o), (1, .ref qx), (2, .int (nI x)), (3, .int (nI y)), (4, .int (b2i b2)), (5, .int (nI c)), (6, .int (nI e)), (7, .int (nI 0)), (8, .int (nI (f + 1)))]) dX11_holds_97 rfl (by decide) rfl ?_
                          refine wc_goto X 100 47 dX11_holds_100 (by decide) ?_
                          have e_25 : (.int (nI 0) : Value) = .int (b2i false) := rfl
                          refine wc_L (L' := [(0, .ref o), (1, .ref qx), (2, .int (nI x)), (3, .int (nI y)), (4, .int (b2i b2)), (5, .int (nI c)), (6, .int (nI e)), (7, .int (b2i false)), (8, .int (nI (f + 1)))]) (by first | rfl | rw [e_25] | (rw [e_25]; rfl)) ?_
                          exact ih_14 (f + 1) false (by omega) (exs_f hfb c56_22 (fun z => by rw [z.1] at c71_24; cases c71_24)) (by omega)
                        ·
                          refine wc_aload_n X 74 0 dX11_holds_74 rfl ?_
                          refine wc_get X 75 0 20 kd11 rfl (by decide) q_785 rfl dX11_holds_75 ?_
                          refine wc_bipush X 78 (nI 9) dX11_holds_78 (by decide) ?_
                          refine wc_iload X 80 6 dX11_holds_80 rfl ?_
                          refine wc_imulN X 82 dX11_holds_82 ?_
                          refine wc_iload X 83 8 dX11_holds_83 rfl ?_
                          refine wc_iaddN X 85 dX11_holds_85 ?_
                          refine wc_zaldG X 86 2 rfl (by omega) (by decide) dX11_holds_86 ?_
                          refine wc_topi (b2i (Fm fo e f)) (by rfl) ?_
                          refine wc_if_eqB X 87 94 dX11_holds_87 (by decide) (fun c87_26 => ?_) (fun c87_26 => ?_)
                          ·
                            refine wc_iconstN X 94 0 dX11_holds_94 ?_
                            refine wc_istore X 95 (L' := [(0, .ref o), (1, .ref qx), (2, .int (nI x)), (3, .int (nI y)), (4, .int (b2i b2)), (5, .int (nI c)), (6, .int (nI e)), (7, .int (nI 0)), (8, .int (nI f))]) dX11_holds_95 (by decide) rfl ?_
                            refine wc_iincN X 97 8 (L' := [(0, .ref o), (1, .ref qx), (2, .int (nI x)), (3, .int (nI y)), (4, .int (b2i b2)), (5, .int (nI c)), (6, .int (nI e)), (7, .int (nI 0)), (8, .int (nI (f + 1)))]) dX11_holds_97 rfl (by decide) rfl ?_
                            refine wc_goto X 100 47 dX11_holds_100 (by decide) ?_
                            have e_27 : (.int (nI 0) : Value) = .int (b2i false) := rfl
                            refine wc_L (L' := [(0, .ref o), (1, .ref qx), (2, .int (nI x)), (3, .int (nI y)), (4, .int (b2i b2)), (5, .int (nI c)), (6, .int (nI e)), (7, .int (b2i false)), (8, .int (nI (f + 1)))]) (by first | rfl | rw [e_27] | (rw [e_27]; rfl)) ?_
                            exact ih_14 (f + 1) false (by omega) (exs_f hfb c56_22 (fun z => by rw [z.2] at c87_26; cases c87_26)) (by omega)
                          ·
                            refine wc_iconstN X 90 1 dX11_holds_90 ?_
                            refine wc_goto X 91 95 dX11_holds_91 (by decide) ?_
                            refine wc_istore X 95 (L' := [(0, .ref o), (1, .ref qx), (2, .int (nI x)), (3, .int (nI y)), (4, .int (b2i b2)), (5, .int (nI c)), (6, .int (nI e)), (7, .int (nI 1)), (8, .int (nI f))]) dX11_holds_95 (by decide) rfl ?_
                            refine wc_iincN X 97 8 (L' := [(0, .ref o), (1, .ref qx), (2, .int (nI x)), (3, .int (nI y)), (4, .int (b2i b2)), (5, .int (nI c)), (6, .int (nI e)), (7, .int (nI 1)), (8, .int (nI (f + 1)))]) dX11_holds_97 rfl (by decide) rfl ?_
                            refine wc_goto X 100 47 dX11_holds_100 (by decide) ?_
                            have e_28 : (.int (nI 1) : Value) = .int (b2i true) := rfl
                            refine wc_L (L' := [(0, .ref o), (1, .ref qx), (2, .int (nI x)), (3, .int (nI y)), (4, .int (b2i b2)), (5, .int (nI c)), (6, .int (nI e)), (7, .int (b2i true)), (8, .int (nI (f + 1)))]) (by first | rfl | rw [e_28] | (rw [e_28]; rfl)) ?_
                            exact ih_14 (f + 1) true (by omega) (exs_t2 ⟨c71_24, c87_26⟩) (by omega)
                have e_29 : (.int (nI 0) : Value) = .int (b2i false) := rfl
                refine wc_L (L' := [(0, .ref o), (1, .ref qx), (2, .int (nI x)), (3, .int (nI y)), (4, .int (b2i b2)), (5, .int (nI c)), (6, .int (nI e)), (7, .int (b2i false)), (8, .int (nI 0))]) (by first | rfl | rw [e_29] | (rw [e_29]; rfl)) ?_
                exact LP_13 (9 - 0 + 1) 0 false (by decide) (exs_0 ⟨fun z => (Bool.false_ne_true z).elim, fun z => by rw [z] at c34_11; cases c34_11⟩) (Nat.lt_succ_self _)
              ·
                refine wc_iconstN X 37 1 dX11_holds_37 ?_
                refine wc_goto X 38 42 dX11_holds_38 (by decide) ?_
                refine wc_istore X 42 (L' := [(0, .ref o), (1, .ref qx), (2, .int (nI x)), (3, .int (nI y)), (4, .int (b2i b2)), (5, .int (nI c)), (6, .int (nI e)), (7, .int (nI 1))]) dX11_holds_42 (by decide) rfl ?_
                refine wc_iconstN X 44 0 dX11_holds_44 ?_
                refine wc_istore X 45 (L' := [(0, .ref o), (1, .ref qx), (2, .int (nI x)), (3, .int (nI y)), (4, .int (b2i b2)), (5, .int (nI c)), (6, .int (nI e)), (7, .int (nI 1)), (8, .int (nI 0))]) dX11_holds_45 (by decide) rfl ?_
                have LP_31 : ∀ (fuel_30 : Nat) (f : Nat) (fb : Bool), (f ≤ 9) → (fb = true ↔ Nat.testBit (le9 (gz p) (go p) x c) e = false ∨ ∃ j, j < f ∧ (Nat.testBit (le9 (gz p) (go p) y c) j = true ∧ Fm fo e j = true)) → 9 - f < fuel_30 → Wc Γ 0 0 47 [(0, .ref o), (1, .ref qx), (2, .int (nI x)), (3, .int (nI y)), (4, .int (b2i b2)), (5, .int (nI c)), (6, .int (nI e)), (7, .int (b2i fb)), (8, .int (nI f))] [] [ob o 11 [.int th, .ref qtx, .int (nI ts), .int (nI pl), .ref qrp, .ref qpg, .ref qtr, .ref qbk, .int (nI dn), .ref qkp, .ref qik, .int (nI sn), .ref qsw, .ref qsi, .long sd, .ref qln, .ref qfm, .ref qby, .ref qwy, .int (nI wz), .ref qfo, .ref qon, .ref qmn, .ref qpr, .ref qle, .ref qst, .ref qwt, .int (nI rc), .int (nI tk), .int (nI ps), .int (nI gn), .int bd, .ref qwo], aI G qx 22 (nF p), aZ G qfo 81 (bF fo)] := by
                  intro fuel_30
                  induction fuel_30 with
                  | zero => intro f fb hf9 hfb hm; exact absurd hm (Nat.not_lt_zero _)
                  | succ fuel_30 ih_32 =>
                    intro f fb hf9 hfb hm_33
                    refine wc_iload X 47 8 dX11_holds_47 rfl ?_
                    refine wc_bipush X 49 (nI 9) dX11_holds_49 (by decide) ?_
                    refine wc_icmp_geN X 51 103 dX11_holds_51 (by decide) (by omega) (by decide) (fun c51_34 => ?_) (fun c51_34 => ?_)
                    ·
                      refine wc_iload X 103 4 dX11_holds_103 rfl ?_
                      refine wc_if_eqB X 105 117 dX11_holds_105 (by decide) (fun c105_35 => ?_) (fun c105_35 => ?_)
                      ·
                        refine wc_iconstN X 117 0 dX11_holds_117 ?_
                        refine wc_istore X 118 (L' := [(0, .ref o), (1, .ref qx), (2, .int (nI x)), (3, .int (nI y)), (4, .int (nI 0)), (5, .int (nI c)), (6, .int (nI e)), (7, .int (b2i fb)), (8, .int (nI f))]) dX11_holds_118 (by decide) rfl ?_
                        refine wc_iincN X 120 6 (L' := [(0, .ref o), (1, .ref qx), (2, .int (nI x)), (3, .int (nI y)), (4, .int (nI 0)), (5, .int (nI c)), (6, .int (nI (e + 1))), (7, .int (b2i fb)), (8, .int (nI f))]) dX11_holds_120 rfl (by decide) rfl ?_
                        refine wc_goto X 123 15 dX11_holds_123 (by decide) ?_
                        refine wc_loc [0, 1, 2, 3, 4, 5, 6] (L' := [(0, .ref o), (1, .ref qx), (2, .int (nI x)), (3, .int (nI y)), (4, .int (nI 0)), (5, .int (nI c)), (6, .int (nI (e + 1)))]) rfl ?_
                        have e_36 : (.int (nI 0) : Value) = .int (b2i false) := rfl
                        refine wc_L (L' := [(0, .ref o), (1, .ref qx), (2, .int (nI x)), (3, .int (nI y)), (4, .int (b2i false)), (5, .int (nI c)), (6, .int (nI (e + 1)))]) (by first | rfl | rw [e_36] | (rw [e_36]; rfl)) ?_
                        exact ih_8 (e + 1) false (by omega) (als_f1 hb2 c105_35) (by omega)
                      ·
                        refine wc_iload X 108 7 dX11_holds_108 rfl ?_
                        refine wc_if_eqB X 110 117 dX11_holds_110 (by decide) (fun c110_37 => ?_) (fun c110_37 => ?_)
                        ·
                          refine wc_iconstN X 117 0 dX11_holds_117 ?_
                          refine wc_istore X 118 (L' := [(0, .ref o), (1, .ref qx), (2, .int (nI x)), (3, .int (nI y)), (4, .int (nI 0)), (5, .int (nI c)), (6, .int (nI e)), (7, .int (b2i fb)), (8, .int (nI f))]) dX11_holds_118 (by decide) rfl ?_
                          refine wc_iincN X 120 6 (L' := [(0, .ref o), (1, .ref qx), (2, .int (nI x)), (3, .int (nI y)), (4, .int (nI 0)), (5, .int (nI c)), (6, .int (nI (e + 1))), (7, .int (b2i fb)), (8, .int (nI f))]) dX11_holds_120 rfl (by decide) rfl ?_
                          refine wc_goto X 123 15 dX11_holds_123 (by decide) ?_
                          refine wc_loc [0, 1, 2, 3, 4, 5, 6] (L' := [(0, .ref o), (1, .ref qx), (2, .int (nI x)), (3, .int (nI y)), (4, .int (nI 0)), (5, .int (nI c)), (6, .int (nI (e + 1)))]) rfl ?_
                          have e_38 : (.int (nI 0) : Value) = .int (b2i false) := rfl
                          refine wc_L (L' := [(0, .ref o), (1, .ref qx), (2, .int (nI x)), (3, .int (nI y)), (4, .int (b2i false)), (5, .int (nI c)), (6, .int (nI (e + 1)))]) (by first | rfl | rw [e_38] | (rw [e_38]; rfl)) ?_
                          exact ih_8 (e + 1) false (by omega) (als_f2 (fun z => by rw [(hc_of (by omega) hfb).mpr z] at c110_37; cases c110_37)) (by omega)
                        ·
                          refine wc_iconstN X 113 1 dX11_holds_113 ?_
                          refine wc_goto X 114 118 dX11_holds_114 (by decide) ?_
                          refine wc_istore X 118 (L' := [(0, .ref o), (1, .ref qx), (2, .int (nI x)), (3, .int (nI y)), (4, .int (nI 1)), (5, .int (nI c)), (6, .int (nI e)), (7, .int (b2i fb)), (8, .int (nI f))]) dX11_holds_118 (by decide) rfl ?_
                          refine wc_iincN X 120 6 (L' := [(0, .ref o), (1, .ref qx), (2, .int (nI x)), (3, .int (nI y)), (4, .int (nI 1)), (5, .int (nI c)), (6, .int (nI (e + 1))), (7, .int (b2i fb)), (8, .int (nI f))]) dX11_holds_120 rfl (by decide) rfl ?_
                          refine wc_goto X 123 15 dX11_holds_123 (by decide) ?_
                          refine wc_loc [0, 1, 2, 3, 4, 5, 6] (L' := [(0, .ref o), (1, .ref qx), (2, .int (nI x)), (3, .int (nI y)), (4, .int (nI 1)), (5, .int (nI c)), (6, .int (nI (e + 1)))]) rfl ?_
                          have e_39 : (.int (nI 1) : Value) = .int (b2i true) := rfl
                          refine wc_L (L' := [(0, .ref o), (1, .ref qx), (2, .int (nI x)), (3, .int (nI y)), (4, .int (b2i true)), (5, .int (nI c)), (6, .int (nI (e + 1)))]) (by first | rfl | rw [e_39] | (rw [e_39]; rfl)) ?_
                          exact ih_8 (e + 1) true (by omega) (als_t hb2 c105_35 ((hc_of (by omega) hfb).mp c110_37)) (by omega)
                    ·
                      refine wc_iload X 54 7 dX11_holds_54 rfl ?_
                      refine wc_if_neB X 56 90 dX11_holds_56 (by decide) (fun c56_40 => ?_) (fun c56_40 => ?_)
                      ·
                        refine wc_iconstN X 90 1 dX11_holds_90 ?_
                        refine wc_goto X 91 95 dX11_holds_91 (by decide) ?_
                        refine wc_istore X 95 (L' := [(0, .ref o), (1, .ref qx), (2, .int (nI x)), (3, .int (nI y)), (4, .int (b2i b2)), (5, .int (nI c)), (6, .int (nI e)), (7, .int (nI 1)), (8, .int (nI f))]) dX11_holds_95 (by decide) rfl ?_
                        refine wc_iincN X 97 8 (L' := [(0, .ref o), (1, .ref qx), (2, .int (nI x)), (3, .int (nI y)), (4, .int (b2i b2)), (5, .int (nI c)), (6, .int (nI e)), (7, .int (nI 1)), (8, .int (nI (f + 1)))]) dX11_holds_97 rfl (by decide) rfl ?_
                        refine wc_goto X 100 47 dX11_holds_100 (by decide) ?_
                        have e_41 : (.int (nI 1) : Value) = .int (b2i true) := rfl
                        refine wc_L (L' := [(0, .ref o), (1, .ref qx), (2, .int (nI x)), (3, .int (nI y)), (4, .int (b2i b2)), (5, .int (nI c)), (6, .int (nI e)), (7, .int (b2i true)), (8, .int (nI (f + 1)))]) (by first | rfl | rw [e_41] | (rw [e_41]; rfl)) ?_
                        exact ih_32 (f + 1) true (by omega) (exs_t1 hfb c56_40) (by omega)
                      ·
                        refine wc_aload_n X 59 1 dX11_holds_59 rfl ?_
                        refine wc_iload_n X 60 3 dX11_holds_60 rfl ?_
                        refine wc_iload X 61 5 dX11_holds_61 rfl ?_
                        refine wc_callS X 63 [1] (c_X11_leadsTo l G qx p y c hr.2.1 hr.2.2.2.1 hr.2.2.2.2.1 (by first | assumption | omega) (by first | assumption | omega) (by omega)) ys_X11_leadsTo rfl q_1054 ⟨rfl, rfl⟩ ⟨rfl, rfl⟩ ⟨rfl, rfl⟩ rfl rfl rfl dX11_holds_63 ?_
                        refine wc_topi (nI (le9 (gz p) (go p) y c)) (congrArg nI (le9_p hy hc1 (by omega))) ?_
                        refine wc_iload X 66 8 dX11_holds_66 rfl ?_
                        refine wc_callS X 68 [] (c_X11_has l G (le9 (gz p) (go p) y c) f (Nat.lt_trans (le9_lt hr.2.2.2.2.2.1 (fun j => hr.2.2.2.2.1 _) _ _) (by decide)) (by omega)) ys_X11_has rfl q_916 ⟨rfl, rfl⟩ ⟨rfl, rfl⟩ ⟨rfl, rfl⟩ rfl rfl rfl dX11_holds_68 ?_
                        refine wc_if_eqB X 71 94 dX11_holds_71 (by decide) (fun c71_42 => ?_) (fun c71_42 => ?_)
                        ·
                          refine wc_iconstN X 94 0 dX11_holds_94 ?_
                          refine wc_istore X 95 (L' := [(0, .ref o), (1, .ref qx), (2, .int (nI x)), (3, .int (nI y)), (4, .int (b2i b2)), (5, .int (nI c)), (6, .int (nI e)), (7, .int (nI 0)), (8, .int (nI f))]) dX11_holds_95 (by decide) rfl ?_
                          refine wc_iincN X 97 8 (L' := [(0, .ref o), (1, .ref qx), (2, .int (nI x)), (3, .int (nI y)), (4, .int (b2i b2)), (5, .int (nI c)), (6, .int (nI e)), (7, .int (nI 0)), (8, .int (nI (f + 1)))]) dX11_holds_97 rfl (by decide) rfl ?_
                          refine wc_goto X 100 47 dX11_holds_100 (by decide) ?_
                          have e_43 : (.int (nI 0) : Value) = .int (b2i false) := rfl
                          refine wc_L (L' := [(0, .ref o), (1, .ref qx), (2, .int (nI x)), (3, .int (nI y)), (4, .int (b2i b2)), (5, .int (nI c)), (6, .int (nI e)), (7, .int (b2i false)), (8, .int (nI (f + 1)))]) (by first | rfl | rw [e_43] | (rw [e_43]; rfl)) ?_
                          exact ih_32 (f + 1) false (by omega) (exs_f hfb c56_40 (fun z => by rw [z.1] at c71_42; cases c71_42)) (by omega)
                        ·
                          refine wc_aload_n X 74 0 dX11_holds_74 rfl ?_
                          refine wc_get X 75 0 20 kd11 rfl (by decide) q_785 rfl dX11_holds_75 ?_
                          refine wc_bipush X 78 (nI 9) dX11_holds_78 (by decide) ?_
                          refine wc_iload X 80 6 dX11_holds_80 rfl ?_
                          refine wc_imulN X 82 dX11_holds_82 ?_
                          refine wc_iload X 83 8 dX11_holds_83 rfl ?_
                          refine wc_iaddN X 85 dX11_holds_85 ?_
                          refine wc_zaldG X 86 2 rfl (by omega) (by decide) dX11_holds_86 ?_
                          refine wc_topi (b2i (Fm fo e f)) (by rfl) ?_
                          refine wc_if_eqB X 87 94 dX11_holds_87 (by decide) (fun c87_44 => ?_) (fun c87_44 => ?_)
                          ·
                            refine wc_iconstN X 94 0 dX11_holds_94 ?_
                            refine wc_istore X 95 (L' := [(0, .ref o), (1, .ref qx), (2, .int (nI x)), (3, .int (nI y)), (4, .int (b2i b2)), (5, .int (nI c)), (6, .int (nI e)), (7, .int (nI 0)), (8, .int (nI f))]) dX11_holds_95 (by decide) rfl ?_
                            refine wc_iincN X 97 8 (L' := [(0, .ref o), (1, .ref qx), (2, .int (nI x)), (3, .int (nI y)), (4, .int (b2i b2)), (5, .int (nI c)), (6, .int (nI e)), (7, .int (nI 0)), (8, .int (nI (f + 1)))]) dX11_holds_97 rfl (by decide) rfl ?_
                            refine wc_goto X 100 47 dX11_holds_100 (by decide) ?_
                            have e_45 : (.int (nI 0) : Value) = .int (b2i false) := rfl
                            refine wc_L (L' := [(0, .ref o), (1, .ref qx), (2, .int (nI x)), (3, .int (nI y)), (4, .int (b2i b2)), (5, .int (nI c)), (6, .int (nI e)), (7, .int (b2i false)), (8, .int (nI (f + 1)))]) (by first | rfl | rw [e_45] | (rw [e_45]; rfl)) ?_
                            exact ih_32 (f + 1) false (by omega) (exs_f hfb c56_40 (fun z => by rw [z.2] at c87_44; cases c87_44)) (by omega)
                          ·
                            refine wc_iconstN X 90 1 dX11_holds_90 ?_
                            refine wc_goto X 91 95 dX11_holds_91 (by decide) ?_
                            refine wc_istore X 95 (L' := [(0, .ref o), (1, .ref qx), (2, .int (nI x)), (3, .int (nI y)), (4, .int (b2i b2)), (5, .int (nI c)), (6, .int (nI e)), (7, .int (nI 1)), (8, .int (nI f))]) dX11_holds_95 (by decide) rfl ?_
                            refine wc_iincN X 97 8 (L' := [(0, .ref o), (1, .ref qx), (2, .int (nI x)), (3, .int (nI y)), (4, .int (b2i b2)), (5, .int (nI c)), (6, .int (nI e)), (7, .int (nI 1)), (8, .int (nI (f + 1)))]) dX11_holds_97 rfl (by decide) rfl ?_
                            refine wc_goto X 100 47 dX11_holds_100 (by decide) ?_
                            have e_46 : (.int (nI 1) : Value) = .int (b2i true) := rfl
                            refine wc_L (L' := [(0, .ref o), (1, .ref qx), (2, .int (nI x)), (3, .int (nI y)), (4, .int (b2i b2)), (5, .int (nI c)), (6, .int (nI e)), (7, .int (b2i true)), (8, .int (nI (f + 1)))]) (by first | rfl | rw [e_46] | (rw [e_46]; rfl)) ?_
                            exact ih_32 (f + 1) true (by omega) (exs_t2 ⟨c71_42, c87_44⟩) (by omega)
                have e_47 : (.int (nI 1) : Value) = .int (b2i true) := rfl
                refine wc_L (L' := [(0, .ref o), (1, .ref qx), (2, .int (nI x)), (3, .int (nI y)), (4, .int (b2i b2)), (5, .int (nI c)), (6, .int (nI e)), (7, .int (b2i true)), (8, .int (nI 0))]) (by first | rfl | rw [e_47] | (rw [e_47]; rfl)) ?_
                exact LP_31 (9 - 0 + 1) 0 true (by decide) (exs_0 ⟨fun _ => c34_11, fun _ => rfl⟩) (Nat.lt_succ_self _)
        exact LP_7 (9 - 0 + 1) 0 b (by decide) (als_0 hb) (Nat.lt_succ_self _)
  have e_48 : (.int (nI 1) : Value) = .int (b2i true) := rfl
  refine wc_L (L' := [(0, .ref o), (1, .ref qx), (2, .int (nI x)), (3, .int (nI y)), (4, .int (b2i true)), (5, .int (nI 1))]) (by first | rfl | rw [e_48] | (rw [e_48]; rfl)) ?_
  exact LP_2 (3 - 1 + 1) 1 true (by decide) (by decide) ⟨fun _ => trivial, fun _ => rfl⟩ (Nat.lt_succ_self _)

set_option maxHeartbeats 4000000 in
set_option maxRecDepth 100000 in
theorem c_X11_findFollows (l : Launch) (G : GG) (o : Nat) (th : Int32) (qtx ts pl qrp qpg qtr qbk dn qkp qik sn qsw qsi : Nat) (sd : Int64) (qln qfm qby qwy wz qfo qon qmn qpr qle qst qwt rc tk ps gn : Nat) (bd : Int32) (qwo : Nat) (qx : Nat) (p : Nat → Nat) (fo : Nat → Bool) (hr : pgOk p) : MM l G yX11_findFollows (Cond.code yX11_findFollows cX11_findFollows 5 none) { frames := 3, cells := 0, slots := 0, locals := 72 } [.ref o, .ref qx] [ob o 11 [.int th, .ref qtx, .int (nI ts), .int (nI pl), .ref qrp, .ref qpg, .ref qtr, .ref qbk, .int (nI dn), .ref qkp, .ref qik, .int (nI sn), .ref qsw, .ref qsi, .long sd, .ref qln, .ref qfm, .ref qby, .ref qwy, .int (nI wz), .ref qfo, .ref qon, .ref qmn, .ref qpr, .ref qle, .ref qst, .ref qwt, .int (nI rc), .int (nI tk), .int (nI ps), .int (nI gn), .int bd, .ref qwo], aI G qx 22 (nF p), aZ G qfo 81 (bF fo)] (fun (v : Option Value) (w : va_W) => ∃ (fo2 : Nat → Bool), v = none ∧ w = [ob o 11 [.int th, .ref qtx, .int (nI ts), .int (nI pl), .ref qrp, .ref qpg, .ref qtr, .ref qbk, .int (nI dn), .ref qkp, .ref qik, .int (nI sn), .ref qsw, .ref qsi, .long sd, .ref qln, .ref qfm, .ref qby, .ref qwy, .int (nI wz), .ref qfo, .ref qon, .ref qmn, .ref qpr, .ref qle, .ref qst, .ref qwt, .int (nI rc), .int (nI tk), .int (nI ps), .int (nI gn), .int bd, .ref qwo], aI G qx 22 (nF p), aZ G qfo 81 (bF fo2)] ∧ (∀ x y, x < 9 → y < 9 → fo2 (9 * x + y) = folB (gz p) (p 0) (p 2) (go p) (p 1) (p 3) x y)) 0 0 := by
  refine MM.ofV (by decide) rfl (fun Γ X Y hnm ret => ?_)
  show Wc Γ 0 0 0 [(0, .ref o), (1, .ref qx)] [] [ob o 11 [.int th, .ref qtx, .int (nI ts), .int (nI pl), .ref qrp, .ref qpg, .ref qtr, .ref qbk, .int (nI dn), .ref qkp, .ref qik, .int (nI sn), .ref qsw, .ref qsi, .long sd, .ref qln, .ref qfm, .ref qby, .ref qwy, .int (nI wz), .ref qfo, .ref qon, .ref qmn, .ref qpr, .ref qle, .ref qst, .ref qwt, .int (nI rc), .int (nI tk), .int (nI ps), .int (nI gn), .int bd, .ref qwo], aI G qx 22 (nF p), aZ G qfo 81 (bF fo)]
  refine wc_iconstN X 0 0 dX11_findFollows_0 ?_
  refine wc_istore_n X 1 (L' := [(0, .ref o), (1, .ref qx), (2, .int (nI 0))]) dX11_findFollows_1 (by decide) rfl ?_
  have LP_2 : ∀ (fuel_1 : Nat) (k : Nat) (f : Nat → Bool), (k ≤ 81) → (∀ j, j < k → f j = bs (p 0) (p 2) (p 1) (p 3) (j / 9) (j % 9)) → 81 - k < fuel_1 → Wc Γ 0 0 2 [(0, .ref o), (1, .ref qx), (2, .int (nI k))] [] [ob o 11 [.int th, .ref qtx, .int (nI ts), .int (nI pl), .ref qrp, .ref qpg, .ref qtr, .ref qbk, .int (nI dn), .ref qkp, .ref qik, .int (nI sn), .ref qsw, .ref qsi, .long sd, .ref qln, .ref qfm, .ref qby, .ref qwy, .int (nI wz), .ref qfo, .ref qon, .ref qmn, .ref qpr, .ref qle, .ref qst, .ref qwt, .int (nI rc), .int (nI tk), .int (nI ps), .int (nI gn), .int bd, .ref qwo], aI G qx 22 (nF p), aZ G qfo 81 (bF f)] := by
    intro fuel_1
    induction fuel_1 with
    | zero => intro k f hk hf hm; exact absurd hm (Nat.not_lt_zero _)
    | succ fuel_1 ih_3 =>
      intro k f hk hf hm_4
      refine wc_iload_n X 2 2 dX11_findFollows_2 rfl ?_
      refine wc_bipush X 3 (nI 81) dX11_findFollows_3 (by decide) ?_
      refine wc_icmp_geN X 5 70 dX11_findFollows_5 (by decide) (by omega) (by decide) (fun c5_5 => ?_) (fun c5_5 => ?_)
      ·
        refine wc_iconstN X 70 1 dX11_findFollows_70 ?_
        refine wc_istore_n X 71 (L' := [(0, .ref o), (1, .ref qx), (2, .int (nI 1))]) dX11_findFollows_71 (by decide) rfl ?_
        have LP_7 : ∀ (fuel_6 : Nat) (m : Bool) (f1 : Nat → Bool), (FolIn (gz p) (p 0) (p 2) (go p) (p 1) (p 3) (Fm f1)) → (m = false → ∀ j, j < 81 → f1 j = true → Hd (gz p) (go p) (Fm f1) (j / 9) (j % 9)) → 2 * cnt f1 81 + m.toNat < fuel_6 → Wc Γ 0 0 72 [(0, .ref o), (1, .ref qx), (2, .int (b2i m))] [] [ob o 11 [.int th, .ref qtx, .int (nI ts), .int (nI pl), .ref qrp, .ref qpg, .ref qtr, .ref qbk, .int (nI dn), .ref qkp, .ref qik, .int (nI sn), .ref qsw, .ref qsi, .long sd, .ref qln, .ref qfm, .ref qby, .ref qwy, .int (nI wz), .ref qfo, .ref qon, .ref qmn, .ref qpr, .ref qle, .ref qst, .ref qwt, .int (nI rc), .int (nI tk), .int (nI ps), .int (nI gn), .int bd, .ref qwo], aI G qx 22 (nF p), aZ G qfo 81 (bF f1)] := by
          intro fuel_6
          induction fuel_6 with
          | zero => intro m f1 hF hm hm; exact absurd hm (Nat.not_lt_zero _)
          | succ fuel_6 ih_8 =>
            intro m f1 hF hm hm_9
            refine wc_iload_n X 72 2 dX11_findFollows_72 rfl ?_
            refine wc_if_eqB X 73 129 dX11_findFollows_73 (by decide) (fun c73_10 => ?_) (fun c73_10 => ?_)
            ·
              exact ret 129 _ _ dX11_findFollows_129 (⟨f1, rfl, rfl, fun x y hx hy => FolIn_end hF (fun a b ha hb hv => fol_hd (hm c73_10) ha hb hv) (fun a c e _ hb => le9_bit hr.2.2.2.2.2.1 (fun j => hr.2.2.2.2.1 _) a c e hb) hx hy⟩)
            ·
              have hmt := c73_10
              refine wc_iconstN X 76 0 dX11_findFollows_76 ?_
              refine wc_istore_n X 77 (L' := [(0, .ref o), (1, .ref qx), (2, .int (nI 0))]) dX11_findFollows_77 (by decide) rfl ?_
              refine wc_iconstN X 78 0 dX11_findFollows_78 ?_
              refine wc_istore_n X 79 (L' := [(0, .ref o), (1, .ref qx), (2, .int (nI 0)), (3, .int (nI 0))]) dX11_findFollows_79 (by decide) rfl ?_
              have LP_12 : ∀ (fuel_11 : Nat) (k : Nat) (m2 : Bool) (f2 : Nat → Bool), (k ≤ 81) → (FolIn (gz p) (p 0) (p 2) (go p) (p 1) (p 3) (Fm f2)) → (cnt f2 81 ≤ cnt f1 81) → (m2 = true → cnt f2 81 < cnt f1 81) → (m2 = false → True ∧ ∀ j, j < k → f2 j = true → Hd (gz p) (go p) (Fm f2) (j / 9) (j % 9)) → 81 - k < fuel_11 → Wc Γ 0 0 80 [(0, .ref o), (1, .ref qx), (2, .int (b2i m2)), (3, .int (nI k))] [] [ob o 11 [.int th, .ref qtx, .int (nI ts), .int (nI pl), .ref qrp, .ref qpg, .ref qtr, .ref qbk, .int (nI dn), .ref qkp, .ref qik, .int (nI sn), .ref qsw, .ref qsi, .long sd, .ref qln, .ref qfm, .ref qby, .ref qwy, .int (nI wz), .ref qfo, .ref qon, .ref qmn, .ref qpr, .ref qle, .ref qst, .ref qwt, .int (nI rc), .int (nI tk), .int (nI ps), .int (nI gn), .int bd, .ref qwo], aI G qx 22 (nF p), aZ G qfo 81 (bF f2)] := by
                intro fuel_11
                induction fuel_11 with
                | zero => intro k m2 f2 hk hF2 hle hlt2 hm0 hm; exact absurd hm (Nat.not_lt_zero _)
                | succ fuel_11 ih_13 =>
                  intro k m2 f2 hk hF2 hle hlt2 hm0 hm_14
                  refine wc_iload_n X 80 3 dX11_findFollows_80 rfl ?_
                  refine wc_bipush X 81 (nI 81) dX11_findFollows_81 (by decide) ?_
                  refine wc_icmp_geN X 83 126 dX11_findFollows_83 (by decide) (by omega) (by decide) (fun c83_15 => ?_) (fun c83_15 => ?_)
                  ·
                    refine wc_goto X 126 72 dX11_findFollows_126 (by decide) ?_
                    refine wc_loc [0, 1, 2] (L' := [(0, .ref o), (1, .ref qx), (2, .int (b2i m2))]) rfl ?_
                    exact ih_8 m2 f2 hF2 (fun z j hj hv => (hm0 z).2 j (by omega) hv) (fol_ms hmt hle hlt2 (by omega))
                  ·
                    refine wc_aload_n X 86 0 dX11_findFollows_86 rfl ?_
                    refine wc_get X 87 0 20 kd11 rfl (by decide) q_785 rfl dX11_findFollows_87 ?_
                    refine wc_iload_n X 90 3 dX11_findFollows_90 rfl ?_
                    refine wc_zaldG X 91 2 rfl (by omega) (by decide) dX11_findFollows_91 ?_
                    refine wc_if_eqB X 92 120 dX11_findFollows_92 (by decide) (fun c92_16 => ?_) (fun c92_16 => ?_)
                    ·
                      refine wc_iincN X 120 3 (L' := [(0, .ref o), (1, .ref qx), (2, .int (b2i m2)), (3, .int (nI (k + 1)))]) dX11_findFollows_120 rfl (by decide) rfl ?_
                      refine wc_goto X 123 80 dX11_findFollows_123 (by decide) ?_
                      refine wc_L (L' := [(0, .ref o), (1, .ref qx), (2, .int (b2i m2)), (3, .int (nI (k + 1)))]) (by rfl) ?_
                      exact ih_13 (k + 1) m2 f2 (by omega) hF2 hle hlt2 (fun z => ⟨trivial, lt_ext (hm0 z).2 (fun hv => by rw [hv] at c92_16; cases c92_16)⟩) (by omega)
                    ·
                      refine wc_aload_n X 95 0 dX11_findFollows_95 rfl ?_
                      refine wc_aload_n X 96 1 dX11_findFollows_96 rfl ?_
                      refine wc_iload_n X 97 3 dX11_findFollows_97 rfl ?_
                      refine wc_bipush X 98 (nI 9) dX11_findFollows_98 (by decide) ?_
                      refine wc_idivN X 100 dX11_findFollows_100 (by omega) (by decide) (by decide) ?_
                      refine wc_iload_n X 101 3 dX11_findFollows_101 rfl ?_
                      refine wc_bipush X 102 (nI 9) dX11_findFollows_102 (by decide) ?_
                      refine wc_iremN X 104 dX11_findFollows_104 (by omega) (by decide) (by decide) ?_
                      refine wc_callV X 105 [0, 1, 2] 0 (c_X11_holds l G o th qtx ts pl qrp qpg qtr qbk dn qkp qik sn qsw qsi sd qln qfm qby qwy wz qfo qon qmn qpr qle qst qwt rc tk ps gn bd qwo qx p f2 (k / 9) (k % 9) (by first | assumption | omega) (by first | assumption | omega) (by first | assumption | omega)) yv_X11_holds kd11 rfl rfl q_1050 ⟨rfl, rfl⟩ ⟨rfl, rfl⟩ ⟨rfl, rfl⟩ rfl rfl rfl dX11_findFollows_105 ?_
                      refine wc_if_neB X 108 120 dX11_findFollows_108 (by decide) (fun c108_17 => ?_) (fun c108_17 => ?_)
                      ·
                        refine wc_iincN X 120 3 (L' := [(0, .ref o), (1, .ref qx), (2, .int (b2i m2)), (3, .int (nI (k + 1)))]) dX11_findFollows_120 rfl (by decide) rfl ?_
                        refine wc_goto X 123 80 dX11_findFollows_123 (by decide) ?_
                        refine wc_L (L' := [(0, .ref o), (1, .ref qx), (2, .int (b2i m2)), (3, .int (nI (k + 1)))]) (by rfl) ?_
                        exact ih_13 (k + 1) m2 f2 (by omega) hF2 hle hlt2 (fun z => ⟨trivial, lt_ext (hm0 z).2 (fun hv => decB_iff.mp c108_17)⟩) (by omega)
                      ·
                        refine wc_aload_n X 111 0 dX11_findFollows_111 rfl ?_
                        refine wc_get X 112 0 20 kd11 rfl (by decide) q_785 rfl dX11_findFollows_112 ?_
                        refine wc_iload_n X 115 3 dX11_findFollows_115 rfl ?_
                        refine wc_iconstN X 116 0 dX11_findFollows_116 ?_
                        refine wc_st (st' := [.int (b2i false), .int (nI k), .ref qfo]) rfl ?_
                        refine wc_zastG X Y 117 2 rfl (by omega) (by decide) (ws' := [ob o 11 [.int th, .ref qtx, .int (nI ts), .int (nI pl), .ref qrp, .ref qpg, .ref qtr, .ref qbk, .int (nI dn), .ref qkp, .ref qik, .int (nI sn), .ref qsw, .ref qsi, .long sd, .ref qln, .ref qfm, .ref qby, .ref qwy, .int (nI wz), .ref qfo, .ref qon, .ref qmn, .ref qpr, .ref qle, .ref qst, .ref qwt, .int (nI rc), .int (nI tk), .int (nI ps), .int (nI gn), .int bd, .ref qwo], aI G qx 22 (nF p), aZ G qfo 81 (bF (up f2 k false))]) rfl dX11_findFollows_117 ?_
                        refine wc_iconstN X 118 1 dX11_findFollows_118 ?_
                        refine wc_istore_n X 119 (L' := [(0, .ref o), (1, .ref qx), (2, .int (nI 1)), (3, .int (nI k))]) dX11_findFollows_119 (by decide) rfl ?_
                        refine wc_iincN X 120 3 (L' := [(0, .ref o), (1, .ref qx), (2, .int (nI 1)), (3, .int (nI (k + 1)))]) dX11_findFollows_120 rfl (by decide) rfl ?_
                        refine wc_goto X 123 80 dX11_findFollows_123 (by decide) ?_
                        have e_18 : (.int (nI 1) : Value) = .int (b2i true) := rfl
                        refine wc_L (L' := [(0, .ref o), (1, .ref qx), (2, .int (b2i true)), (3, .int (nI (k + 1)))]) (by first | rfl | rw [e_18] | (rw [e_18]; rfl)) ?_
                        exact ih_13 (k + 1) true (up f2 k false) (by omega) (Fm_up hF2 (fun z => by rw [decB_t z] at c108_17; cases c108_17)) (by have := cnt_up c92_16 81 (by omega); omega) (fun _ => by have := cnt_up c92_16 81 (by omega); omega) (fun z => (Bool.false_ne_true z.symm).elim) (by omega)
              have e_19 : (.int (nI 0) : Value) = .int (b2i false) := rfl
              refine wc_L (L' := [(0, .ref o), (1, .ref qx), (2, .int (b2i false)), (3, .int (nI 0))]) (by first | rfl | rw [e_19] | (rw [e_19]; rfl)) ?_
              exact LP_12 (81 - 0 + 1) 0 false f1 (by decide) hF (Nat.le_refl _) (fun z => (Bool.false_ne_true z).elim) (fun _ => ⟨trivial, fun j hj => absurd hj (Nat.not_lt_zero _)⟩) (Nat.lt_succ_self _)
        have e_20 : (.int (nI 1) : Value) = .int (b2i true) := rfl
        refine wc_L (L' := [(0, .ref o), (1, .ref qx), (2, .int (b2i true))]) (by first | rfl | rw [e_20] | (rw [e_20]; rfl)) ?_
        exact LP_7 (2 * cnt f 81 + true.toNat + 1) true f (Fm_init (fun j hj => hf j (by omega))) (fun z => (Bool.false_ne_true z.symm).elim) (Nat.lt_succ_self _)
      ·
        refine wc_iload_n X 8 2 dX11_findFollows_8 rfl ?_
        refine wc_bipush X 9 (nI 9) dX11_findFollows_9 (by decide) ?_
        refine wc_idivN X 11 dX11_findFollows_11 (by omega) (by decide) (by decide) ?_
        refine wc_istore_n X 12 (L' := [(0, .ref o), (1, .ref qx), (2, .int (nI k)), (3, .int (nI (k / 9)))]) dX11_findFollows_12 (by decide) rfl ?_
        refine wc_iload_n X 13 2 dX11_findFollows_13 rfl ?_
        refine wc_bipush X 14 (nI 9) dX11_findFollows_14 (by decide) ?_
        refine wc_iremN X 16 dX11_findFollows_16 (by omega) (by decide) (by decide) ?_
        refine wc_istore X 17 (L' := [(0, .ref o), (1, .ref qx), (2, .int (nI k)), (3, .int (nI (k / 9))), (4, .int (nI (k % 9)))]) dX11_findFollows_17 (by decide) rfl ?_
        refine wc_aload_n X 19 0 dX11_findFollows_19 rfl ?_
        refine wc_get X 20 0 20 kd11 rfl (by decide) q_785 rfl dX11_findFollows_20 ?_
        refine wc_iload_n X 23 2 dX11_findFollows_23 rfl ?_
        refine wc_aload_n X 24 1 dX11_findFollows_24 rfl ?_
        refine wc_iload_n X 25 3 dX11_findFollows_25 rfl ?_
        refine wc_callS X 26 [1] (c_X11_isThere l G qx p (k / 9) hr.2.1 hr.2.2.2.1 hr.2.2.2.2.1 (by first | assumption | omega)) ys_X11_isThere rfl q_1044 ⟨rfl, rfl⟩ ⟨rfl, rfl⟩ ⟨rfl, rfl⟩ rfl rfl rfl dX11_findFollows_26 ?_
        refine wc_if_eqB X 29 62 dX11_findFollows_29 (by decide) (fun c29_21 => ?_) (fun c29_21 => ?_)
        ·
          refine wc_iconstN X 62 0 dX11_findFollows_62 ?_
          refine wc_st (st' := [.int (b2i false), .int (nI k), .ref qfo]) rfl ?_
          refine wc_zastG X Y 63 2 rfl (by omega) (by decide) (ws' := [ob o 11 [.int th, .ref qtx, .int (nI ts), .int (nI pl), .ref qrp, .ref qpg, .ref qtr, .ref qbk, .int (nI dn), .ref qkp, .ref qik, .int (nI sn), .ref qsw, .ref qsi, .long sd, .ref qln, .ref qfm, .ref qby, .ref qwy, .int (nI wz), .ref qfo, .ref qon, .ref qmn, .ref qpr, .ref qle, .ref qst, .ref qwt, .int (nI rc), .int (nI tk), .int (nI ps), .int (nI gn), .int bd, .ref qwo], aI G qx 22 (nF p), aZ G qfo 81 (bF (up f k false))]) rfl dX11_findFollows_63 ?_
          refine wc_iincN X 64 2 (L' := [(0, .ref o), (1, .ref qx), (2, .int (nI (k + 1))), (3, .int (nI (k / 9))), (4, .int (nI (k % 9)))]) dX11_findFollows_64 rfl (by decide) rfl ?_
          refine wc_goto X 67 2 dX11_findFollows_67 (by decide) ?_
          refine wc_loc [0, 1, 2] (L' := [(0, .ref o), (1, .ref qx), (2, .int (nI (k + 1)))]) rfl ?_
          refine wc_L (L' := [(0, .ref o), (1, .ref qx), (2, .int (nI (k + 1)))]) (by rfl) ?_
          exact ih_3 (k + 1) (up f k false) (by omega) (up_ltB hf (by unfold bs kn en; simp [c29_21])) (by omega)
        ·
          refine wc_aload_n X 32 1 dX11_findFollows_32 rfl ?_
          refine wc_iload X 33 4 dX11_findFollows_33 rfl ?_
          refine wc_callS X 35 [1] (c_X11_isThere l G qx p (k % 9) hr.2.1 hr.2.2.2.1 hr.2.2.2.2.1 (by first | assumption | omega)) ys_X11_isThere rfl q_1044 ⟨rfl, rfl⟩ ⟨rfl, rfl⟩ ⟨rfl, rfl⟩ rfl rfl rfl dX11_findFollows_35 ?_
          refine wc_if_eqB X 38 62 dX11_findFollows_38 (by decide) (fun c38_22 => ?_) (fun c38_22 => ?_)
          ·
            refine wc_iconstN X 62 0 dX11_findFollows_62 ?_
            refine wc_st (st' := [.int (b2i false), .int (nI k), .ref qfo]) rfl ?_
            refine wc_zastG X Y 63 2 rfl (by omega) (by decide) (ws' := [ob o 11 [.int th, .ref qtx, .int (nI ts), .int (nI pl), .ref qrp, .ref qpg, .ref qtr, .ref qbk, .int (nI dn), .ref qkp, .ref qik, .int (nI sn), .ref qsw, .ref qsi, .long sd, .ref qln, .ref qfm, .ref qby, .ref qwy, .int (nI wz), .ref qfo, .ref qon, .ref qmn, .ref qpr, .ref qle, .ref qst, .ref qwt, .int (nI rc), .int (nI tk), .int (nI ps), .int (nI gn), .int bd, .ref qwo], aI G qx 22 (nF p), aZ G qfo 81 (bF (up f k false))]) rfl dX11_findFollows_63 ?_
            refine wc_iincN X 64 2 (L' := [(0, .ref o), (1, .ref qx), (2, .int (nI (k + 1))), (3, .int (nI (k / 9))), (4, .int (nI (k % 9)))]) dX11_findFollows_64 rfl (by decide) rfl ?_
            refine wc_goto X 67 2 dX11_findFollows_67 (by decide) ?_
            refine wc_loc [0, 1, 2] (L' := [(0, .ref o), (1, .ref qx), (2, .int (nI (k + 1)))]) rfl ?_
            refine wc_L (L' := [(0, .ref o), (1, .ref qx), (2, .int (nI (k + 1)))]) (by rfl) ?_
            exact ih_3 (k + 1) (up f k false) (by omega) (up_ltB hf (by unfold bs kn en; simp [c29_21, c38_22])) (by omega)
          ·
            refine wc_aload_n X 41 1 dX11_findFollows_41 rfl ?_
            refine wc_iload_n X 42 3 dX11_findFollows_42 rfl ?_
            refine wc_callS X 43 [1] (c_X11_isEnd l G qx p (k / 9) hr.2.1 hr.2.2.2.1 hr.2.2.2.2.1 (by first | assumption | omega)) ys_X11_isEnd rfl q_1047 ⟨rfl, rfl⟩ ⟨rfl, rfl⟩ ⟨rfl, rfl⟩ rfl rfl rfl dX11_findFollows_43 ?_
            refine wc_if_eqB X 46 58 dX11_findFollows_46 (by decide) (fun c46_23 => ?_) (fun c46_23 => ?_)
            ·
              refine wc_iconstN X 58 1 dX11_findFollows_58 ?_
              refine wc_goto X 59 63 dX11_findFollows_59 (by decide) ?_
              refine wc_st (st' := [.int (b2i true), .int (nI k), .ref qfo]) rfl ?_
              refine wc_zastG X Y 63 2 rfl (by omega) (by decide) (ws' := [ob o 11 [.int th, .ref qtx, .int (nI ts), .int (nI pl), .ref qrp, .ref qpg, .ref qtr, .ref qbk, .int (nI dn), .ref qkp, .ref qik, .int (nI sn), .ref qsw, .ref qsi, .long sd, .ref qln, .ref qfm, .ref qby, .ref qwy, .int (nI wz), .ref qfo, .ref qon, .ref qmn, .ref qpr, .ref qle, .ref qst, .ref qwt, .int (nI rc), .int (nI tk), .int (nI ps), .int (nI gn), .int bd, .ref qwo], aI G qx 22 (nF p), aZ G qfo 81 (bF (up f k true))]) rfl dX11_findFollows_63 ?_
              refine wc_iincN X 64 2 (L' := [(0, .ref o), (1, .ref qx), (2, .int (nI (k + 1))), (3, .int (nI (k / 9))), (4, .int (nI (k % 9)))]) dX11_findFollows_64 rfl (by decide) rfl ?_
              refine wc_goto X 67 2 dX11_findFollows_67 (by decide) ?_
              refine wc_loc [0, 1, 2] (L' := [(0, .ref o), (1, .ref qx), (2, .int (nI (k + 1)))]) rfl ?_
              refine wc_L (L' := [(0, .ref o), (1, .ref qx), (2, .int (nI (k + 1)))]) (by rfl) ?_
              exact ih_3 (k + 1) (up f k true) (by omega) (up_ltB hf (by unfold bs kn en; simp [c29_21, c38_22, c46_23])) (by omega)
            ·
              refine wc_aload_n X 49 1 dX11_findFollows_49 rfl ?_
              refine wc_iload X 50 4 dX11_findFollows_50 rfl ?_
              refine wc_callS X 52 [1] (c_X11_isEnd l G qx p (k % 9) hr.2.1 hr.2.2.2.1 hr.2.2.2.2.1 (by first | assumption | omega)) ys_X11_isEnd rfl q_1047 ⟨rfl, rfl⟩ ⟨rfl, rfl⟩ ⟨rfl, rfl⟩ rfl rfl rfl dX11_findFollows_52 ?_
              refine wc_if_eqB X 55 62 dX11_findFollows_55 (by decide) (fun c55_24 => ?_) (fun c55_24 => ?_)
              ·
                refine wc_iconstN X 62 0 dX11_findFollows_62 ?_
                refine wc_st (st' := [.int (b2i false), .int (nI k), .ref qfo]) rfl ?_
                refine wc_zastG X Y 63 2 rfl (by omega) (by decide) (ws' := [ob o 11 [.int th, .ref qtx, .int (nI ts), .int (nI pl), .ref qrp, .ref qpg, .ref qtr, .ref qbk, .int (nI dn), .ref qkp, .ref qik, .int (nI sn), .ref qsw, .ref qsi, .long sd, .ref qln, .ref qfm, .ref qby, .ref qwy, .int (nI wz), .ref qfo, .ref qon, .ref qmn, .ref qpr, .ref qle, .ref qst, .ref qwt, .int (nI rc), .int (nI tk), .int (nI ps), .int (nI gn), .int bd, .ref qwo], aI G qx 22 (nF p), aZ G qfo 81 (bF (up f k false))]) rfl dX11_findFollows_63 ?_
                refine wc_iincN X 64 2 (L' := [(0, .ref o), (1, .ref qx), (2, .int (nI (k + 1))), (3, .int (nI (k / 9))), (4, .int (nI (k % 9)))]) dX11_findFollows_64 rfl (by decide) rfl ?_
                refine wc_goto X 67 2 dX11_findFollows_67 (by decide) ?_
                refine wc_loc [0, 1, 2] (L' := [(0, .ref o), (1, .ref qx), (2, .int (nI (k + 1)))]) rfl ?_
                refine wc_L (L' := [(0, .ref o), (1, .ref qx), (2, .int (nI (k + 1)))]) (by rfl) ?_
                exact ih_3 (k + 1) (up f k false) (by omega) (up_ltB hf (by unfold bs kn en; simp [c29_21, c38_22, c46_23, c55_24])) (by omega)
              ·
                refine wc_iconstN X 58 1 dX11_findFollows_58 ?_
                refine wc_goto X 59 63 dX11_findFollows_59 (by decide) ?_
                refine wc_st (st' := [.int (b2i true), .int (nI k), .ref qfo]) rfl ?_
                refine wc_zastG X Y 63 2 rfl (by omega) (by decide) (ws' := [ob o 11 [.int th, .ref qtx, .int (nI ts), .int (nI pl), .ref qrp, .ref qpg, .ref qtr, .ref qbk, .int (nI dn), .ref qkp, .ref qik, .int (nI sn), .ref qsw, .ref qsi, .long sd, .ref qln, .ref qfm, .ref qby, .ref qwy, .int (nI wz), .ref qfo, .ref qon, .ref qmn, .ref qpr, .ref qle, .ref qst, .ref qwt, .int (nI rc), .int (nI tk), .int (nI ps), .int (nI gn), .int bd, .ref qwo], aI G qx 22 (nF p), aZ G qfo 81 (bF (up f k true))]) rfl dX11_findFollows_63 ?_
                refine wc_iincN X 64 2 (L' := [(0, .ref o), (1, .ref qx), (2, .int (nI (k + 1))), (3, .int (nI (k / 9))), (4, .int (nI (k % 9)))]) dX11_findFollows_64 rfl (by decide) rfl ?_
                refine wc_goto X 67 2 dX11_findFollows_67 (by decide) ?_
                refine wc_loc [0, 1, 2] (L' := [(0, .ref o), (1, .ref qx), (2, .int (nI (k + 1)))]) rfl ?_
                refine wc_L (L' := [(0, .ref o), (1, .ref qx), (2, .int (nI (k + 1)))]) (by rfl) ?_
                exact ih_3 (k + 1) (up f k true) (by omega) (up_ltB hf (by unfold bs kn en; simp [c29_21, c38_22, c46_23, c55_24])) (by omega)
  exact LP_2 (81 - 0 + 1) 0 fo (by decide) (fun j hj => absurd hj (Nat.not_lt_zero _)) (Nat.lt_succ_self _)

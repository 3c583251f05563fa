set_option maxHeartbeats 4000000 in
set_option maxRecDepth 100000 in
theorem c_X3_tellPair (l : Launch) (G : GG) (h qst qse qpa qle qgo o md : Nat) (s : Sr) (pr : Int32) (hn : srN s ≤ 128) : RM l G yX3_tellPair (Cond.code yX3_tellPair cX3_tellPair 4 (some .int)) { frames := 0, cells := 0, slots := 0, locals := 0 } [.ref h, .int pr] [ob h 3 [.int (nI (srN s)), .int (nI (srT s)), .int (nI (srA s)), .int (nI (srD s)), .int (bI (srB s)), .int (nI md), .ref o, .ref qst, .ref qse, .ref qpa, .ref qle, .ref qgo], aI G qst 128 (nF (srO s)), aI G qse 128 (nF (srM s)), aZ G qgo 128 (bF (srG s))] (.int (kpR s pr)) := by
  refine RM.ofI (by decide) rfl (fun Γ X ret => ?_)
  show Wc Γ 0 0 0 [(0, .ref h), (1, .int pr)] [] [ob h 3 [.int (nI (srN s)), .int (nI (srT s)), .int (nI (srA s)), .int (nI (srD s)), .int (bI (srB s)), .int (nI md), .ref o, .ref qst, .ref qse, .ref qpa, .ref qle, .ref qgo], aI G qst 128 (nF (srO s)), aI G qse 128 (nF (srM s)), aZ G qgo 128 (bF (srG s))]
  refine wc_iconstN X 0 0 dX3_tellPair_0 ?_
  refine wc_istore_n X 1 (L' := [(0, .ref h), (1, .int pr), (2, .int (nI 0))]) dX3_tellPair_1 (by decide) rfl ?_
  refine wc_iconstN X 2 0 dX3_tellPair_2 ?_
  refine wc_istore_n X 3 (L' := [(0, .ref h), (1, .int pr), (2, .int (nI 0)), (3, .int (nI 0))]) dX3_tellPair_3 (by decide) rfl ?_
  have LP_2 : ∀ (fuel_1 : Nat) (i : Nat), (i ≤ srN s) → (kpK s pr i = none) → 128 - i < fuel_1 → Wc Γ 0 0 4 [(0, .ref h), (1, .int pr), (2, .int (nI (stay s i))), (3, .int (nI i))] [] [ob h 3 [.int (nI (srN s)), .int (nI (srT s)), .int (nI (srA s)), .int (nI (srD s)), .int (bI (srB s)), .int (nI md), .ref o, .ref qst, .ref qse, .ref qpa, .ref qle, .ref qgo], aI G qst 128 (nF (srO s)), aI G qse 128 (nF (srM s)), aZ G qgo 128 (bF (srG s))] := by
    intro fuel_1
    induction fuel_1 with
    | zero => intro i hi hno hm; exact absurd hm (Nat.not_lt_zero _)
    | succ fuel_1 ih_3 =>
      intro i hi hno hm_4
      refine wc_iload_n X 4 3 dX3_tellPair_4 rfl ?_
      refine wc_aload_n X 5 0 dX3_tellPair_5 rfl ?_
      refine wc_get X 6 0 0 kd3 rfl (by decide) q_181 rfl dX3_tellPair_6 ?_
      refine wc_icmp_geN X 9 59 dX3_tellPair_9 (by decide) (by omega) (by omega) (fun c9_5 => ?_) (fun c9_5 => ?_)
      ·
        refine wc_iconst X 59 (-1) dX3_tellPair_59 (by decide) ?_
        exact ret 60 _ (-1) dX3_tellPair_60 (kpR_none (by omega) hno)
      ·
        refine wc_iload_n X 12 3 dX3_tellPair_12 rfl ?_
        refine wc_sipush X 13 (nI 128) dX3_tellPair_13 (by decide) ?_
        refine wc_icmp_geN X 16 59 dX3_tellPair_16 (by decide) (by omega) (by decide) (fun c16_6 => ?_) (fun c16_6 => ?_)
        ·
          refine wc_iconst X 59 (-1) dX3_tellPair_59 (by decide) ?_
          exact ret 60 _ (-1) dX3_tellPair_60 (kpR_none (by omega) hno)
        ·
          refine wc_aload_n X 19 0 dX3_tellPair_19 rfl ?_
          refine wc_get X 20 0 11 kd3 rfl (by decide) q_197 rfl dX3_tellPair_20 ?_
          refine wc_iload_n X 23 3 dX3_tellPair_23 rfl ?_
          refine wc_zaldG X 24 3 rfl (by omega) (by decide) dX3_tellPair_24 ?_
          refine wc_if_neB X 25 53 dX3_tellPair_25 (by decide) (fun c25_7 => ?_) (fun c25_7 => ?_)
          ·
            refine wc_iincN X 53 3 (L' := [(0, .ref h), (1, .int pr), (2, .int (nI (stay s i))), (3, .int (nI (i + 1)))]) dX3_tellPair_53 rfl (by decide) rfl ?_
            refine wc_goto X 56 4 dX3_tellPair_56 (by decide) ?_
            have e_8 : stay s i = stay s (i + 1) := (stay_off c25_7)
            refine wc_L (L' := [(0, .ref h), (1, .int pr), (2, .int (nI (stay s (i + 1)))), (3, .int (nI (i + 1)))]) (by first | rfl | rw [e_8] | (rw [e_8]; rfl)) ?_
            exact ih_3 (i + 1) (by omega) (kp_off hno c25_7) (by omega)
          ·
            refine wc_iload_n X 28 2 dX3_tellPair_28 rfl ?_
            refine wc_iload_n X 29 1 dX3_tellPair_29 rfl ?_
            refine wc_icmp_ne X 30 50 dX3_tellPair_30 (by decide) (fun c30_9 => ?_) (fun c30_9 => ?_)
            ·
              refine wc_iincN X 50 2 (L' := [(0, .ref h), (1, .int pr), (2, .int (nI (stay s i + 1))), (3, .int (nI i))]) dX3_tellPair_50 rfl (by decide) rfl ?_
              refine wc_iincN X 53 3 (L' := [(0, .ref h), (1, .int pr), (2, .int (nI (stay s i + 1))), (3, .int (nI (i + 1)))]) dX3_tellPair_53 rfl (by decide) rfl ?_
              refine wc_goto X 56 4 dX3_tellPair_56 (by decide) ?_
              have e_10 : stay s i + 1 = stay s (i + 1) := (stay_on c25_7)
              refine wc_L (L' := [(0, .ref h), (1, .int pr), (2, .int (nI (stay s (i + 1)))), (3, .int (nI (i + 1)))]) (by first | rfl | rw [e_10] | (rw [e_10]; rfl)) ?_
              exact ih_3 (i + 1) (by omega) (kp_ne hno c30_9) (by omega)
            ·
              refine wc_bipush X 33 (nI 100) dX3_tellPair_33 (by decide) ?_
              refine wc_aload_n X 35 0 dX3_tellPair_35 rfl ?_
              refine wc_get X 36 0 7 kd3 rfl (by decide) q_193 rfl dX3_tellPair_36 ?_
              refine wc_iload_n X 39 3 dX3_tellPair_39 rfl ?_
              refine wc_ialdG X 40 1 rfl (by omega) (by decide) dX3_tellPair_40 ?_
              refine wc_imulN X 41 dX3_tellPair_41 ?_
              refine wc_aload_n X 42 0 dX3_tellPair_42 rfl ?_
              refine wc_get X 43 0 8 kd3 rfl (by decide) q_194 rfl dX3_tellPair_43 ?_
              refine wc_iload_n X 46 3 dX3_tellPair_46 rfl ?_
              refine wc_ialdG X 47 2 rfl (by omega) (by decide) dX3_tellPair_47 ?_
              refine wc_iaddN X 48 dX3_tellPair_48 ?_
              exact ret 49 _ (nI ((100 * ((srO s) i)) + ((srM s) i))) dX3_tellPair_49 (kpR_some (by omega) (kp_on hno c25_7 c30_9))
  have e_11 : 0 = stay s 0 := rfl
  refine wc_L (L' := [(0, .ref h), (1, .int pr), (2, .int (nI (stay s 0))), (3, .int (nI 0))]) (by first | rfl | rw [e_11] | (rw [e_11]; rfl)) ?_
  exact LP_2 (128 - 0 + 1) 0 (by omega) rfl (Nat.lt_succ_self _)

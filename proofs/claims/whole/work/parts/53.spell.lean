set_option maxHeartbeats 4000000 in
set_option maxRecDepth 100000 in
theorem c_X3_spellS (l : Launch) (G : GG) (h qst qse qpa qle qgo o md : Nat) (s : Sr) (F : Nat → Nat → Bool) (n0 n1 : Nat) (sp lsp len : Nat) (b : Bool) (g : Nat → Nat) (kb : Nat) (hn0 : n0 ≤ 4) (hn1 : n1 ≤ 5) (hI : Inv F md n0 n1 s) (hb : srB s = some kb) : MM l G yX3_spell (Cond.code yX3_spell cX3_spell 4 none) { frames := 1, cells := 0, slots := 0, locals := 21 } [.ref h, .ref sp] [ob h 3 [.int (nI (srN s)), .int (nI (srT s)), .int (nI (srA s)), .int (nI (srD s)), .int (bI (srB s)), .int (nI md), .ref o, .ref qst, .ref qse, .ref qpa, .ref qle, .ref qgo], aI G qpa 128 (srP s), aI G qle 128 (nF (srL s)), ob sp 8 [.int (b2i b), .int (nI len), .ref lsp], aI G lsp 200 (nF g)] (fun (v : Option Value) (w : va_W) => ∃ (g2 : Nat → Nat), v = none ∧ w = [ob h 3 [.int (nI (srN s)), .int (nI (srT s)), .int (nI (srA s)), .int (nI (srD s)), .int (bI (srB s)), .int (nI md), .ref o, .ref qst, .ref qse, .ref qpa, .ref qle, .ref qgo], aI G qpa 128 (srP s), aI G qle 128 (nF (srL s)), ob sp 8 [.int (b2i true), .int (nI (dpK s 128 kb)), .ref lsp], aI G lsp 200 (nF g2)] ∧ (∀ j, j < dpK s 128 kb → g2 j = srL s (anK s kb j))) 0 0 := by
  refine MM.ofV (by decide) rfl (fun Γ X Y hnm ret => ?_)
  show Wc Γ 0 0 0 [(0, .ref h), (1, .ref sp)] [] [ob h 3 [.int (nI (srN s)), .int (nI (srT s)), .int (nI (srA s)), .int (nI (srD s)), .int (bI (srB s)), .int (nI md), .ref o, .ref qst, .ref qse, .ref qpa, .ref qle, .ref qgo], aI G qpa 128 (srP s), aI G qle 128 (nF (srL s)), ob sp 8 [.int (b2i b), .int (nI len), .ref lsp], aI G lsp 200 (nF g)]
  have hkb := hI.2.2.2 kb hb
  have hN := Inv_le hn0 hn1 hI
  refine wc_aload_n X 0 1 dX3_spell_0 rfl ?_
  refine wc_aload_n X 1 0 dX3_spell_1 rfl ?_
  refine wc_get X 2 0 4 kd3 rfl (by decide) q_189 rfl dX3_spell_2 ?_
  refine wc_topi (nI kb) (by rw [hb]; rfl) ?_
  refine wc_ifltF X 5 (tgt := 12) dX3_spell_5 (by decide) (by omega) ?_
  refine wc_iconstN X 8 1 dX3_spell_8 ?_
  refine wc_goto X 9 13 dX3_spell_9 (by decide) ?_
  refine wc_st (st' := [.int (b2i true), .ref sp]) rfl ?_
  refine wc_mutV X Y 13 [3] [0, 1, 2, 4] 3 (c_X8_clear l G sp lsp len b true ) yv_X8_clear kd8 rfl rfl (wr := [ob h 3 [.int (nI (srN s)), .int (nI (srT s)), .int (nI (srA s)), .int (nI (srD s)), .int (bI (srB s)), .int (nI md), .ref o, .ref qst, .ref qse, .ref qpa, .ref qle, .ref qgo], aI G qpa 128 (srP s), aI G qle 128 (nF (srL s)), aI G lsp 200 (nF g)]) rfl ⟨rfl, rfl, rfl⟩ q_649 ⟨rfl, rfl⟩ ⟨rfl, rfl⟩ ⟨rfl, rfl⟩ rfl rfl rfl dX3_spell_13 (fun v w hp_2 => ?_)
  obtain ⟨rfl, rfl⟩ := hp_2
  refine wc_perm Y [0, 1, 2, 4, 3] [ob h 3 [.int (nI (srN s)), .int (nI (srT s)), .int (nI (srA s)), .int (nI (srD s)), .int (bI (srB s)), .int (nI md), .ref o, .ref qst, .ref qse, .ref qpa, .ref qle, .ref qgo], aI G qpa 128 (srP s), aI G qle 128 (nF (srL s)), ob sp 8 [.int (b2i true), .int (nI 0), .ref lsp], aI G lsp 200 (nF g)] rfl rfl ?_
  show Wc Γ 0 0 16 [(0, .ref h), (1, .ref sp)] [] [ob h 3 [.int (nI (srN s)), .int (nI (srT s)), .int (nI (srA s)), .int (nI (srD s)), .int (bI (srB s)), .int (nI md), .ref o, .ref qst, .ref qse, .ref qpa, .ref qle, .ref qgo], aI G qpa 128 (srP s), aI G qle 128 (nF (srL s)), ob sp 8 [.int (b2i true), .int (nI 0), .ref lsp], aI G lsp 200 (nF g)]
  refine wc_aload_n X 16 0 dX3_spell_16 rfl ?_
  refine wc_get X 17 0 4 kd3 rfl (by decide) q_189 rfl dX3_spell_17 ?_
  refine wc_topi (nI kb) (by rw [hb]; rfl) ?_
  refine wc_istore_n X 20 (L' := [(0, .ref h), (1, .ref sp), (2, .int (nI kb))]) dX3_spell_20 (by decide) rfl ?_
  refine wc_iconstN X 21 0 dX3_spell_21 ?_
  refine wc_istore_n X 22 (L' := [(0, .ref h), (1, .ref sp), (2, .int (nI kb)), (3, .int (nI 0))]) dX3_spell_22 (by decide) rfl ?_
  have LP_4 : ∀ (fuel_3 : Nat) (i : Nat) (m : Nat) (w : Nat → Nat), (i < srN s) → (i = anK s kb m) → (m + dpK s 128 i = dpK s 128 kb) → (m + i ≤ kb) → (∀ j, j < m → w j = srL s (anK s kb j)) → i < fuel_3 → Wc Γ 0 0 23 [(0, .ref h), (1, .ref sp), (2, .int (nI i)), (3, .int (nI m))] [] [ob h 3 [.int (nI (srN s)), .int (nI (srT s)), .int (nI (srA s)), .int (nI (srD s)), .int (bI (srB s)), .int (nI md), .ref o, .ref qst, .ref qse, .ref qpa, .ref qle, .ref qgo], aI G qpa 128 (srP s), aI G qle 128 (nF (srL s)), ob sp 8 [.int (b2i true), .int (nI m), .ref lsp], aI G lsp 200 (nF w)] := by
    intro fuel_3
    induction fuel_3 with
    | zero => intro i m w hi hm hd hmi hw hm; exact absurd hm (Nat.not_lt_zero _)
    | succ fuel_3 ih_5 =>
      intro i m w hi hm hd hmi hw hm_6
      refine wc_iload_n X 23 3 dX3_spell_23 rfl ?_
      refine wc_sipush X 24 (nI 128) dX3_spell_24 (by decide) ?_
      refine wc_icmp_geN X 27 74 dX3_spell_27 (by decide) (by omega) (by decide) (fun c27_7 => ?_) (fun c27_7 => ?_)
      ·
        exact absurd c27_7 (by omega)
      ·
        refine wc_iload_n X 30 2 dX3_spell_30 rfl ?_
        refine wc_ifltF X 31 (tgt := 50) dX3_spell_31 (by decide) (by omega) ?_
        refine wc_iload_n X 34 2 dX3_spell_34 rfl ?_
        refine wc_sipush X 35 (nI 128) dX3_spell_35 (by decide) ?_
        refine wc_icmp_geN X 38 50 dX3_spell_38 (by decide) (by omega) (by decide) (fun c38_9 => ?_) (fun c38_9 => ?_)
        ·
          exact absurd c38_9 (by omega)
        ·
          refine wc_aload_n X 41 0 dX3_spell_41 rfl ?_
          refine wc_get X 42 0 9 kd3 rfl (by decide) q_195 rfl dX3_spell_42 ?_
          refine wc_iload_n X 45 2 dX3_spell_45 rfl ?_
          refine wc_ialdN X 46 1 rfl (by omega) (by decide) dX3_spell_46 ?_
          rcases Inv_par hn0 hn1 hI hi with hz | ⟨hz, hz2, hz3, hz4⟩
          ·
            refine wc_if_ge X 47 51 dX3_spell_47 (by decide) (fun c47_10 => ?_) (fun c47_10 => ?_)
            ·
              exact absurd c47_10 (by rw [hz]; decide)
            ·
              exact ret 50 _ _ dX3_spell_50 (⟨w, rfl, by rw [show m = dpK s 128 kb by rw [← hd, dp_end hz]; rfl], fun j hj => hw j (by rw [← hd, dp_end hz] at hj; exact hj)⟩)
          ·
            refine wc_topi (nI (pN s i)) (hz) ?_
            refine wc_ifgeT X 47 51 dX3_spell_47 (by decide) (by omega) ?_
            refine wc_aload_n X 51 1 dX3_spell_51 rfl ?_
            refine wc_aload_n X 52 0 dX3_spell_52 rfl ?_
            refine wc_get X 53 0 10 kd3 rfl (by decide) q_196 rfl dX3_spell_53 ?_
            refine wc_iload_n X 56 2 dX3_spell_56 rfl ?_
            refine wc_ialdG X 57 2 rfl (by omega) (by decide) dX3_spell_57 ?_
            refine wc_mutV X Y 58 [3, 4] [0, 1, 2] 3 (c_X8_prepend l G sp lsp m true w ((srL s) i) (by first | assumption | omega)) yv_X8_prepend kd8 rfl rfl (wr := [ob h 3 [.int (nI (srN s)), .int (nI (srT s)), .int (nI (srA s)), .int (nI (srD s)), .int (bI (srB s)), .int (nI md), .ref o, .ref qst, .ref qse, .ref qpa, .ref qle, .ref qgo], aI G qpa 128 (srP s), aI G qle 128 (nF (srL s))]) rfl ⟨rfl, rfl, rfl⟩ q_650 ⟨rfl, rfl⟩ ⟨rfl, rfl⟩ ⟨rfl, rfl⟩ rfl rfl rfl dX3_spell_58 (fun v w hp_12 => ?_)
            obtain ⟨rfl, rfl⟩ := hp_12
            refine wc_perm Y [0, 1, 2, 3, 4] [ob h 3 [.int (nI (srN s)), .int (nI (srT s)), .int (nI (srA s)), .int (nI (srD s)), .int (bI (srB s)), .int (nI md), .ref o, .ref qst, .ref qse, .ref qpa, .ref qle, .ref qgo], aI G qpa 128 (srP s), aI G qle 128 (nF (srL s)), ob sp 8 [.int (b2i true), .int (nI (m + 1)), .ref lsp], aI G lsp 200 (nF (up w m ((srL s) i)))] rfl rfl ?_
            show Wc Γ 0 0 61 [(0, .ref h), (1, .ref sp), (2, .int (nI i)), (3, .int (nI m))] [] [ob h 3 [.int (nI (srN s)), .int (nI (srT s)), .int (nI (srA s)), .int (nI (srD s)), .int (bI (srB s)), .int (nI md), .ref o, .ref qst, .ref qse, .ref qpa, .ref qle, .ref qgo], aI G qpa 128 (srP s), aI G qle 128 (nF (srL s)), ob sp 8 [.int (b2i true), .int (nI (m + 1)), .ref lsp], aI G lsp 200 (nF (up w m ((srL s) i)))]
            refine wc_aload_n X 61 0 dX3_spell_61 rfl ?_
            refine wc_get X 62 0 9 kd3 rfl (by decide) q_195 rfl dX3_spell_62 ?_
            refine wc_iload_n X 65 2 dX3_spell_65 rfl ?_
            refine wc_ialdN X 66 1 rfl (by omega) (by decide) dX3_spell_66 ?_
            refine wc_topi (nI (pN s i)) (hz) ?_
            refine wc_istore_n X 67 (L' := [(0, .ref h), (1, .ref sp), (2, .int (nI (pN s i))), (3, .int (nI m))]) dX3_spell_67 (by decide) rfl ?_
            refine wc_iincN X 68 3 (L' := [(0, .ref h), (1, .ref sp), (2, .int (nI (pN s i))), (3, .int (nI (m + 1)))]) dX3_spell_68 rfl (by decide) rfl ?_
            refine wc_goto X 71 23 dX3_spell_71 (by decide) ?_
            refine wc_L (L' := [(0, .ref h), (1, .ref sp), (2, .int (nI (pN s i))), (3, .int (nI (m + 1)))]) (by rfl) ?_
            exact ih_5 (pN s i) (m + 1) (up w m ((srL s) i)) (by omega) (by rw [hm]; rfl) (by rw [← hd]; have := dp_st hn0 hn1 hI hi hz3; omega) (by omega) (lk_f hw (by rw [hm])) (by omega)
  exact LP_4 (kb + 1) kb 0 g hkb rfl (Nat.zero_add _) (by omega) (fun j hj => absurd hj (Nat.not_lt_zero _)) (Nat.lt_succ_self _)

set_option maxHeartbeats 4000000 in
set_option maxRecDepth 100000 in
theorem c_X3_spellN (l : Launch) (G : GG) (h qst qse qpa qle qgo o md : Nat) (s : Sr) (sp lsp len : Nat) (b : Bool) (g : Nat → Nat) (hb : srB s = none) : MM l G yX3_spell (Cond.code yX3_spell cX3_spell 4 none) { frames := 1, cells := 0, slots := 0, locals := 21 } [.ref h, .ref sp] [ob h 3 [.int (nI (srN s)), .int (nI (srT s)), .int (nI (srA s)), .int (nI (srD s)), .int (bI (srB s)), .int (nI md), .ref o, .ref qst, .ref qse, .ref qpa, .ref qle, .ref qgo], aI G qpa 128 (srP s), aI G qle 128 (nF (srL s)), ob sp 8 [.int (b2i b), .int (nI len), .ref lsp], aI G lsp 200 (nF g)] (fun (v : Option Value) (w : va_W) => v = none ∧ w = [ob h 3 [.int (nI (srN s)), .int (nI (srT s)), .int (nI (srA s)), .int (nI (srD s)), .int (bI (srB s)), .int (nI md), .ref o, .ref qst, .ref qse, .ref qpa, .ref qle, .ref qgo], aI G qpa 128 (srP s), aI G qle 128 (nF (srL s)), ob sp 8 [.int (b2i false), .int (nI 0), .ref lsp], aI G lsp 200 (nF g)]) 0 0 := by
  refine MM.ofV (by decide) rfl (fun Γ X Y hnm ret => ?_)
  show Wc Γ 0 0 0 [(0, .ref h), (1, .ref sp)] [] [ob h 3 [.int (nI (srN s)), .int (nI (srT s)), .int (nI (srA s)), .int (nI (srD s)), .int (bI (srB s)), .int (nI md), .ref o, .ref qst, .ref qse, .ref qpa, .ref qle, .ref qgo], aI G qpa 128 (srP s), aI G qle 128 (nF (srL s)), ob sp 8 [.int (b2i b), .int (nI len), .ref lsp], aI G lsp 200 (nF g)]
  refine wc_aload_n X 0 1 dX3_spell_0 rfl ?_
  refine wc_aload_n X 1 0 dX3_spell_1 rfl ?_
  refine wc_get X 2 0 4 kd3 rfl (by decide) q_189 rfl dX3_spell_2 ?_
  refine wc_if_lt X 5 12 dX3_spell_5 (by decide) (fun c5_1 => ?_) (fun c5_1 => ?_)
  ·
    refine wc_iconstN X 12 0 dX3_spell_12 ?_
    refine wc_st (st' := [.int (b2i false), .ref sp]) rfl ?_
    refine wc_mutV X Y 13 [3] [0, 1, 2, 4] 3 (c_X8_clear l G sp lsp len b false ) yv_X8_clear kd8 rfl rfl (wr := [ob h 3 [.int (nI (srN s)), .int (nI (srT s)), .int (nI (srA s)), .int (nI (srD s)), .int (bI (srB s)), .int (nI md), .ref o, .ref qst, .ref qse, .ref qpa, .ref qle, .ref qgo], aI G qpa 128 (srP s), aI G qle 128 (nF (srL s)), aI G lsp 200 (nF g)]) rfl ⟨rfl, rfl, rfl⟩ q_649 ⟨rfl, rfl⟩ ⟨rfl, rfl⟩ ⟨rfl, rfl⟩ rfl rfl rfl dX3_spell_13 (fun v w hp_2 => ?_)
    obtain ⟨rfl, rfl⟩ := hp_2
    refine wc_perm Y [0, 1, 2, 4, 3] [ob h 3 [.int (nI (srN s)), .int (nI (srT s)), .int (nI (srA s)), .int (nI (srD s)), .int (bI (srB s)), .int (nI md), .ref o, .ref qst, .ref qse, .ref qpa, .ref qle, .ref qgo], aI G qpa 128 (srP s), aI G qle 128 (nF (srL s)), ob sp 8 [.int (b2i false), .int (nI 0), .ref lsp], aI G lsp 200 (nF g)] rfl rfl ?_
    show Wc Γ 0 0 16 [(0, .ref h), (1, .ref sp)] [] [ob h 3 [.int (nI (srN s)), .int (nI (srT s)), .int (nI (srA s)), .int (nI (srD s)), .int (bI (srB s)), .int (nI md), .ref o, .ref qst, .ref qse, .ref qpa, .ref qle, .ref qgo], aI G qpa 128 (srP s), aI G qle 128 (nF (srL s)), ob sp 8 [.int (b2i false), .int (nI 0), .ref lsp], aI G lsp 200 (nF g)]
    refine wc_aload_n X 16 0 dX3_spell_16 rfl ?_
    refine wc_get X 17 0 4 kd3 rfl (by decide) q_189 rfl dX3_spell_17 ?_
    refine wc_istore_n X 20 (L' := [(0, .ref h), (1, .ref sp), (2, .int (bI (srB s)))]) dX3_spell_20 (by decide) rfl ?_
    refine wc_iconstN X 21 0 dX3_spell_21 ?_
    refine wc_istore_n X 22 (L' := [(0, .ref h), (1, .ref sp), (2, .int (bI (srB s))), (3, .int (nI 0))]) dX3_spell_22 (by decide) rfl ?_
    refine wc_iload_n X 23 3 dX3_spell_23 rfl ?_
    refine wc_sipush X 24 (nI 128) dX3_spell_24 (by decide) ?_
    refine wc_icmp_geN X 27 74 dX3_spell_27 (by decide) (by decide) (by decide) (fun c27_3 => ?_) (fun c27_3 => ?_)
    ·
      exact absurd c27_3 (by decide)
    ·
      refine wc_iload_n X 30 2 dX3_spell_30 rfl ?_
      refine wc_if_lt X 31 50 dX3_spell_31 (by decide) (fun c31_4 => ?_) (fun c31_4 => ?_)
      ·
        exact ret 50 _ _ dX3_spell_50 (⟨rfl, rfl⟩)
      ·
        exact absurd (show bI (srB s) < 0 by rw [hb]; decide) c31_4
  ·
    exact absurd (show bI (srB s) < 0 by rw [hb]; decide) c5_1

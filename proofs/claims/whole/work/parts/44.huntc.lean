set_option maxHeartbeats 4000000 in
set_option maxRecDepth 100000 in
theorem c_X3_come (l : Launch) (G : GG) (h qst qse qpa qle qgo md : Nat) (s : Sr) (o qf ql : Nat) (fw ld : Nat → Nat) (F : Nat → Nat → Bool) (z qa la n0 e0 : Nat) (g0 : Nat → Nat) (qb lb n1 e1 : Nat) (g1 : Nat → Nat) (p S : Nat) (pr : Int32) (c : Nat) (hn0 : n0 ≤ 4) (he0 : e0 < 16) (hg0 : ∀ j, g0 j < 16) (hn1 : n1 ≤ 5) (he1 : e1 < 32) (hg1 : ∀ j, g1 j < 32) (hmd : md ≤ 2) (hF : md = 2 → ∀ x y, x < 9 → y < 9 → Nat.testBit (fw x) y = F x y) (hC : Cvr F n0 n1) (hI : Inv F md n0 n1 s) (h0 : p < n0) (hS : S < 2 ^ n1) : MM l G yX3_come (Cond.code yX3_come cX3_come 6 none) { frames := 3, cells := 0, slots := 0, locals := 73 } [.ref h, .ref z, .int (nI p), .int (nI S), .int pr, .int (nI c)] [ob h 3 [.int (nI (srN s)), .int (nI (srT s)), .int (nI (srA s)), .int (nI (srD s)), .int (bI (srB s)), .int (nI md), .ref o, .ref qst, .ref qse, .ref qpa, .ref qle, .ref qgo], aI G qst 128 (nF (srO s)), aI G qse 128 (nF (srM s)), aI G qpa 128 (srP s), aI G qle 128 (nF (srL s)), aZ G qgo 128 (bF (srG s)), ob o 5 [.ref qf, .ref ql], aI G qf 9 (nF fw), aI G ql 18 (nF ld), ob z 1 [.ref qa, .ref qb], ob qa 6 [.int (nI n0), .int (nI e0), .ref la], aI G la 10 (nF g0), ob qb 6 [.int (nI n1), .int (nI e1), .ref lb], aI G lb 10 (nF g1)] (fun (v : Option Value) (w : va_W) => ∃ (s2 : Sr), v = none ∧ w = [ob h 3 [.int (nI (srN s2)), .int (nI (srT s2)), .int (nI (srA s2)), .int (nI (srD s2)), .int (bI (srB s2)), .int (nI md), .ref o, .ref qst, .ref qse, .ref qpa, .ref qle, .ref qgo], aI G qst 128 (nF (srO s2)), aI G qse 128 (nF (srM s2)), aI G qpa 128 (srP s2), aI G qle 128 (nF (srL s2)), aZ G qgo 128 (bF (srG s2)), ob o 5 [.ref qf, .ref ql], aI G qf 9 (nF fw), aI G ql 18 (nF ld), ob z 1 [.ref qa, .ref qb], ob qa 6 [.int (nI n0), .int (nI e0), .ref la], aI G la 10 (nF g0), ob qb 6 [.int (nI n1), .int (nI e1), .ref lb], aI G lb 10 (nF g1)] ∧ s2 = comeS F md e0 e1 s p S pr c) 0 0 := by
  refine MM.ofV (by decide) rfl (fun Γ X Y hnm ret => ?_)
  show Wc Γ 0 0 0 [(0, .ref h), (1, .ref z), (2, .int (nI p)), (3, .int (nI S)), (4, .int pr), (5, .int (nI c))] [] [ob h 3 [.int (nI (srN s)), .int (nI (srT s)), .int (nI (srA s)), .int (nI (srD s)), .int (bI (srB s)), .int (nI md), .ref o, .ref qst, .ref qse, .ref qpa, .ref qle, .ref qgo], aI G qst 128 (nF (srO s)), aI G qse 128 (nF (srM s)), aI G qpa 128 (srP s), aI G qle 128 (nF (srL s)), aZ G qgo 128 (bF (srG s)), ob o 5 [.ref qf, .ref ql], aI G qf 9 (nF fw), aI G ql 18 (nF ld), ob z 1 [.ref qa, .ref qb], ob qa 6 [.int (nI n0), .int (nI e0), .ref la], aI G la 10 (nF g0), ob qb 6 [.int (nI n1), .int (nI e1), .ref lb], aI G lb 10 (nF g1)]
  have hS32 := pw5 hn1 hS
  refine wc_aload_n X 0 0 dX3_come_0 rfl ?_
  refine wc_get X 1 0 5 kd3 rfl (by decide) q_191 rfl dX3_come_1 ?_
  refine wc_iconstN X 4 2 dX3_come_4 ?_
  refine wc_icmp_neN X 5 22 dX3_come_5 (by decide) (by omega) (by decide) (fun c5_1 => ?_) (fun c5_1 => ?_)
  ·
    refine wc_aload_n X 22 0 dX3_come_22 rfl ?_
    refine wc_iload_n X 23 2 dX3_come_23 rfl ?_
    refine wc_iload_n X 24 3 dX3_come_24 rfl ?_
    refine wc_callV X 25 [0, 1, 2, 3, 4, 5, 6, 7, 8] 0 (c_X3_isCoveredByKept l G h qst qse qpa qle qgo md s o qf ql fw ld F p S (by first | assumption | omega) (by first | assumption | omega) (Inv_le hn0 hn1 hI) (Inv_A hn0 hn1 hI) (by omega) hS32) yv_X3_isCoveredByKept kd3 rfl rfl q_609 ⟨rfl, rfl⟩ ⟨rfl, rfl⟩ ⟨rfl, rfl⟩ rfl rfl rfl dX3_come_25 ?_
    refine wc_if_eqB X 28 42 dX3_come_28 (by decide) (fun c28_2 => ?_) (fun c28_2 => ?_)
    ·
      have hps : passS F md s p S = false := by unfold passS; rw [c28_2]; simp [c5_1]
      have hlt := Inv_lt hn0 hn1 hI h0 hS hps
      refine wc_aload_n X 42 0 dX3_come_42 rfl ?_
      refine wc_iload_n X 43 2 dX3_come_43 rfl ?_
      refine wc_iload_n X 44 3 dX3_come_44 rfl ?_
      refine wc_mutV X Y 45 [0, 1, 2, 3, 4, 5, 6, 7, 8] [9, 10, 11, 12, 13] 0 (c_X3_dropCovered l G h qst qse qpa qle qgo md s o qf ql fw ld F p S (by first | assumption | omega) (by first | assumption | omega) (Inv_le hn0 hn1 hI) (Inv_A hn0 hn1 hI) (by omega) hS32) yv_X3_dropCovered kd3 rfl rfl (wr := [ob z 1 [.ref qa, .ref qb], ob qa 6 [.int (nI n0), .int (nI e0), .ref la], aI G la 10 (nF g0), ob qb 6 [.int (nI n1), .int (nI e1), .ref lb], aI G lb 10 (nF g1)]) rfl ⟨rfl, rfl, rfl⟩ q_621 ⟨rfl, rfl⟩ ⟨rfl, rfl⟩ ⟨rfl, rfl⟩ rfl rfl rfl dX3_come_45 (fun v w hp_3 => ?_)
      obtain ⟨rfl, rfl⟩ := hp_3
      refine wc_perm Y [5, 6, 7, 8, 9, 10, 11, 12, 13, 0, 1, 2, 3, 4] [ob h 3 [.int (nI (srN s)), .int (nI (srT s)), .int (nI (srA s)), .int (nI (dropC F md (srO s) (srM s) p S (srG s) (srD s) (srN s))), .int (bI (srB s)), .int (nI md), .ref o, .ref qst, .ref qse, .ref qpa, .ref qle, .ref qgo], aI G qst 128 (nF (srO s)), aI G qse 128 (nF (srM s)), aI G qpa 128 (srP s), aI G qle 128 (nF (srL s)), aZ G qgo 128 (bF (dropG F md (srO s) (srM s) p S (srG s) (srN s))), ob o 5 [.ref qf, .ref ql], aI G qf 9 (nF fw), aI G ql 18 (nF ld), ob z 1 [.ref qa, .ref qb], ob qa 6 [.int (nI n0), .int (nI e0), .ref la], aI G la 10 (nF g0), ob qb 6 [.int (nI n1), .int (nI e1), .ref lb], aI G lb 10 (nF g1)] rfl rfl ?_
      show Wc Γ 0 0 48 [(0, .ref h), (1, .ref z), (2, .int (nI p)), (3, .int (nI S)), (4, .int pr), (5, .int (nI c))] [] [ob h 3 [.int (nI (srN s)), .int (nI (srT s)), .int (nI (srA s)), .int (nI (dropC F md (srO s) (srM s) p S (srG s) (srD s) (srN s))), .int (bI (srB s)), .int (nI md), .ref o, .ref qst, .ref qse, .ref qpa, .ref qle, .ref qgo], aI G qst 128 (nF (srO s)), aI G qse 128 (nF (srM s)), aI G qpa 128 (srP s), aI G qle 128 (nF (srL s)), aZ G qgo 128 (bF (dropG F md (srO s) (srM s) p S (srG s) (srN s))), ob o 5 [.ref qf, .ref ql], aI G qf 9 (nF fw), aI G ql 18 (nF ld), ob z 1 [.ref qa, .ref qb], ob qa 6 [.int (nI n0), .int (nI e0), .ref la], aI G la 10 (nF g0), ob qb 6 [.int (nI n1), .int (nI e1), .ref lb], aI G lb 10 (nF g1)]
      refine wc_aload_n X 48 0 dX3_come_48 rfl ?_
      refine wc_get X 49 0 0 kd3 rfl (by decide) q_181 rfl dX3_come_49 ?_
      refine wc_sipush X 52 (nI 128) dX3_come_52 (by decide) ?_
      refine wc_icmp_ltN X 55 59 dX3_come_55 (by decide) (by omega) (by decide) (fun c55_4 => ?_) (fun c55_4 => ?_)
      ·
        refine wc_aload_n X 59 0 dX3_come_59 rfl ?_
        refine wc_get X 60 0 7 kd3 rfl (by decide) q_193 rfl dX3_come_60 ?_
        refine wc_aload_n X 63 0 dX3_come_63 rfl ?_
        refine wc_get X 64 0 0 kd3 rfl (by decide) q_181 rfl dX3_come_64 ?_
        refine wc_iload_n X 67 2 dX3_come_67 rfl ?_
        refine wc_iastG X Y 68 1 rfl (by omega) (by decide) (ws' := [ob h 3 [.int (nI (srN s)), .int (nI (srT s)), .int (nI (srA s)), .int (nI (dropC F md (srO s) (srM s) p S (srG s) (srD s) (srN s))), .int (bI (srB s)), .int (nI md), .ref o, .ref qst, .ref qse, .ref qpa, .ref qle, .ref qgo], aI G qst 128 (nF (up (srO s) (srN s) p)), aI G qse 128 (nF (srM s)), aI G qpa 128 (srP s), aI G qle 128 (nF (srL s)), aZ G qgo 128 (bF (dropG F md (srO s) (srM s) p S (srG s) (srN s))), ob o 5 [.ref qf, .ref ql], aI G qf 9 (nF fw), aI G ql 18 (nF ld), ob z 1 [.ref qa, .ref qb], ob qa 6 [.int (nI n0), .int (nI e0), .ref la], aI G la 10 (nF g0), ob qb 6 [.int (nI n1), .int (nI e1), .ref lb], aI G lb 10 (nF g1)]) rfl dX3_come_68 ?_
        refine wc_aload_n X 69 0 dX3_come_69 rfl ?_
        refine wc_get X 70 0 8 kd3 rfl (by decide) q_194 rfl dX3_come_70 ?_
        refine wc_aload_n X 73 0 dX3_come_73 rfl ?_
        refine wc_get X 74 0 0 kd3 rfl (by decide) q_181 rfl dX3_come_74 ?_
        refine wc_iload_n X 77 3 dX3_come_77 rfl ?_
        refine wc_iastG X Y 78 2 rfl (by omega) (by decide) (ws' := [ob h 3 [.int (nI (srN s)), .int (nI (srT s)), .int (nI (srA s)), .int (nI (dropC F md (srO s) (srM s) p S (srG s) (srD s) (srN s))), .int (bI (srB s)), .int (nI md), .ref o, .ref qst, .ref qse, .ref qpa, .ref qle, .ref qgo], aI G qst 128 (nF (up (srO s) (srN s) p)), aI G qse 128 (nF (up (srM s) (srN s) S)), aI G qpa 128 (srP s), aI G qle 128 (nF (srL s)), aZ G qgo 128 (bF (dropG F md (srO s) (srM s) p S (srG s) (srN s))), ob o 5 [.ref qf, .ref ql], aI G qf 9 (nF fw), aI G ql 18 (nF ld), ob z 1 [.ref qa, .ref qb], ob qa 6 [.int (nI n0), .int (nI e0), .ref la], aI G la 10 (nF g0), ob qb 6 [.int (nI n1), .int (nI e1), .ref lb], aI G lb 10 (nF g1)]) rfl dX3_come_78 ?_
        refine wc_aload_n X 79 0 dX3_come_79 rfl ?_
        refine wc_get X 80 0 9 kd3 rfl (by decide) q_195 rfl dX3_come_80 ?_
        refine wc_aload_n X 83 0 dX3_come_83 rfl ?_
        refine wc_get X 84 0 0 kd3 rfl (by decide) q_181 rfl dX3_come_84 ?_
        refine wc_iload X 87 4 dX3_come_87 rfl ?_
        refine wc_iastN X Y 89 3 rfl (by omega) (by decide) (ws' := [ob h 3 [.int (nI (srN s)), .int (nI (srT s)), .int (nI (srA s)), .int (nI (dropC F md (srO s) (srM s) p S (srG s) (srD s) (srN s))), .int (bI (srB s)), .int (nI md), .ref o, .ref qst, .ref qse, .ref qpa, .ref qle, .ref qgo], aI G qst 128 (nF (up (srO s) (srN s) p)), aI G qse 128 (nF (up (srM s) (srN s) S)), aI G qpa 128 (upd (srP s) (srN s) pr), aI G qle 128 (nF (srL s)), aZ G qgo 128 (bF (dropG F md (srO s) (srM s) p S (srG s) (srN s))), ob o 5 [.ref qf, .ref ql], aI G qf 9 (nF fw), aI G ql 18 (nF ld), ob z 1 [.ref qa, .ref qb], ob qa 6 [.int (nI n0), .int (nI e0), .ref la], aI G la 10 (nF g0), ob qb 6 [.int (nI n1), .int (nI e1), .ref lb], aI G lb 10 (nF g1)]) rfl dX3_come_89 ?_
        refine wc_aload_n X 90 0 dX3_come_90 rfl ?_
        refine wc_get X 91 0 10 kd3 rfl (by decide) q_196 rfl dX3_come_91 ?_
        refine wc_aload_n X 94 0 dX3_come_94 rfl ?_
        refine wc_get X 95 0 0 kd3 rfl (by decide) q_181 rfl dX3_come_95 ?_
        refine wc_iload X 98 5 dX3_come_98 rfl ?_
        refine wc_iastG X Y 100 4 rfl (by omega) (by decide) (ws' := [ob h 3 [.int (nI (srN s)), .int (nI (srT s)), .int (nI (srA s)), .int (nI (dropC F md (srO s) (srM s) p S (srG s) (srD s) (srN s))), .int (bI (srB s)), .int (nI md), .ref o, .ref qst, .ref qse, .ref qpa, .ref qle, .ref qgo], aI G qst 128 (nF (up (srO s) (srN s) p)), aI G qse 128 (nF (up (srM s) (srN s) S)), aI G qpa 128 (upd (srP s) (srN s) pr), aI G qle 128 (nF (up (srL s) (srN s) c)), aZ G qgo 128 (bF (dropG F md (srO s) (srM s) p S (srG s) (srN s))), ob o 5 [.ref qf, .ref ql], aI G qf 9 (nF fw), aI G ql 18 (nF ld), ob z 1 [.ref qa, .ref qb], ob qa 6 [.int (nI n0), .int (nI e0), .ref la], aI G la 10 (nF g0), ob qb 6 [.int (nI n1), .int (nI e1), .ref lb], aI G lb 10 (nF g1)]) rfl dX3_come_100 ?_
        refine wc_aload_n X 101 0 dX3_come_101 rfl ?_
        refine wc_get X 102 0 11 kd3 rfl (by decide) q_197 rfl dX3_come_102 ?_
        refine wc_aload_n X 105 0 dX3_come_105 rfl ?_
        refine wc_get X 106 0 0 kd3 rfl (by decide) q_181 rfl dX3_come_106 ?_
        refine wc_iconstN X 109 0 dX3_come_109 ?_
        refine wc_st (st' := [.int (b2i false), .int (nI (srN s)), .ref qgo]) rfl ?_
        refine wc_zastG X Y 110 5 rfl (by omega) (by decide) (ws' := [ob h 3 [.int (nI (srN s)), .int (nI (srT s)), .int (nI (srA s)), .int (nI (dropC F md (srO s) (srM s) p S (srG s) (srD s) (srN s))), .int (bI (srB s)), .int (nI md), .ref o, .ref qst, .ref qse, .ref qpa, .ref qle, .ref qgo], aI G qst 128 (nF (up (srO s) (srN s) p)), aI G qse 128 (nF (up (srM s) (srN s) S)), aI G qpa 128 (upd (srP s) (srN s) pr), aI G qle 128 (nF (up (srL s) (srN s) c)), aZ G qgo 128 (bF (up (dropG F md (srO s) (srM s) p S (srG s) (srN s)) (srN s) false)), ob o 5 [.ref qf, .ref ql], aI G qf 9 (nF fw), aI G ql 18 (nF ld), ob z 1 [.ref qa, .ref qb], ob qa 6 [.int (nI n0), .int (nI e0), .ref la], aI G la 10 (nF g0), ob qb 6 [.int (nI n1), .int (nI e1), .ref lb], aI G lb 10 (nF g1)]) rfl dX3_come_110 ?_
        refine wc_aload_n X 111 1 dX3_come_111 rfl ?_
        refine wc_get X 112 9 0 kd1 rfl (by decide) q_70 rfl dX3_come_112 ?_
        refine wc_iload_n X 115 2 dX3_come_115 rfl ?_
        refine wc_callV X 116 [10] 10 (c_X6_isEnd l G qa la n0 e0 p (by omega) (by omega) (by omega)) yv_X6_isEnd kd6 rfl rfl q_625 ⟨rfl, rfl⟩ ⟨rfl, rfl⟩ ⟨rfl, rfl⟩ rfl rfl rfl dX3_come_116 ?_
        refine wc_topi (b2i (Nat.testBit e0 p)) (congrArg b2i (by rw [decide_eq_true h0, Bool.true_and])) ?_
        refine wc_if_eqB X 119 141 dX3_come_119 (by decide) (fun c119_5 => ?_) (fun c119_5 => ?_)
        ·
          refine wc_aload_n X 141 0 dX3_come_141 rfl ?_
          refine wc_dup X 142 dX3_come_142 rfl ?_
          refine wc_get X 143 0 0 kd3 rfl (by decide) q_181 rfl dX3_come_143 ?_
          refine wc_iconstN X 146 1 dX3_come_146 ?_
          refine wc_iaddN X 147 dX3_come_147 ?_
          refine wc_put X Y 148 0 0 kd3 rfl (by decide) q_181 rfl rfl rfl (Nat.le_of_ble_eq_true rfl) (ws' := [ob h 3 [.int (nI ((srN s) + 1)), .int (nI (srT s)), .int (nI (srA s)), .int (nI (dropC F md (srO s) (srM s) p S (srG s) (srD s) (srN s))), .int (bI (srB s)), .int (nI md), .ref o, .ref qst, .ref qse, .ref qpa, .ref qle, .ref qgo], aI G qst 128 (nF (up (srO s) (srN s) p)), aI G qse 128 (nF (up (srM s) (srN s) S)), aI G qpa 128 (upd (srP s) (srN s) pr), aI G qle 128 (nF (up (srL s) (srN s) c)), aZ G qgo 128 (bF (up (dropG F md (srO s) (srM s) p S (srG s) (srN s)) (srN s) false)), ob o 5 [.ref qf, .ref ql], aI G qf 9 (nF fw), aI G ql 18 (nF ld), ob z 1 [.ref qa, .ref qb], ob qa 6 [.int (nI n0), .int (nI e0), .ref la], aI G la 10 (nF g0), ob qb 6 [.int (nI n1), .int (nI e1), .ref lb], aI G lb 10 (nF g1)]) rfl dX3_come_148 ?_
          exact ret 151 _ _ dX3_come_151 (⟨keepT F md s p S pr c (srB s), rfl, rfl, keep_ok hps (by simp [c119_5])⟩)
        ·
          refine wc_aload_n X 122 1 dX3_come_122 rfl ?_
          refine wc_get X 123 9 1 kd1 rfl (by decide) q_78 rfl dX3_come_123 ?_
          refine wc_iload_n X 126 3 dX3_come_126 rfl ?_
          refine wc_callV X 127 [12] 12 (c_X6_hasEndIn l G qb lb n1 e1 S hS32) yv_X6_hasEndIn kd6 rfl rfl q_626 ⟨rfl, rfl⟩ ⟨rfl, rfl⟩ ⟨rfl, rfl⟩ rfl rfl rfl dX3_come_127 ?_
          refine wc_if_neB X 130 141 dX3_come_130 (by decide) (fun c130_6 => ?_) (fun c130_6 => ?_)
          ·
            refine wc_aload_n X 141 0 dX3_come_141 rfl ?_
            refine wc_dup X 142 dX3_come_142 rfl ?_
            refine wc_get X 143 0 0 kd3 rfl (by decide) q_181 rfl dX3_come_143 ?_
            refine wc_iconstN X 146 1 dX3_come_146 ?_
            refine wc_iaddN X 147 dX3_come_147 ?_
            refine wc_put X Y 148 0 0 kd3 rfl (by decide) q_181 rfl rfl rfl (Nat.le_of_ble_eq_true rfl) (ws' := [ob h 3 [.int (nI ((srN s) + 1)), .int (nI (srT s)), .int (nI (srA s)), .int (nI (dropC F md (srO s) (srM s) p S (srG s) (srD s) (srN s))), .int (bI (srB s)), .int (nI md), .ref o, .ref qst, .ref qse, .ref qpa, .ref qle, .ref qgo], aI G qst 128 (nF (up (srO s) (srN s) p)), aI G qse 128 (nF (up (srM s) (srN s) S)), aI G qpa 128 (upd (srP s) (srN s) pr), aI G qle 128 (nF (up (srL s) (srN s) c)), aZ G qgo 128 (bF (up (dropG F md (srO s) (srM s) p S (srG s) (srN s)) (srN s) false)), ob o 5 [.ref qf, .ref ql], aI G qf 9 (nF fw), aI G ql 18 (nF ld), ob z 1 [.ref qa, .ref qb], ob qa 6 [.int (nI n0), .int (nI e0), .ref la], aI G la 10 (nF g0), ob qb 6 [.int (nI n1), .int (nI e1), .ref lb], aI G lb 10 (nF g1)]) rfl dX3_come_148 ?_
            exact ret 151 _ _ dX3_come_151 (⟨keepT F md s p S pr c (srB s), rfl, rfl, keep_ok hps (by have z := c130_6; simp at z; simp [c119_5, z])⟩)
          ·
            refine wc_aload_n X 133 0 dX3_come_133 rfl ?_
            refine wc_aload_n X 134 0 dX3_come_134 rfl ?_
            refine wc_get X 135 0 0 kd3 rfl (by decide) q_181 rfl dX3_come_135 ?_
            refine wc_put X Y 138 0 4 kd3 rfl (by decide) q_189 rfl rfl rfl (Nat.le_of_ble_eq_true rfl) (ws' := [ob h 3 [.int (nI (srN s)), .int (nI (srT s)), .int (nI (srA s)), .int (nI (dropC F md (srO s) (srM s) p S (srG s) (srD s) (srN s))), .int (nI (srN s)), .int (nI md), .ref o, .ref qst, .ref qse, .ref qpa, .ref qle, .ref qgo], aI G qst 128 (nF (up (srO s) (srN s) p)), aI G qse 128 (nF (up (srM s) (srN s) S)), aI G qpa 128 (upd (srP s) (srN s) pr), aI G qle 128 (nF (up (srL s) (srN s) c)), aZ G qgo 128 (bF (up (dropG F md (srO s) (srM s) p S (srG s) (srN s)) (srN s) false)), ob o 5 [.ref qf, .ref ql], aI G qf 9 (nF fw), aI G ql 18 (nF ld), ob z 1 [.ref qa, .ref qb], ob qa 6 [.int (nI n0), .int (nI e0), .ref la], aI G la 10 (nF g0), ob qb 6 [.int (nI n1), .int (nI e1), .ref lb], aI G lb 10 (nF g1)]) rfl dX3_come_138 ?_
            refine wc_aload_n X 141 0 dX3_come_141 rfl ?_
            refine wc_dup X 142 dX3_come_142 rfl ?_
            refine wc_get X 143 0 0 kd3 rfl (by decide) q_181 rfl dX3_come_143 ?_
            refine wc_iconstN X 146 1 dX3_come_146 ?_
            refine wc_iaddN X 147 dX3_come_147 ?_
            refine wc_put X Y 148 0 0 kd3 rfl (by decide) q_181 rfl rfl rfl (Nat.le_of_ble_eq_true rfl) (ws' := [ob h 3 [.int (nI ((srN s) + 1)), .int (nI (srT s)), .int (nI (srA s)), .int (nI (dropC F md (srO s) (srM s) p S (srG s) (srD s) (srN s))), .int (nI (srN s)), .int (nI md), .ref o, .ref qst, .ref qse, .ref qpa, .ref qle, .ref qgo], aI G qst 128 (nF (up (srO s) (srN s) p)), aI G qse 128 (nF (up (srM s) (srN s) S)), aI G qpa 128 (upd (srP s) (srN s) pr), aI G qle 128 (nF (up (srL s) (srN s) c)), aZ G qgo 128 (bF (up (dropG F md (srO s) (srM s) p S (srG s) (srN s)) (srN s) false)), ob o 5 [.ref qf, .ref ql], aI G qf 9 (nF fw), aI G ql 18 (nF ld), ob z 1 [.ref qa, .ref qb], ob qa 6 [.int (nI n0), .int (nI e0), .ref la], aI G la 10 (nF g0), ob qb 6 [.int (nI n1), .int (nI e1), .ref lb], aI G lb 10 (nF g1)]) rfl dX3_come_148 ?_
            exact ret 151 _ _ dX3_come_151 (⟨keepT F md s p S pr c (some (srN s)), rfl, rfl, keep_bad hps (by have z := c130_6; simp at z; simp [c119_5, z])⟩)
      ·
        exact absurd c55_4 (by omega)
    ·
      have hps : passS F md s p S = true := by unfold passS; rw [c28_2]; simp [c5_1]
      refine wc_aload_n X 31 0 dX3_come_31 rfl ?_
      refine wc_dup X 32 dX3_come_32 rfl ?_
      refine wc_get X 33 0 2 kd3 rfl (by decide) q_185 rfl dX3_come_33 ?_
      refine wc_iconstN X 36 1 dX3_come_36 ?_
      refine wc_iaddN X 37 dX3_come_37 ?_
      refine wc_put X Y 38 0 2 kd3 rfl (by decide) q_185 rfl rfl rfl (Nat.le_of_ble_eq_true rfl) (ws' := [ob h 3 [.int (nI (srN s)), .int (nI (srT s)), .int (nI ((srA s) + 1)), .int (nI (srD s)), .int (bI (srB s)), .int (nI md), .ref o, .ref qst, .ref qse, .ref qpa, .ref qle, .ref qgo], aI G qst 128 (nF (srO s)), aI G qse 128 (nF (srM s)), aI G qpa 128 (srP s), aI G qle 128 (nF (srL s)), aZ G qgo 128 (bF (srG s)), ob o 5 [.ref qf, .ref ql], aI G qf 9 (nF fw), aI G ql 18 (nF ld), ob z 1 [.ref qa, .ref qb], ob qa 6 [.int (nI n0), .int (nI e0), .ref la], aI G la 10 (nF g0), ob qb 6 [.int (nI n1), .int (nI e1), .ref lb], aI G lb 10 (nF g1)]) rfl dX3_come_38 ?_
      exact ret 41 _ _ dX3_come_41 (⟨paS s, rfl, rfl, (come_p hps).symm⟩)
  ·
    have hm2 := c5_1
    refine wc_aload_n X 8 0 dX3_come_8 rfl ?_
    refine wc_get X 9 0 6 kd3 rfl (by decide) q_192 rfl dX3_come_9 ?_
    refine wc_iconstN X 12 0 dX3_come_12 ?_
    refine wc_iload_n X 13 2 dX3_come_13 rfl ?_
    refine wc_iconstN X 14 1 dX3_come_14 ?_
    refine wc_iload_n X 15 3 dX3_come_15 rfl ?_
    refine wc_callV X 16 [6, 7, 8] 6 (c_X5_holds l G o qf ql fw ld 0 p 1 S (by decide) (by omega) (fun _ => by omega) (by decide) hS32) yv_X5_holds kd5 rfl rfl q_608 ⟨rfl, rfl⟩ ⟨rfl, rfl⟩ ⟨rfl, rfl⟩ rfl rfl rfl dX3_come_16 ?_
    refine wc_topi (b2i (folS F p S)) (congrArg b2i (hk_some (x := p) (hF hm2) (by omega) hS32)) ?_
    refine wc_if_neB X 19 31 dX3_come_19 (by decide) (fun c19_7 => ?_) (fun c19_7 => ?_)
    ·
      have hps : passS F md s p S = true := by unfold passS; rw [c19_7]; simp [c5_1]
      refine wc_aload_n X 31 0 dX3_come_31 rfl ?_
      refine wc_dup X 32 dX3_come_32 rfl ?_
      refine wc_get X 33 0 2 kd3 rfl (by decide) q_185 rfl dX3_come_33 ?_
      refine wc_iconstN X 36 1 dX3_come_36 ?_
      refine wc_iaddN X 37 dX3_come_37 ?_
      refine wc_put X Y 38 0 2 kd3 rfl (by decide) q_185 rfl rfl rfl (Nat.le_of_ble_eq_true rfl) (ws' := [ob h 3 [.int (nI (srN s)), .int (nI (srT s)), .int (nI ((srA s) + 1)), .int (nI (srD s)), .int (bI (srB s)), .int (nI md), .ref o, .ref qst, .ref qse, .ref qpa, .ref qle, .ref qgo], aI G qst 128 (nF (srO s)), aI G qse 128 (nF (srM s)), aI G qpa 128 (srP s), aI G qle 128 (nF (srL s)), aZ G qgo 128 (bF (srG s)), ob o 5 [.ref qf, .ref ql], aI G qf 9 (nF fw), aI G ql 18 (nF ld), ob z 1 [.ref qa, .ref qb], ob qa 6 [.int (nI n0), .int (nI e0), .ref la], aI G la 10 (nF g0), ob qb 6 [.int (nI n1), .int (nI e1), .ref lb], aI G lb 10 (nF g1)]) rfl dX3_come_38 ?_
      exact ret 41 _ _ dX3_come_41 (⟨paS s, rfl, rfl, (come_p hps).symm⟩)
    ·
      refine wc_aload_n X 22 0 dX3_come_22 rfl ?_
      refine wc_iload_n X 23 2 dX3_come_23 rfl ?_
      refine wc_iload_n X 24 3 dX3_come_24 rfl ?_
      refine wc_callV X 25 [0, 1, 2, 3, 4, 5, 6, 7, 8] 0 (c_X3_isCoveredByKept l G h qst qse qpa qle qgo md s o qf ql fw ld F p S (by first | assumption | omega) (by first | assumption | omega) (Inv_le hn0 hn1 hI) (Inv_A hn0 hn1 hI) (by omega) hS32) yv_X3_isCoveredByKept kd3 rfl rfl q_609 ⟨rfl, rfl⟩ ⟨rfl, rfl⟩ ⟨rfl, rfl⟩ rfl rfl rfl dX3_come_25 ?_
      refine wc_if_eqB X 28 42 dX3_come_28 (by decide) (fun c28_8 => ?_) (fun c28_8 => ?_)
      ·
        have hps : passS F md s p S = false := by unfold passS; rw [c28_8]; simp [c5_1, c19_7]
        have hlt := Inv_lt hn0 hn1 hI h0 hS hps
        refine wc_aload_n X 42 0 dX3_come_42 rfl ?_
        refine wc_iload_n X 43 2 dX3_come_43 rfl ?_
        refine wc_iload_n X 44 3 dX3_come_44 rfl ?_
        refine wc_mutV X Y 45 [0, 1, 2, 3, 4, 5, 6, 7, 8] [9, 10, 11, 12, 13] 0 (c_X3_dropCovered l G h qst qse qpa qle qgo md s o qf ql fw ld F p S (by first | assumption | omega) (by first | assumption | omega) (Inv_le hn0 hn1 hI) (Inv_A hn0 hn1 hI) (by omega) hS32) yv_X3_dropCovered kd3 rfl rfl (wr := [ob z 1 [.ref qa, .ref qb], ob qa 6 [.int (nI n0), .int (nI e0), .ref la], aI G la 10 (nF g0), ob qb 6 [.int (nI n1), .int (nI e1), .ref lb], aI G lb 10 (nF g1)]) rfl ⟨rfl, rfl, rfl⟩ q_621 ⟨rfl, rfl⟩ ⟨rfl, rfl⟩ ⟨rfl, rfl⟩ rfl rfl rfl dX3_come_45 (fun v w hp_9 => ?_)
        obtain ⟨rfl, rfl⟩ := hp_9
        refine wc_perm Y [5, 6, 7, 8, 9, 10, 11, 12, 13, 0, 1, 2, 3, 4] [ob h 3 [.int (nI (srN s)), .int (nI (srT s)), .int (nI (srA s)), .int (nI (dropC F md (srO s) (srM s) p S (srG s) (srD s) (srN s))), .int (bI (srB s)), .int (nI md), .ref o, .ref qst, .ref qse, .ref qpa, .ref qle, .ref qgo], aI G qst 128 (nF (srO s)), aI G qse 128 (nF (srM s)), aI G qpa 128 (srP s), aI G qle 128 (nF (srL s)), aZ G qgo 128 (bF (dropG F md (srO s) (srM s) p S (srG s) (srN s))), ob o 5 [.ref qf, .ref ql], aI G qf 9 (nF fw), aI G ql 18 (nF ld), ob z 1 [.ref qa, .ref qb], ob qa 6 [.int (nI n0), .int (nI e0), .ref la], aI G la 10 (nF g0), ob qb 6 [.int (nI n1), .int (nI e1), .ref lb], aI G lb 10 (nF g1)] rfl rfl ?_
        show Wc Γ 0 0 48 [(0, .ref h), (1, .ref z), (2, .int (nI p)), (3, .int (nI S)), (4, .int pr), (5, .int (nI c))] [] [ob h 3 [.int (nI (srN s)), .int (nI (srT s)), .int (nI (srA s)), .int (nI (dropC F md (srO s) (srM s) p S (srG s) (srD s) (srN s))), .int (bI (srB s)), .int (nI md), .ref o, .ref qst, .ref qse, .ref qpa, .ref qle, .ref qgo], aI G qst 128 (nF (srO s)), aI G qse 128 (nF (srM s)), aI G qpa 128 (srP s), aI G qle 128 (nF (srL s)), aZ G qgo 128 (bF (dropG F md (srO s) (srM s) p S (srG s) (srN s))), ob o 5 [.ref qf, .ref ql], aI G qf 9 (nF fw), aI G ql 18 (nF ld), ob z 1 [.ref qa, .ref qb], ob qa 6 [.int (nI n0), .int (nI e0), .ref la], aI G la 10 (nF g0), ob qb 6 [.int (nI n1), .int (nI e1), .ref lb], aI G lb 10 (nF g1)]
        refine wc_aload_n X 48 0 dX3_come_48 rfl ?_
        refine wc_get X 49 0 0 kd3 rfl (by decide) q_181 rfl dX3_come_49 ?_
        refine wc_sipush X 52 (nI 128) dX3_come_52 (by decide) ?_
        refine wc_icmp_ltN X 55 59 dX3_come_55 (by decide) (by omega) (by decide) (fun c55_10 => ?_) (fun c55_10 => ?_)
        ·
          refine wc_aload_n X 59 0 dX3_come_59 rfl ?_
          refine wc_get X 60 0 7 kd3 rfl (by decide) q_193 rfl dX3_come_60 ?_
          refine wc_aload_n X 63 0 dX3_come_63 rfl ?_
          refine wc_get X 64 0 0 kd3 rfl (by decide) q_181 rfl dX3_come_64 ?_
          refine wc_iload_n X 67 2 dX3_come_67 rfl ?_
          refine wc_iastG X Y 68 1 rfl (by omega) (by decide) (ws' := [ob h 3 [.int (nI (srN s)), .int (nI (srT s)), .int (nI (srA s)), .int (nI (dropC F md (srO s) (srM s) p S (srG s) (srD s) (srN s))), .int (bI (srB s)), .int (nI md), .ref o, .ref qst, .ref qse, .ref qpa, .ref qle, .ref qgo], aI G qst 128 (nF (up (srO s) (srN s) p)), aI G qse 128 (nF (srM s)), aI G qpa 128 (srP s), aI G qle 128 (nF (srL s)), aZ G qgo 128 (bF (dropG F md (srO s) (srM s) p S (srG s) (srN s))), ob o 5 [.ref qf, .ref ql], aI G qf 9 (nF fw), aI G ql 18 (nF ld), ob z 1 [.ref qa, .ref qb], ob qa 6 [.int (nI n0), .int (nI e0), .ref la], aI G la 10 (nF g0), ob qb 6 [.int (nI n1), .int (nI e1), .ref lb], aI G lb 10 (nF g1)]) rfl dX3_come_68 ?_
          refine wc_aload_n X 69 0 dX3_come_69 rfl ?_
          refine wc_get X 70 0 8 kd3 rfl (by decide) q_194 rfl dX3_come_70 ?_
          refine wc_aload_n X 73 0 dX3_come_73 rfl ?_
          refine wc_get X 74 0 0 kd3 rfl (by decide) q_181 rfl dX3_come_74 ?_
          refine wc_iload_n X 77 3 dX3_come_77 rfl ?_
          refine wc_iastG X Y 78 2 rfl (by omega) (by decide) (ws' := [ob h 3 [.int (nI (srN s)), .int (nI (srT s)), .int (nI (srA s)), .int (nI (dropC F md (srO s) (srM s) p S (srG s) (srD s) (srN s))), .int (bI (srB s)), .int (nI md), .ref o, .ref qst, .ref qse, .ref qpa, .ref qle, .ref qgo], aI G qst 128 (nF (up (srO s) (srN s) p)), aI G qse 128 (nF (up (srM s) (srN s) S)), aI G qpa 128 (srP s), aI G qle 128 (nF (srL s)), aZ G qgo 128 (bF (dropG F md (srO s) (srM s) p S (srG s) (srN s))), ob o 5 [.ref qf, .ref ql], aI G qf 9 (nF fw), aI G ql 18 (nF ld), ob z 1 [.ref qa, .ref qb], ob qa 6 [.int (nI n0), .int (nI e0), .ref la], aI G la 10 (nF g0), ob qb 6 [.int (nI n1), .int (nI e1), .ref lb], aI G lb 10 (nF g1)]) rfl dX3_come_78 ?_
          refine wc_aload_n X 79 0 dX3_come_79 rfl ?_
          refine wc_get X 80 0 9 kd3 rfl (by decide) q_195 rfl dX3_come_80 ?_
          refine wc_aload_n X 83 0 dX3_come_83 rfl ?_
          refine wc_get X 84 0 0 kd3 rfl (by decide) q_181 rfl dX3_come_84 ?_
          refine wc_iload X 87 4 dX3_come_87 rfl ?_
          refine wc_iastN X Y 89 3 rfl (by omega) (by decide) (ws' := [ob h 3 [.int (nI (srN s)), .int (nI (srT s)), .int (nI (srA s)), .int (nI (dropC F md (srO s) (srM s) p S (srG s) (srD s) (srN s))), .int (bI (srB s)), .int (nI md), .ref o, .ref qst, .ref qse, .ref qpa, .ref qle, .ref qgo], aI G qst 128 (nF (up (srO s) (srN s) p)), aI G qse 128 (nF (up (srM s) (srN s) S)), aI G qpa 128 (upd (srP s) (srN s) pr), aI G qle 128 (nF (srL s)), aZ G qgo 128 (bF (dropG F md (srO s) (srM s) p S (srG s) (srN s))), ob o 5 [.ref qf, .ref ql], aI G qf 9 (nF fw), aI G ql 18 (nF ld), ob z 1 [.ref qa, .ref qb], ob qa 6 [.int (nI n0), .int (nI e0), .ref la], aI G la 10 (nF g0), ob qb 6 [.int (nI n1), .int (nI e1), .ref lb], aI G lb 10 (nF g1)]) rfl dX3_come_89 ?_
          refine wc_aload_n X 90 0 dX3_come_90 rfl ?_
          refine wc_get X 91 0 10 kd3 rfl (by decide) q_196 rfl dX3_come_91 ?_
          refine wc_aload_n X 94 0 dX3_come_94 rfl ?_
          refine wc_get X 95 0 0 kd3 rfl (by decide) q_181 rfl dX3_come_95 ?_
          refine wc_iload X 98 5 dX3_come_98 rfl ?_
          refine wc_iastG X Y 100 4 rfl (by omega) (by decide) (ws' := [ob h 3 [.int (nI (srN s)), .int (nI (srT s)), .int (nI (srA s)), .int (nI (dropC F md (srO s) (srM s) p S (srG s) (srD s) (srN s))), .int (bI (srB s)), .int (nI md), .ref o, .ref qst, .ref qse, .ref qpa, .ref qle, .ref qgo], aI G qst 128 (nF (up (srO s) (srN s) p)), aI G qse 128 (nF (up (srM s) (srN s) S)), aI G qpa 128 (upd (srP s) (srN s) pr), aI G qle 128 (nF (up (srL s) (srN s) c)), aZ G qgo 128 (bF (dropG F md (srO s) (srM s) p S (srG s) (srN s))), ob o 5 [.ref qf, .ref ql], aI G qf 9 (nF fw), aI G ql 18 (nF ld), ob z 1 [.ref qa, .ref qb], ob qa 6 [.int (nI n0), .int (nI e0), .ref la], aI G la 10 (nF g0), ob qb 6 [.int (nI n1), .int (nI e1), .ref lb], aI G lb 10 (nF g1)]) rfl dX3_come_100 ?_
          refine wc_aload_n X 101 0 dX3_come_101 rfl ?_
          refine wc_get X 102 0 11 kd3 rfl (by decide) q_197 rfl dX3_come_102 ?_
          refine wc_aload_n X 105 0 dX3_come_105 rfl ?_
          refine wc_get X 106 0 0 kd3 rfl (by decide) q_181 rfl dX3_come_106 ?_
          refine wc_iconstN X 109 0 dX3_come_109 ?_
          refine wc_st (st' := [.int (b2i false), .int (nI (srN s)), .ref qgo]) rfl ?_
          refine wc_zastG X Y 110 5 rfl (by omega) (by decide) (ws' := [ob h 3 [.int (nI (srN s)), .int (nI (srT s)), .int (nI (srA s)), .int (nI (dropC F md (srO s) (srM s) p S (srG s) (srD s) (srN s))), .int (bI (srB s)), .int (nI md), .ref o, .ref qst, .ref qse, .ref qpa, .ref qle, .ref qgo], aI G qst 128 (nF (up (srO s) (srN s) p)), aI G qse 128 (nF (up (srM s) (srN s) S)), aI G qpa 128 (upd (srP s) (srN s) pr), aI G qle 128 (nF (up (srL s) (srN s) c)), aZ G qgo 128 (bF (up (dropG F md (srO s) (srM s) p S (srG s) (srN s)) (srN s) false)), ob o 5 [.ref qf, .ref ql], aI G qf 9 (nF fw), aI G ql 18 (nF ld), ob z 1 [.ref qa, .ref qb], ob qa 6 [.int (nI n0), .int (nI e0), .ref la], aI G la 10 (nF g0), ob qb 6 [.int (nI n1), .int (nI e1), .ref lb], aI G lb 10 (nF g1)]) rfl dX3_come_110 ?_
          refine wc_aload_n X 111 1 dX3_come_111 rfl ?_
          refine wc_get X 112 9 0 kd1 rfl (by decide) q_70 rfl dX3_come_112 ?_
          refine wc_iload_n X 115 2 dX3_come_115 rfl ?_
          refine wc_callV X 116 [10] 10 (c_X6_isEnd l G qa la n0 e0 p (by omega) (by omega) (by omega)) yv_X6_isEnd kd6 rfl rfl q_625 ⟨rfl, rfl⟩ ⟨rfl, rfl⟩ ⟨rfl, rfl⟩ rfl rfl rfl dX3_come_116 ?_
          refine wc_topi (b2i (Nat.testBit e0 p)) (congrArg b2i (by rw [decide_eq_true h0, Bool.true_and])) ?_
          refine wc_if_eqB X 119 141 dX3_come_119 (by decide) (fun c119_11 => ?_) (fun c119_11 => ?_)
          ·
            refine wc_aload_n X 141 0 dX3_come_141 rfl ?_
            refine wc_dup X 142 dX3_come_142 rfl ?_
            refine wc_get X 143 0 0 kd3 rfl (by decide) q_181 rfl dX3_come_143 ?_
            refine wc_iconstN X 146 1 dX3_come_146 ?_
            refine wc_iaddN X 147 dX3_come_147 ?_
            refine wc_put X Y 148 0 0 kd3 rfl (by decide) q_181 rfl rfl rfl (Nat.le_of_ble_eq_true rfl) (ws' := [ob h 3 [.int (nI ((srN s) + 1)), .int (nI (srT s)), .int (nI (srA s)), .int (nI (dropC F md (srO s) (srM s) p S (srG s) (srD s) (srN s))), .int (bI (srB s)), .int (nI md), .ref o, .ref qst, .ref qse, .ref qpa, .ref qle, .ref qgo], aI G qst 128 (nF (up (srO s) (srN s) p)), aI G qse 128 (nF (up (srM s) (srN s) S)), aI G qpa 128 (upd (srP s) (srN s) pr), aI G qle 128 (nF (up (srL s) (srN s) c)), aZ G qgo 128 (bF (up (dropG F md (srO s) (srM s) p S (srG s) (srN s)) (srN s) false)), ob o 5 [.ref qf, .ref ql], aI G qf 9 (nF fw), aI G ql 18 (nF ld), ob z 1 [.ref qa, .ref qb], ob qa 6 [.int (nI n0), .int (nI e0), .ref la], aI G la 10 (nF g0), ob qb 6 [.int (nI n1), .int (nI e1), .ref lb], aI G lb 10 (nF g1)]) rfl dX3_come_148 ?_
            exact ret 151 _ _ dX3_come_151 (⟨keepT F md s p S pr c (srB s), rfl, rfl, keep_ok hps (by simp [c119_11])⟩)
          ·
            refine wc_aload_n X 122 1 dX3_come_122 rfl ?_
            refine wc_get X 123 9 1 kd1 rfl (by decide) q_78 rfl dX3_come_123 ?_
            refine wc_iload_n X 126 3 dX3_come_126 rfl ?_
            refine wc_callV X 127 [12] 12 (c_X6_hasEndIn l G qb lb n1 e1 S hS32) yv_X6_hasEndIn kd6 rfl rfl q_626 ⟨rfl, rfl⟩ ⟨rfl, rfl⟩ ⟨rfl, rfl⟩ rfl rfl rfl dX3_come_127 ?_
            refine wc_if_neB X 130 141 dX3_come_130 (by decide) (fun c130_12 => ?_) (fun c130_12 => ?_)
            ·
              refine wc_aload_n X 141 0 dX3_come_141 rfl ?_
              refine wc_dup X 142 dX3_come_142 rfl ?_
              refine wc_get X 143 0 0 kd3 rfl (by decide) q_181 rfl dX3_come_143 ?_
              refine wc_iconstN X 146 1 dX3_come_146 ?_
              refine wc_iaddN X 147 dX3_come_147 ?_
              refine wc_put X Y 148 0 0 kd3 rfl (by decide) q_181 rfl rfl rfl (Nat.le_of_ble_eq_true rfl) (ws' := [ob h 3 [.int (nI ((srN s) + 1)), .int (nI (srT s)), .int (nI (srA s)), .int (nI (dropC F md (srO s) (srM s) p S (srG s) (srD s) (srN s))), .int (bI (srB s)), .int (nI md), .ref o, .ref qst, .ref qse, .ref qpa, .ref qle, .ref qgo], aI G qst 128 (nF (up (srO s) (srN s) p)), aI G qse 128 (nF (up (srM s) (srN s) S)), aI G qpa 128 (upd (srP s) (srN s) pr), aI G qle 128 (nF (up (srL s) (srN s) c)), aZ G qgo 128 (bF (up (dropG F md (srO s) (srM s) p S (srG s) (srN s)) (srN s) false)), ob o 5 [.ref qf, .ref ql], aI G qf 9 (nF fw), aI G ql 18 (nF ld), ob z 1 [.ref qa, .ref qb], ob qa 6 [.int (nI n0), .int (nI e0), .ref la], aI G la 10 (nF g0), ob qb 6 [.int (nI n1), .int (nI e1), .ref lb], aI G lb 10 (nF g1)]) rfl dX3_come_148 ?_
              exact ret 151 _ _ dX3_come_151 (⟨keepT F md s p S pr c (srB s), rfl, rfl, keep_ok hps (by have z := c130_12; simp at z; simp [c119_11, z])⟩)
            ·
              refine wc_aload_n X 133 0 dX3_come_133 rfl ?_
              refine wc_aload_n X 134 0 dX3_come_134 rfl ?_
              refine wc_get X 135 0 0 kd3 rfl (by decide) q_181 rfl dX3_come_135 ?_
              refine wc_put X Y 138 0 4 kd3 rfl (by decide) q_189 rfl rfl rfl (Nat.le_of_ble_eq_true rfl) (ws' := [ob h 3 [.int (nI (srN s)), .int (nI (srT s)), .int (nI (srA s)), .int (nI (dropC F md (srO s) (srM s) p S (srG s) (srD s) (srN s))), .int (nI (srN s)), .int (nI md), .ref o, .ref qst, .ref qse, .ref qpa, .ref qle, .ref qgo], aI G qst 128 (nF (up (srO s) (srN s) p)), aI G qse 128 (nF (up (srM s) (srN s) S)), aI G qpa 128 (upd (srP s) (srN s) pr), aI G qle 128 (nF (up (srL s) (srN s) c)), aZ G qgo 128 (bF (up (dropG F md (srO s) (srM s) p S (srG s) (srN s)) (srN s) false)), ob o 5 [.ref qf, .ref ql], aI G qf 9 (nF fw), aI G ql 18 (nF ld), ob z 1 [.ref qa, .ref qb], ob qa 6 [.int (nI n0), .int (nI e0), .ref la], aI G la 10 (nF g0), ob qb 6 [.int (nI n1), .int (nI e1), .ref lb], aI G lb 10 (nF g1)]) rfl dX3_come_138 ?_
              refine wc_aload_n X 141 0 dX3_come_141 rfl ?_
              refine wc_dup X 142 dX3_come_142 rfl ?_
              refine wc_get X 143 0 0 kd3 rfl (by decide) q_181 rfl dX3_come_143 ?_
              refine wc_iconstN X 146 1 dX3_come_146 ?_
              refine wc_iaddN X 147 dX3_come_147 ?_
              refine wc_put X Y 148 0 0 kd3 rfl (by decide) q_181 rfl rfl rfl (Nat.le_of_ble_eq_true rfl) (ws' := [ob h 3 [.int (nI ((srN s) + 1)), .int (nI (srT s)), .int (nI (srA s)), .int (nI (dropC F md (srO s) (srM s) p S (srG s) (srD s) (srN s))), .int (nI (srN s)), .int (nI md), .ref o, .ref qst, .ref qse, .ref qpa, .ref qle, .ref qgo], aI G qst 128 (nF (up (srO s) (srN s) p)), aI G qse 128 (nF (up (srM s) (srN s) S)), aI G qpa 128 (upd (srP s) (srN s) pr), aI G qle 128 (nF (up (srL s) (srN s) c)), aZ G qgo 128 (bF (up (dropG F md (srO s) (srM s) p S (srG s) (srN s)) (srN s) false)), ob o 5 [.ref qf, .ref ql], aI G qf 9 (nF fw), aI G ql 18 (nF ld), ob z 1 [.ref qa, .ref qb], ob qa 6 [.int (nI n0), .int (nI e0), .ref la], aI G la 10 (nF g0), ob qb 6 [.int (nI n1), .int (nI e1), .ref lb], aI G lb 10 (nF g1)]) rfl dX3_come_148 ?_
              exact ret 151 _ _ dX3_come_151 (⟨keepT F md s p S pr c (some (srN s)), rfl, rfl, keep_bad hps (by have z := c130_12; simp at z; simp [c119_11, z])⟩)
        ·
          exact absurd c55_10 (by omega)
      ·
        have hps : passS F md s p S = true := by unfold passS; rw [c28_8]; simp [c5_1, c19_7]
        refine wc_aload_n X 31 0 dX3_come_31 rfl ?_
        refine wc_dup X 32 dX3_come_32 rfl ?_
        refine wc_get X 33 0 2 kd3 rfl (by decide) q_185 rfl dX3_come_33 ?_
        refine wc_iconstN X 36 1 dX3_come_36 ?_
        refine wc_iaddN X 37 dX3_come_37 ?_
        refine wc_put X Y 38 0 2 kd3 rfl (by decide) q_185 rfl rfl rfl (Nat.le_of_ble_eq_true rfl) (ws' := [ob h 3 [.int (nI (srN s)), .int (nI (srT s)), .int (nI ((srA s) + 1)), .int (nI (srD s)), .int (bI (srB s)), .int (nI md), .ref o, .ref qst, .ref qse, .ref qpa, .ref qle, .ref qgo], aI G qst 128 (nF (srO s)), aI G qse 128 (nF (srM s)), aI G qpa 128 (srP s), aI G qle 128 (nF (srL s)), aZ G qgo 128 (bF (srG s)), ob o 5 [.ref qf, .ref ql], aI G qf 9 (nF fw), aI G ql 18 (nF ld), ob z 1 [.ref qa, .ref qb], ob qa 6 [.int (nI n0), .int (nI e0), .ref la], aI G la 10 (nF g0), ob qb 6 [.int (nI n1), .int (nI e1), .ref lb], aI G lb 10 (nF g1)]) rfl dX3_come_38 ?_
        exact ret 41 _ _ dX3_come_41 (⟨paS s, rfl, rfl, (come_p hps).symm⟩)

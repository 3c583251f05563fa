/-! what is read: the fault's place is small; nothing is told behind the page -/
section PBD
variable {t : Nat → Nat} {ts : Nat}
theorem part_bd {r : Nat → Nat} {a x : Nat} (h : (partP t ts r a).1 = some x) : x ≤ a + 3 := by
  unfold partP at h
  split at h
  · have := Option.some.inj h; omega
  · split at h
    · exact edgeP_bd h
    · exact endP_bd h
theorem parts_bd : ∀ (f a : Nat) (r : Nat → Nat) (k : Nat), pgOk r → (partsP t ts f a r).1 = some k → k ≤ ts + 3
  | 0, a, r, k, _, h => by cases h
  | f + 1, a, r, k, hr, h => by
    by_cases ha : a < ts
    · cases hp : (partP t ts r a).1.isNone with
      | true =>
        rw [partsP_s ha hp (by omega), Nat.add_sub_cancel] at h
        exact parts_bd f _ _ k (partP_ok hr ha hp).1 h
      | false =>
        rw [partsP_f ha hp (by omega)] at h
        have := part_bd h
        omega
    · rw [partsP_e (by omega)] at h
      cases h
theorem parse_bd {k : Nat} (hts : ts ≤ 80) (h : (parseP t ts).1 = some k) : k < 2147483648 := by
  unfold parseP at h
  by_cases h1 : ts = 0 ∨ t 0 ≠ 87
  · rw [if_pos h1] at h; cases h; decide
  rw [if_neg h1] at h
  cases hf : figP t ts 1 1 4 with
  | none => rw [hf] at h; cases h; decide
  | some n0 =>
    rw [hf] at h
    simp only at h
    have d1 := figP_some hf
    cases hg : figP t ts 2 1 5 with
    | none => rw [hg] at h; cases h; decide
    | some n1 =>
      rw [hg] at h
      simp only at h
      have d2 := figP_some hg
      have := parts_bd 80 3 _ k (page0_ok (n0 := n0) (n1 := n1) (by omega) (by omega) (by omega) (by omega)) h
      omega
theorem edgeP_hi {r : Nat → Nat} {m a j : Nat} (hr : pgOk r) (hm : m < 2) (hj : 22 ≤ j) : (edgeP t ts r m a).2 j = r j := by
  have hb := pgOk_m hr hm
  unfold edgeP
  split
  · rfl
  · rename_i i hf
    have hi := figP_some hf
    split
    · rfl
    · split
      · rfl
      · rename_i h2
        split
        · rfl
        · split
          · rfl
          · split
            · rfl
            · refine up_n _ _ ?_
              have := atN_lt (m := m) (i := i) (c := t (a + 2) - 96) (by omega) (by omega)
              omega
theorem endP_hi {r : Nat → Nat} {m a j : Nat} (hm : m < 2) (hj : 22 ≤ j) : (endP t ts r m a).2 j = r j := by
  unfold endP
  split
  · rfl
  · split
    · rfl
    · exact up_n _ _ (by omega)
theorem part_hi {r : Nat → Nat} {a j : Nat} (hr : pgOk r) (hj : 22 ≤ j) : (partP t ts r a).2.2 j = r j := by
  unfold partP
  split
  · rfl
  · split
    · exact edgeP_hi hr (sgM_lt _) hj
    · exact endP_hi (sgM_lt _) hj
theorem parts_hi {j : Nat} (hj : 22 ≤ j) : ∀ (f a : Nat) (r : Nat → Nat), pgOk r → r j = 0 → (partsP t ts f a r).2 j = 0
  | 0, a, r, _, h => h
  | f + 1, a, r, hr, h => by
    by_cases ha : a < ts
    · cases hp : (partP t ts r a).1.isNone with
      | true =>
        rw [partsP_s ha hp (by omega), Nat.add_sub_cancel]
        exact parts_hi hj f _ _ (partP_ok hr ha hp).1 (by rw [part_hi hr hj, h])
      | false =>
        rw [partsP_f ha hp (by omega)]
        exact (part_hi hr hj).trans h
    · rw [partsP_e (by omega)]
      exact h
theorem parse_hi {j : Nat} (hj : 22 ≤ j) : (parseP t ts).2 j = 0 := by
  unfold parseP
  by_cases h1 : ts = 0 ∨ t 0 ≠ 87
  · rw [if_pos h1]
  rw [if_neg h1]
  cases hf : figP t ts 1 1 4 with
  | none => rfl
  | some n0 =>
    simp only
    have d1 := figP_some hf
    cases hg : figP t ts 2 1 5 with
    | none => rfl
    | some n1 =>
      simp only
      have d2 := figP_some hg
      refine parts_hi hj 80 3 _ (page0_ok (n0 := n0) (n1 := n1) (by omega) (by omega) (by omega) (by omega)) ?_
      unfold page0
      rw [up_n _ _ (by omega), up_n _ _ (by omega)]
end PBD
theorem out_sw {x : Int32} (ho : outR x 0 8) : x.toInt < 0 ∨ 8 < x.toInt := by
  rcases Classical.em (x.toInt < 0 ∨ 8 < x.toInt) with h | h
  · exact h
  · obtain ⟨j, hj, e⟩ := nI_ofInt (x := x) (m := 9) (by omega) (by omega)
    exact absurd e (ho j (by omega) (by omega))
/-! answers of a search -/
def c0S : Sr := (0, fun _ => 0, fun _ => 0, fun _ => 0, fun _ => 0, fun _ => false, 0, 0, 0, none)
def srV (s : Sr) (k : Nat) : Nat := if k = 0 then (srB s).isNone.toNat else if k = 1 then srT s else if k = 2 then srN s - srD s else if k = 3 then srA s else srD s
def tellS (s : Sr) (k : Nat) : Int32 := match srB s with
  | none => -9
  | some kb => if k ≤ dpK s 128 kb then (if k = 0 then nI (dpK s 128 kb) else nI (srL s (anK s kb (dpK s 128 kb - k)))) else -9
section TLS
variable {s t : Sr} {k kb : Nat} {g : Nat → Nat}
theorem tellS_n (hb : srB s = none) : spTell false 0 g k = tellS s k := by
  unfold tellS
  rw [hb]; rfl
theorem tellS_s (hb : srB s = some kb) (hg : ∀ j, j < dpK s 128 kb → g j = srL s (anK s kb j)) : spTell true (dpK s 128 kb) g k = tellS s k := by
  unfold tellS spTell
  rw [hb, Bool.true_and]
  simp only
  by_cases e : k ≤ dpK s 128 kb
  · rw [if_pos (decide_eq_true e), if_pos e]
    by_cases z : k = 0
    · rw [if_pos z, if_pos z]
    · rw [if_neg z, if_neg z, hg _ (by omega)]
  · rw [if_neg (by rw [decide_eq_false e]; decide), if_neg e]
theorem srV_eqv (h : Eqv s t) : srV s k = srV t k := by
  obtain ⟨h1, h2, h3, h4, h5, -⟩ := h
  unfold srV
  rw [h1, h2, h3, h4, h5]
theorem kpR_eqv {pr : Int32} (hn : srN s ≤ srN s) (h : Eqv s t) : kpR s pr = kpR t pr := by
  unfold kpR
  rw [← h.1, ← kp_eqv h (srN s) hn]
  cases hk : kpK s pr (srN s) with
  | none => rfl
  | some j =>
    have key : ∀ n, kpK s pr n = some j → j < n := by
      intro n
      induction n with
      | zero => intro z; cases z
      | succ n ih =>
        intro z
        rw [kpK] at z
        split at z
        · have := ih z; omega
        · split at z
          · cases z; omega
          · cases z
    have hj := key _ hk
    obtain ⟨a, b, -⟩ := h.2.2.2.2.2 j hj
    simp only
    rw [a, b]
theorem pN_eqv (h : Eqv s t) {i : Nat} (hi : i < srN s) : pN s i = pN t i := by
  unfold pN
  rw [(h.2.2.2.2.2 i hi).2.2.1]
section TLI
variable {F : Nat → Nat → Bool} {md n0 n1 : Nat}
theorem dpK_eqv (hn0 : n0 ≤ 4) (hn1 : n1 ≤ 5) (hI : Inv F md n0 n1 s) (h : Eqv s t) : ∀ f i, i < srN s → dpK s f i = dpK t f i := by
  intro f
  induction f with
  | zero => intro i _; rfl
  | succ f ih =>
    intro i hi
    rw [dpK, dpK, ← (h.2.2.2.2.2 i hi).2.2.1, ← pN_eqv h hi]
    rcases Inv_par hn0 hn1 hI hi with z | ⟨-, z2, z3, -⟩
    · rw [if_pos z, if_pos z]
    · rw [if_neg z3, if_neg z3, ih _ (by omega)]
theorem anK_lt (hn0 : n0 ≤ 4) (hn1 : n1 ≤ 5) (hI : Inv F md n0 n1 s) {i : Nat} (hi : i < srN s) : ∀ j, j ≤ dpK s 128 i → anK s i j < srN s ∧ dpK s 128 (anK s i j) + j = dpK s 128 i := by
  intro j
  induction j with
  | zero => intro _; exact ⟨hi, rfl⟩
  | succ j ih =>
    intro hj
    obtain ⟨a, b⟩ := ih (by omega)
    rcases Inv_par hn0 hn1 hI a with z | ⟨-, z2, z3, -⟩
    · rw [dp_end z] at b; omega
    · have := dp_st hn0 hn1 hI a z3
      show pN s (anK s i j) < srN s ∧ dpK s 128 (pN s (anK s i j)) + (j + 1) = dpK s 128 i
      exact ⟨by omega, by omega⟩
theorem anK_eqv (hn0 : n0 ≤ 4) (hn1 : n1 ≤ 5) (hI : Inv F md n0 n1 s) (h : Eqv s t) {i : Nat} (hi : i < srN s) : ∀ j, j ≤ dpK s 128 i → anK s i j = anK t i j := by
  intro j
  induction j with
  | zero => intro _; rfl
  | succ j ih =>
    intro hj
    have a := (anK_lt hn0 hn1 hI hi j (by omega)).1
    show pN s (anK s i j) = pN t (anK t i j)
    rw [← ih (by omega), pN_eqv h a]
theorem tellS_eqv (hn0 : n0 ≤ 4) (hn1 : n1 ≤ 5) (hI : Inv F md n0 n1 s) (h : Eqv s t) : tellS s k = tellS t k := by
  unfold tellS
  rw [← h.2.2.2.2.1]
  cases hb : srB s with
  | none => rfl
  | some kb =>
    have hk := hI.2.2.2 kb hb
    simp only
    rw [← dpK_eqv hn0 hn1 hI h 128 kb hk]
    by_cases e : k ≤ dpK s 128 kb
    · rw [if_pos e, if_pos e]
      by_cases z : k = 0
      · rw [if_pos z, if_pos z]
      · have a := anK_lt hn0 hn1 hI hk (dpK s 128 kb - k) (by omega)
        rw [if_neg z, if_neg z, ← anK_eqv hn0 hn1 hI h hk _ (by omega), (h.2.2.2.2.2 _ a.1).2.2.2.1]
    · rw [if_neg e, if_neg e]
end TLI
end TLS
section STY
variable {F : Nat → Nat → Bool} {md e0 e1 : Nat} {g0 g1 : Nat → Nat} {n0 n1 : Nat} {s t : Sr} {p S : Nat} {pr : Int32} {c : Nat}
theorem run_c0 : Eqv (runS F md e0 e1 g0 g1 n1 (sZ s) 128) (runS F md e0 e1 g0 g1 n1 c0S 128) := by
  have h : Eqv (sZ s) c0S := ⟨rfl, rfl, rfl, rfl, rfl, fun j hj => absurd hj (Nat.not_lt_zero j)⟩
  exact Eqv_run h 128
theorem cnt_cong {f g : Nat → Bool} : ∀ n, (∀ j, j < n → f j = g j) → cnt f n = cnt g n := by
  intro n
  induction n with
  | zero => intro _; rfl
  | succ n ih => intro h; rw [cnt, cnt, ih (fun j hj => h j (by omega)), h n (by omega)]
theorem drop_cnt {one many : Nat → Nat} {gn : Nat → Bool} {d N : Nat} : ∀ k, k ≤ N → cnt (ntF (dropG F md one many p S gn k)) N + dropC F md one many p S gn d k = cnt (ntF gn) N + d := by
  intro k
  induction k with
  | zero => intro _; rfl
  | succ k ih =>
    intro hk
    have i := ih (by omega)
    rw [dropG, dropC]
    split
    · rename_i h
      rw [Bool.and_eq_true] at h
      rw [← ntF_up]
      have := cnt_up (fo := ntF (dropG F md one many p S gn k)) (k := k) h.1 N (by omega)
      omega
    · exact i
theorem sty_come (h : stay s (srN s) + srD s = srN s) : stay (comeS F md e0 e1 s p S pr c) (srN (comeS F md e0 e1 s p S pr c)) + srD (comeS F md e0 e1 s p S pr c) = srN (comeS F md e0 e1 s p S pr c) := by
  cases hp : passS F md s p S with
  | true => rw [come_p hp]; exact h
  | false =>
    rw [come_k hp]
    show cnt (fun j => !(up (dropG F md (srO s) (srM s) p S (srG s) (srN s)) (srN s) false) j) (srN s) + (!(up (dropG F md (srO s) (srM s) p S (srG s) (srN s)) (srN s) false) (srN s)).toNat + dropC F md (srO s) (srM s) p S (srG s) (srD s) (srN s) = srN s + 1
    rw [up_s, cnt_cong (g := ntF (dropG F md (srO s) (srM s) p S (srG s) (srN s))) (srN s) (fun j hj => by rw [up_n _ _ (by omega)]; rfl)]
    have a := drop_cnt (F := F) (md := md) (one := srO s) (many := srM s) (p := p) (S := S) (gn := srG s) (d := srD s) (N := srN s) (srN s) (Nat.le_refl _)
    have b : cnt (ntF (srG s)) (srN s) + srD s = srN s := h
    show _ + 1 + _ = _
    omega
theorem sty_go {q : Nat} (h : stay s (srN s) + srD s = srN s) {P k : Nat} : ∀ i, stay (goS F md e0 e1 g0 g1 n1 P S k s i) (srN (goS F md e0 e1 g0 g1 n1 P S k s i)) + srD (goS F md e0 e1 g0 g1 n1 P S k s i) = srN (goS F md e0 e1 g0 g1 n1 P S k s i) := by
  intro i
  induction i with
  | zero => exact h
  | succ i ih =>
    rw [goS]
    unfold stS
    split
    · exact sty_come ih
    · exact ih
theorem sty_run (h0 : srN s = 0) (hd : srD s = 0) : ∀ i, stay (runS F md e0 e1 g0 g1 n1 s i) (srN (runS F md e0 e1 g0 g1 n1 s i)) + srD (runS F md e0 e1 g0 g1 n1 s i) = srN (runS F md e0 e1 g0 g1 n1 s i) := by
  intro i
  induction i with
  | zero => exact sty_come (by rw [h0, hd]; rfl)
  | succ i ih =>
    rw [runS]
    unfold rnS
    split
    · exact sty_go (q := 0) (s := tkS (runS F md e0 e1 g0 g1 n1 s i)) ih 8
    · exact ih
theorem sr_le (hs : t = runS F md e0 e1 g0 g1 n1 (sZ s) 128) : srD t ≤ srN t := by
  have := sty_run (F := F) (md := md) (e0 := e0) (e1 := e1) (g0 := g0) (g1 := g1) (n1 := n1) (s := sZ s) rfl rfl 128
  rw [← hs] at this
  omega
theorem sr_stay (hs : t = runS F md e0 e1 g0 g1 n1 (sZ s) 128) : stay t (srN t) = srN t - srD t := by
  have := sty_run (F := F) (md := md) (e0 := e0) (e1 := e1) (g0 := g0) (g1 := g1) (n1 := n1) (s := sZ s) rfl rfl 128
  rw [← hs] at this
  omega
end STY

/-! what stands between two calls -/
def Nrm (p : Nat → Nat) : Prop := ∀ k, 22 ≤ k → p k = 0
/-- the row of acts: the class's told figures, the reference's pages -/
def Ao (ac bk : Nat → Nat) : Nat → (Nat → Nat) → Prop
  | 0, _ => True
  | n + 1, p => pgOk (bkP bk n) ∧ ((∃ m i c t, m < 2 ∧ i < bkP bk n m ∧ 1 ≤ c ∧ c ≤ 2 ∧ t < bkP bk n m ∧ ac n = m * 1000 + i * 100 + c * 10 + t ∧ p = flE (bkP bk n) m i c t) ∨ ∃ m i, m < 2 ∧ i < bkP bk n m ∧ ac n = m * 1000 + i * 100 ∧ p = flN (bkP bk n) m i) ∧ Ao ac bk n (bkP bk n)
def SlO (f : Bool) (kp : Nat → Nat) (j k e : Nat) (g : Nat → Nat) (l h : Nat) (q : Nat → Nat) : Prop := f = true → pgOk (bkP kp j) ∧ k = bkP kp j 0 ∧ e = bkP kp j 2 ∧ g = gz (bkP kp j) ∧ l = bkP kp j 1 ∧ h = bkP kp j 3 ∧ q = go (bkP kp j)
def INV (ts : Nat) (t p : Nat → Nat) (dn : Nat) (ac bk : Nat → Nat) (fi : Nat → Bool) (kp : Nat → Nat) (sn : Nat) (sw si : Nat → Nat) (k0 f0 : Nat) (g0 : Nat → Nat) (l0 h0 : Nat) (q0 : Nat → Nat) (k1 f1 : Nat) (g1 : Nat → Nat) (l1 h1 : Nat) (q1 : Nat → Nat) : Prop :=
  (pgOk p ∧ Nrm p) ∧ (ts ≤ 80 ∧ ∀ j, t j < 256) ∧ (sn ≤ 6 ∧ (∀ j, j < sn → wordOk (sw j) = true) ∧ ∀ j, j < sn → si j ≤ 1) ∧ (dn ≤ 14 ∧ Ao ac bk dn p) ∧ SlO (fi 0) kp 0 k0 f0 g0 l0 h0 q0 ∧ SlO (fi 1) kp 1 k1 f1 g1 l1 h1 q1
section AOL
variable {ac bk ac2 bk2 p : Nat → Nat} {m i c t : Nat}
theorem bkP_nrm (bk : Nat → Nat) (n : Nat) : Nrm (bkP bk n) := fun k hk => by
  unfold bkP
  rw [if_neg (by omega)]
theorem flE_nrm (hp : Nrm p) (hi : i < 5) (h2 : c ≤ 2) : Nrm (flE p m i c t) := fun k hk => by
  unfold flE
  have := atN_lt (m := m) (i := i) (c := c) hi h2
  rw [up_n _ _ (by omega)]
  exact hp k hk
theorem flN_nrm (hp : Nrm p) (hm : m < 2) : Nrm (flN p m i) := fun k hk => by
  unfold flN
  rw [up_n _ _ (by omega)]
  exact hp k hk
theorem flE_flE : flE (flE p m i c t) m i c t = p := up_xx p (atN m i c) (2 ^ t)
theorem flN_flN : flN (flN p m i) m i = p := up_xx p (2 + m) (2 ^ i)
theorem bkP_cong {n : Nat} (h : ∀ j, j < 22 * (n + 1) → bk2 j = bk j) : bkP bk2 n = bkP bk n := by
  funext k
  unfold bkP
  split
  · exact h _ (by omega)
  · rfl
theorem Ao_cong : ∀ n p, (∀ j, j < 22 * n → bk2 j = bk j) → (∀ j, j < n → ac2 j = ac j) → Ao ac bk n p → Ao ac2 bk2 n p
  | 0, _, _, _, _ => trivial
  | n + 1, p, h1, h2, h => by
    have e : bkP bk2 n = bkP bk n := bkP_cong h1
    obtain ⟨a, b, d⟩ := h
    refine ⟨by rw [e]; exact a, ?_, by rw [e]; exact Ao_cong n _ (fun j hj => h1 j (by omega)) (fun j hj => h2 j (by omega)) d⟩
    rw [e, h2 n (by omega)]
    exact b
theorem bkP_of {n : Nat} (hp : Nrm p) (h : ∀ k, k < 22 → bk2 (22 * n + k) = p k) : bkP bk2 n = p := by
  funext k
  unfold bkP
  split
  · rename_i hk
    exact h k hk
  · exact (hp k (by omega)).symm
theorem Ao_sh : ∀ n p, Ao ac bk (n + 1) p → Ao (fun j => ac (j + 1)) (fun j => bk (j + 22)) n p
  | 0, _, _ => trivial
  | n + 1, p, h => by
    have e : bkP (fun j => bk (j + 22)) n = bkP bk (n + 1) := by
      funext k
      unfold bkP
      split
      · show bk (22 * n + k + 22) = bk (22 * (n + 1) + k)
        congr 1
        omega
      · rfl
    obtain ⟨a, b, d⟩ := h
    exact ⟨by rw [e]; exact a, by rw [e]; exact b, by rw [e]; exact Ao_sh n _ d⟩
theorem Ao_pushE {n : Nat} (hr : pgOk p) (hp : Nrm p) (h : Ao ac bk n p) (hm : m < 2) (hi : i < p m) (h1 : 1 ≤ c) (h2 : c ≤ 2) (ht : t < p m) (hb : (∀ j, j < 22 * n → bk2 j = bk j) ∧ ∀ k, k < 22 → bk2 (22 * n + k) = p k) : Ao (up ac n (m * 1000 + i * 100 + c * 10 + t)) bk2 (n + 1) (flE p m i c t) := by
  have e := bkP_of hp hb.2
  refine ⟨by rw [e]; exact hr, Or.inl ⟨m, i, c, t, hm, by rw [e]; exact hi, h1, h2, by rw [e]; exact ht, up_s _ _ _, by rw [e]⟩, ?_⟩
  rw [e]
  exact Ao_cong n p hb.1 (fun j hj => up_n _ _ (by omega)) h
theorem Ao_pushN {n : Nat} (hr : pgOk p) (hp : Nrm p) (h : Ao ac bk n p) (hm : m < 2) (hi : i < p m) (hb : (∀ j, j < 22 * n → bk2 j = bk j) ∧ ∀ k, k < 22 → bk2 (22 * n + k) = p k) : Ao (up ac n (m * 1000 + i * 100 + 0 * 10 + 0)) bk2 (n + 1) (flN p m i) := by
  have e := bkP_of hp hb.2
  refine ⟨by rw [e]; exact hr, Or.inr ⟨m, i, hm, by rw [e]; exact hi, by rw [up_s]; omega, by rw [e]⟩, ?_⟩
  rw [e]
  exact Ao_cong n p hb.1 (fun j hj => up_n _ _ (by omega)) h
theorem sh_lo {a j : Nat} (h : j < 13) : shAct ac a j = ac (j + 1) := by
  unfold shAct
  rw [if_pos h]
theorem sh_hi {a : Nat} : shAct ac a 13 = a := rfl
theorem Ao_shE (hr : pgOk p) (hp : Nrm p) (h : Ao ac bk 14 p) (hm : m < 2) (hi : i < p m) (h1 : 1 ≤ c) (h2 : c ≤ 2) (ht : t < p m) (hb : (∀ j, j < 286 → bk2 j = bk (j + 22)) ∧ ∀ k, k < 22 → bk2 (286 + k) = p k) : Ao (shAct ac (m * 1000 + i * 100 + c * 10 + t)) bk2 14 (flE p m i c t) := by
  have e : bkP bk2 13 = p := bkP_of (n := 13) hp hb.2
  refine ⟨by rw [e]; exact hr, Or.inl ⟨m, i, c, t, hm, by rw [e]; exact hi, h1, h2, by rw [e]; exact ht, sh_hi, by rw [e]⟩, ?_⟩
  rw [e]
  exact Ao_cong 13 p (fun j hj => hb.1 j (by omega)) (fun j hj => sh_lo hj) (Ao_sh 13 p h)
theorem Ao_shN (hr : pgOk p) (hp : Nrm p) (h : Ao ac bk 14 p) (hm : m < 2) (hi : i < p m) (hb : (∀ j, j < 286 → bk2 j = bk (j + 22)) ∧ ∀ k, k < 22 → bk2 (286 + k) = p k) : Ao (shAct ac (m * 1000 + i * 100 + 0 * 10 + 0)) bk2 14 (flN p m i) := by
  have e : bkP bk2 13 = p := bkP_of (n := 13) hp hb.2
  refine ⟨by rw [e]; exact hr, Or.inr ⟨m, i, hm, by rw [e]; exact hi, by rw [sh_hi]; omega, by rw [e]⟩, ?_⟩
  rw [e]
  exact Ao_cong 13 p (fun j hj => hb.1 j (by omega)) (fun j hj => sh_lo hj) (Ao_sh 13 p h)
/-- the last act, by its kind and its machine -/
theorem Ao_last {dn : Nat} (hr : pgOk p) (h : Ao ac bk dn p) (hd : 1 ≤ dn) : pgOk (bkP bk (dn - 1)) ∧ Ao ac bk (dn - 1) (bkP bk (dn - 1)) ∧ ((∃ i c t, i < p 0 ∧ 1 ≤ c ∧ c ≤ 2 ∧ t < p 0 ∧ ac (dn - 1) = 0 + i * 100 + c * 10 + t ∧ flE p 0 i c t = bkP bk (dn - 1)) ∨ (∃ i c t, i < p 1 ∧ 1 ≤ c ∧ c ≤ 2 ∧ t < p 1 ∧ ac (dn - 1) = 1000 + i * 100 + c * 10 + t ∧ flE p 1 i c t = bkP bk (dn - 1)) ∨ (∃ i, i < p 0 ∧ ac (dn - 1) = 0 + i * 100 ∧ flN p 0 i = bkP bk (dn - 1)) ∨ ∃ i, i < p 1 ∧ ac (dn - 1) = 1000 + i * 100 ∧ flN p 1 i = bkP bk (dn - 1)) := by
  obtain ⟨n, rfl⟩ : ∃ n, dn = n + 1 := ⟨dn - 1, by omega⟩
  rw [Nat.add_sub_cancel]
  obtain ⟨a, b, d⟩ := h
  refine ⟨a, d, ?_⟩
  rcases b with ⟨m, i, c, t, hm, hi, h1, h2, ht, ha, rfl⟩ | ⟨m, i, hm, hi, ha, rfl⟩
  · have e : ∀ k, k < 4 → flE (bkP bk n) m i c t k = bkP bk n k := fun k hk => flE_lo hm h1 hk
    rcases (show m = 0 ∨ m = 1 by omega) with rfl | rfl
    · exact Or.inl ⟨i, c, t, by rw [e 0 (by decide)]; exact hi, h1, h2, by rw [e 0 (by decide)]; exact ht, by omega, flE_flE⟩
    · exact Or.inr (Or.inl ⟨i, c, t, by rw [e 1 (by decide)]; exact hi, h1, h2, by rw [e 1 (by decide)]; exact ht, by omega, flE_flE⟩)
  · rcases (show m = 0 ∨ m = 1 by omega) with rfl | rfl
    · exact Or.inr (Or.inr (Or.inl ⟨i, by rw [flN_n (by decide)]; exact hi, by omega, flN_flN⟩))
    · exact Or.inr (Or.inr (Or.inr ⟨i, by rw [flN_n (by decide)]; exact hi, by omega, flN_flN⟩))
end AOL
def jRow (a b : Int32) : Int64 := (a.toInt64 <<< ((nI 32).toInt64 &&& 63)) ||| (b.toInt64 &&& 4294967295)
theorem sw_cases (x : Int32) : ∃ t, t < 32 ∧ x &&& nI 31 = nI t := by
  refine ⟨(x &&& nI 31).toUInt32.toNat, ?_, ?_⟩
  · show (x.toBitVec &&& 31#32).toNat < 32
    rw [BitVec.toNat_and]
    exact Nat.lt_of_le_of_lt Nat.and_le_right (by decide)
  · apply Int32.toBitVec_inj.1
    show x.toBitVec &&& 31#32 = BitVec.ofNat 32 (x.toBitVec &&& 31#32).toNat
    rw [BitVec.ofNat_toNat, BitVec.setWidth_eq]
theorem law_le {i L : Nat} (hi : i < 1000000) (hL : L < 1000000) (h : nI i ≤ nI L - nI 5) : i + 5 ≤ L := by
  rw [Int32.le_iff_toInt_le, nI_toInt (by omega), pk_sub_toInt (by omega) (by decide)] at h
  omega
section SXX
variable {Γ : GT} {l : Launch} {G : GG} {cc : ByteArray} {nL : Nat} {c0 : Cond} {own : String} {R : Room} {k n pc : Nat} {L L' : List (Nat × Value)} {st : List Value} {ws ws' : va_W}
def Sx (Γ : GT) (b N : Nat) (xs : Nat → Int32) : Prop := va_X b N xs (gS Γ) (gS Γ).heap ∧ b < (gS Γ).heap.size ∧ ¬ gF Γ b
theorem wc_sld (X : Cx Γ l G cc nL c0 own R) {b N : Nat} {xs : Nat → Int32} (S : Sx Γ b N xs) (pc : Nat) {j : Nat} {v : Int32} (hv : xs j = v) (hj : j < N) (hN : N < 2147483648) (hd : decode cc pc = .ok (.iaload, 1)) (kk : Wc Γ k n (pc + 1) L (.int v :: st) ws) : Wc Γ k n pc L (.int (nI j) :: .ref b :: st) ws := by
  intro H locs ls hJ hl
  subst hv
  refine va_sld X.ex X.co S.1 S.2.1 S.2.2 (X.js hJ) (vp_in_nI hj hN) hd ?_
  rw [nI_clamp (Nat.lt_trans hj hN)]
  exact kk H locs ls hJ hl
theorem wc_slen (X : Cx Γ l G cc nL c0 own R) {b N : Nat} {xs : Nat → Int32} (S : Sx Γ b N xs) (pc : Nat) (hd : decode cc pc = .ok (.arraylength, 1)) (kk : Wc Γ k n (pc + 1) L (.int (nI N) :: st) ws) : Wc Γ k n pc L (.ref b :: st) ws := fun H locs ls hJ hl => va_slen X.ex X.co S.1 S.2.1 S.2.2 (X.js hJ) hd (kk H locs ls hJ hl)
end SXX

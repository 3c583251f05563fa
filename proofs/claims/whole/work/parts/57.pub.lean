/-! arguments of calls: within bounds, or not -/
def outR (x : Int32) (a b : Nat) : Prop := ∀ n, a ≤ n → n ≤ b → x ≠ nI n
section OUT
variable {x y : Int32} {a b n : Nat}
theorem in_cases (x : Int32) (a b : Nat) : outR x a b ∨ ∃ n, a ≤ n ∧ n ≤ b ∧ x = nI n := by
  rcases Classical.em (∃ n, a ≤ n ∧ n ≤ b ∧ x = nI n) with h | h
  · exact Or.inr h
  · exact Or.inl (fun n h1 h2 e => h ⟨n, h1, h2, e⟩)
theorem out_cls (ho : outR x a b) (ha : a < 2147483648) (hb : b < 2147483648) (h0 : ¬ x < nI a) (h1 : x ≤ nI b) : False := by
  have h0' : ¬ x < 0 := fun z => h0 (by
    rw [Int32.lt_iff_toInt_lt] at z ⊢
    rw [nI_toInt ha]
    have : (0 : Int32).toInt = 0 := rfl
    omega)
  obtain ⟨j, hj, e⟩ := nI_of2 (nI_toInt hb) h0' h1
  rw [e] at h0
  have : ¬ j < a := fun z => h0 ((nI_ltI (by omega) ha).mpr z)
  exact ho j (by omega) hj e
theorem inL_out {A B : Int64} (hA : A.toInt = a) (hB : B.toInt = b) (ho : outR x a b) : inL x.toInt64 A B = false := by
  cases h : inL x.toInt64 A B with
  | false => rfl
  | true =>
    have z := inL_x.mp h
    rw [hA, hB] at z
    have hlt : x.toInt < 2147483648 := x.toInt_lt
    have e : x = nI x.toInt.toNat := Int32.toInt_inj.mp (by rw [nI_toInt (by omega)]; omega)
    exact absurd e (ho _ (by omega) (by omega))
theorem inL_in {A B : Int64} (hA : A.toInt = a) (hB : B.toInt = b) (h1 : a ≤ n) (h2 : n ≤ b) (hn : n < 2147483648) : inL (nI n).toInt64 A B = true := by
  rw [inL_x, hA, hB, nI_toInt hn]
  omega
theorem mach_out (ho : outR x 0 1) : (decide (x = 0) || decide (x = nI 1)) = false := by
  show (decide (x = nI 0) || decide (x = nI 1)) = false
  rw [decide_eq_false (ho 0 (by omega) (by omega)), decide_eq_false (ho 1 (by omega) (by omega))]; rfl
theorem mode_out (ho : outR x 0 b) (hb : b < 2147483648) : (!decide (x < 0) && !decide (nI b < x)) = false := by
  by_cases h : x < 0
  · rw [decide_eq_true h]; rfl
  · by_cases h2 : nI b < x
    · rw [decide_eq_true h2]; simp
    · exact (out_cls ho (by omega) hb h (Int32.not_lt.mp h2)).elim
theorem mode_in (h : n ≤ b) (hb : b < 2147483648) : (!decide (nI n < 0) && !decide (nI b < nI n)) = true := by
  rw [decide_eq_false (nI_pos (by omega)), decide_eq_false (nI_nlt h hb)]; rfl
theorem knB_in {i : Nat} (h : i < n) (hn : n < 2147483648) : knB n (nI i) = true := by
  unfold knB
  rw [decide_eq_false (nI_pos (by omega)), decide_eq_false (nI_ge h hn)]; rfl
theorem knB_out (ho : outR x 0 (n - 1)) (h1 : 1 ≤ n) (hn : n < 2147483648) : knB n x = false := by
  unfold knB
  by_cases h : x < 0
  · rw [decide_eq_true h]; rfl
  · by_cases h2 : nI n ≤ x
    · rw [decide_eq_true h2]; simp
    · obtain ⟨j, hj, e⟩ := nI_of h
      rw [e] at h2
      have : j < n := by
        rcases Nat.lt_or_ge j n with z | z
        · exact z
        · exact absurd (nI_le z (by omega)) h2
      exact absurd e (ho j (by omega) (by omega))
theorem inL_kn (h1 : 1 ≤ n) (hn : n < 2147483648) : inL y.toInt64 0 (nI (n - 1)).toInt64 = knB n y := by
  rcases in_cases y 0 (n - 1) with h | ⟨j, -, hj, rfl⟩
  · rw [knB_out h h1 hn, inL_out rfl (by rw [Int32.toInt_toInt64, nI_toInt (by omega)]) h]
  · rw [knB_in (by omega) hn, inL_in (a := 0) (b := n - 1) rfl (by rw [Int32.toInt_toInt64, nI_toInt (by omega)]) (by omega) hj (by omega)]
theorem in01 (h : inL x.toInt64 0 1 = true) : x = nI 0 ∨ x = nI 1 := by
  rcases in_cases x 0 1 with z | ⟨j, -, hj, rfl⟩
  · rw [inL_out rfl rfl z] at h; cases h
  · rcases (show j = 0 ∨ j = 1 by omega) with rfl | rfl
    · exact Or.inl rfl
    · exact Or.inr rfl
theorem in01f (h : inL x.toInt64 0 1 = false) : outR x 0 1 := fun n h1 h2 e => by
  rw [e, inL_in (a := 0) (b := 1) rfl rfl h1 h2 (by omega)] at h
  cases h
theorem stOf_out {n0 n1 : Nat} (ho : outR x 0 1) : stOf n0 n1 x y = false := stOf_f y (mach_out ho)
theorem inL_12 (c : Int32) : inL c.toInt64 1 2 = (decide (c = nI 1) || decide (c = nI 2)) := by
  rcases in_cases c 1 2 with z | ⟨j, h1, h2, rfl⟩
  · rw [inL_out rfl rfl z, decide_eq_false (z 1 (by omega) (by omega)), decide_eq_false (z 2 (by omega) (by omega))]; rfl
  · rcases (show j = 1 ∨ j = 2 by omega) with rfl | rfl <;> decide
end OUT
section STP
variable {p : Nat → Nat} {m i c t : Nat}
theorem stO_p (hr : pgOk p) (hm : m < 2) (hi : i < p m) : stOf (p 0) (p 1) (nI m) (nI i) = true := by
  have h0 := hr.2.1
  have h1 := hr.2.2.2.1
  rcases (show m = 0 ∨ m = 1 by omega) with rfl | rfl
  · rw [stOf_0]; exact knB_in hi (by omega)
  · rw [stOf_1]; exact knB_in hi (by omega)
theorem let_ok (h1 : 1 ≤ c) (h2 : c ≤ 2) : (decide (nI c = nI 1) || decide (nI c = nI 2)) = true := by
  rcases (show c = 1 ∨ c = 2 by omega) with rfl | rfl <;> decide
theorem edO_p (hr : pgOk p) (hm : m < 2) (hi : i < p m) (h1 : 1 ≤ c) (h2 : c ≤ 2) (ht : t < p m) : (stOf (p 0) (p 1) (nI m) (nI i) && (decide (nI c = nI 1) || decide (nI c = nI 2)) && stOf (p 0) (p 1) (nI m) (nI t)) = true := by
  rw [stO_p hr hm hi, stO_p hr hm ht, let_ok h1 h2]; rfl
/-- an argument pair that is a state is one -/
theorem stO_in {x y : Int32} (hr : pgOk p) (h : stOf (p 0) (p 1) x y = true) : ∃ m i, m < 2 ∧ i < p m ∧ x = nI m ∧ y = nI i := by
  have key : ∀ m, m < 2 → knB (p m) y = true → ∃ i, i < p m ∧ y = nI i := fun m hm hk => by
    have hb := pgOk_m hr hm
    rcases in_cases y 0 (p m - 1) with z | ⟨j, -, hj, e⟩
    · rw [knB_out z hb.1 (by omega)] at hk; cases hk
    · exact ⟨j, by omega, e⟩
  rcases in_cases x 0 1 with z | ⟨j, -, hj, rfl⟩
  · rw [stOf_out z] at h; cases h
  · rcases (show j = 0 ∨ j = 1 by omega) with rfl | rfl
    · rw [stOf_0] at h
      obtain ⟨i, h1, h2⟩ := key 0 (by decide) h
      exact ⟨0, i, by decide, h1, rfl, h2⟩
    · rw [stOf_1] at h
      obtain ⟨i, h1, h2⟩ := key 1 (by decide) h
      exact ⟨1, i, by decide, h1, rfl, h2⟩
/-- an edge, an end is turned -/
def flE (p : Nat → Nat) (m i c t : Nat) : Nat → Nat := up p (atN m i c) (p (atN m i c) ^^^ 2 ^ t)
def flN (p : Nat → Nat) (m i : Nat) : Nat → Nat := up p (2 + m) (p (2 + m) ^^^ 2 ^ i)
theorem xor_two {a b k : Nat} (ha : a < 2 ^ k) (hb : b < 2 ^ k) : a ^^^ b < 2 ^ k := Nat.xor_lt_two_pow ha hb
theorem flE_ok (hr : pgOk p) (hm : m < 2) (hi : i < p m) (h1 : 1 ≤ c) (h2 : c ≤ 2) (ht : t < p m) : pgOk (flE p m i c t) :=
  pgOk_set hr hm (by omega) h1 h2 (xor_two (by
    rw [atN_mG hm hr.2.1 hi h1 h2]
    exact hr.2.2.2.2.2.2.1 m hm _) (Nat.pow_lt_pow_right (by decide) ht))
theorem flN_ok (hr : pgOk p) (hm : m < 2) (hi : i < p m) : pgOk (flN p m i) :=
  pgOk_setE hr hm (xor_two (hr.2.2.2.2.2.2.2 m hm) (Nat.pow_lt_pow_right (by decide) hi))
theorem flE_lo {k : Nat} (hm : m < 2) (h1 : 1 ≤ c) (hk : k < 4) : flE p m i c t k = p k := by
  unfold flE
  refine up_n _ _ ?_
  unfold atN
  split <;> omega
theorem flE_mG (hr : pgOk p) (hm : m < 2) (hi : i < p m) (h1 : 1 ≤ c) (h2 : c ≤ 2) : mG (flE p m i c t) m = up (mG p m) (i * 2 + c - 1) (mG p m (i * 2 + c - 1) ^^^ 2 ^ t) := by
  unfold flE
  rw [mG_same hm (fun e => pg_lt4 hr hi e) h1 h2, atN_mG hm hr.2.1 hi h1 h2]
theorem flE_mGo {m2 : Nat} (hr : pgOk p) (hm : m < 2) (hm2 : m2 < 2) (hne : m2 ≠ m) (hi : i < p m) (h1 : 1 ≤ c) (h2 : c ≤ 2) : mG (flE p m i c t) m2 = mG p m2 := by
  unfold flE
  exact mG_other hm hm2 hne (fun e => pg_lt4 hr hi e) h1 h2
theorem flE_g0 (hr : pgOk p) (hi : i < p 0) (h1 : 1 ≤ c) (h2 : c ≤ 2) : gz (flE p 0 i c t) = up (gz p) (i * 2 + c - 1) (gz p (i * 2 + c - 1) ^^^ 2 ^ t) := flE_mG (m := 0) hr (by decide) hi h1 h2
theorem flE_g1 (hr : pgOk p) (hi : i < p 1) (h1 : 1 ≤ c) (h2 : c ≤ 2) : go (flE p 1 i c t) = up (go p) (i * 2 + c - 1) (go p (i * 2 + c - 1) ^^^ 2 ^ t) := flE_mG (m := 1) hr (by decide) hi h1 h2
theorem flE_o0 (hr : pgOk p) (hi : i < p 0) (h1 : 1 ≤ c) (h2 : c ≤ 2) : go (flE p 0 i c t) = go p := flE_mGo (m := 0) (m2 := 1) hr (by decide) (by decide) (by decide) hi h1 h2
theorem flE_o1 (hr : pgOk p) (hi : i < p 1) (h1 : 1 ≤ c) (h2 : c ≤ 2) : gz (flE p 1 i c t) = gz p := flE_mGo (m := 1) (m2 := 0) hr (by decide) (by decide) (by decide) hi h1 h2
theorem flN_g (hm : m < 2) : gz (flN p m i) = gz p ∧ go (flN p m i) = go p := ⟨mG_low (m := 0) (by omega), mG_low (m := 1) (by omega)⟩
theorem flN_s : flN p m i (2 + m) = p (2 + m) ^^^ 2 ^ i := up_s _ _ _
theorem flN_n {k : Nat} (h : k ≠ 2 + m) : flN p m i k = p k := up_n _ _ h
theorem flE_at : flE p m i c t (atN m i c) = p (atN m i c) ^^^ 2 ^ t := up_s _ _ _
end STP
def wordX (x : Int32) : Bool := !decide (x < 0) && wordOk x.toInt.toNat
theorem wordX_N {w : Nat} (h : w < 2147483648) : wordX (nI w) = wordOk w := by
  unfold wordX
  rw [decide_eq_false (nI_pos h), nI_toInt h]; rfl
theorem wordX_F {x : Int32} (h : x < 0) : wordX x = false := by
  unfold wordX
  rw [decide_eq_true h]; rfl
theorem neg_or (x : Int32) : x < 0 ∨ ∃ w, w < 2147483648 ∧ x = nI w := by
  by_cases h : x < 0
  · exact Or.inl h
  · exact Or.inr (nI_of h)
noncomputable def tellW (o : Option Nat) (k : Nat) : Int32 := match o with
  | none => -9
  | some x => if k ≤ lenB x then (if k = 0 then nI (lenB x) else nI (letE x (lenB x - k))) else -9
theorem tell_sp {o : Option Nat} {len k : Nat} {g : Nat → Nat} (h : ∀ x, o = some x → len = lenB x ∧ ∀ j, j < lenB x → g j = letE x j) : spTell o.isSome len g k = tellW o k := by
  unfold spTell tellW
  cases o with
  | none => rfl
  | some x =>
    obtain ⟨h1, h2⟩ := h x rfl
    subst h1
    show (if (true && decide (k ≤ lenB x)) = true then _ else _) = if k ≤ lenB x then _ else _
    rw [Bool.true_and]
    by_cases e : k ≤ lenB x
    · rw [if_pos (decide_eq_true e), if_pos e]
      by_cases z : k = 0
      · rw [if_pos z, if_pos z]
      · rw [if_neg z, if_neg z, h2 _ (by omega)]
    · rw [if_neg (by rw [decide_eq_false e]; decide), if_neg e]
theorem tell_wy {o : Option Nat} {wz k : Nat} {wy : Nat → Nat} (h : ∀ x, o = some x → wz = lenB x ∧ (∀ j, j < lenB x → wy j = letE x (lenB x - 1 - j)) ∧ lenB x < 512) : (if o.isSome && decide (k ≤ wz) then (if k = 0 then nI wz else nI (wy (k - 1))) else -9) = tellW o k := by
  unfold tellW
  cases o with
  | none => rfl
  | some x =>
    obtain ⟨h1, h2, -⟩ := h x rfl
    subst h1
    show (if (true && decide (k ≤ lenB x)) = true then _ else _) = if k ≤ lenB x then _ else _
    rw [Bool.true_and]
    by_cases e : k ≤ lenB x
    · rw [if_pos (decide_eq_true e), if_pos e]
      by_cases z : k = 0
      · rw [if_pos z, if_pos z]
      · rw [if_neg z, if_neg z, h2 _ (by omega), show lenB x - 1 - (k - 1) = lenB x - k by omega]
    · rw [if_neg (by rw [decide_eq_false e]; decide), if_neg e]
/-- the machine that takes all words -/
def evG : Nat → Nat := fun j => if j < 2 then 1 else 0
theorem ev_run : ∀ x, runM evG 1 x = 1 := by
  refine word_ind ?_ ?_
  · exact runN_0 _ _
  · intro y c h1 h2 ih
    unfold runM at ih ⊢
    rw [runN_s _ _ _ h1 h2, ih]
    rcases (show c = 1 ∨ c = 2 by omega) with rfl | rfl <;> rfl
theorem ev_left0 {g0 : Nat → Nat} {n0 e0 : Nat} {g1 : Nat → Nat} {n1 e1 : Nat} : leastW evG 1 1 g0 n0 e0 0 = leastW g0 n0 e0 g1 n1 e1 1 := leastO_congr (fun x => by
  unfold wantX accB
  rw [ev_run]
  exact Iff.rfl)
theorem ev_left1 {g0 : Nat → Nat} {n0 e0 : Nat} {g1 : Nat → Nat} {n1 e1 : Nat} : leastW evG 1 1 g1 n1 e1 0 = leastW g0 n0 e0 g1 n1 e1 2 := leastO_congr (fun x => by
  unfold wantX accB
  rw [ev_run]
  exact Iff.rfl)
theorem pg_e0 {p : Nat → Nat} (hr : pgOk p) : p 2 < 16 := Nat.lt_of_lt_of_le (hr.2.2.2.2.2.2.2 0 (by decide)) (Nat.pow_le_pow_right (n := 2) (by decide) hr.2.1)
theorem hk_gen {fw : Nat → Nat} {F : Nat → Nat → Bool} (hF : ∀ x y, x < 9 → y < 9 → Nat.testBit (fw x) y = F x y) {m i m2 j : Nat} (hm : m < 2) (hm2 : m2 < 2) (hi : i < 5) (hi4 : m = 0 → i < 4) (hj : j < 5) (hj4 : m2 = 0 → j < 4) : (fw (ixN m i) &&& ysN m2 (2 ^ j) != 0) = F (4 * m + i) (4 * m2 + j) := by
  have e1 : ixN m i = 4 * m + i := by
    unfold ixN
    split <;> omega
  have e2 : ysN m2 (2 ^ j) = 2 ^ (4 * m2 + j) := by
    unfold ysN
    rcases (show m2 = 0 ∨ m2 = 1 by omega) with rfl | rfl
    · rw [if_pos rfl]; congr 1; omega
    · rw [if_neg (by decide), ← Nat.pow_add]; congr 1; omega
  have b1 : 4 * m + i < 9 := by
    rcases (show m = 0 ∨ m = 1 by omega) with rfl | rfl
    · have := hi4 rfl; omega
    · omega
  have b2 : 4 * m2 + j < 9 := by
    rcases (show m2 = 0 ∨ m2 = 1 by omega) with rfl | rfl
    · have := hj4 rfl; omega
    · omega
  rw [e1, e2, ← hF _ _ b1 b2]
  cases hb : Nat.testBit (fw (4 * m + i)) (4 * m2 + j) with
  | true => exact and_ne.mpr ⟨_, hb, Nat.testBit_two_pow_self⟩
  | false =>
    cases hz : (fw (4 * m + i) &&& 2 ^ (4 * m2 + j) != 0) with
    | false => rfl
    | true =>
      obtain ⟨q, a, b⟩ := and_ne.mp hz
      rw [Nat.testBit_two_pow] at b
      have e := of_decide_eq_true b
      subst e
      rw [a] at hb
      cases hb

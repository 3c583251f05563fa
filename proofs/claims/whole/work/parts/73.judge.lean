/-! told doings judged -/
def dA (f : Nat) : Nat := f / 1000 % 10
def dB (f : Nat) : Nat := f / 100 % 10
def dC (f : Nat) : Nat := f / 10 % 10
def dD (f : Nat) : Nat := f % 10
theorem dA_lt (f : Nat) : dA f < 10 := Nat.mod_lt _ (by decide)
theorem dB_lt (f : Nat) : dB f < 10 := Nat.mod_lt _ (by decide)
theorem dC_lt (f : Nat) : dC f < 10 := Nat.mod_lt _ (by decide)
theorem dD_lt (f : Nat) : dD f < 10 := Nat.mod_lt _ (by decide)
def edB (p : Nat → Nat) (a b c j : Nat) : Bool := decide (a < 2 ∧ b < p a ∧ 1 ≤ c ∧ c ≤ 2 ∧ j < p a)
def enB (p : Nat → Nat) (a b : Nat) : Bool := decide (a < 2 ∧ b < p a)
noncomputable def doK (p : Nat → Nat) (f : Nat) : Bool × (Nat → Nat) :=
  if f / 10000 = 1 then (edB p (dA f) (dB f) (dC f) (dD f), if edB p (dA f) (dB f) (dC f) (dD f) = true then flE p (dA f) (dB f) (dC f) (dD f) else p)
  else if f / 10000 = 2 then (decide (dC f = 0) && decide (dD f = 0) && enB p (dA f) (dB f), if (decide (dC f = 0) && decide (dD f = 0) && enB p (dA f) (dB f)) = true then flN p (dA f) (dB f) else p)
  else if f / 10000 = 3 then (decide (dA f < 2) && wordOk (f % 1000) && (walkD (mG p (dA f)) (p (dA f)) (f % 1000) 1 9 &&& p (2 + dA f) != 0), p)
  else if f / 10000 = 4 then (decide (f % 10000 < 2) && (withP p == decide (dD f = 1)), p)
  else if f / 10000 = 5 then (decide (dA f < p 0) && decide (dB f < p 1) && decide (dC f = 0) && decide (dD f < 2) && (folB (gz p) (p 0) (p 2) (go p) (p 1) (p 3) (dA f) (4 + dB f) == decide (dD f = 1)), p)
  else (false, p)
section DOK
variable {p : Nat → Nat} {f : Nat}
theorem doK1 (h : f / 10000 = 1) : doK p f = (edB p (dA f) (dB f) (dC f) (dD f), if edB p (dA f) (dB f) (dC f) (dD f) = true then flE p (dA f) (dB f) (dC f) (dD f) else p) := by unfold doK; rw [if_pos h]
theorem doK2 (h : f / 10000 = 2) : doK p f = (decide (dC f = 0) && decide (dD f = 0) && enB p (dA f) (dB f), if (decide (dC f = 0) && decide (dD f = 0) && enB p (dA f) (dB f)) = true then flN p (dA f) (dB f) else p) := by unfold doK; rw [if_neg (by omega), if_pos h]
theorem doK3 (h : f / 10000 = 3) : doK p f = (decide (dA f < 2) && wordOk (f % 1000) && (walkD (mG p (dA f)) (p (dA f)) (f % 1000) 1 9 &&& p (2 + dA f) != 0), p) := by unfold doK; rw [if_neg (by omega), if_neg (by omega), if_pos h]
theorem doK4 (h : f / 10000 = 4) : doK p f = (decide (f % 10000 < 2) && (withP p == decide (dD f = 1)), p) := by unfold doK; rw [if_neg (by omega), if_neg (by omega), if_neg (by omega), if_pos h]
theorem doK5 (h : f / 10000 = 5) : doK p f = (decide (dA f < p 0) && decide (dB f < p 1) && decide (dC f = 0) && decide (dD f < 2) && (folB (gz p) (p 0) (p 2) (go p) (p 1) (p 3) (dA f) (4 + dB f) == decide (dD f = 1)), p) := by unfold doK; rw [if_neg (by omega), if_neg (by omega), if_neg (by omega), if_neg (by omega), if_pos h]
theorem doK0 (h1 : f / 10000 ≠ 1) (h2 : f / 10000 ≠ 2) (h3 : f / 10000 ≠ 3) (h4 : f / 10000 ≠ 4) (h5 : f / 10000 ≠ 5) : doK p f = (false, p) := by unfold doK; rw [if_neg h1, if_neg h2, if_neg h3, if_neg h4, if_neg h5]
theorem four_lt : f % 10000 < 2 ↔ dA f = 0 ∧ dB f = 0 ∧ dC f = 0 ∧ dD f ≤ 1 := by
  unfold dA dB dC dD
  omega
theorem st_B {a b : Nat} (hr : pgOk p) (ha : a < 10) (hb : b < 10) : stOf (p 0) (p 1) (nI a) (nI b) = enB p a b := by
  unfold enB
  by_cases h : a < 2 ∧ b < p a
  · rw [decide_eq_true h, stO_p hr h.1 h.2]
  · rw [decide_eq_false h]
    cases hs : stOf (p 0) (p 1) (nI a) (nI b) with
    | false => rfl
    | true =>
      obtain ⟨m, i, h1, h2, h3, h4⟩ := stO_in hr hs
      have hb5 := pgOk_m hr h1
      have e1 := (nI_eq (show a < 2 ^ 31 by omega) (show m < 2 ^ 31 by omega)).mp h3
      have e2 := (nI_eq (show b < 2 ^ 31 by omega) (show i < 2 ^ 31 by omega)).mp h4
      subst e1 e2
      exact absurd ⟨h1, h2⟩ h
theorem lt_B : ∀ c, c < 10 → (decide (nI c = nI 1) || decide (nI c = nI 2)) = decide (1 ≤ c ∧ c ≤ 2) := by decide +kernel
theorem ed_B {a b c j : Nat} (hr : pgOk p) (ha : a < 10) (hb : b < 10) (hc : c < 10) (hj : j < 10) : (stOf (p 0) (p 1) (nI a) (nI b) && (decide (nI c = nI 1) || decide (nI c = nI 2)) && stOf (p 0) (p 1) (nI a) (nI j)) = edB p a b c j := by
  rw [st_B hr ha hb, st_B hr ha hj, lt_B c hc]
  unfold enB edB
  rw [← Bool.decide_and, ← Bool.decide_and]
  exact decide_eq_decide.mpr ⟨fun ⟨⟨⟨h1, h2⟩, h3, h4⟩, _, h5⟩ => ⟨h1, h2, h3, h4, h5⟩, fun ⟨h1, h2, h3, h4, h5⟩ => ⟨⟨⟨h1, h2⟩, h3, h4⟩, h1, h5⟩⟩
theorem mac_B : ∀ a, a < 10 → (decide (nI a = 0) || decide (nI a = nI 1)) = decide (a < 2) := by decide +kernel
theorem doK_ok (hr : pgOk p) : pgOk (doK p f).2 := by
  unfold doK
  split
  · simp only
    split
    · rename_i h
      obtain ⟨h1, h2, h3, h4, h5⟩ := of_decide_eq_true h
      exact flE_ok hr h1 h2 h3 h4 h5
    · exact hr
  · split
    · simp only
      split
      · rename_i h
        rw [Bool.and_eq_true] at h
        obtain ⟨h1, h2⟩ := of_decide_eq_true h.2
        exact flN_ok hr h1 h2
      · exact hr
    · split
      · exact hr
      · split
        · exact hr
        · split
          · exact hr
          · exact hr
end DOK
def fig (n r k : Nat) : Nat := r / 100000 ^ (n - 1 - k) % 100000
noncomputable def jQ (p : Nat → Nat) (n r : Nat) : Nat → Nat → Nat
  | 0 => p
  | k + 1 => (doK (jQ p n r k) (fig n r k)).2
theorem jQ_ok {p : Nat → Nat} (hr : pgOk p) (n r : Nat) : ∀ k, pgOk (jQ p n r k) := by
  intro k
  induction k with
  | zero => exact hr
  | succ k ih => exact doK_ok ih
noncomputable def jR (p : Nat → Nat) (n r : Nat) : Int32 := optI (leastO (fun k => k < n ∧ (doK (jQ p n r k) (fig n r k)).1 = false))
section JUD
variable {p : Nat → Nat} {n r k : Nat}
theorem jR_s (hk : k < n) (hA : ∀ j, j < k → (doK (jQ p n r j) (fig n r j)).1 = true) (h : (doK (jQ p n r k) (fig n r k)).1 = false) : nI k = jR p n r := by
  unfold jR
  rw [leastO_some (P := fun k => k < n ∧ (doK (jQ p n r k) (fig n r k)).1 = false) ⟨hk, h⟩ (fun y hy z => by rw [hA y hy] at z; cases z.2)]
  rfl
theorem jR_n (hA : ∀ j, j < n → (doK (jQ p n r j) (fig n r j)).1 = true) : -9 = jR p n r := by
  unfold jR
  rw [leastO_none (fun x z => by rw [hA x z.1] at z; cases z.2)]
  rfl
theorem p15 (hn : n ≤ 3) : 100000 ^ n ≤ 1000000000000000 := Nat.le_trans (Nat.pow_le_pow_right (by decide) hn) (by decide)
theorem lN_big {a : Nat} (h : a < 2 ^ 63) : (lN a).toInt = a := by
  exact lg_ofNat_toInt h
theorem lN_div {a b : Nat} (ha : a < 2 ^ 63) (hb : b < 2 ^ 63) : lN a / lN b = lN (a / b) := by
  apply Int64.toInt_inj.mp
  have hd : a / b ≤ a := Nat.div_le_self a b
  rw [Int64.toInt_div, lN_big ha, lN_big hb, lN_big (by omega), ← Int.ofNat_tdiv]
  have key : ∀ q : Nat, q ≤ a → ((q : Int)).bmod (2 ^ 64) = q := fun q hq => Int.bmod_eq_of_le (by omega) (by omega)
  exact key _ hd
theorem lN_ne {a : Nat} (h0 : 0 < a) (ha : a < 2 ^ 63) : ¬ lN a = 0 := fun e => by
  have := lN_big ha
  rw [e] at this
  have z : (0 : Int64).toInt = 0 := rfl
  omega
theorem fig_C (hr : r < 100000 ^ n) (hn : n ≤ 3) (hk : k < n) : ((lN r / lN (100000 ^ (n - 1 - k))) - (lN r / lN (100000 ^ (n - 1 - k))) / lN (100000 ^ 1) * lN (100000 ^ 1)).toInt32 = nI (fig n r k) := by
  have h1 := p15 hn
  have h2 := p15 (n := n - 1 - k) (by omega)
  have hd : r / 100000 ^ (n - 1 - k) ≤ r := Nat.div_le_self _ _
  have hm := Nat.div_mul_le_self (r / 100000 ^ (n - 1 - k)) (100000 ^ 1)
  rw [lN_div (by omega) (by omega), lN_div (by omega) (by decide), lN_mul, lN_sub hm, lN_i]
  unfold fig
  congr 1
  have := Nat.div_add_mod' (r / 100000 ^ (n - 1 - k)) (100000 ^ 1)
  rw [Nat.pow_one] at *
  omega
theorem fig_lt : fig n r k < 100000 := Nat.mod_lt _ (by decide)
/-- a row that is out of bounds -/
def outJ (row : Int64) (n : Nat) : Prop := row.toInt < 0 ∨ ((100000 ^ n : Nat) : Int) ≤ row.toInt
theorem row_cases (row : Int64) (n : Nat) : outJ row n ∨ ∃ r, r < 100000 ^ n ∧ row = lN r := by
  rcases Classical.em (outJ row n) with h | h
  · exact Or.inl h
  · unfold outJ at h
    have hl : row.toInt < 2 ^ 63 := row.toInt_lt
    exact Or.inr ⟨row.toInt.toNat, by omega, Int64.toInt_inj.mp (by rw [lN_big (by omega)]; omega)⟩
theorem outJ_c {row : Int64} (h : outJ row n) (hn : n ≤ 3) (h0 : ¬ lg_cmp row 0 < 0) (h1 : lg_cmp row (lN (100000 ^ n)) < 0) : False := by
  have h3 := p15 hn
  have a : ¬ row < 0 := fun z => h0 ((lg_cmp_lt _ _).mpr z)
  have b := (lg_cmp_lt _ _).mp h1
  rw [Int64.lt_iff_toInt_lt] at a b
  rw [lN_big (by omega)] at b
  have z : (0 : Int64).toInt = 0 := rfl
  unfold outJ at h
  omega
theorem row_c0 (hr : r < 100000 ^ n) (hn : n ≤ 3) : ¬ lg_cmp (lN r) 0 < 0 := fun z => by
  have h3 := p15 hn
  have b := Int64.lt_iff_toInt_lt.mp ((lg_cmp_lt _ _).mp z)
  rw [lN_big (by omega)] at b
  have z : (0 : Int64).toInt = 0 := rfl
  omega
theorem row_c1 (hr : r < 100000 ^ n) (hn : n ≤ 3) : lg_cmp (lN r) (lN (100000 ^ n)) < 0 := by
  have h3 := p15 hn
  rw [lg_cmp_lt, Int64.lt_iff_toInt_lt, lN_big (by omega), lN_big (by omega)]
  omega
theorem lN_m1 (n : Nat) : lN (100000 ^ n) - 1 = lN (100000 ^ n - 1) := lN_sub (b := 1) (Nat.pow_pos (by decide))
theorem inJ_f {row : Int64} (h : outJ row n) (hn : n ≤ 3) : inL row 0 (lN (100000 ^ n) - 1) = false := by
  have h3 := p15 hn
  cases hx : inL row 0 (lN (100000 ^ n) - 1) with
  | false => rfl
  | true =>
    have a := inL_iff.mp hx
    rw [lN_m1, lN_big (by omega)] at a
    have z : (0 : Int64).toInt = 0 := rfl
    have hp : 0 < 100000 ^ n := Nat.pow_pos (by decide)
    unfold outJ at h
    omega
theorem inJ_t (hr : r < 100000 ^ n) (hn : n ≤ 3) : inL (lN r) 0 (lN (100000 ^ n) - 1) = true := by
  have h3 := p15 hn
  rw [inL_iff, lN_m1, lN_big (by omega), lN_big (by omega)]
  have z : (0 : Int64).toInt = 0 := rfl
  omega
end JUD
theorem up_x0 (g : Nat → Nat) (a : Nat) : up g a (g a ^^^ 0) = g := by
  funext j
  by_cases e : j = a
  · rw [e, up_s, Nat.xor_zero]
  · rw [up_n _ _ e]

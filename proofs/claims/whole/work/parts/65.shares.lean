/-! shares, chances -/
theorem frac_eq {a b c d : Nat} {u : Bool} (h : a * d = c * b) (hb : 0 < b) (hd : 0 < d) : frac a b u = frac c d u := by
  have e : Nat.gcd a b * d = Nat.gcd c d * b := by rw [← Nat.gcd_mul_right, ← Nat.gcd_mul_right, h, Nat.mul_comm b d]
  unfold frac
  cases u with
  | true =>
    show a / Nat.gcd a b = c / Nat.gcd c d
    rw [← Nat.mul_div_mul_right a (Nat.gcd a b) hd, ← Nat.mul_div_mul_right c (Nat.gcd c d) hb, e, h]
  | false =>
    show b / Nat.gcd a b = d / Nat.gcd c d
    rw [← Nat.mul_div_mul_right b (Nat.gcd a b) hd, ← Nat.mul_div_mul_right d (Nat.gcd c d) hb, e, Nat.mul_comm b d]
def shW (i s : Nat) : Nat := if Nat.testBit s i then 60 / ones s else 0
def difW (T S i : Nat) : Nat := (T &&& (S ||| 2 ^ i) != 0).toNat - (T &&& S != 0).toNat
def coW (E i S : Nat) : Nat := if E &&& S = S ∧ Nat.testBit S i = false then factN (ones S) * factN (ones E - 1 - ones S) else 0
def shChk (E i T : Nat) : Bool := !(Nat.testBit E i && (T &&& E == T)) || (sumN (fun S => coW E i S * difW T S i) 32 * 60 == factN (ones E) * shW i T)
theorem sh_chk : ∀ E, E < 32 → ∀ i, i < 5 → ∀ T, T < 32 → shChk E i T = true := by decide +kernel
theorem difW_and {E T S i : Nat} (hS : E &&& S = S) (hi : Nat.testBit E i = true) : difW T S i = difW (T &&& E) S i := by
  unfold difW
  have h1 : T &&& E &&& S = T &&& S := by rw [Nat.and_assoc, hS]
  have h2 : E &&& (S ||| 2 ^ i) = S ||| 2 ^ i := by
    apply Nat.eq_of_testBit_eq
    intro j
    have := congrArg (fun z => Nat.testBit z j) hS
    simp only [Nat.testBit_and] at this
    rw [Nat.testBit_and, Nat.testBit_or, Nat.testBit_two_pow]
    by_cases e : i = j
    · rw [← e, hi]; simp
    · rw [decide_eq_false e, Bool.or_false, this]
  rw [h1, Nat.and_assoc, h2]
theorem sh_word {E i T : Nat} (hE : E < 32) (hi : i < 5) (hT : T < 32) (hb : Nat.testBit E i = true) : sumN (fun S => coW E i S * difW T S i) 32 * 60 = factN (ones E) * shW i (T &&& E) := by
  have hT2 : T &&& E < 32 := and_lt hT
  have h := sh_chk E hE i hi (T &&& E) hT2
  unfold shChk at h
  rw [hb, show (T &&& E &&& E == T &&& E) = true by rw [Nat.and_assoc, Nat.and_self]; exact beq_self_eq_true _] at h
  simp only [Bool.true_and, Bool.not_true, Bool.false_or] at h
  have h := eq_of_beq h
  rw [← h]
  congr 1
  refine sum_cong 32 (fun S _ => ?_)
  unfold coW
  split
  · rename_i z
    rw [difW_and z.1 hb]
  · rw [Nat.zero_mul, Nat.zero_mul]
/-- of a set of states how many words that are taken lead into it: by nodes -/
def worN (p : Nat → Nat) (S : Nat) : Nat := sumN (fun j => ((nodeS (gz p) (p 0) (1 + j) &&& p 2 != 0) && (nodeS (go p) (p 1) (1 + j) &&& S != 0)).toNat) (2 ^ 7 - 1)
def worB (p : Nat → Nat) (S n i : Nat) : Nat := sumN (fun b => ((afterB (gz p) (p 0) b n &&& p 2 != 0) && (afterB (go p) (p 1) b n &&& S != 0)).toNat) i
def worR (p : Nat → Nat) (S n : Nat) : Nat := sumN (fun k => worB p S k (2 ^ k)) n
theorem wor_eq (p : Nat → Nat) (S : Nat) : worR p S 7 = worN p S := by
  unfold worN worR
  rw [sum_all (f := fun v => ((nodeS (gz p) (p 0) v &&& p 2 != 0) && (nodeS (go p) (p 1) v &&& S != 0)).toNat) 7]
  refine sum_cong 7 (fun n hn => ?_)
  unfold worB
  exact (sum_lv n (fun a b => ((a &&& p 2 != 0) && (b &&& S != 0)).toNat) (by omega)).symm
def shC (p : Nat → Nat) (i v : Nat) : Nat := if (nodeS (gz p) (p 0) v &&& p 2 != 0) = true then shW i (nodeS (go p) (p 1) v &&& p 3) else 0
def shSum (p : Nat → Nat) (i n : Nat) : Nat := sumN (fun j => shC p i (1 + j)) n
def shUp (p : Nat → Nat) (i n : Nat) : Nat := sumN (fun S => coW (p 3) i S * (worR p (S ||| 2 ^ i) 7 - worR p S 7)) n
theorem toNat_dif {a b c : Bool} (h : b = true → c = true) : (a && c).toNat = (a && b).toNat + (if a = true then c.toNat - b.toNat else 0) := by
  cases a <;> cases b <;> cases c <;> first | rfl | exact absurd (h rfl) (by decide)
theorem hit_or {T S i : Nat} (h : (T &&& S != 0) = true) : (T &&& (S ||| 2 ^ i) != 0) = true := by
  obtain ⟨q, a, b⟩ := and_ne.mp h
  exact and_ne.mpr ⟨q, a, by rw [Nat.testBit_or, b]; rfl⟩
theorem wor_dif (p : Nat → Nat) (S i : Nat) : worR p (S ||| 2 ^ i) 7 = worR p S 7 + sumN (fun j => if (nodeS (gz p) (p 0) (1 + j) &&& p 2 != 0) = true then difW (nodeS (go p) (p 1) (1 + j)) S i else 0) (2 ^ 7 - 1) := by
  rw [wor_eq, wor_eq]
  unfold worN
  rw [← sum_add]
  refine sum_cong _ (fun j _ => ?_)
  exact toNat_dif (fun h => hit_or h)
theorem share_eq {p : Nat → Nat} (hr : pgOk p) {i : Nat} (hi : i < 5) (hb : Nat.testBit (p 3) i = true) : shUp p i 32 * 60 = shSum p i (2 ^ 7 - 1) * factN (ones (p 3)) := by
  have hE := hr.2.2.2.2.1 3
  have e : shUp p i 32 = sumN (fun j => sumN (fun S => coW (p 3) i S * (if (nodeS (gz p) (p 0) (1 + j) &&& p 2 != 0) = true then difW (nodeS (go p) (p 1) (1 + j)) S i else 0)) 32) (2 ^ 7 - 1) := by
    rw [← sum_swap]
    unfold shUp
    refine sum_cong 32 (fun S _ => ?_)
    rw [wor_dif, Nat.add_sub_cancel_left, ← sum_mul]
  rw [e, Nat.mul_comm _ 60, ← sum_mul, Nat.mul_comm (shSum p i (2 ^ 7 - 1))]
  unfold shSum
  rw [← sum_mul]
  refine sum_cong _ (fun j _ => ?_)
  unfold shC
  split
  · rw [Nat.mul_comm 60]
    exact sh_word hE hi (nodeS_lt (k := 5) (by decide) (fun j => hr.2.2.2.2.1 (12 + j)) _ _) hb
  · have : ∀ n, sumN (fun S => coW (p 3) i S * 0) n = 0 := by
      intro n
      induction n with
      | zero => rfl
      | succ n ih => rw [sumN, ih]; rfl
    rw [this]
    rfl
theorem fact_pos : ∀ k, 0 < factN k
  | 0 => by decide
  | k + 1 => Nat.mul_pos (fact_pos k) (Nat.succ_pos k)
theorem shW_le : ∀ i, i < 5 → ∀ s, s < 32 → shW i s ≤ 60 := by decide +kernel
theorem fact_ones : ∀ s, s < 32 → factN (ones s) ≤ 120 := by decide +kernel
theorem shSum_le {p : Nat → Nat} (hr : pgOk p) {i : Nat} (hi : i < 5) (n : Nat) : shSum p i n ≤ 60 * n := by
  unfold shSum
  refine sum_le n (fun j _ => ?_)
  unfold shC
  split
  · exact shW_le i hi _ (and_lt (nodeS_lt (k := 5) (by decide) (fun j => hr.2.2.2.2.1 (12 + j)) _ _))
  · omega
theorem shUp_le {p : Nat → Nat} (hr : pgOk p) {i : Nat} (hi : i < 5) (hb : Nat.testBit (p 3) i = true) : shUp p i 32 < 2147483648 := by
  have h1 := share_eq hr hi hb
  have h2 := shSum_le hr hi (2 ^ 7 - 1)
  have h3 := fact_ones _ (hr.2.2.2.2.1 3)
  have h4 := Nat.mul_le_mul h2 h3
  rw [← h1] at h4
  have : 60 * (2 ^ 7 - 1) * 120 = 914400 := by decide
  omega
/-! ends that are lost -/
def whN (e : Nat) : Nat → Nat
  | 0 => 1
  | k + 1 => whN e k * (if Nat.testBit e k then 10 else 1)
def chN (e S x : Nat) : Nat → Nat
  | 0 => 1
  | k + 1 => if Nat.testBit e k then chN e S x k * (if Nat.testBit S k then 10 - x else x) else chN e S x k
theorem wh_eq : ∀ e, e < 32 → whN e 5 = 10 ^ ones e := by decide +kernel
theorem ch_eq : ∀ e, e < 32 → ∀ S, S < 32 → e &&& S = S → ∀ x, x < 11 → chN e S x 5 = (10 - x) ^ ones S * x ^ (ones e - ones S) := by decide +kernel
noncomputable def loS (p : Nat → Nat) (x : Nat) (n : Nat) : Nat := sumN (fun S => if (decide (p 3 &&& S = S) && withB (gz p) (p 0) (p 2) (go p) (p 1) S) = true then (10 - x) ^ ones S * x ^ (ones (p 3) - ones S) else 0) n
theorem lo_bd : ∀ e, e < 32 → ∀ S, S < 32 → e &&& S = S → ∀ x, x < 11 → (10 - x) ^ ones S * x ^ (ones e - ones S) ≤ 100000 / 4 ∨ (10 - x) ^ ones S * x ^ (ones e - ones S) ≤ 100000 := fun e he S hS h x hx => Or.inr (by
  rw [← ch_eq e he S hS h x hx]
  have key : ∀ k, chN e S x k ≤ 10 ^ k := by
    intro k
    induction k with
    | zero => exact Nat.le_refl _
    | succ k ih =>
      rw [chN, Nat.pow_succ]
      split
      · refine Nat.mul_le_mul ih ?_
        split <;> omega
      · exact Nat.le_trans ih (Nat.le_mul_of_pos_right _ (by decide))
  exact key 5)
theorem loS_le {p : Nat → Nat} (hr : pgOk p) {x : Nat} (hx : x ≤ 10) : ∀ n, n ≤ 32 → loS p x n ≤ 100000 * n := fun n hn => by
  unfold loS
  refine sum_le n (fun S hS => ?_)
  split
  · rename_i z
    rw [Bool.and_eq_true] at z
    rcases lo_bd _ (hr.2.2.2.2.1 3) S (by omega) (of_decide_eq_true z.1) x (by omega) with h | h
    · omega
    · exact h
  · exact Nat.zero_le _
/-! words by a seed -/
def rnd (sd : Int64) : Int64 := sd * 6364136223846793005 + 1442695040888963407
def rndI (sd : Int64) : Nat → Int64
  | 0 => sd
  | k + 1 => rnd (rndI sd k)
def sh33 (sd : Int64) : Nat := sd.toUInt64.toNat / 2 ^ 33
theorem sh33_lt (sd : Int64) : sh33 sd < 2147483648 := by
  unfold sh33
  have : sd.toUInt64.toNat < 2 ^ 64 := sd.toUInt64.toNat_lt
  omega
theorem sh33_eq (sd : Int64) : ((sd.toUInt64 >>> ((nI 33).toInt64.toUInt64 &&& Int64.toUInt64 63)).toInt64).toInt32 = nI (sh33 sd) := by
  have hk : ((nI 33).toInt64.toUInt64 &&& Int64.toUInt64 63) = 33 := by decide
  rw [hk]
  have hn : (sd.toUInt64 >>> 33).toNat = sh33 sd := by
    rw [UInt64.toNat_shiftRight, show (33 : UInt64).toNat % 64 = 33 from rfl, Nat.shiftRight_eq_div_pow]
    rfl
  have hlt := sh33_lt sd
  apply Int32.toInt_inj.mp
  rw [nI_toInt hlt]
  have h1 : (sd.toUInt64 >>> 33).toInt64 = lN (sh33 sd) := by
    apply Int64.toInt_inj.mp
    rw [lN_toInt hlt]
    show (sd.toUInt64 >>> 33).toInt64.toBitVec.toInt = _
    rw [show (sd.toUInt64 >>> 33).toInt64.toBitVec = (sd.toUInt64 >>> 33).toBitVec from rfl, BitVec.toInt_eq_toNat_of_lt]
    · show ((sd.toUInt64 >>> 33).toNat : Int) = _
      rw [hn]
    · show 2 * (sd.toUInt64 >>> 33).toNat < 2 ^ 64
      rw [hn]
      omega
  rw [h1, ← nI_l hlt, Int32.toInt32_toInt64, nI_toInt hlt]
def drO (p : Nat → Nat) (v : Nat) : Nat := (afterB (gz p) (p 0) (v / 16) (v % 10) &&& p 2 != 0).toNat + 2 * (afterB (go p) (p 1) (v / 16) (v % 10) &&& p 3 != 0).toNat
def drS (p : Nat → Nat) (sd : Int64) (k : Nat) : Nat := sumN (fun t => drO p (sh33 (rndI sd (t + 1)))) k
theorem bit_mod (x k : Nat) : x / 2 ^ k % 2 + 1 = 1 + (Nat.testBit x k).toNat := by
  rw [Nat.testBit_eq_decide_div_mod_eq]
  rcases (show x / 2 ^ k % 2 = 0 ∨ x / 2 ^ k % 2 = 1 by omega) with h | h <;> rw [h] <;> rfl
/-! from which states what was seen can be -/
noncomputable def agB (g : Nat → Nat) (n e : Nat) (sn : Nat) (sw si : Nat → Nat) (i : Nat) : Bool := decB (∀ j, j < sn → (walkD g n (sw j) (2 ^ i) 9 &&& e != 0).toNat = si j)
noncomputable def bitsN (Q : Nat → Bool) : Nat → Nat
  | 0 => 0
  | i + 1 => bitsN Q i ||| (if Q i then 2 ^ i else 0)
theorem bitsN_lt (Q : Nat → Bool) : ∀ i, bitsN Q i < 2 ^ i := by
  intro i
  induction i with
  | zero => exact Nat.two_pow_pos 0
  | succ i ih =>
    rw [bitsN]
    refine Nat.or_lt_two_pow (Nat.lt_trans ih (Nat.pow_lt_pow_right (by decide) (by omega))) ?_
    split
    · exact Nat.pow_lt_pow_right (by decide) (by omega)
    · exact Nat.two_pow_pos _
theorem or_sh (a b c : Nat) : (a ||| b * 16) ||| c * 16 = a ||| (b ||| c) * 16 := by
  rw [Nat.or_assoc]
  congr 1
  show b * 2 ^ 4 ||| c * 2 ^ 4 = (b ||| c) * 2 ^ 4
  rw [← Nat.shiftLeft_eq, ← Nat.shiftLeft_eq, ← Nat.shiftLeft_eq, Nat.shiftLeft_or_distrib]
theorem or_add16 {a : Nat} (b : Nat) (h : a < 16) : a ||| b * 16 = a + 16 * b := by
  have := Nat.two_pow_add_eq_or_of_lt (i := 4) h b
  rw [show (2 : Nat) ^ 4 = 16 from rfl] at this
  rw [Nat.or_comm, Nat.mul_comm b 16, ← this, Nat.add_comm]
theorem ag_eq {x : Bool} {k : Nat} (hk : k ≤ 1) : (x = (decide (k = 1))) ↔ x.toNat = k := by
  rcases (show k = 0 ∨ k = 1 by omega) with rfl | rfl <;> cases x <;> decide

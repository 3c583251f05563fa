/-! LIKENESS: the class keeps a mask for each of the nine states -/
def knN (n0 n1 : Nat) : Nat := 2 ^ n0 - 1 ||| (2 ^ n1 - 1) * 2 ^ 4
def enN (e0 e1 : Nat) : Nat := e0 ||| e1 * 2 ^ 4
def bsN (n0 e0 n1 e1 x : Nat) : Nat := if Nat.testBit (knN n0 n1) x = false then 0 else if Nat.testBit (enN e0 e1) x = true then enN e0 e1 else knN n0 n1
def Fw (fw : Nat → Nat) : Nat → Nat → Bool := fun x y => Nat.testBit (fw x) y
theorem tb_or4 {a b x : Nat} (ha : a < 16) : Nat.testBit (a ||| b * 2 ^ 4) x = if x < 4 then Nat.testBit a x else Nat.testBit b (x - 4) := by
  rw [Nat.testBit_or, ← Nat.shiftLeft_eq, Nat.testBit_shiftLeft]
  split
  · rename_i h
    rw [decide_eq_false (by omega), Bool.false_and, Bool.or_false]
  · rename_i h
    rw [Nat.testBit_lt_two_pow (Nat.lt_of_lt_of_le ha (Nat.pow_le_pow_right (n := 2) (by decide) (show 4 ≤ x by omega))), Bool.false_or, decide_eq_true (by omega), Bool.true_and]
theorem pw_lt {n k : Nat} (h : n ≤ k) : 2 ^ n - 1 < 2 ^ k := by
  have h1 := Nat.pow_le_pow_right (n := 2) (by decide) h
  have h2 := Nat.two_pow_pos n
  omega
section LIK
variable {g0 : Nat → Nat} {n0 e0 : Nat} {g1 : Nat → Nat} {n1 e1 : Nat}
theorem knN_bit (h : n0 ≤ 4) (x : Nat) : Nat.testBit (knN n0 n1) x = kn n0 n1 x := by
  unfold knN kn
  rw [tb_or4 (pw_lt (k := 4) h)]
  split <;> rw [Nat.testBit_two_pow_sub_one]
theorem enN_bit (h : e0 < 16) (x : Nat) : Nat.testBit (enN e0 e1) x = en e0 e1 x := by
  unfold enN en
  rw [tb_or4 h]
theorem knN_lt (h0 : n0 ≤ 4) (h1 : n1 ≤ 5) : knN n0 n1 < 512 := by
  have a := pw_lt (k := 4) h0
  have b := pw_lt (k := 5) h1
  exact Nat.or_lt_two_pow (n := 9) (by omega) (by omega)
theorem enN_lt (h0 : e0 < 16) (h1 : e1 < 32) : enN e0 e1 < 512 := Nat.or_lt_two_pow (n := 9) (by omega) (by omega)
theorem en_kn (h0 : e0 < 2 ^ n0) (h1 : e1 < 2 ^ n1) {x : Nat} (h : en e0 e1 x = true) : kn n0 n1 x = true := by
  unfold en at h
  unfold kn
  split
  · rename_i z
    rw [if_pos z] at h
    exact decide_eq_true (bit_lt h0 h)
  · rename_i z
    rw [if_neg z] at h
    exact decide_eq_true (bit_lt h1 h)
theorem bsN_lt (h0 : n0 ≤ 4) (h1 : n1 ≤ 5) (h2 : e0 < 16) (h3 : e1 < 32) (x : Nat) : bsN n0 e0 n1 e1 x < 512 := by
  unfold bsN
  split
  · decide
  · split
    · exact enN_lt h2 h3
    · exact knN_lt h0 h1
theorem bsN_bit (h0 : n0 ≤ 4) (h2 : e0 < 16) (h4 : e0 < 2 ^ n0) (h5 : e1 < 2 ^ n1) (x y : Nat) : Nat.testBit (bsN n0 e0 n1 e1 x) y = bs n0 e0 n1 e1 x y := by
  unfold bsN bs
  rw [knN_bit h0, enN_bit h2]
  cases hk : kn n0 n1 x with
  | false => rw [if_pos rfl, Nat.zero_testBit]; rfl
  | true =>
    rw [if_neg (by decide)]
    cases he : en e0 e1 x with
    | false => rw [if_neg (by decide), knN_bit h0]; cases kn n0 n1 y <;> rfl
    | true =>
      rw [if_pos rfl, enN_bit h2]
      cases hy : en e0 e1 y with
      | false => cases kn n0 n1 y <;> rfl
      | true => rw [en_kn h4 h5 hy]; rfl
theorem Fw_init {f : Nat → Nat} (h0 : n0 ≤ 4) (h2 : e0 < 16) (h4 : e0 < 2 ^ n0) (h5 : e1 < 2 ^ n1) (hf : ∀ j, j < 9 → f j = bsN n0 e0 n1 e1 j) : FolIn g0 n0 e0 g1 n1 e1 (Fw f) := by
  refine ⟨fun x y h => ?_, fun x y hx _ h => ?_⟩
  · obtain ⟨a, b, c, _⟩ := Fol_sm x y h
    unfold Fw
    rw [hf x a, bsN_bit h0 h2 h4 h5, c]
  · unfold Fw at h
    rw [hf x hx, bsN_bit h0 h2 h4 h5] at h
    exact h
/-- what is left of a mask when the first k are looked at -/
noncomputable def nrf (g0 g1 fw : Nat → Nat) (x : Nat) : Nat → Nat
  | 0 => fw x
  | k + 1 => if (Nat.testBit (nrf g0 g1 fw x k) k && decB (¬ Hd g0 g1 (Fw fw) x k)) = true then nrf g0 g1 fw x k ^^^ 2 ^ k else nrf g0 g1 fw x k
theorem nrf_bit (fw : Nat → Nat) (x k j : Nat) : Nat.testBit (nrf g0 g1 fw x k) j = (Nat.testBit (fw x) j && !(decide (j < k) && decB (¬ Hd g0 g1 (Fw fw) x j))) := by
  induction k with
  | zero => rw [nrf, decide_eq_false (Nat.not_lt_zero _), Bool.false_and, Bool.not_false, Bool.and_true]
  | succ k ih =>
    rw [nrf]
    by_cases e : j = k
    · subst e
      rw [decide_eq_false (Nat.lt_irrefl _), Bool.false_and, Bool.not_false, Bool.and_true] at ih
      rw [ih, decide_eq_true (Nat.lt_succ_self _), Bool.true_and]
      cases hb : Nat.testBit (fw x) j with
      | false => rw [Bool.false_and, if_neg (by decide), ih, hb, Bool.false_and]
      | true =>
        cases hd : decB (¬ Hd g0 g1 (Fw fw) x j) with
        | false => rw [Bool.and_false, if_neg (by decide), ih, hb]; rfl
        | true =>
          rw [Bool.and_true, if_pos rfl, Nat.testBit_xor, Nat.testBit_two_pow_self, ih, hb]; rfl
    · have hlt : decide (j < k + 1) = decide (j < k) := by
        rcases Nat.lt_or_ge j k with z | z
        · rw [decide_eq_true z, decide_eq_true (by omega)]
        · rw [decide_eq_false (by omega), decide_eq_false (by omega)]
      rw [hlt, ← ih]
      split
      · rw [Nat.testBit_xor, Nat.testBit_two_pow, decide_eq_false (by omega), Bool.xor_false]
      · rfl
theorem nrf_lt {fw : Nat → Nat} {x : Nat} (h : fw x < 512) : ∀ k, k ≤ 9 → nrf g0 g1 fw x k < 512 := by
  intro k
  induction k with
  | zero => intro _; exact h
  | succ k ih =>
    intro hk
    rw [nrf]
    split
    · exact Nat.xor_lt_two_pow (n := 9) (ih (by omega)) (Nat.pow_lt_pow_right (by decide) (by omega))
    · exact ih (by omega)
theorem Fw_up {f : Nat → Nat} {x v : Nat} (hv : v = nrf g0 g1 f x 9) (hF : FolIn g0 n0 e0 g1 n1 e1 (Fw f)) : FolIn g0 n0 e0 g1 n1 e1 (Fw (up f x v)) := by
  have low : ∀ a b, Fw (up f x v) a b = true → Fw f a b = true := fun a b h => by
    unfold Fw at h ⊢
    by_cases e : a = x
    · rw [e, up_s, hv, nrf_bit, Bool.and_eq_true] at h
      rw [e]; exact h.1
    · rw [up_n _ _ e] at h; exact h
  refine ⟨fun a b h => ?_, fun a b ha hb h => hF.2 a b ha hb (low a b h)⟩
  have h1 := hF.1 a b h
  unfold Fw at h1 ⊢
  by_cases e : a = x
  · have hh : decB (¬ Hd g0 g1 (Fw f) x b) = false := decB_f (fun z => FolIn_not hF z (e ▸ h))
    rw [e, up_s, hv, nrf_bit, ← e, h1, e, hh, Bool.and_false]
    rfl
  · rw [up_n _ _ e]; exact h1
def cF (f : Nat → Nat) : Nat := cnt (fun j => Nat.testBit (f (j / 9)) (j % 9)) 81
theorem cnt_le {a b : Nat → Bool} (h : ∀ j, b j = true → a j = true) (N : Nat) : cnt b N ≤ cnt a N := by
  induction N with
  | zero => exact Nat.le_refl _
  | succ N ih =>
    rw [cnt, cnt]
    have : (b N).toNat ≤ (a N).toNat := by
      cases hb : b N with
      | false => exact Nat.zero_le _
      | true => rw [h N hb]; exact Nat.le_refl _
    omega
theorem cnt_lt' {a b : Nat → Bool} (h : ∀ j, b j = true → a j = true) {k : Nat} (h1 : a k = true) (h2 : b k = false) : ∀ N, k < N → cnt b N < cnt a N := by
  intro N
  induction N with
  | zero => intro z; exact absurd z (Nat.not_lt_zero _)
  | succ N ih =>
    intro hk
    rw [cnt, cnt]
    rcases Nat.lt_or_ge k N with z | z
    · have := ih z
      have : (b N).toNat ≤ (a N).toNat := by
        cases hb : b N with
        | false => exact Nat.zero_le _
        | true => rw [h N hb]; exact Nat.le_refl _
      omega
    · have e : k = N := by omega
      subst e
      rw [h1, h2]
      have := cnt_le h k
      show cnt b k + 0 < cnt a k + 1
      omega
theorem cnt_all (a : Nat → Bool) (N : Nat) : cnt a N ≤ N := by
  induction N with
  | zero => exact Nat.le_refl _
  | succ N ih =>
    rw [cnt]
    have : (a N).toNat ≤ 1 := by cases a N <;> decide
    omega
theorem cF_le {f : Nat → Nat} {x v : Nat} (hv : v = nrf g0 g1 f x 9) : cF (up f x v) ≤ cF f := by
  refine cnt_le (fun j h => ?_) 81
  by_cases e : j / 9 = x
  · rw [e, up_s, hv, nrf_bit, Bool.and_eq_true] at h
    rw [e]; exact h.1
  · rw [up_n _ _ e] at h; exact h
theorem cF_lt {f : Nat → Nat} {x v : Nat} (hx : x < 9) (hf : f x < 512) (hv : v = nrf g0 g1 f x 9) (hn : v ≠ f x) : cF (up f x v) < cF f := by
  have hex : ∃ y, Nat.testBit (f x) y = true ∧ Nat.testBit v y = false := by
    rcases Classical.em (∃ y, Nat.testBit (f x) y = true ∧ Nat.testBit v y = false) with z | z
    · exact z
    · refine absurd (Nat.eq_of_testBit_eq fun i => ?_) hn
      cases hb : Nat.testBit (f x) i with
      | false => rw [hv, nrf_bit, hb, Bool.false_and]
      | true =>
        cases hc : Nat.testBit v i with
        | true => rfl
        | false => exact absurd ⟨i, hb, hc⟩ z
  obtain ⟨y, h1, h2⟩ := hex
  have hy := bit_lt (k := 9) hf h1
  have d1 : (9 * x + y) / 9 = x := by omega
  have d2 : (9 * x + y) % 9 = y := by omega
  refine cnt_lt' (k := 9 * x + y) (fun j h => ?_) ?_ ?_ 81 (by omega)
  · by_cases e : j / 9 = x
    · rw [e, up_s, hv, nrf_bit, Bool.and_eq_true] at h
      rw [e]; exact h.1
    · rw [up_n _ _ e] at h; exact h
  · show Nat.testBit (f ((9 * x + y) / 9)) ((9 * x + y) % 9) = true
    rw [d1, d2, h1]
  · show Nat.testBit (up f x v ((9 * x + y) / 9)) ((9 * x + y) % 9) = false
    rw [d1, d2, up_s, h2]
theorem up_same {f : Nat → Nat} {x v : Nat} (h : v = f x) : up f x v = f := by
  funext j
  by_cases e : j = x
  · rw [e, up_s, h]
  · rw [up_n _ _ e]
theorem nrf_hd {f : Nat → Nat} {x v : Nat} (hv : v = nrf g0 g1 f x 9) (he : v = f x) {y : Nat} (hy : y < 9) (hb : Fw f x y = true) : Hd g0 g1 (Fw f) x y := by
  unfold Fw at hb
  rw [← he, hv, nrf_bit, decide_eq_true hy, Bool.true_and, Bool.and_eq_true] at hb
  rcases Classical.em (Hd g0 g1 (Fw f) x y) with z | z
  · exact z
  · rw [decB_t z] at hb
    exact absurd hb.2 (by decide)
theorem fw_512 {f : Nat → Nat} {x v : Nat} (h : ∀ j, j < 9 → f j < 512) (hv : v < 512) : ∀ j, j < 9 → up f x v j < 512 := fun j hj => by
  by_cases e : j = x
  · rw [e, up_s]; exact hv
  · rw [up_n _ _ e]; exact h j hj
theorem clr_bit {l k : Nat} (h : Nat.testBit l k = true) : nI l &&& (nI (2 ^ k) ^^^ (-1)) = nI (l ^^^ 2 ^ k) := by
  apply Int32.toBitVec_inj.1
  show BitVec.ofNat 32 l &&& (BitVec.ofNat 32 (2 ^ k) ^^^ BitVec.allOnes 32) = BitVec.ofNat 32 (l ^^^ 2 ^ k)
  apply BitVec.eq_of_getLsbD_eq
  intro i hi
  rw [BitVec.getLsbD_and, BitVec.getLsbD_xor, BitVec.getLsbD_ofNat, BitVec.getLsbD_ofNat, BitVec.getLsbD_ofNat, BitVec.getLsbD_allOnes, Nat.testBit_xor, Nat.testBit_two_pow, decide_eq_true hi]
  by_cases e : k = i
  · subst e
    rw [h, decide_eq_true rfl]; rfl
  · rw [decide_eq_false e]
    cases Nat.testBit l i <;> rfl
end LIK

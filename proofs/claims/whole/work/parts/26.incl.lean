def bt (x : Int32) (i : Nat) : Bool := x.toBitVec.getLsbD i
theorem b_ext {x y : Int32} (h : ∀ i, i < 32 → bt x i = bt y i) : x = y := Int32.toBitVec_inj.mp (BitVec.eq_of_getLsbD_eq (fun i hi => h i hi))
theorem b_and (x y : Int32) (i : Nat) : bt (x &&& y) i = (bt x i && bt y i) := by unfold bt; rw [Int32.toBitVec_and, BitVec.getLsbD_and]
theorem b_sshr (n : Nat) (hn : n < 32) (x : Int32) {i : Nat} (hi : i < 32) : bt (x >>> (nI n &&& 31)) i = if n + i < 32 then bt x (n + i) else bt x 31 := by
  unfold bt
  rw [Int32.toBitVec_shiftRight]
  show (x.toBitVec.sshiftRight ((nI n &&& 31).toBitVec.smod 32).toNat).getLsbD i = _
  rw [nx_s n hn, BitVec.getLsbD_sshiftRight, BitVec.msb_eq_getLsbD_last]
  simp [hi]
theorem bt_nI (x : Nat) {i : Nat} (hi : i < 32) : bt (nI x) i = Nat.testBit x i := by
  show (BitVec.ofNat 32 x).getLsbD i = _
  rw [BitVec.getLsbD_ofNat]
  simp [hi]
theorem bit_1 (i : Nat) : Nat.testBit 1 (i + 1) = false := by
  rw [Nat.testBit_succ]
  exact Nat.zero_testBit i
/-- a bit of a number that fills all 32 bits -/
theorem sbit (x : Nat) {k : Nat} (hk : k < 32) : (nI x >>> (nI k &&& 31)) &&& nI 1 = b2i (Nat.testBit x k) := by
  apply b_ext
  intro i hi
  rw [b_and, b_sshr k hk _ hi, b2i_toNat, bt_nI _ hi, bt_nI _ hi]
  cases i with
  | zero =>
    rw [Nat.add_zero, if_pos hk, bt_nI _ hk]
    cases Nat.testBit x k <;> rfl
  | succ i =>
    rw [bit_1, Bool.and_false]
    cases Nat.testBit x k
    · exact (Nat.zero_testBit _).symm
    · exact (bit_1 i).symm
theorem stepN_bit (g : Nat → Nat) (S c : Nat) (q : Nat) : ∀ n, Nat.testBit (stepN g S c n) q = true ↔ ∃ p, p < n ∧ Nat.testBit S p = true ∧ Nat.testBit (g (p * 2 + c - 1)) q = true := by
  intro n
  induction n with
  | zero =>
    rw [stepN, Nat.zero_testBit]
    exact ⟨fun h => (Bool.false_ne_true h).elim, fun ⟨p, h, _⟩ => absurd h (Nat.not_lt_zero _)⟩
  | succ n ih =>
    rw [stepN_s, Nat.testBit_or, Bool.or_eq_true, ih]
    constructor
    · rintro (⟨p, h1, h2, h3⟩ | h)
      · exact ⟨p, by omega, h2, h3⟩
      · split at h
        · rename_i e; exact ⟨n, by omega, e, h⟩
        · rw [Nat.zero_testBit] at h; cases h
    · rintro ⟨p, h1, h2, h3⟩
      by_cases e : p = n
      · rw [e] at h2 h3
        exact Or.inr (by rw [if_pos h2]; exact h3)
      · exact Or.inl ⟨p, by omega, h2, h3⟩
theorem bit_lt {x k q : Nat} (hx : x < 2 ^ k) (h : Nat.testBit x q = true) : q < k := by
  rcases Nat.lt_or_ge q k with z | z
  · exact z
  · rw [Nat.testBit_lt_two_pow (Nat.lt_of_lt_of_le hx (Nat.pow_le_pow_right (by decide) z))] at h
    cases h
theorem and_ne {x y : Nat} : (x &&& y != 0) = true ↔ ∃ q, Nat.testBit x q = true ∧ Nat.testBit y q = true := by
  constructor
  · intro h
    rcases Classical.em (∃ q, Nat.testBit (x &&& y) q = true) with ⟨q, hq⟩ | hn
    · rw [Nat.testBit_and, Bool.and_eq_true] at hq
      exact ⟨q, hq⟩
    · have : x &&& y = 0 := Nat.eq_of_testBit_eq fun i => by
        rw [Nat.zero_testBit]
        cases hb : Nat.testBit (x &&& y) i with
        | false => rfl
        | true => exact absurd ⟨i, hb⟩ hn
      rw [this] at h
      cases h
  · rintro ⟨q, h1, h2⟩
    cases hz : (x &&& y != 0) with
    | true => rfl
    | false =>
      have : x &&& y = 0 := by simpa using hz
      have h3 : Nat.testBit (x &&& y) q = true := by rw [Nat.testBit_and, h1, h2]; rfl
      rw [this, Nat.zero_testBit] at h3
      cases h3
/-- pairs of a state and a set, that were met: mt by bits, row in their order, wd words by which they come -/
def Ic (g0 : Nat → Nat) (n0 : Nat) (g1 : Nat → Nat) (n1 : Nat) (mt row wd : Nat → Nat) (n : Nat) : Prop :=
  (∀ q S, q < 4 → S < 32 → (Nat.testBit (mt q) S = true ↔ ∃ i, i < n ∧ row i = q * 32 + S)) ∧ (∀ i, i < n → row i < 128) ∧ (∀ i j, i < n → j < n → row i = row j → i = j) ∧
  (∀ i, i < n → Nat.testBit (runM g0 n0 (wd i)) (row i / 32) = true ∧ runM g1 n1 (wd i) = row i % 32) ∧ 0 < n ∧ row 0 = 1
def Cl (g0 : Nat → Nat) (g1 : Nat → Nat) (n1 : Nat) (row : Nat → Nat) (n pr c q : Nat) : Prop := Nat.testBit (g0 (pr / 32 * 2 + c - 1)) q = true → ∃ j, j < n ∧ row j = q * 32 + stepN g1 (pr % 32) c n1
section INC
variable {g0 : Nat → Nat} {n0 : Nat} {g1 : Nat → Nat} {n1 : Nat} {mt row wd : Nat → Nat} {n : Nat}
theorem Ic_first (h0 : ∀ q, q < 4 → mt q = 0) : Ic g0 n0 g1 n1 (up mt 0 (mt 0 ||| 2 ^ 1)) (up row 0 (0 * 32 + 1)) (fun _ => 0) 1 := by
  refine ⟨fun q S hq hS => ?_, fun i hi => ?_, fun i j h1 h2 _ => by omega, fun i hi => ?_, by decide, by rw [up_s]⟩
  · rw [up_ap]
    split
    · rename_i e
      rw [e, h0 0 (by decide)]
      constructor
      · intro h
        have : S = 1 := by
          rw [Nat.zero_or, Nat.testBit_two_pow] at h
          have := of_decide_eq_true h
          omega
        exact ⟨0, by decide, by rw [up_s, this]⟩
      · rintro ⟨i, hi, e2⟩
        rw [show i = 0 by omega, up_s] at e2
        rw [show S = 1 by omega]
        rfl
    · rename_i e
      rw [h0 q hq, Nat.zero_testBit]
      constructor
      · intro h; cases h
      · rintro ⟨i, hi, e2⟩
        rw [show i = 0 by omega, up_s] at e2
        omega
  · rw [show i = 0 by omega, up_s]; decide
  · rw [show i = 0 by omega, up_s]
    unfold runM
    rw [runN_0, runN_0]
    exact ⟨rfl, rfl⟩
theorem Ic_lt (h : Ic g0 n0 g1 n1 mt row wd n) {q S : Nat} (hq : q < 4) (hS : S < 32) (hn : Nat.testBit (mt q) S = false) : n < 128 :=
  pigeon_new h.2.1 h.2.2.1 (show q * 32 + S < 128 by omega) (fun i hi e => by rw [(h.1 q S hq hS).mpr ⟨i, hi, e⟩] at hn; cases hn)
theorem Ic_new (h : Ic g0 n0 g1 n1 mt row wd n) {q S x : Nat} (hq : q < 4) (hS : S < 32) (hn : Nat.testBit (mt q) S = false) (h0 : Nat.testBit (runM g0 n0 x) q = true) (h1 : runM g1 n1 x = S) : Ic g0 n0 g1 n1 (up mt q (mt q ||| 2 ^ S)) (up row n (q * 32 + S)) (up wd n x) (n + 1) := by
  obtain ⟨a1, a2, a3, a4, a5, a6⟩ := h
  have hx : ∀ i, i < n → row i ≠ q * 32 + S := fun i hi e => by rw [(a1 q S hq hS).mpr ⟨i, hi, e⟩] at hn; cases hn
  have ro : ∀ i, i < n → up row n (q * 32 + S) i = row i := fun i hi => up_n row _ (by omega)
  refine ⟨fun q2 S2 hq2 hS2 => ?_, fun i hi => ?_, fun i j h3 h4 e => ?_, fun i hi => ?_, by omega, by rw [ro 0 a5]; exact a6⟩
  · constructor
    · intro hb
      by_cases e : q2 = q
      · rw [e, up_s, Nat.testBit_or, Bool.or_eq_true, Nat.testBit_two_pow] at hb
        rcases hb with hb | hb
        · obtain ⟨i, hi, z⟩ := (a1 q S2 hq hS2).mp hb
          exact ⟨i, by omega, by rw [ro i hi, e]; exact z⟩
        · have := of_decide_eq_true hb
          exact ⟨n, by omega, by rw [up_s, e, this]⟩
      · rw [up_n _ _ e] at hb
        obtain ⟨i, hi, z⟩ := (a1 q2 S2 hq2 hS2).mp hb
        exact ⟨i, by omega, by rw [ro i hi]; exact z⟩
    · rintro ⟨i, hi, z⟩
      by_cases e : i = n
      · rw [e, up_s] at z
        obtain ⟨rfl, rfl⟩ : q2 = q ∧ S2 = S := by omega
        rw [up_s, Nat.testBit_or, Nat.testBit_two_pow_self, Bool.or_true]
      · rw [ro i (by omega)] at z
        have hb := (a1 q2 S2 hq2 hS2).mpr ⟨i, by omega, z⟩
        rw [up_ap]
        split
        · rename_i e2
          rw [← e2, Nat.testBit_or, hb]
          rfl
        · exact hb
  · by_cases e : i = n
    · rw [e, up_s]; omega
    · rw [ro i (by omega)]; exact a2 i (by omega)
  · by_cases e1 : i = n
    · by_cases e2 : j = n
      · omega
      · rw [e1, up_s, ro j (by omega)] at e
        exact absurd e.symm (hx j (by omega))
    · by_cases e2 : j = n
      · rw [e2, up_s, ro i (by omega)] at e
        exact absurd e (hx i (by omega))
      · rw [ro i (by omega), ro j (by omega)] at e
        exact a3 i j (by omega) (by omega) e
  · by_cases e : i = n
    · rw [e, up_s, up_s, show (q * 32 + S) / 32 = q by omega, show (q * 32 + S) % 32 = S by omega]
      exact ⟨h0, h1⟩
    · rw [ro i (by omega), up_n wd _ e]
      exact a4 i (by omega)
theorem Ic_step (h : Ic g0 n0 g1 n1 mt row wd n) (hg0 : ∀ j, g0 j < 2 ^ n0) (hn0 : 1 ≤ n0) {k c q : Nat} (hk : k < n) (h1 : 1 ≤ c) (h2 : c ≤ 2) (hb : Nat.testBit (g0 (row k / 32 * 2 + c - 1)) q = true) : Nat.testBit (runM g0 n0 (2 * wd k + c)) q = true ∧ runM g1 n1 (2 * wd k + c) = stepN g1 (row k % 32) c n1 := by
  have a := h.2.2.2.1 k hk
  unfold runM
  rw [runN_s _ _ _ h1 h2, runN_s _ _ _ h1 h2]
  constructor
  · show Nat.testBit (stepN g0 (runM g0 n0 (wd k)) c n0) q = true
    rw [stepN_bit]
    exact ⟨row k / 32, bit_lt (runM_lt hn0 hg0 n0 _) a.1, a.1, hb⟩
  · show stepN g1 (runM g1 n1 (wd k)) c n1 = _
    rw [a.2]
/-- all that is reached has been met -/
theorem Ic_all (h : Ic g0 n0 g1 n1 mt row wd n) (hc : ∀ k c q, k < n → 1 ≤ c → c ≤ 2 → q < 4 → Cl g0 g1 n1 row n (row k) c q) (hg0 : ∀ j, g0 j < 2 ^ 4) (hg1 : ∀ j, g1 j < 2 ^ 5) : ∀ x p, Nat.testBit (runM g0 n0 x) p = true → ∃ j, j < n ∧ row j = p * 32 + runM g1 n1 x := by
  refine word_ind (fun p hp => ?_) (fun y c h1 h2 ih p hp => ?_)
  · unfold runM at hp ⊢
    rw [runN_0] at hp ⊢
    have : p = 0 := by
      cases p with
      | zero => rfl
      | succ p => rw [bit_1] at hp; cases hp
    exact ⟨0, h.2.2.2.2.1, by rw [h.2.2.2.2.2, this]⟩
  · unfold runM at hp ⊢
    rw [runN_s _ _ _ h1 h2] at hp ⊢
    have hp : Nat.testBit (stepN g0 (runM g0 n0 y) c n0) p = true := hp
    rw [stepN_bit] at hp
    obtain ⟨p0, b1, b2, b3⟩ := hp
    obtain ⟨i, hi, e⟩ := ih p0 b2
    have r1 := runM_lt (k := 5) (by decide) hg1 n1 y
    have hpl : p < 4 := bit_lt (hg0 _) b3
    obtain ⟨j, hj, z⟩ := hc i c p hi h1 h2 hpl (by rw [e, show (p0 * 32 + runM g1 n1 y) / 32 = p0 by omega]; exact b3)
    refine ⟨j, hj, ?_⟩
    rw [z, e, show (p0 * 32 + runM g1 n1 y) % 32 = runM g1 n1 y by omega]
    rfl
end INC
theorem withB_iff {g0 : Nat → Nat} {n0 e0 : Nat} {g1 : Nat → Nat} {n1 e1 : Nat} : withB g0 n0 e0 g1 n1 e1 = true ↔ ∀ x, accB g0 n0 e0 x = true → accB g1 n1 e1 x = true := by
  unfold withB leastW
  constructor
  · intro h x hx
    cases hy : accB g1 n1 e1 x with
    | true => rfl
    | false =>
      exfalso
      have hP : wantX g0 n0 e0 g1 n1 e1 0 x = true := by unfold wantX; rw [if_pos rfl, hx, hy]; rfl
      obtain ⟨z, z1, z2⟩ := pk_least (fun x => wantX g0 n0 e0 g1 n1 e1 0 x = true) ⟨x, hP⟩
      rw [leastO_some z1 z2] at h
      cases h
  · intro h
    rw [leastO_none]
    · rfl
    · intro x hx
      unfold wantX at hx
      rw [if_pos rfl, Bool.and_eq_true] at hx
      rw [h x hx.1] at hx
      cases hx.2
theorem withB_of {g0 : Nat → Nat} {n0 e0 : Nat} {g1 : Nat → Nat} {n1 e1 : Nat} {mt row wd : Nat → Nat} {n : Nat} (h : Ic g0 n0 g1 n1 mt row wd n) (hc : ∀ k c q, k < n → 1 ≤ c → c ≤ 2 → q < 4 → Cl g0 g1 n1 row n (row k) c q) (hg0 : ∀ j, g0 j < 2 ^ 4) (hg1 : ∀ j, g1 j < 2 ^ 5) (he0 : e0 < 2 ^ n0)
    (hb : ∀ i, i < n → (decide (row i / 32 < n0) && Nat.testBit e0 (row i / 32) && (row i % 32 &&& e1 == 0)) = false) : withB g0 n0 e0 g1 n1 e1 = true := by
  rw [withB_iff]
  intro x hx
  obtain ⟨p, h1, h2⟩ := and_ne.mp hx
  obtain ⟨j, hj, e⟩ := Ic_all h hc hg0 hg1 x p h1
  have r1 := runM_lt (k := 5) (by decide) hg1 n1 x
  have := hb j hj
  rw [e, show (p * 32 + runM g1 n1 x) / 32 = p by omega, show (p * 32 + runM g1 n1 x) % 32 = runM g1 n1 x by omega, decide_eq_true (bit_lt he0 h2), h2] at this
  unfold accB
  simpa using this
theorem withB_bad {g0 : Nat → Nat} {n0 e0 : Nat} {g1 : Nat → Nat} {n1 e1 : Nat} {mt row wd : Nat → Nat} {n i : Nat} (h : Ic g0 n0 g1 n1 mt row wd n) (hi : i < n) (hb : (decide (row i / 32 < n0) && Nat.testBit e0 (row i / 32) && (row i % 32 &&& e1 == 0)) = true) : withB g0 n0 e0 g1 n1 e1 = false := by
  cases hw : withB g0 n0 e0 g1 n1 e1 with
  | false => rfl
  | true =>
    rw [withB_iff] at hw
    have a := h.2.2.2.1 i hi
    rw [Bool.and_eq_true, Bool.and_eq_true] at hb
    have := hw (wd i) (and_ne.mpr ⟨row i / 32, a.1, hb.1.2⟩)
    unfold accB at this
    rw [a.2] at this
    have h2 := hb.2
    simp at h2 this
    exact absurd h2 this

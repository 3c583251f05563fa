/-! THE TEXT read: letters t, ts of them; r the page as far as it is told -/
def figP (t : Nat → Nat) (ts pl lo hi : Nat) : Option Nat := if pl < ts ∧ 48 + lo ≤ t pl ∧ t pl ≤ 48 + hi then some (t pl - 48) else none
def edgeP (t : Nat → Nat) (ts : Nat) (r : Nat → Nat) (m a : Nat) : Option Nat × (Nat → Nat) :=
  match figP t ts (a + 1) 0 (r m - 1) with
  | none => (some (a + 1), r)
  | some i =>
    if r (atN m i 1) = 2 ^ r m - 1 ∧ r (atN m i 2) = 2 ^ r m - 1 then (some (a + 1), r)
    else if ¬ (a + 2 < ts ∧ 97 ≤ t (a + 2) ∧ t (a + 2) ≤ 98) then (some (a + 2), r)
    else if r (atN m i (t (a + 2) - 96)) = 2 ^ r m - 1 then (some (a + 2), r)
    else match figP t ts (a + 3) 0 (r m - 1) with
      | none => (some (a + 3), r)
      | some j => if Nat.testBit (r (atN m i (t (a + 2) - 96))) j then (some (a + 3), r) else (none, up r (atN m i (t (a + 2) - 96)) (r (atN m i (t (a + 2) - 96)) ||| 2 ^ j))
def endP (t : Nat → Nat) (ts : Nat) (r : Nat → Nat) (m a : Nat) : Option Nat × (Nat → Nat) :=
  match figP t ts (a + 1) 0 (r m - 1) with
  | none => (some (a + 1), r)
  | some i => if Nat.testBit (r (2 + m)) i then (some (a + 1), r) else (none, up r (2 + m) (r (2 + m) ||| 2 ^ i))
/-- whether a sign can begin a part: an edge's, an end's, of which machine -/
def sgE (l : Nat) : Bool := l == 112 || l == 113
def sgN (l : Nat) : Bool := l == 80 || l == 81
def sgM (l : Nat) : Nat := if l == 112 || l == 80 then 0 else 1
def sgBad (r : Nat → Nat) (l : Nat) : Bool := (!sgE l && !sgN l) || (sgE l && decide (edgN (mG r (sgM l)) (r (sgM l)) = 2 * r (sgM l) * r (sgM l))) || (sgN l && decide (r (2 + sgM l) = 2 ^ r (sgM l) - 1))
/-- a part from a on: the fault, or where the next one begins; the page -/
def partP (t : Nat → Nat) (ts : Nat) (r : Nat → Nat) (a : Nat) : Option Nat × Nat × (Nat → Nat) :=
  if sgBad r (t a) then (some a, a, r)
  else if sgE (t a) then ((edgeP t ts r (sgM (t a)) a).1, a + 4, (edgeP t ts r (sgM (t a)) a).2)
  else ((endP t ts r (sgM (t a)) a).1, a + 2, (endP t ts r (sgM (t a)) a).2)
def partsP (t : Nat → Nat) (ts : Nat) : Nat → Nat → (Nat → Nat) → Option Nat × (Nat → Nat)
  | 0, _, r => (none, r)
  | f + 1, a, r => if a < ts then (if (partP t ts r a).1.isSome then ((partP t ts r a).1, (partP t ts r a).2.2) else partsP t ts f (partP t ts r a).2.1 (partP t ts r a).2.2) else (none, r)
def page0 (n0 n1 : Nat) : Nat → Nat := up (up (fun _ => 0) 0 n0) 1 n1
def parseP (t : Nat → Nat) (ts : Nat) : Option Nat × (Nat → Nat) :=
  if ts = 0 ∨ t 0 ≠ 87 then (some 0, fun _ => 0)
  else match figP t ts 1 1 4 with
    | none => (some 1, fun _ => 0)
    | some n0 => match figP t ts 2 1 5 with
      | none => (some 2, fun _ => 0)
      | some n1 => partsP t ts 80 3 (page0 n0 n1)
def optI (o : Option Nat) : Int32 := match o with
  | none => -9
  | some x => nI x
theorem figP_some {t : Nat → Nat} {ts pl lo hi d : Nat} (h : figP t ts pl lo hi = some d) : pl < ts ∧ t pl = 48 + d ∧ lo ≤ d ∧ d ≤ hi := by
  unfold figP at h
  split at h
  · rename_i h1
    have := Option.some.inj h
    omega
  · cases h
theorem figP_none {t : Nat → Nat} {ts pl lo hi : Nat} (h : figP t ts pl lo hi = none) (h1 : pl < ts) : ¬ (48 + lo ≤ t pl ∧ t pl ≤ 48 + hi) := by
  unfold figP at h
  split at h
  · cases h
  · omega
theorem inL_fig {a lo hi : Nat} (ha : a < 256) (h1 : lo < 256) (h2 : hi < 256) : inL (nI a - nI 48).toInt64 (nI lo).toInt64 (nI hi).toInt64 = true ↔ 48 + lo ≤ a ∧ a ≤ 48 + hi := by
  rw [inL_iff, Int32.toInt_toInt64, Int32.toInt_toInt64, Int32.toInt_toInt64, pk_sub_toInt (by omega) (by omega), nI_toInt (by omega), nI_toInt (by omega)]
  omega
theorem inL_ab {a : Nat} (ha : a < 256) : inL (nI a).toInt64 97 98 = true ↔ 97 ≤ a ∧ a ≤ 98 := by
  rw [inL_iff, Int32.toInt_toInt64, nI_toInt (by omega), show (97 : Int64).toInt = 97 from rfl, show (98 : Int64).toInt = 98 from rfl]
  omega
theorem inL_abF {a : Nat} (ha : a < 256) (h : inL (nI a).toInt64 97 98 = false) : ¬ (97 ≤ a ∧ a ≤ 98) := fun z => by rw [(inL_ab ha).mpr z] at h; cases h
/-- a page whose numbers are small: edges lead to states that there are, ends are states -/
def pgOk (r : Nat → Nat) : Prop := 1 ≤ r 0 ∧ r 0 ≤ 4 ∧ 1 ≤ r 1 ∧ r 1 ≤ 5 ∧ (∀ j, r j < 32) ∧ (∀ j, gz r j < 16) ∧ (∀ m, m < 2 → ∀ j, mG r m j < 2 ^ r m) ∧ (∀ m, m < 2 → r (2 + m) < 2 ^ r m)
theorem pgOk_m {r : Nat → Nat} (h : pgOk r) {m : Nat} (hm : m < 2) : 1 ≤ r m ∧ r m ≤ 5 := by
  obtain ⟨h1, h2, h3, h4, -⟩ := h
  rcases (show m = 0 ∨ m = 1 by omega) with rfl | rfl <;> omega
theorem up_ap {α : Type} (g : Nat → α) (j : Nat) (x : α) (i : Nat) : up g j x i = if i = j then x else g i := rfl
theorem pow_lt5 {i n : Nat} (h : i ≤ n - 1) (h1 : 1 ≤ n) (h2 : n ≤ 5) : 2 ^ i < 32 := Nat.lt_of_le_of_lt (Nat.pow_le_pow_right (by decide) (show i ≤ 4 by omega)) (by decide)
theorem mG_0 (r : Nat → Nat) : mG r 0 = gz r := rfl
theorem mG_1 (r : Nat → Nat) : mG r 1 = go r := rfl
theorem gz_ap (r : Nat → Nat) (j : Nat) : gz r j = if j < 8 then r (4 + j) else 0 := rfl
theorem go_ap (r : Nat → Nat) (j : Nat) : go r j = r (12 + j) := rfl
theorem atN_0 (i c : Nat) : atN 0 i c = 4 + 2 * i + c - 1 := rfl
theorem atN_1 (i c : Nat) : atN 1 i c = 12 + 2 * i + c - 1 := rfl
theorem mG_same {r : Nat → Nat} {m i c v : Nat} (hm : m < 2) (hi : m = 0 → i < 4) (h1 : 1 ≤ c) (h2 : c ≤ 2) : mG (up r (atN m i c) v) m = up (mG r m) (i * 2 + c - 1) v := by
  rcases (show m = 0 ∨ m = 1 by omega) with rfl | rfl
  · have := hi rfl
    rw [mG_0, mG_0, atN_0]
    funext j
    rw [gz_ap, up_ap, up_ap, gz_ap]
    by_cases e : j = i * 2 + c - 1
    · rw [if_pos e, if_pos (by omega), if_pos (by omega)]
    · by_cases e2 : j < 8
      · rw [if_pos e2, if_pos e2, if_neg e, if_neg (by omega)]
      · rw [if_neg e2, if_neg e2, if_neg e]
  · rw [mG_1, mG_1, atN_1]
    funext j
    rw [go_ap, up_ap, up_ap, go_ap]
    by_cases e : j = i * 2 + c - 1
    · rw [if_pos e, if_pos (by omega)]
    · rw [if_neg e, if_neg (by omega)]
theorem mG_other {r : Nat → Nat} {m m2 i c v : Nat} (hm : m < 2) (hm2 : m2 < 2) (hne : m2 ≠ m) (hi : m = 0 → i < 4) (h1 : 1 ≤ c) (h2 : c ≤ 2) : mG (up r (atN m i c) v) m2 = mG r m2 := by
  rcases (show m = 0 ∨ m = 1 by omega) with rfl | rfl
  · have := hi rfl
    rw [show m2 = 1 by omega, mG_1, mG_1, atN_0]
    funext j
    rw [go_ap, up_ap, if_neg (by omega), go_ap]
  · rw [show m2 = 0 by omega, mG_0, mG_0, atN_1]
    funext j
    rw [gz_ap, up_ap, gz_ap]
    by_cases e2 : j < 8
    · rw [if_pos e2, if_pos e2, if_neg (by omega)]
    · rw [if_neg e2, if_neg e2]
theorem mG_low {r : Nat → Nat} {k v : Nat} (hk : k < 4) (m : Nat) : mG (up r k v) m = mG r m := by
  unfold mG
  split
  · funext j
    rw [gz_ap, gz_ap, up_ap]
    by_cases e2 : j < 8
    · rw [if_pos e2, if_pos e2, if_neg (by omega)]
    · rw [if_neg e2, if_neg e2]
  · funext j
    rw [go_ap, go_ap, up_ap, if_neg (by omega)]
/-- an edge's targets changed -/
theorem pgOk_set {r : Nat → Nat} (h : pgOk r) {m i c v : Nat} (hm : m < 2) (hi : i ≤ r m - 1) (h1 : 1 ≤ c) (h2 : c ≤ 2) (hv : v < 2 ^ r m) : pgOk (up r (atN m i c) v) := by
  have hb := pgOk_m h hm
  obtain ⟨a1, a2, a3, a4, a5, a6, a7, a8⟩ := h
  have e4 : 4 ≤ atN m i c := by unfold atN; split <;> omega
  have hi4 : m = 0 → i < 4 := fun e => by rw [e] at hi; omega
  have v5 : v < 32 := Nat.lt_of_lt_of_le hv (Nat.pow_le_pow_right (by decide) hb.2)
  have key : ∀ m2, m2 < 2 → ∀ j, mG (up r (atN m i c) v) m2 j < 2 ^ r m2 := by
    intro m2 hm2 j
    by_cases e : m2 = m
    · rw [e, mG_same hm hi4 h1 h2, up_ap]
      split
      · exact hv
      · exact a7 m hm j
    · rw [mG_other hm hm2 e hi4 h1 h2]
      exact a7 m2 hm2 j
  refine ⟨by rw [up_ap, if_neg (by omega)]; exact a1, by rw [up_ap, if_neg (by omega)]; exact a2, by rw [up_ap, if_neg (by omega)]; exact a3, by rw [up_ap, if_neg (by omega)]; exact a4, fun k => ?_, fun k => ?_, fun m2 hm2 j => ?_, fun m2 hm2 => ?_⟩
  · rw [up_ap]
    split
    · exact v5
    · exact a5 k
  · exact Nat.lt_of_lt_of_le (key 0 (by decide) k) (Nat.pow_le_pow_right (by decide) a2)
  · rw [up_ap _ _ _ m2, if_neg (by omega)]
    exact key m2 hm2 j
  · rw [up_ap, if_neg (by omega), up_ap, if_neg (by omega)]
    exact a8 m2 hm2
/-- ends changed -/
theorem pgOk_setE {r : Nat → Nat} (h : pgOk r) {m v : Nat} (hm : m < 2) (hv : v < 2 ^ r m) : pgOk (up r (2 + m) v) := by
  have hb := pgOk_m h hm
  obtain ⟨a1, a2, a3, a4, a5, a6, a7, a8⟩ := h
  have v5 : v < 32 := Nat.lt_of_lt_of_le hv (Nat.pow_le_pow_right (by decide) hb.2)
  refine ⟨by rw [up_ap, if_neg (by omega)]; exact a1, by rw [up_ap, if_neg (by omega)]; exact a2, by rw [up_ap, if_neg (by omega)]; exact a3, by rw [up_ap, if_neg (by omega)]; exact a4, fun k => ?_, fun k => ?_, fun m2 hm2 j => ?_, fun m2 hm2 => ?_⟩
  · rw [up_ap]
    split
    · exact v5
    · exact a5 k
  · rw [← mG_0, mG_low (by omega)]
    exact a6 k
  · rw [mG_low (by omega), up_ap, if_neg (by omega)]
    exact a7 m2 hm2 j
  · rw [up_ap, up_ap _ _ _ m2, if_neg (show m2 ≠ 2 + m by omega)]
    split
    · rename_i e
      rw [show m2 = m by omega]
      exact hv
    · exact a8 m2 hm2
theorem pgOk_edge {r : Nat → Nat} (h : pgOk r) {m i c j : Nat} (hm : m < 2) (hi : i ≤ r m - 1) (h1 : 1 ≤ c) (h2 : c ≤ 2) (hj : j ≤ r m - 1) : pgOk (up r (atN m i c) (r (atN m i c) ||| 2 ^ j)) := by
  have hb := pgOk_m h hm
  refine pgOk_set h hm hi h1 h2 (Nat.or_lt_two_pow ?_ (Nat.pow_lt_pow_right (by decide) (by omega)))
  rw [atN_mG hm h.2.1 (by omega) h1 h2]
  exact h.2.2.2.2.2.2.1 m hm _
theorem pgOk_end {r : Nat → Nat} (h : pgOk r) {m i : Nat} (hm : m < 2) (hi : i ≤ r m - 1) : pgOk (up r (2 + m) (r (2 + m) ||| 2 ^ i)) := by
  have hb := pgOk_m h hm
  exact pgOk_setE h hm (Nat.or_lt_two_pow (h.2.2.2.2.2.2.2 m hm) (Nat.pow_lt_pow_right (by decide) (by omega)))
theorem page0_ok {n0 n1 : Nat} (h1 : 1 ≤ n0) (h2 : n0 ≤ 4) (h3 : 1 ≤ n1) (h4 : n1 ≤ 5) : pgOk (page0 n0 n1) := by
  have hg : ∀ m j, mG (page0 n0 n1) m j = 0 := by
    intro m j
    unfold page0
    rw [mG_low (by decide), mG_low (by decide)]
    unfold mG
    split
    · rw [gz_ap]
      split <;> rfl
    · rfl
  refine ⟨h1, h2, h3, h4, fun j => ?_, fun j => ?_, fun m hm j => ?_, fun m hm => ?_⟩
  · unfold page0
    rw [up_ap, up_ap]
    split
    · omega
    · split <;> omega
  · rw [← mG_0, hg]; decide
  · rw [hg]; exact Nat.two_pow_pos _
  · rw [show page0 n0 n1 (2 + m) = 0 by unfold page0; rw [up_ap, if_neg (by omega), up_ap, if_neg (by omega)]]
    exact Nat.two_pow_pos _
theorem sg_cases (l : Nat) : l = 112 ∨ l = 113 ∨ l = 80 ∨ l = 81 ∨ (l ≠ 112 ∧ l ≠ 113 ∧ l ≠ 80 ∧ l ≠ 81) := by omega
theorem sgM_112 : sgM 112 = 0 := rfl
theorem sgM_113 : sgM 113 = 1 := rfl
theorem sgM_80 : sgM 80 = 0 := rfl
theorem sgM_81 : sgM 81 = 1 := rfl
theorem sgBad_x {r : Nat → Nat} {l : Nat} (h : l ≠ 112 ∧ l ≠ 113 ∧ l ≠ 80 ∧ l ≠ 81) : sgBad r l = true := by
  unfold sgBad
  rw [show sgE l = false by unfold sgE; simp; omega, show sgN l = false by unfold sgN; simp; omega]
  rfl
theorem edgN_le (g : Nat → Nat) (n : Nat) : edgN g n ≤ 20 * n := by
  induction n with
  | zero => exact Nat.le_refl _
  | succ n ih =>
    rw [edgN]
    have h1 := ones_le (g (n * 2 + 1 - 1))
    have h2 := ones_le (g (n * 2 + 2 - 1))
    omega
theorem sq_lt {n : Nat} (h : n ≤ 5) : 2 * n * n < 2147483648 := Nat.lt_of_le_of_lt (Nat.mul_le_mul (Nat.mul_le_mul_left 2 h) h) (by decide)
theorem edgeP_ok {t : Nat → Nat} {ts : Nat} {r : Nat → Nat} {m a : Nat} (hr : pgOk r) (hm : m < 2) (h : (edgeP t ts r m a).1 = none) : pgOk (edgeP t ts r m a).2 ∧ a + 4 ≤ ts := by
  cases hf : figP t ts (a + 1) 0 (r m - 1) with
  | none =>
    rw [show edgeP t ts r m a = (some (a + 1), r) by unfold edgeP; rw [hf]] at h
    cases h
  | some i =>
    have hi := figP_some hf
    by_cases h1 : r (atN m i 1) = 2 ^ r m - 1 ∧ r (atN m i 2) = 2 ^ r m - 1
    · rw [show edgeP t ts r m a = (some (a + 1), r) by unfold edgeP; rw [hf]; simp only [if_pos h1]] at h
      cases h
    by_cases h2 : ¬ (a + 2 < ts ∧ 97 ≤ t (a + 2) ∧ t (a + 2) ≤ 98)
    · rw [show edgeP t ts r m a = (some (a + 2), r) by unfold edgeP; rw [hf]; simp only [if_neg h1, if_pos h2]] at h
      cases h
    by_cases h3 : r (atN m i (t (a + 2) - 96)) = 2 ^ r m - 1
    · rw [show edgeP t ts r m a = (some (a + 2), r) by unfold edgeP; rw [hf]; simp only [if_neg h1, if_neg h2, if_pos h3]] at h
      cases h
    cases hg : figP t ts (a + 3) 0 (r m - 1) with
    | none =>
      rw [show edgeP t ts r m a = (some (a + 3), r) by unfold edgeP; rw [hf]; simp only [if_neg h1, if_neg h2, if_neg h3]; rw [hg]] at h
      cases h
    | some j =>
      have hj := figP_some hg
      by_cases h4 : Nat.testBit (r (atN m i (t (a + 2) - 96))) j = true
      · rw [show edgeP t ts r m a = (some (a + 3), r) by unfold edgeP; rw [hf]; simp only [if_neg h1, if_neg h2, if_neg h3]; rw [hg]; simp only [if_pos h4]] at h
        cases h
      · rw [show edgeP t ts r m a = (none, up r (atN m i (t (a + 2) - 96)) (r (atN m i (t (a + 2) - 96)) ||| 2 ^ j)) by unfold edgeP; rw [hf]; simp only [if_neg h1, if_neg h2, if_neg h3]; rw [hg]; simp only [if_neg h4]]
        exact ⟨pgOk_edge hr hm (by omega) (by omega) (by omega) (by omega), by omega⟩
theorem endP_ok {t : Nat → Nat} {ts : Nat} {r : Nat → Nat} {m a : Nat} (hr : pgOk r) (hm : m < 2) (h : (endP t ts r m a).1 = none) : pgOk (endP t ts r m a).2 ∧ a + 2 ≤ ts := by
  cases hf : figP t ts (a + 1) 0 (r m - 1) with
  | none =>
    rw [show endP t ts r m a = (some (a + 1), r) by unfold endP; rw [hf]] at h
    cases h
  | some i =>
    have hi := figP_some hf
    by_cases h4 : Nat.testBit (r (2 + m)) i = true
    · rw [show endP t ts r m a = (some (a + 1), r) by unfold endP; rw [hf]; simp only [if_pos h4]] at h
      cases h
    · rw [show endP t ts r m a = (none, up r (2 + m) (r (2 + m) ||| 2 ^ i)) by unfold endP; rw [hf]; simp only [if_neg h4]]
      exact ⟨pgOk_end hr hm (by omega), by omega⟩
theorem sgM_lt (l : Nat) : sgM l < 2 := by
  unfold sgM
  split <;> decide
theorem partP_ok {t : Nat → Nat} {ts : Nat} {r : Nat → Nat} {a : Nat} (hr : pgOk r) (_ : a < ts) (h : (partP t ts r a).1.isNone = true) : pgOk (partP t ts r a).2.2 ∧ a + 2 ≤ (partP t ts r a).2.1 ∧ (partP t ts r a).2.1 ≤ ts := by
  have h := Option.isNone_iff_eq_none.mp h
  unfold partP at h ⊢
  split at h
  · cases h
  · rename_i h1
    simp only [if_neg h1]
    split at h
    · rename_i h2
      simp only [if_pos h2]
      have := edgeP_ok hr (sgM_lt _) h
      exact ⟨this.1, by omega, this.2⟩
    · rename_i h2
      simp only [if_neg h2]
      have := endP_ok hr (sgM_lt _) h
      exact ⟨this.1, by omega, this.2⟩
theorem partsP_s {t : Nat → Nat} {ts : Nat} {r : Nat → Nat} {a f : Nat} (ha : a < ts) (h : (partP t ts r a).1.isNone = true) (hf : 1 ≤ f) : partsP t ts f a r = partsP t ts (f - 1) (partP t ts r a).2.1 (partP t ts r a).2.2 := by
  cases f with
  | zero => omega
  | succ f =>
    rw [partsP, if_pos ha, if_neg, Nat.add_sub_cancel]
    rw [Option.isNone_iff_eq_none.mp h]
    decide
theorem partsP_f {t : Nat → Nat} {ts : Nat} {r : Nat → Nat} {a f : Nat} (ha : a < ts) (h : (partP t ts r a).1.isNone = false) (hf : 1 ≤ f) : partsP t ts f a r = ((partP t ts r a).1, (partP t ts r a).2.2) := by
  cases f with
  | zero => omega
  | succ f =>
    rw [partsP, if_pos ha, if_pos]
    cases hp : (partP t ts r a).1 with
    | none => rw [hp] at h; cases h
    | some x => rfl
theorem partsP_e {t : Nat → Nat} {ts : Nat} {r : Nat → Nat} {a f : Nat} (ha : ts ≤ a) : partsP t ts f a r = (none, r) := by
  cases f with
  | zero => rfl
  | succ f => rw [partsP, if_neg (by omega)]
theorem optI_getD {o : Option Nat} {b : Nat} (h : o.isNone = false) : nI (o.getD b) = optI o := by
  cases o with
  | none => cases h
  | some x => rfl
theorem parts_ok {t : Nat → Nat} {ts : Nat} : ∀ (f a : Nat) (r : Nat → Nat), pgOk r → pgOk (partsP t ts f a r).2 ∨ (partsP t ts f a r).1 ≠ none
  | 0, a, r, hr => Or.inl hr
  | f + 1, a, r, hr => by
    by_cases ha : a < ts
    · cases hp : (partP t ts r a).1.isNone with
      | true =>
        rw [partsP_s ha hp (by omega), Nat.add_sub_cancel]
        exact parts_ok f _ _ (partP_ok hr ha hp).1
      | false =>
        rw [partsP_f ha hp (by omega)]
        refine Or.inr fun e => ?_
        rw [show (partP t ts r a).1 = none from e] at hp
        cases hp
    · rw [partsP_e (by omega)]
      exact Or.inl hr
theorem parseP_ok {t : Nat → Nat} {ts : Nat} (h : (parseP t ts).1 = none) : pgOk (parseP t ts).2 := by
  unfold parseP at h ⊢
  by_cases h1 : ts = 0 ∨ t 0 ≠ 87
  · rw [if_pos h1] at h; cases h
  rw [if_neg h1] at h ⊢
  cases hf : figP t ts 1 1 4 with
  | none => rw [hf] at h; cases h
  | some n0 =>
    rw [hf] at h
    simp only at h ⊢
    have d1 := figP_some hf
    cases hg : figP t ts 2 1 5 with
    | none => rw [hg] at h; cases h
    | some n1 =>
      rw [hg] at h
      simp only at h ⊢
      have d2 := figP_some hg
      rcases parts_ok 80 3 _ (page0_ok (n0 := n0) (n1 := n1) (by omega) (by omega) (by omega) (by omega)) with z | z
      · exact z
      · exact absurd h z
theorem full1 {A B : Prop} {_ : Decidable A} {_ : Decidable B} (h : (decide A && decide B) = false) : ¬ (A ∧ B) := fun z => by rw [decide_eq_true z.1, decide_eq_true z.2] at h; cases h
theorem full2 {A B : Prop} {_ : Decidable A} {_ : Decidable B} (h : (decide A && decide B) = true) : A ∧ B := by simpa using h

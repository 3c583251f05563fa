/-! WORDS as numbers: none is 0, a word with a letter c (1, 2) behind it is 2 x + c; less is less -/
def runN (d : Nat → Nat → Nat) (s x : Nat) : Nat := if x = 0 then s else d (runN d s ((x - 1) / 2)) (if x % 2 = 1 then 1 else 2)
termination_by x
decreasing_by omega
def lenB (x : Nat) : Nat := if x = 0 then 0 else lenB ((x - 1) / 2) + 1
termination_by x
decreasing_by omega
theorem runN_0 (d : Nat → Nat → Nat) (s : Nat) : runN d s 0 = s := by rw [runN, if_pos rfl]
theorem runN_s (d : Nat → Nat → Nat) (s y : Nat) {c : Nat} (h1 : 1 ≤ c) (h2 : c ≤ 2) : runN d s (2 * y + c) = d (runN d s y) c := by
  rw [runN, if_neg (by omega), show (2 * y + c - 1) / 2 = y by omega]
  congr 1
  split <;> omega
theorem lenB_0 : lenB 0 = 0 := by rw [lenB, if_pos rfl]
theorem lenB_s (y : Nat) {c : Nat} (h1 : 1 ≤ c) (h2 : c ≤ 2) : lenB (2 * y + c) = lenB y + 1 := by
  rw [lenB, if_neg (by omega), show (2 * y + c - 1) / 2 = y by omega]
/-- a word is none, or one with a letter behind it -/
theorem word_cases (x : Nat) : x = 0 ∨ ∃ y c, 1 ≤ c ∧ c ≤ 2 ∧ x = 2 * y + c ∧ y < x := by
  rcases Nat.eq_zero_or_pos x with h | h
  · exact Or.inl h
  · by_cases e : x % 2 = 1
    · exact Or.inr ⟨(x - 1) / 2, 1, by omega, by omega, by omega, by omega⟩
    · exact Or.inr ⟨(x - 1) / 2, 2, by omega, by omega, by omega, by omega⟩
theorem word_ind {P : Nat → Prop} (h0 : P 0) (hs : ∀ y c, 1 ≤ c → c ≤ 2 → P y → P (2 * y + c)) : ∀ x, P x := by
  intro x
  induction x using Nat.strongRecOn with
  | ind x ih =>
    rcases word_cases x with rfl | ⟨y, c, h1, h2, rfl, h3⟩
    · exact h0
    · exact hs y c h1 h2 (ih y h3)
/-- the j-th letter from the end, and what is left without j letters -/
def lastL (x : Nat) : Nat := if x % 2 = 1 then 1 else 2
def letE : Nat → Nat → Nat
  | x, 0 => lastL x
  | x, j + 1 => letE ((x - 1) / 2) j
def prevN : Nat → Nat → Nat
  | x, 0 => x
  | x, j + 1 => prevN ((x - 1) / 2) j
theorem letE_s (y : Nat) {c : Nat} (h1 : 1 ≤ c) (h2 : c ≤ 2) (j : Nat) : letE (2 * y + c) (j + 1) = letE y j := by
  rw [letE, show (2 * y + c - 1) / 2 = y by omega]
theorem letE_0 (y : Nat) {c : Nat} (h1 : 1 ≤ c) (h2 : c ≤ 2) : letE (2 * y + c) 0 = c := by
  rw [letE, lastL]
  split <;> omega
theorem prevN_s (x j : Nat) : prevN x (j + 1) = (prevN x j - 1) / 2 := by
  induction j generalizing x with
  | zero => rfl
  | succ j ih => rw [prevN, ih, prevN]
theorem letE_prev (x j : Nat) : letE x j = lastL (prevN x j) := by
  induction j generalizing x with
  | zero => rfl
  | succ j ih => rw [letE, ih, prevN]
theorem lenB_prev (x : Nat) : ∀ j, j ≤ lenB x → lenB (prevN x j) = lenB x - j := by
  intro j
  induction j with
  | zero => intro _; rfl
  | succ j ih =>
    intro hj
    have h := ih (by omega)
    rw [prevN_s]
    rcases word_cases (prevN x j) with e | ⟨y, c, h1, h2, e, h3⟩
    · rw [e, lenB_0] at h; omega
    · rw [e] at h ⊢
      rw [lenB_s y h1 h2] at h
      rw [show (2 * y + c - 1) / 2 = y by omega]
      omega
theorem prevN_len (x : Nat) : prevN x (lenB x) = 0 := by
  have h := lenB_prev x (lenB x) (Nat.le_refl _)
  rw [Nat.sub_self] at h
  rcases word_cases (prevN x (lenB x)) with e | ⟨y, c, h1, h2, e, h3⟩
  · exact e
  · rw [e, lenB_s y h1 h2] at h
    omega
theorem prevN_pos {x j : Nat} (h : j < lenB x) : prevN x j ≠ 0 := fun e => by
  have := lenB_prev x j (by omega)
  rw [e, lenB_0] at this
  omega
/-- the least number of a kind, if there is one -/
noncomputable def leastO (P : Nat → Prop) : Option Nat := @dite (Option Nat) (∃ x, P x) (Classical.propDecidable _) (fun h => some (Classical.choose (pk_least P h))) (fun _ => none)
theorem leastO_some {P : Nat → Prop} {x : Nat} (hx : P x) (hm : ∀ y, y < x → ¬ P y) : leastO P = some x := by
  have h : ∃ x, P x := ⟨x, hx⟩
  unfold leastO
  rw [dif_pos h]
  obtain ⟨c1, c2⟩ := Classical.choose_spec (pk_least P h)
  congr 1
  rcases Nat.lt_trichotomy (Classical.choose (pk_least P h)) x with z | z | z
  · exact absurd c1 (hm _ z)
  · exact z
  · exact absurd hx (c2 _ z)
theorem leastO_none {P : Nat → Prop} (h : ∀ x, ¬ P x) : leastO P = none := by
  unfold leastO
  rw [dif_neg]
  exact fun ⟨x, hx⟩ => h x hx
theorem leastO_congr {P Q : Nat → Prop} (h : ∀ x, P x ↔ Q x) : leastO P = leastO Q := by
  rw [show P = Q from funext fun x => propext (h x)]
noncomputable def decB (p : Prop) : Bool := @decide p (Classical.propDecidable _)
theorem decB_t {p : Prop} (h : p) : decB p = true := @decide_eq_true p (Classical.propDecidable _) h
theorem decB_f {p : Prop} (h : ¬ p) : decB p = false := @decide_eq_false p (Classical.propDecidable _) h
theorem decB_iff {p : Prop} : decB p = true ↔ p := ⟨fun h => @of_decide_eq_true p (Classical.propDecidable _) h, decB_t⟩
theorem decB_congr {p q : Prop} (h : p ↔ q) : decB p = decB q := by rw [propext h]
/-- as many different numbers below N: at most N -/
theorem pigeon : ∀ (N : Nat) (f : Nat → Nat) (n : Nat), (∀ i, i < n → f i < N) → (∀ i j, i < n → j < n → f i = f j → i = j) → n ≤ N
  | 0, f, n, hb, _ => by
    rcases Nat.eq_zero_or_pos n with h | h
    · omega
    · exact absurd (hb 0 h) (by omega)
  | N + 1, f, n, hb, hi => by
    rcases Nat.eq_zero_or_pos n with h0 | h0
    · omega
    -- take the last one away; what was N takes its value
    have key := pigeon N (fun i => if f i = N then f (n - 1) else f i) (n - 1) ?_ ?_
    · omega
    · intro i hi1
      show (if f i = N then f (n - 1) else f i) < N
      have h1 := hb i (by omega)
      have h2 := hb (n - 1) (by omega)
      split
      · rename_i e
        have : f (n - 1) ≠ N := fun z => by
          have := hi i (n - 1) (by omega) (by omega) (by rw [e, z])
          omega
        omega
      · omega
    · intro i j h1 h2 e
      have e : (if f i = N then f (n - 1) else f i) = (if f j = N then f (n - 1) else f j) := e
      split at e
      · rename_i a
        split at e
        · rename_i b
          exact hi i j (by omega) (by omega) (by rw [a, b])
        · have := hi (n - 1) j (by omega) (by omega) e
          omega
      · split at e
        · have := hi i (n - 1) (by omega) (by omega) e
          omega
        · exact hi i j (by omega) (by omega) e
theorem pigeon_new {N n v : Nat} {f : Nat → Nat} (hb : ∀ i, i < n → f i < N) (hi : ∀ i j, i < n → j < n → f i = f j → i = j) (hv : v < N) (hn : ∀ i, i < n → f i ≠ v) : n < N := by
  have := pigeon N (up f n v) (n + 1) ?_ ?_
  · omega
  · intro i h
    rw [up_ap]
    split
    · exact hv
    · exact hb i (by omega)
  · intro i j h1 h2 e
    rw [up_ap, up_ap] at e
    split at e
    · split at e
      · omega
      · exact absurd e.symm (hn j (by omega))
    · split at e
      · exact absurd e (hn i (by omega))
      · exact hi i j (by omega) (by omega) e
theorem collide {N : Nat} {f : Nat → Nat} (hb : ∀ i, i < N + 1 → f i < N) : ∃ i j, i < j ∧ j < N + 1 ∧ f i = f j := by
  rcases Classical.em (∃ i j, i < j ∧ j < N + 1 ∧ f i = f j) with h | h
  · exact h
  · have := pigeon N f (N + 1) hb (fun i j h1 h2 e => by
      rcases Nat.lt_trichotomy i j with z | z | z
      · exact absurd ⟨i, j, z, h2, e⟩ h
      · exact z
      · exact absurd ⟨j, i, z, h1, e.symm⟩ h)
    omega

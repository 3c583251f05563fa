/-! a search by breadth: ln the line of n nodes, wd their least words; the node k is at its letter c -/
def Bf (d : Nat → Nat → Nat) (s : Nat) (dead : Nat → Prop) (k c n : Nat) (ln wd : Nat → Nat) : Prop :=
  0 < n ∧ ln 0 = s ∧ wd 0 = 0 ∧ (∀ i, i < n → runN d s (wd i) = ln i) ∧ (∀ i j, i < j → j < n → wd i < wd j) ∧ (∀ i j, i < n → j < n → ln i = ln j → i = j) ∧
  (∀ i b, i < n → 1 ≤ b → b ≤ 2 → (i < k ∨ (i = k ∧ b < c)) → dead (d (ln i) b) ∨ ∃ j, j < n ∧ ln j = d (ln i) b ∧ wd j ≤ 2 * wd i + b) ∧ (k < n → ∀ i, i < n → wd i < 2 * wd k + c)
section BFS
variable {d : Nat → Nat → Nat} {s : Nat} {dead : Nat → Prop} {k c n : Nat} {ln wd : Nat → Nat}
theorem Bf_init (h : ln 0 = s) : Bf d s dead 0 1 1 ln (fun _ => 0) := by
  refine ⟨by decide, h, rfl, fun i hi => ?_, fun i j h1 h2 => by omega, fun i j h1 h2 _ => by omega, fun i b hi h1 h2 h3 => by omega, fun _ i _ => by omega⟩
  rw [runN_0, show i = 0 by omega, h]
theorem Bf_old (h : Bf d s dead k c n ln wd) (hk : k < n) (hx : dead (d (ln k) c) ∨ ∃ j, j < n ∧ ln j = d (ln k) c) : Bf d s dead k (c + 1) n ln wd := by
  obtain ⟨a1, a2, a3, a4, a5, a6, a7, a8⟩ := h
  refine ⟨a1, a2, a3, a4, a5, a6, fun i b hi h1 h2 h3 => ?_, fun hk i hi => by have := a8 hk i hi; omega⟩
  by_cases e : i < k ∨ (i = k ∧ b < c)
  · exact a7 i b hi h1 h2 e
  · obtain ⟨rfl, rfl⟩ : i = k ∧ b = c := by omega
    rcases hx with hx | ⟨j, hj, hl⟩
    · exact Or.inl hx
    · exact Or.inr ⟨j, hj, hl, by have := a8 hk j hj; omega⟩
theorem Bf_new (h : Bf d s dead k c n ln wd) (hk : k < n) (h1 : 1 ≤ c) (h2 : c ≤ 2) {v : Nat} (hv : v = d (ln k) c) (hx : ∀ j, j < n → ln j ≠ v) : Bf d s dead k (c + 1) (n + 1) (up ln n v) (up wd n (2 * wd k + c)) := by
  obtain ⟨a1, a2, a3, a4, a5, a6, a7, a8⟩ := h
  have lo : ∀ i, i < n → up ln n v i = ln i := fun i hi => up_n ln v (by omega)
  have wo : ∀ i, i < n → up wd n (2 * wd k + c) i = wd i := fun i hi => up_n wd _ (by omega)
  refine ⟨by omega, by rw [lo 0 a1]; exact a2, by rw [wo 0 a1]; exact a3, fun i hi => ?_, fun i j h3 h4 => ?_, fun i j h3 h4 e => ?_, fun i b hi h3 h4 h5 => ?_, fun _ i hi => ?_⟩
  · by_cases e : i = n
    · rw [e, up_s, up_s, runN_s d s _ h1 h2, a4 k hk, hv]
    · rw [lo i (by omega), wo i (by omega)]
      exact a4 i (by omega)
  · rw [wo i (by omega)]
    by_cases e : j = n
    · rw [e, up_s]
      exact a8 hk i (by omega)
    · rw [wo j (by omega)]
      exact a5 i j h3 (by omega)
  · by_cases e1 : i = n
    · by_cases e2 : j = n
      · omega
      · rw [e1, up_s, lo j (by omega)] at e
        exact absurd e.symm (hx j (by omega))
    · by_cases e2 : j = n
      · rw [e2, up_s, lo i (by omega)] at e
        exact absurd e (hx i (by omega))
      · rw [lo i (by omega), lo j (by omega)] at e
        exact a6 i j (by omega) (by omega) e
  · have hin : i < n := by omega
    rw [lo i hin, wo i hin]
    by_cases e : i < k ∨ (i = k ∧ b < c)
    · rcases a7 i b hin h3 h4 e with z | ⟨j, hj, z1, z2⟩
      · exact Or.inl z
      · exact Or.inr ⟨j, by omega, by rw [lo j hj]; exact z1, by rw [wo j hj]; exact z2⟩
    · obtain ⟨rfl, rfl⟩ : i = k ∧ b = c := by omega
      exact Or.inr ⟨n, by omega, by rw [up_s]; exact hv, by rw [up_s]; exact Nat.le_refl _⟩
  · rw [wo k hk]
    by_cases e : i = n
    · rw [e, up_s]; omega
    · rw [wo i (by omega)]
      have := a8 hk i (by omega)
      omega
theorem Bf_next (h : Bf d s dead k 3 n ln wd) : Bf d s dead (k + 1) 1 n ln wd := by
  obtain ⟨a1, a2, a3, a4, a5, a6, a7, a8⟩ := h
  refine ⟨a1, a2, a3, a4, a5, a6, fun i b hi h1 h2 h3 => a7 i b hi h1 h2 (by omega), fun hk i hi => ?_⟩
  have h1 := a8 (by omega) i hi
  have h2 := a5 k (k + 1) (by omega) hk
  omega
theorem Bf_min (h : Bf d s dead k 1 n ln wd) (hk : k ≤ n) (hd : ∀ v b, 1 ≤ b → b ≤ 2 → dead v → dead (d v b)) (B : Nat) (hB : ∀ j, j < n → wd j < B → j < k) : ∀ x, x < B → ¬ dead (runN d s x) → ∃ j, j < k ∧ ln j = runN d s x ∧ wd j ≤ x := by
  obtain ⟨a1, a2, a3, a4, a5, a6, a7, a8⟩ := h
  refine word_ind (fun hx _ => ?_) (fun y b h1 h2 ih hx hn => ?_)
  · exact ⟨0, hB 0 a1 (by omega), by rw [runN_0, a2], by omega⟩
  · rw [runN_s d s y h1 h2] at hn ⊢
    obtain ⟨i, hi, e1, e2⟩ := ih (by omega) (fun z => hn (hd _ b h1 h2 z))
    rw [← e1] at hn ⊢
    rcases a7 i b (by omega) h1 h2 (Or.inl hi) with z | ⟨j, hj, z1, z2⟩
    · exact absurd z hn
    · exact ⟨j, hB j hj (by omega), z1, by omega⟩
/-- the first one that is wanted is the one with the least word -/
theorem Bf_found (h : Bf d s dead k 1 n ln wd) (hk : k < n) (hd : ∀ v b, 1 ≤ b → b ≤ 2 → dead v → dead (d v b)) {wt : Nat → Prop} (hw : ∀ v, wt v → ¬ dead v) (h1 : wt (ln k)) (h2 : ∀ i, i < k → ¬ wt (ln i)) : leastO (fun x => wt (runN d s x)) = some (wd k) := by
  refine leastO_some ?_ (fun y hy z => ?_)
  · show wt (runN d s (wd k))
    rw [h.2.2.2.1 k hk]
    exact h1
  · obtain ⟨j, hj, e, -⟩ := Bf_min h (by omega) hd (wd k) (fun j hj hlt => by
      rcases Nat.lt_trichotomy j k with q | q | q
      · exact q
      · rw [q] at hlt; omega
      · have := h.2.2.2.2.1 k j q hj; omega) y hy (hw _ z)
    exact h2 j hj (by rw [e]; exact z)
theorem Bf_none (h : Bf d s dead n 1 n ln wd) (hd : ∀ v b, 1 ≤ b → b ≤ 2 → dead v → dead (d v b)) {wt : Nat → Prop} (hw : ∀ v, wt v → ¬ dead v) (h2 : ∀ i, i < n → ¬ wt (ln i)) : leastO (fun x => wt (runN d s x)) = none := by
  refine leastO_none fun x z => ?_
  obtain ⟨j, hj, e, -⟩ := Bf_min h (Nat.le_refl _) hd (x + 1) (fun j hj _ => hj) x (by omega) (hw _ z)
  exact h2 j hj (by rw [e]; exact z)
end BFS
-- two machines beside each other
def dM (g : Nat → Nat) (n : Nat) : Nat → Nat → Nat := fun S c => stepN g S c n
def runM (g : Nat → Nat) (n x : Nat) : Nat := runN (dM g n) 1 x
def accB (g : Nat → Nat) (n e x : Nat) : Bool := runM g n x &&& e != 0
def dP (g0 : Nat → Nat) (n0 : Nat) (g1 : Nat → Nat) (n1 : Nat) : Nat → Nat → Nat := fun v c => stepN g0 (v &&& 15) c n0 ||| stepN g1 (v / 2 ^ 4) c n1 * 2 ^ 4
theorem pr_or : ∀ a, a < 16 → ∀ b, b < 32 → (a ||| b * 2 ^ 4) = a + 16 * b := by decide +kernel
theorem pr_z : ∀ a, a < 16 → ∀ b, b < 32 → (a ||| b * 2 ^ 4) &&& 15 = a := by decide +kernel
theorem pr_o : ∀ a, a < 16 → ∀ b, b < 32 → (a ||| b * 2 ^ 4) / 2 ^ 4 = b := by decide +kernel
theorem runM_lt {g : Nat → Nat} {k : Nat} (hk : 1 ≤ k) (hg : ∀ j, g j < 2 ^ k) (n x : Nat) : runM g n x < 2 ^ k := by
  have h1 : 1 < 2 ^ k := Nat.one_lt_two_pow (by omega)
  unfold runM
  rcases word_cases x with rfl | ⟨y, c, a, b, rfl, -⟩
  · rw [runN_0]; exact h1
  · rw [runN_s _ _ y a b]; exact stepN_ltP hg _ _ _
theorem runP {g0 g1 : Nat → Nat} {n0 n1 : Nat} (h0 : ∀ j, g0 j < 2 ^ 4) (h1 : ∀ j, g1 j < 2 ^ 5) : ∀ x, runN (dP g0 n0 g1 n1) 17 x = (runM g0 n0 x ||| runM g1 n1 x * 2 ^ 4) := by
  refine word_ind ?_ (fun y c a b ih => ?_)
  · unfold runM
    rw [runN_0, runN_0, runN_0]
    rfl
  · rw [runN_s _ _ y a b, ih]
    have r0 := runM_lt (k := 4) (by decide) h0 n0 y
    have r1 := runM_lt (k := 5) (by decide) h1 n1 y
    unfold dP
    rw [pr_z _ r0 _ r1, pr_o _ r0 _ r1]
    unfold runM
    rw [runN_s _ _ y a b, runN_s _ _ y a b]
    rfl
theorem dP_lt {g0 g1 : Nat → Nat} {n0 n1 : Nat} (h0 : ∀ j, g0 j < 2 ^ 4) (h1 : ∀ j, g1 j < 2 ^ 5) (v c : Nat) : dP g0 n0 g1 n1 v c < 512 := by
  unfold dP
  rw [pr_or _ (stepN_ltP (k := 4) h0 _ _ _) _ (stepN_ltP (k := 5) h1 _ _ _)]
  have a := stepN_ltP (k := 4) h0 (v &&& 15) c n0
  have b := stepN_ltP (k := 5) h1 (v / 2 ^ 4) c n1
  omega
/-- what is looked for: missing (0), left out of the first (1), of the second (2) -/
def wantB (e0 e1 k v : Nat) : Bool := if k = 0 then (v &&& 15 &&& e0 != 0) && !(v / 2 ^ 4 &&& e1 != 0) else if k = 1 then !(v &&& 15 &&& e0 != 0) else !(v / 2 ^ 4 &&& e1 != 0)
def wantX (g0 : Nat → Nat) (n0 e0 : Nat) (g1 : Nat → Nat) (n1 e1 k x : Nat) : Bool := if k = 0 then accB g0 n0 e0 x && !accB g1 n1 e1 x else if k = 1 then !accB g0 n0 e0 x else !accB g1 n1 e1 x
theorem want_eq {g0 g1 : Nat → Nat} {n0 n1 : Nat} (e0 e1 k : Nat) (h0 : ∀ j, g0 j < 2 ^ 4) (h1 : ∀ j, g1 j < 2 ^ 5) (x : Nat) : wantB e0 e1 k (runN (dP g0 n0 g1 n1) 17 x) = wantX g0 n0 e0 g1 n1 e1 k x := by
  rw [runP h0 h1]
  unfold wantB wantX accB
  rw [pr_z _ (runM_lt (k := 4) (by decide) h0 n0 x) _ (runM_lt (k := 5) (by decide) h1 n1 x), pr_o _ (runM_lt (k := 4) (by decide) h0 n0 x) _ (runM_lt (k := 5) (by decide) h1 n1 x)]
/-- the least word that is looked for -/
noncomputable def leastW (g0 : Nat → Nat) (n0 e0 : Nat) (g1 : Nat → Nat) (n1 e1 k : Nat) : Option Nat := leastO (fun x => wantX g0 n0 e0 g1 n1 e1 k x = true)
/-- it is within -/
noncomputable def withB (g0 : Nat → Nat) (n0 e0 : Nat) (g1 : Nat → Nat) (n1 e1 : Nat) : Bool := (leastW g0 n0 e0 g1 n1 e1 0).isNone
/-- who came from whom -/
def Pr (fm : Nat → Int32) (bf ln wd : Nat → Nat) (n : Nat) : Prop :=
  fm (ln 0) = nI 512 ∧ (∀ v, v < 512 → (∃ i, i < n ∧ ln i = v) ∨ fm v = -9) ∧ (∀ i, 0 < i → i < n → ∃ j c, j < i ∧ 1 ≤ c ∧ c ≤ 2 ∧ fm (ln i) = nI (ln j) ∧ bf (ln i) = c ∧ wd i = 2 * wd j + c) ∧ (∀ i, i < n → ln i < 512)
theorem Pr_vis {fm : Nat → Int32} {bf ln wd : Nat → Nat} {n i : Nat} (h : Pr fm bf ln wd n) (hi : i < n) : ¬ fm (ln i) = -9 := by
  rcases Nat.eq_zero_or_pos i with e | e
  · rw [e, h.1]; decide
  · obtain ⟨j, c, hj, -, -, hf, -⟩ := h.2.2.1 i e hi
    rw [hf]
    exact nI_ne_neg (by have := h.2.2.2 j (by omega); omega) (by decide)
theorem Pr_new {fm : Nat → Int32} {bf ln wd : Nat → Nat} {n k c v : Nat} (h : Pr fm bf ln wd n) (hk : k < n) (h1 : 1 ≤ c) (h2 : c ≤ 2) (hv : v < 512) (hx : ∀ j, j < n → ln j ≠ v) : Pr (upd fm v (nI (ln k))) (up bf v c) (up ln n v) (up wd n (2 * wd k + c)) (n + 1) := by
  have lo : ∀ i, i < n → up ln n v i = ln i := fun i hi => up_n ln v (by omega)
  have wo : ∀ i, i < n → up wd n (2 * wd k + c) i = wd i := fun i hi => up_n wd _ (by omega)
  have fo : ∀ i, i < n → upd fm v (nI (ln k)) (ln i) = fm (ln i) := fun i hi => pk_un (hx i hi)
  have bo : ∀ i, i < n → up bf v c (ln i) = bf (ln i) := fun i hi => up_n bf c (hx i hi)
  refine ⟨by rw [lo 0 (by omega), fo 0 (by omega)]; exact h.1, fun u hu => ?_, fun i h3 h4 => ?_, fun i hi => ?_⟩
  · by_cases e : u = v
    · exact Or.inl ⟨n, by omega, by rw [up_s, e]⟩
    · rcases h.2.1 u hu with ⟨i, hi, z⟩ | z
      · exact Or.inl ⟨i, by omega, by rw [lo i hi]; exact z⟩
      · exact Or.inr (by rw [pk_un e]; exact z)
  · by_cases e : i = n
    · refine ⟨k, c, by omega, h1, h2, ?_, ?_, ?_⟩
      · rw [e, up_s, pk_us, lo k hk]
      · rw [e, up_s, up_s]
      · rw [e, up_s, wo k hk]
    · obtain ⟨j, b, hj, b1, b2, b3, b4, b5⟩ := h.2.2.1 i h3 (by omega)
      exact ⟨j, b, hj, b1, b2, by rw [lo i (by omega), lo j (by omega), fo i (by omega)]; exact b3, by rw [lo i (by omega), bo i (by omega)]; exact b4, by rw [wo i (by omega), wo j (by omega)]; exact b5⟩
  · by_cases e : i = n
    · rw [e, up_s]; exact hv
    · rw [lo i (by omega)]; exact h.2.2.2 i (by omega)

/-! Gap: sets of both beside each other, those without a state of the taker left out -/
def dG (g0 : Nat → Nat) (n0 : Nat) (g1 : Nat → Nat) (n1 : Nat) : Nat → Nat → Nat := fun v c => stepN g0 (v % 16) c n0 + 16 * stepN g1 (v / 16) c n1
def deadG (v : Nat) : Prop := v % 16 = 0
theorem runG {g0 g1 : Nat → Nat} {n0 n1 : Nat} (h0 : ∀ j, g0 j < 2 ^ 4) : ∀ x, runN (dG g0 n0 g1 n1) 17 x = runM g0 n0 x + 16 * runM g1 n1 x := by
  refine word_ind ?_ (fun y c a b ih => ?_)
  · unfold runM
    rw [runN_0, runN_0, runN_0]
  · rw [runN_s _ _ y a b, ih]
    have r0 := runM_lt (k := 4) (by decide) h0 n0 y
    unfold dG
    rw [show (runM g0 n0 y + 16 * runM g1 n1 y) % 16 = runM g0 n0 y by omega, show (runM g0 n0 y + 16 * runM g1 n1 y) / 16 = runM g1 n1 y by omega]
    unfold runM
    rw [runN_s _ _ y a b, runN_s _ _ y a b]
    rfl
theorem dG_lt {g0 g1 : Nat → Nat} {n0 n1 : Nat} (h0 : ∀ j, g0 j < 2 ^ 4) (h1 : ∀ j, g1 j < 2 ^ 5) (v c : Nat) : dG g0 n0 g1 n1 v c < 512 := by
  unfold dG
  have a := stepN_ltP (k := 4) h0 (v % 16) c n0
  have b := stepN_ltP (k := 5) h1 (v / 16) c n1
  omega
theorem stepN_0 (g : Nat → Nat) (c : Nat) : ∀ n, stepN g 0 c n = 0
  | 0 => rfl
  | n + 1 => by rw [stepN, Nat.zero_testBit]; exact stepN_0 g c n
theorem dead_dG {g0 g1 : Nat → Nat} {n0 n1 : Nat} (v b : Nat) (h : deadG v) : deadG (dG g0 n0 g1 n1 v b) := by
  unfold deadG dG at *
  rw [h, stepN_0]
  omega
def wantG (e0 e1 v : Nat) : Bool := (v % 16 &&& e0 != 0) && !(v / 16 &&& e1 != 0)
theorem wantG_dead {e0 e1 v : Nat} (h : wantG e0 e1 v = true) : ¬ deadG v := fun z => by
  unfold wantG deadG at *
  rw [z, Nat.zero_and] at h
  cases h
theorem wantG_eq {g0 g1 : Nat → Nat} {n0 n1 : Nat} (e0 e1 : Nat) (h0 : ∀ j, g0 j < 2 ^ 4) (x : Nat) : wantG e0 e1 (runN (dG g0 n0 g1 n1) 17 x) = wantX g0 n0 e0 g1 n1 e1 0 x := by
  rw [runG h0]
  have r0 := runM_lt (k := 4) (by decide) h0 n0 x
  unfold wantG wantX accB
  rw [show (runM g0 n0 x + 16 * runM g1 n1 x) % 16 = runM g0 n0 x by omega, show (runM g0 n0 x + 16 * runM g1 n1 x) / 16 = runM g1 n1 x by omega, if_pos rfl]
/-- who came from whom -/
def PrG (cb : Nat → Int32) (ln wd : Nat → Nat) (n : Nat) : Prop :=
  cb (ln 0) = -2 ∧ (∀ v, v < 512 → (∃ i, i < n ∧ ln i = v) ∨ cb v = -1) ∧ (∀ i, 0 < i → i < n → ∃ j c, j < i ∧ 1 ≤ c ∧ c ≤ 2 ∧ cb (ln i) = nI (ln j * 2 + c - 1) ∧ wd i = 2 * wd j + c) ∧ (∀ i, i < n → ln i < 512)
theorem PrG_vis {cb : Nat → Int32} {ln wd : Nat → Nat} {n i : Nat} (h : PrG cb ln wd n) (hi : i < n) : ¬ cb (ln i) = -1 := by
  rcases Nat.eq_zero_or_pos i with e | e
  · rw [e, h.1]; decide
  · obtain ⟨j, c, hj, hc1, hc2, hf, -⟩ := h.2.2.1 i e hi
    rw [hf]
    exact nI_ne_neg (by have := h.2.2.2 j (by omega); omega) (by decide)
theorem PrG_new {cb : Nat → Int32} {ln wd : Nat → Nat} {n k c v : Nat} (h : PrG cb ln wd n) (hk : k < n) (h1 : 1 ≤ c) (h2 : c ≤ 2) (hv : v < 512) (hx : ∀ j, j < n → ln j ≠ v) : PrG (upd cb v (nI (ln k * 2 + c - 1))) (up ln n v) (up wd n (2 * wd k + c)) (n + 1) := by
  have lo : ∀ i, i < n → up ln n v i = ln i := fun i hi => up_n ln v (by omega)
  have wo : ∀ i, i < n → up wd n (2 * wd k + c) i = wd i := fun i hi => up_n wd _ (by omega)
  have fo : ∀ i, i < n → upd cb v (nI (ln k * 2 + c - 1)) (ln i) = cb (ln i) := fun i hi => pk_un (hx i hi)
  refine ⟨by rw [lo 0 (by omega), fo 0 (by omega)]; exact h.1, fun u hu => ?_, fun i h3 h4 => ?_, fun i hi => ?_⟩
  · by_cases e : u = v
    · exact Or.inl ⟨n, by omega, by rw [up_s, e]⟩
    · rcases h.2.1 u hu with ⟨i, hi, z⟩ | z
      · exact Or.inl ⟨i, by omega, by rw [lo i hi]; exact z⟩
      · exact Or.inr (by rw [pk_un e]; exact z)
  · by_cases e : i = n
    · refine ⟨k, c, by omega, h1, h2, ?_, ?_⟩
      · rw [e, up_s, pk_us, lo k hk]
      · rw [e, up_s, wo k hk]
    · obtain ⟨j, b, hj, b1, b2, b3, b5⟩ := h.2.2.1 i h3 (by omega)
      exact ⟨j, b, hj, b1, b2, by rw [lo i (by omega), lo j (by omega), fo i (by omega)]; exact b3, by rw [wo i (by omega), wo j (by omega)]; exact b5⟩
  · by_cases e : i = n
    · rw [e, up_s]; exact hv
    · rw [lo i (by omega)]; exact h.2.2.2 i (by omega)
theorem gap_init {ln0 : Nat → Nat} : PrG (upd (fun _ => -1) (1 + 16 * 1) (-2)) (up ln0 0 (1 + 16 * 1)) (fun _ => 0) (0 + 1) := by
  refine ⟨?_, fun v hv => ?_, fun i h1 h2 => by omega, fun i hi => ?_⟩
  · rw [up_s, pk_us]
  · by_cases e : v = 1 + 16 * 1
    · exact Or.inl ⟨0, by decide, by rw [up_s, e]⟩
    · exact Or.inr (by rw [pk_un e])
  · rw [show i = 0 by omega, up_s]; decide
section GPS
variable {g0 g1 : Nat → Nat} {n0 n1 e0 e1 k n : Nat} {ln wd : Nat → Nat}
theorem gap_some (h0 : ∀ j, g0 j < 2 ^ 4) (hB : Bf (dG g0 n0 g1 n1) 17 deadG k 1 n ln wd) (hk : k < n) (h1 : wantG e0 e1 (ln k) = true) (h2 : ∀ i, i < k → wantG e0 e1 (ln i) = false) : leastW g0 n0 e0 g1 n1 e1 0 = some (wd k) := by
  have h := Bf_found hB hk (fun v b _ _ z => dead_dG v b z) (wt := fun v => wantG e0 e1 v = true) (fun v z => wantG_dead z) h1 (fun i hi z => by rw [h2 i hi] at z; cases z)
  rw [← h]
  exact leastO_congr fun x => by rw [wantG_eq e0 e1 h0]
theorem gap_none (h0 : ∀ j, g0 j < 2 ^ 4) (hB : Bf (dG g0 n0 g1 n1) 17 deadG n 1 n ln wd) (h2 : ∀ i, i < n → wantG e0 e1 (ln i) = false) : leastW g0 n0 e0 g1 n1 e1 0 = none := by
  have h := Bf_none hB (fun v b _ _ z => dead_dG v b z) (wt := fun v => wantG e0 e1 v = true) (fun v z => wantG_dead z) (fun i hi z => by rw [h2 i hi] at z; cases z)
  rw [← h]
  exact leastO_congr fun x => by rw [wantG_eq e0 e1 h0]
end GPS
theorem PrG_0 {cb : Nat → Int32} {ln wd : Nat → Nat} {n i : Nat} (h : PrG cb ln wd n) (hi : i < n) (e : ¬ 0 ≤ cb (ln i)) : i = 0 := by
  rcases Nat.eq_zero_or_pos i with z | z
  · exact z
  · obtain ⟨j, c, hj, hc1, hc2, hf, -⟩ := h.2.2.1 i z hi
    have h2 := h.2.2.2 j (by omega)
    rw [hf] at e
    exact absurd (nI_pos' (by omega)) e
theorem gap_cases (a : Nat) (x : Int32) : a = 0 ∨ (a ≠ 0 ∧ ¬ x = -1) ∨ (a ≠ 0 ∧ x = -1) := by
  rcases Classical.em (a = 0) with h | h
  · exact Or.inl h
  · rcases Classical.em (x = -1) with z | z
    · exact Or.inr (Or.inr ⟨h, z⟩)
    · exact Or.inr (Or.inl ⟨h, z⟩)

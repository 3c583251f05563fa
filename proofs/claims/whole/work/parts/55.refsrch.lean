/-! the reference's search: quantifiers over a loop, stays, waits -/
section QN2
variable {Q : Nat → Prop} {b : Bool} {k : Nat}
theorem ex_0 : false = true ↔ ∃ j, j < 0 ∧ Q j := ⟨fun z => (Bool.false_ne_true z).elim, fun ⟨j, hj, _⟩ => absurd hj (Nat.not_lt_zero _)⟩
theorem ex_t1 (h : b = true ↔ ∃ j, j < k ∧ Q j) (hb : b = true) : true = true ↔ ∃ j, j < k + 1 ∧ Q j := ⟨fun _ => (h.mp hb).elim (fun j ⟨hj, z⟩ => ⟨j, by omega, z⟩), fun _ => rfl⟩
theorem ex_t2 (hq : Q k) : true = true ↔ ∃ j, j < k + 1 ∧ Q j := ⟨fun _ => ⟨k, by omega, hq⟩, fun _ => rfl⟩
theorem ex_f (h : b = true ↔ ∃ j, j < k ∧ Q j) (hb : b = false) (hq : ¬ Q k) : false = true ↔ ∃ j, j < k + 1 ∧ Q j := by
  refine ⟨fun z => (Bool.false_ne_true z).elim, fun ⟨j, hj, w⟩ => ?_⟩
  rcases Nat.lt_or_ge j k with q | q
  · rw [h.mpr ⟨j, q, w⟩] at hb; cases hb
  · rw [show j = k by omega] at w; exact absurd w hq
theorem al_0 : true = true ↔ ∀ j, j < 0 → Q j := ⟨fun _ j hj => absurd hj (Nat.not_lt_zero _), fun _ => rfl⟩
theorem al_t (h : b = true ↔ ∀ j, j < k → Q j) (hb : b = true) (hq : Q k) : true = true ↔ ∀ j, j < k + 1 → Q j := ⟨fun _ => lt_ext (h.mp hb) hq, fun _ => rfl⟩
theorem al_f1 (h : b = true ↔ ∀ j, j < k → Q j) (hb : b = false) : false = true ↔ ∀ j, j < k + 1 → Q j := by
  refine ⟨fun z => (Bool.false_ne_true z).elim, fun z => ?_⟩
  rw [h.mpr (fun j hj => z j (by omega))] at hb
  cases hb
theorem al_f2 (hq : ¬ Q k) : false = true ↔ ∀ j, j < k + 1 → Q j := ⟨fun z => (Bool.false_ne_true z).elim, fun z => absurd (z k (by omega)) hq⟩
theorem iff_decB {p : Prop} (h : b = true ↔ p) : b = decB p := by
  cases hb : b with
  | true => exact (decB_t (h.mp hb)).symm
  | false => exact (decB_f (fun z => by rw [h.mpr z] at hb; cases hb)).symm
end QN2
def ntF (g : Nat → Bool) : Nat → Bool := fun j => !g j
section NTF
variable {g w : Nat → Bool} {i n kk : Nat}
theorem ntF_t (h : ntF g i = true) : g i = false := by
  unfold ntF at h
  cases hg : g i with
  | false => rfl
  | true => rw [hg] at h; cases h
theorem ntF_f (h : ntF g i = false) : g i = true := by
  unfold ntF at h
  cases hg : g i with
  | true => rfl
  | false => rw [hg] at h; cases h
theorem ntF_up : up (ntF g) i false = ntF (up g i true) := by
  funext j
  by_cases e : j = i
  · rw [e, up_s]; show false = !(up g i true i); rw [up_s]; rfl
  · rw [up_n _ _ e]; show (!g j) = !(up g i true j); rw [up_n _ _ e]
theorem ntF_up2 : up (ntF g) i true = ntF (up g i false) := by
  funext j
  by_cases e : j = i
  · rw [e, up_s]; show true = !(up g i false i); rw [up_s]; rfl
  · rw [up_n _ _ e]; show (!g j) = !(up g i false j); rw [up_n _ _ e]
theorem wt_off (hw : ∀ j, j < n → w j = (decide (kk ≤ j) && !g j)) : ∀ j, j < n → up w i false j = (decide (kk ≤ j) && !(up g i true) j) := fun j hj => by
  by_cases e : j = i
  · rw [e, up_s, up_s, Bool.not_true, Bool.and_false]
  · rw [up_n _ _ e, up_n _ _ e, hw j hj]
theorem wt_keep (hw : ∀ j, j < n → w j = (decide (kk ≤ j) && !g j)) (hk : kk ≤ n) : ∀ j, j < n + 1 → up w n true j = (decide (kk ≤ j) && !(up g n false) j) := fun j hj => by
  by_cases e : j = n
  · rw [e, up_s, up_s, decide_eq_true hk]; rfl
  · rw [up_n _ _ e, up_n _ _ e, hw j (by omega)]
theorem wt_take (hw : ∀ j, j < n → w j = (decide (kk ≤ j) && !g j)) : ∀ j, j < n → up w kk false j = (decide (kk + 1 ≤ j) && !g j) := fun j hj => by
  by_cases e : j = kk
  · rw [e, up_s, decide_eq_false (by omega)]; rfl
  · rw [up_n _ _ e, hw j hj]
    congr 1
    exact decide_eq_decide.mpr (by omega)
end NTF
section RSP
variable {F : Nat → Nat → Bool} {md : Nat} {s : Sr} {p S : Nat} {b : Bool}
theorem cov_and : ∀ S, S < 32 → ∀ T, T < 32 → ((nI T &&& (nI S ^^^ (-1))) = 0 ↔ S &&& T = T) := by decide +kernel
theorem pass_t1 (hm : md = 2) (h : folS F p S = true) : true = passS F md s p S := by
  unfold passS
  rw [h, decide_eq_true hm]; rfl
theorem pass_of (h : (decide (md = 2) && folS F p S) = false) (hb : b = true ↔ ∃ j, j < srN s ∧ (srG s j = false ∧ cov F md p S (srO s j) (srM s j) = true)) : b = passS F md s p S := by
  unfold passS
  rw [h, Bool.false_or]
  exact iff_decB hb
end RSP
/-- the first that waits -/
def FW (w : Nat → Bool) (i n : Nat) : Option Nat → Prop
  | none => ∀ j, i ≤ j → j < n → w j = false
  | some k => i ≤ k ∧ k < n ∧ w k = true ∧ ∀ j, i ≤ j → j < k → w j = false
section FWS
variable {w : Nat → Bool} {i n : Nat} {f : Option Nat}
theorem FW_0 : FW w n n none := fun j h1 h2 => absurd h2 (by omega)
theorem FW_off (h : FW w (i + 1) n f) (hw : w i = false) : FW w i n f := by
  cases f with
  | none =>
    intro j h1 h2
    rcases Nat.eq_or_lt_of_le h1 with e | e
    · rw [← e]; exact hw
    · exact h j e h2
  | some k =>
    obtain ⟨a, b, c, d⟩ := h
    refine ⟨by omega, b, c, fun j h1 h2 => ?_⟩
    rcases Nat.eq_or_lt_of_le h1 with e | e
    · rw [← e]; exact hw
    · exact d j e h2
theorem FW_on (hn : i + 1 ≤ n) (hw : w i = true) : FW w i n (some i) := ⟨Nat.le_refl _, by omega, hw, fun j h1 h2 => absurd h1 (by omega)⟩
end FWS
section RGO
variable {F : Nat → Nat → Bool} {md e0 e1 : Nat} {g0 g1 : Nat → Nat} {n0 n1 : Nat} {s t u : Sr} {p S k c q : Nat}
theorem go_skip (hn0 : n0 ≤ 4) (h0 : ∀ j, g0 j < 2 ^ n0) (hc : 1 ≤ c) (hu : u = goS F md e0 e1 g0 g1 n1 p S k s (4 * (c - 1) + n0)) : u = goS F md e0 e1 g0 g1 n1 p S k s (4 * (c + 1 - 1)) := by
  have key : ∀ m, n0 + m ≤ 4 → u = goS F md e0 e1 g0 g1 n1 p S k s (4 * (c - 1) + (n0 + m)) := by
    intro m
    induction m with
    | zero => intro _; exact hu
    | succ m ih =>
      intro hm
      rw [show n0 + (m + 1) = n0 + m + 1 by omega, goS_next hc (by omega), stS_off, ← ih (by omega)]
      cases hb : Nat.testBit (g0 (p * 2 + c - 1)) (n0 + m) with
      | false => rfl
      | true => exact absurd (bit_lt (h0 _) hb) (by omega)
  have := key (4 - n0) (by omega)
  rw [show 4 * (c - 1) + (n0 + (4 - n0)) = 4 * (c + 1 - 1) by omega] at this
  exact this
theorem go_fin {v : Sr} (hc : 1 ≤ c) (hc2 : c ≤ 2) (hq : q < 4) (hv : v = goS F md e0 e1 g0 g1 n1 p S k s (4 * (c - 1) + (q + 1))) (hb : (srB v).isSome = true) : v = goS F md e0 e1 g0 g1 n1 p S k s 8 := by
  have := goS_bad (F := F) (md := md) (e0 := e0) (e1 := e1) (g0 := g0) (g1 := g1) (n1 := n1) (p := p) (S := S) (k := k) (s := s) (i := 4 * (c - 1) + (q + 1)) (by rw [← hv]; cases hx : srB v with
    | none => rw [hx] at hb; cases hb
    | some y => rfl) (8 - (4 * (c - 1) + (q + 1)))
  rw [show 4 * (c - 1) + (q + 1) + (8 - (4 * (c - 1) + (q + 1))) = 8 by omega] at this
  rw [this, hv]
theorem run_skip (ht : t = runS F md e0 e1 g0 g1 n1 s k) {j : Nat} (hj : k ≤ j) (hg : ∀ i, k ≤ i → i < j → srG t i = true) : t = runS F md e0 e1 g0 g1 n1 s j := by
  have key : ∀ m, k + m ≤ j → t = runS F md e0 e1 g0 g1 n1 s (k + m) := by
    intro m
    induction m with
    | zero => intro _; exact ht
    | succ m ih =>
      intro hm
      exact rn_off (ih (by omega)) (hg (k + m) (by omega) (by omega))
  have := key (j - k) (by omega)
  rw [show k + (j - k) = j by omega] at this
  exact this
theorem isSome_none {o : Option Nat} (h : o.isSome = false) : o = none := by
  cases o with
  | none => rfl
  | some k => cases h
theorem run_wt {w : Nat → Bool} {kk n : Nat} {g : Nat → Bool} (hw : ∀ j, j < n → w j = (decide (kk ≤ j) && !g j)) {j : Nat} (h1 : kk ≤ j) (h2 : j < n) (h : w j = false) : g j = true := by
  rw [hw j h2, decide_eq_true h1, Bool.true_and] at h
  cases hg : g j with
  | true => rfl
  | false => rw [hg] at h; cases h
/-- up to the pair that is taken next -/
theorem run_to {w : Nat → Bool} {kk j : Nat} (ht : t = runS F md e0 e1 g0 g1 n1 s kk) (hw : ∀ j, j < srN t → w j = (decide (kk ≤ j) && !srG t j)) (hf : FW w 0 (srN t) (some j)) : kk ≤ j ∧ j < srN t ∧ t = runS F md e0 e1 g0 g1 n1 s j ∧ srG t j = false ∧ ∀ i, i < srN t → w i = (decide (j ≤ i) && !srG t i) := by
  obtain ⟨-, h2, h3, h4⟩ := hf
  rw [hw j h2, Bool.and_eq_true] at h3
  have hkj := of_decide_eq_true h3.1
  have hg : ∀ i, kk ≤ i → i < j → srG t i = true := fun i a b => run_wt hw a (by omega) (h4 i (Nat.zero_le _) b)
  refine ⟨hkj, h2, run_skip ht hkj hg, by simpa using h3.2, fun i hi => ?_⟩
  rcases Nat.lt_or_ge i j with z | z
  · rw [h4 i (Nat.zero_le _) z, decide_eq_false (by omega)]; rfl
  · rw [hw i hi, decide_eq_true z, decide_eq_true (by omega)]
theorem run_stop {w : Nat → Bool} {kk : Nat} (hk : kk ≤ srN t) (hn : srN t ≤ 128) (ht : t = runS F md e0 e1 g0 g1 n1 s kk) (hw : ∀ j, j < srN t → w j = (decide (kk ≤ j) && !srG t j)) (hf : FW w 0 (srN t) none) : t = runS F md e0 e1 g0 g1 n1 s 128 :=
  rn_end1 (run_skip ht hk (fun i a b => run_wt hw a b (hf i (Nat.zero_le _) b))) hn (Nat.le_refl _)
end RGO

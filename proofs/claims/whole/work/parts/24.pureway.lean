section WAY
variable {fm : Nat → Int32} {bf ln wd w : Nat → Nat} {n i i0 sN : Nat}
theorem Pr_512 (h : Pr fm bf ln wd n) (hi : i < n) (e : fm (ln i) = nI 512) : i = 0 := by
  rcases Nat.eq_zero_or_pos i with z | z
  · exact z
  · obtain ⟨j, c, hj, -, -, hf, -⟩ := h.2.2.1 i z hi
    have h2 := h.2.2.2 j (by omega)
    rw [hf] at e
    have := (nI_eq (show ln j < 2 ^ 31 by omega) (by decide)).mp e
    omega
theorem way_end (h0 : wd 0 = 0) (hs : prevN (wd i0) sN = wd i) (hl : sN ≤ lenB (wd i0)) (e : i = 0) : sN = lenB (wd i0) := by
  rw [e, h0] at hs
  have := lenB_prev (wd i0) sN hl
  rw [hs, lenB_0] at this
  omega
theorem way_lt (hs : prevN (wd i0) sN = wd i) (hl : sN ≤ lenB (wd i0)) (e : wd i ≠ 0) : sN + 1 ≤ lenB (wd i0) := by
  rcases Nat.lt_or_ge sN (lenB (wd i0)) with z | z
  · omega
  · rw [show sN = lenB (wd i0) by omega, prevN_len] at hs
    exact absurd hs.symm e
theorem way_bk {j c : Nat} (hs : prevN (wd i0) sN = wd i) (h1 : 1 ≤ c) (h2 : c ≤ 2) (hw : wd i = 2 * wd j + c) : prevN (wd i0) (sN + 1) = wd j := by
  rw [prevN_s, hs, hw]
  omega
theorem way_let {j c b : Nat} (hs : prevN (wd i0) sN = wd i) (h1 : 1 ≤ c) (h2 : c ≤ 2) (hw : wd i = 2 * wd j + c) (hb : b = c) (hh : ∀ u, u < sN → w u = letE (wd i0) u) : ∀ u, u < sN + 1 → up w sN b u = letE (wd i0) u := by
  intro u hu
  rw [up_ap]
  split
  · rename_i e
    rw [e, letE_prev, hs, hw, hb, lastL]
    split <;> omega
  · exact hh u (by omega)
end WAY
theorem rev_bk {w w2 : Nat → Nat} {i s : Nat} (hi : i < s / 2) (h : ∀ j, j < s → w2 j = if j < i ∨ s - i ≤ j then w (s - 1 - j) else w j) : ∀ j, j < s → up (up w2 i (w2 (s - 1 - i))) (s - 1 - i) (w2 i) j = if j < i + 1 ∨ s - (i + 1) ≤ j then w (s - 1 - j) else w j := by
  intro j hj
  rw [up_ap, up_ap]
  by_cases e1 : j = s - 1 - i
  · rw [if_pos e1, if_pos (by omega), h i (by omega), if_neg (by omega)]
    congr 1
    omega
  · rw [if_neg e1]
    by_cases e2 : j = i
    · rw [if_pos e2, if_pos (by omega), h (s - 1 - i) (by omega), if_neg (by omega), e2]
    · rw [if_neg e2, h j hj]
      by_cases e3 : j < i ∨ s - i ≤ j
      · rw [if_pos e3, if_pos (by omega)]
      · rw [if_neg e3, if_neg (by omega)]
theorem rev_end {w w2 : Nat → Nat} {i s : Nat} (hi : i = s / 2) (h : ∀ j, j < s → w2 j = if j < i ∨ s - i ≤ j then w (s - 1 - j) else w j) : ∀ j, j < s → w2 j = w (s - 1 - j) := by
  intro j hj
  rw [h j hj]
  by_cases e : j < i ∨ s - i ≤ j
  · rw [if_pos e]
  · rw [if_neg e]
    congr 1
    omega
theorem rev_0 {w : Nat → Nat} (s : Nat) : ∀ j, j < s → w j = if j < 0 ∨ s - 0 ≤ j then w (s - 1 - j) else w j := fun j hj => by rw [if_neg (by omega)]
theorem find_init {f : Nat → Int32} {ln0 bf0 : Nat → Nat} (h : ∀ j, j < 512 → f j = -9) : Pr (upd f 17 (nI 512)) bf0 (up ln0 0 17) (fun _ => 0) 1 := by
  refine ⟨?_, fun v hv => ?_, fun i h1 h2 => by omega, fun i hi => ?_⟩
  · rw [up_s, pk_us]
  · by_cases e : v = 17
    · exact Or.inl ⟨0, by decide, by rw [up_s, e]⟩
    · exact Or.inr (by rw [pk_un e]; exact h v hv)
  · rw [show i = 0 by omega, up_s]; decide
theorem fillM_bk {f : Nat → Int32} {i : Nat} {x : Int32} (h : ∀ j, j < i → f j = x) : ∀ j, j < i + 1 → upd f i x j = x := fun j hj => by
  unfold upd
  split
  · rfl
  · exact h j (by omega)
theorem with_t {o : Option Nat} (h : o.isSome = false) : o.isNone = true := by cases o <;> first | rfl | cases h
theorem with_f {o : Option Nat} (h : o.isSome = true) : o.isNone = false := by cases o <;> first | rfl | cases h
theorem find_some {p : Nat → Nat} {kk k n : Nat} {ln wd : Nat → Nat} (hr : pgOk p) (hB : Bf (dP (gz p) (p 0) (go p) (p 1)) 17 (fun _ => False) k 1 n ln wd) (hk : k < n) (h1 : wantB (p 2) (p 3) kk (ln k) = true) (h2 : ∀ i, i < k → wantB (p 2) (p 3) kk (ln i) = false) : leastW (gz p) (p 0) (p 2) (go p) (p 1) (p 3) kk = some (wd k) := by
  have h := Bf_found hB hk (fun _ _ _ _ z => z) (wt := fun v => wantB (p 2) (p 3) kk v = true) (fun _ _ z => z) h1 (fun i hi z => by rw [h2 i hi] at z; cases z)
  rw [← h]
  exact leastO_congr fun x => by rw [want_eq (p 2) (p 3) kk (show ∀ j, gz p j < 2 ^ 4 from hr.2.2.2.2.2.1) (show ∀ j, go p j < 2 ^ 5 from fun j => hr.2.2.2.2.1 _)]
theorem find_none {p : Nat → Nat} {kk n : Nat} {ln wd : Nat → Nat} (hr : pgOk p) (hB : Bf (dP (gz p) (p 0) (go p) (p 1)) 17 (fun _ => False) n 1 n ln wd) (h2 : ∀ i, i < n → wantB (p 2) (p 3) kk (ln i) = false) : leastW (gz p) (p 0) (p 2) (go p) (p 1) (p 3) kk = none := by
  have h := Bf_none hB (fun _ _ _ _ z => z) (wt := fun v => wantB (p 2) (p 3) kk v = true) (fun _ _ z => z) (fun i hi z => by rw [h2 i hi] at z; cases z)
  rw [← h]
  exact leastO_congr fun x => by rw [want_eq (p 2) (p 3) kk (show ∀ j, gz p j < 2 ^ 4 from hr.2.2.2.2.2.1) (show ∀ j, go p j < 2 ^ 5 from fun j => hr.2.2.2.2.1 _)]
theorem lt_ext {Q : Nat → Prop} {k : Nat} (h : ∀ i, i < k → Q i) (hk : Q k) : ∀ i, i < k + 1 → Q i := fun i hi => by
  rcases Nat.lt_or_ge i k with z | z
  · exact h i z
  · rw [show i = k by omega]; exact hk

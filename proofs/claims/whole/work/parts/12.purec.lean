section WCP
variable {Γ : GT} {l : Launch} {G : GG} {cc : ByteArray} {nL : Nat} {c0 : Cond} {own : String} {R : Room} {k n pc : Nat} {L L' : List (Nat × Value)} {st : List Value} {ws ws' : va_W}
theorem wc_if_leN (X : Cx Γ l G cc nL c0 own R) (pc tgt : Nat) {x : Nat} {off : Int} (hd : decode cc pc = .ok (.ifCond .le off, 3)) (ht : (pc : Int) + off = (tgt : Int)) (hx : x < 2147483648) (kt : x = 0 → Wc Γ k n tgt L st ws) (kf : x ≠ 0 → Wc Γ k n (pc + 3) L st ws) : Wc Γ k n pc L (.int (nI x) :: st) ws := wc_if_le X pc tgt hd ht (fun h => kt (Nat.le_zero.mp ((nI_leI hx (by decide)).mp (show nI x ≤ nI 0 from h)))) (fun h => kf (fun e => h (by rw [e]; exact Int32.le_refl _)))
theorem wc_if_gtN (X : Cx Γ l G cc nL c0 own R) (pc tgt : Nat) {x : Nat} {off : Int} (hd : decode cc pc = .ok (.ifCond .gt off, 3)) (ht : (pc : Int) + off = (tgt : Int)) (hx : x < 2147483648) (kt : x ≠ 0 → Wc Γ k n tgt L st ws) (kf : x = 0 → Wc Γ k n (pc + 3) L st ws) : Wc Γ k n pc L (.int (nI x) :: st) ws := wc_if_gt X pc tgt hd ht (fun h => kt (fun e => by rw [e] at h; exact Int32.lt_irrefl h)) (fun h => kf (Nat.le_zero.mp (Nat.le_of_not_lt fun e => h (show nI 0 < nI x from (nI_ltI (by decide) hx).mpr e))))
end WCP
theorem nI_ne_neg {d : Nat} (hd : d < 2147483648) {x : Int32} (hx : x.toInt < 0) : ¬ nI d = x := fun e => by
  have := nI_toInt hd
  rw [e] at this
  omega
theorem lenF_d {fu v : Nat} (hv : v < 10 ^ fu) (h : v ≠ 0) : v / 10 < 10 ^ (fu - 1) := by
  cases fu with
  | zero => rw [Nat.pow_zero] at hv; omega
  | succ f => rw [Nat.pow_succ] at hv; rw [Nat.add_sub_cancel]; omega
theorem lenF_e {fu v a r : Nat} (hv : v < 10 ^ fu) (h : v ≠ 0) (he : a + lenF fu v = r) : (a + 1) + lenF (fu - 1) (v / 10) = r := by
  cases fu with
  | zero => rw [Nat.pow_zero] at hv; omega
  | succ f =>
    rw [lenF, if_neg h] at he
    rw [Nat.add_sub_cancel]
    omega
theorem lenF_0 (fu : Nat) : lenF fu 0 = 0 := by
  cases fu with
  | zero => rfl
  | succ f => rw [lenF, if_pos rfl]
theorem lenF_le : ∀ (k fu w : Nat), w < 10 ^ k → lenF fu w ≤ k
  | k, 0, w, _ => Nat.zero_le _
  | 0, f + 1, w, h => by rw [Nat.pow_zero] at h; rw [show w = 0 by omega, lenF_0]; exact Nat.le_refl _
  | k + 1, f + 1, w, h => by
    rw [lenF]
    split
    · exact Nat.zero_le _
    · have := lenF_le k f (w / 10) (by rw [Nat.pow_succ] at h; omega)
      omega
theorem lenW_le {w : Nat} (h : w < 1000000000) : lenW w ≤ 9 := lenF_le 9 10 w h
theorem lenF_pow : ∀ (fu w : Nat), w < 10 ^ fu → w < 10 ^ lenF fu w
  | 0, w, h => h
  | f + 1, w, h => by
    rw [lenF]
    split
    · rename_i e; rw [e]; exact (by decide)
    · have := lenF_pow f (w / 10) (by rw [Nat.pow_succ] at h; omega)
      rw [Nat.pow_succ]
      omega
theorem lenF_ge : ∀ (fu w : Nat), w < 10 ^ fu → w ≠ 0 → 10 ^ (lenF fu w - 1) ≤ w
  | 0, w, h, h0 => by rw [Nat.pow_zero] at h; omega
  | f + 1, w, h, h0 => by
    rw [lenF, if_neg h0, Nat.add_sub_cancel]
    by_cases e : w / 10 = 0
    · rw [e, lenF_0]; omega
    · have := lenF_ge f (w / 10) (by rw [Nat.pow_succ] at h; omega) e
      have hl : 1 ≤ lenF f (w / 10) := by
        cases f with
        | zero => rw [Nat.pow_succ, Nat.pow_zero] at h; omega
        | succ f' => rw [lenF, if_neg e]; omega
      rw [show lenF f (w / 10) = (lenF f (w / 10) - 1) + 1 by omega, Nat.pow_succ]
      omega
/-- figures that are letters, f of them at most -/
def letsF : Nat → Nat → Bool
  | 0, w => decide (w = 0)
  | f + 1, w => if w = 0 then true else isLet (w % 10) && letsF f (w / 10)
def wordOk (w : Nat) : Bool := letsF 9 w
theorem letsF_0 (f : Nat) : letsF f 0 = true := by
  cases f with
  | zero => rfl
  | succ f => rw [letsF, if_pos rfl]
theorem letsF_up : ∀ (f w : Nat), letsF f w = true → letsF (f + 1) w = true
  | 0, w, h => by
    rw [letsF] at h
    rw [of_decide_eq_true h]
    exact letsF_0 _
  | f + 1, w, h => by
    rw [letsF] at h
    rw [letsF]
    split at h
    · rename_i e; rw [if_pos e]
    · rename_i e
      rw [if_neg e]
      rw [Bool.and_eq_true] at h ⊢
      exact ⟨h.1, letsF_up f _ h.2⟩
theorem letsF_dn : ∀ (f w : Nat), w < 10 ^ f → letsF (f + 1) w = true → letsF f w = true
  | 0, w, hw, h => by rw [Nat.pow_zero] at hw; rw [letsF]; exact decide_eq_true (by omega)
  | f + 1, w, hw, h => by
    rw [letsF] at h
    rw [letsF]
    split at h
    · rename_i e; rw [if_pos e]
    · rename_i e
      rw [if_neg e]
      rw [Bool.and_eq_true] at h ⊢
      exact ⟨h.1, letsF_dn f _ (by rw [Nat.pow_succ] at hw; omega) h.2⟩
theorem letsF_bd : ∀ (f w : Nat), letsF f w = true → 9 * w + 2 ≤ 2 * 10 ^ f
  | 0, w, h => by
    rw [letsF] at h
    have := of_decide_eq_true h
    rw [Nat.pow_zero]
    omega
  | f + 1, w, h => by
    rw [letsF] at h
    rw [Nat.pow_succ]
    have hp : 0 < 10 ^ f := Nat.pow_pos (by decide)
    split at h
    · omega
    · rw [Bool.and_eq_true] at h
      have h1 := letsF_bd f _ h.2
      have h2 := isLet_2 h.1
      omega
theorem wordOk_lt {w : Nat} (h : wordOk w = true) : w ≤ 222222222 := by
  have := letsF_bd 9 w h
  omega
theorem wordOk_eq (w : Nat) : wordOk w = (decide (w ≤ 222222222) && letsF 10 w) := by
  cases h : wordOk w with
  | true => rw [decide_eq_true (wordOk_lt h), letsF_up 9 w h]; rfl
  | false =>
    by_cases h1 : w ≤ 222222222
    · cases h2 : letsF 10 w with
      | true => rw [show wordOk w = true from letsF_dn 9 w (by omega) h2] at h; cases h
      | false => rw [Bool.and_false]
    · rw [decide_eq_false h1]; rfl
theorem letsF_dig : ∀ (f w k : Nat), letsF f w = true → w / 10 ^ k ≠ 0 → isLet (w / 10 ^ k % 10) = true
  | 0, w, k, h, hk => by
    rw [letsF] at h
    rw [of_decide_eq_true h, Nat.zero_div] at hk
    exact absurd rfl hk
  | f + 1, w, k, h, hk => by
    rw [letsF] at h
    split at h
    · rename_i e; rw [e, Nat.zero_div] at hk; exact absurd rfl hk
    · rw [Bool.and_eq_true] at h
      cases k with
      | zero => rw [Nat.pow_zero, Nat.div_one]; exact h.1
      | succ k =>
        rw [Nat.pow_succ, Nat.mul_comm, ← Nat.div_div_eq_div_mul] at hk ⊢
        exact letsF_dig f (w / 10) k h.2 hk
theorem word_dig {w k : Nat} (h : wordOk w = true) (hk : k < lenW w) : isLet (w / 10 ^ k % 10) = true := by
  refine letsF_dig 9 w k h ?_
  have hw : w ≠ 0 := fun e => by rw [e, show lenW 0 = 0 from rfl] at hk; omega
  have h1 := lenF_ge 10 w (by have := wordOk_lt h; omega) hw
  have h2 : 10 ^ k ≤ 10 ^ (lenF 10 w - 1) := Nat.pow_le_pow_right (by decide) (by unfold lenW at hk; omega)
  have h3 : 0 < w / 10 ^ k := Nat.div_pos (Nat.le_trans h2 h1) (Nat.pow_pos (by decide))
  omega
/-- nine figures, the ones ahead of the first letter are no steps -/
theorem walkD_lead {g : Nat → Nat} {n w S : Nat} (hw : w < 1000000000) : ∀ p, p ≤ 9 - lenW w → walkD g n w S p = S := by
  intro p
  induction p with
  | zero => intro _; rfl
  | succ p ih =>
    intro hp
    rw [walkD, ih (by omega)]
    have h1 : w < 10 ^ lenW w := lenF_pow 10 w (by omega)
    have h2 : 10 ^ lenW w ≤ 10 ^ (8 - p) := Nat.pow_le_pow_right (by decide) (by omega)
    rw [Nat.div_eq_of_lt (Nat.lt_of_lt_of_le h1 h2)]
    rfl
theorem walkD_word {g : Nat → Nat} {n w S : Nat} (h : wordOk w = true) : ∀ k, k ≤ lenW w → walkD g n w S (9 - lenW w + k) = afterW g n w S (lenW w) k := by
  have hw : w < 1000000000 := by have := wordOk_lt h; omega
  have hl := lenW_le hw
  intro k
  induction k with
  | zero => intro _; exact walkD_lead hw _ (Nat.le_refl _)
  | succ k ih =>
    intro hk
    rw [← Nat.add_assoc, walkD, afterW, ih (by omega), show 8 - (9 - lenW w + k) = lenW w - 1 - k by omega, word_dig h (show lenW w - 1 - k < lenW w by omega)]
    rfl
theorem walkD_eq {g : Nat → Nat} {n w S : Nat} (h : wordOk w = true) : afterW g n w S (lenW w) (lenW w) = walkD g n w S 9 := by
  have hl := lenW_le (show w < 1000000000 by have := wordOk_lt h; omega)
  rw [← walkD_word h (lenW w) (Nat.le_refl _), show 9 - lenW w + lenW w = 9 by omega]

theorem nI_m1_0 {j : Nat} (hj : j < 2147483648) (h : nI j - 1 < 0) : j = 0 := by
  cases j with
  | zero => rfl
  | succ k => rw [nI_pred] at h; exact absurd h (nI_pos (by omega))
theorem nI_m1_s {j : Nat} (h : ¬ nI j - 1 < 0) : ∃ k, j = k + 1 := by
  cases j with
  | zero => exact absurd (by decide) h
  | succ k => exact ⟨k, rfl⟩
theorem arr_ext {cA : ClassId} {N : Nat} {f f' : Nat → Int32} (h : ∀ j, j < N → f j = f' j) : vp_cell cA (N, .inl f) = vp_cell cA (N, .inl f') := by
  rw [vp_cell_i, vp_cell_i]
  unfold arrV
  congr 1
  congr 1
  funext j
  show Value.int (f j.1) = Value.int (f' j.1)
  rw [h j.1 j.2]
section WCO
variable {Γ : GT} {l : Launch} {G : GG} {cc : ByteArray} {nL : Nat} {c0 : Cond} {own : String} {R : Room} {k n pc : Nat} {L L' : List (Nat × Value)} {st : List Value} {ws ws' : va_W}
theorem wc_ifltF (X : Cx Γ l G cc nL c0 own R) (pc : Nat) {x : Nat} {off : Int} {tgt : Nat} (hd : decode cc pc = .ok (.ifCond .lt off, 3)) (ht : (pc : Int) + off = (tgt : Int)) (hx : x < 2147483648) (kk : Wc Γ k n (pc + 3) L st ws) : Wc Γ k n pc L (.int (nI x) :: st) ws := wc_if_lt X pc tgt hd ht (fun h => absurd h (nI_pos hx)) (fun _ => kk)
theorem wc_ifgeT (X : Cx Γ l G cc nL c0 own R) (pc tgt : Nat) {x : Nat} {off : Int} (hd : decode cc pc = .ok (.ifCond .ge off, 3)) (ht : (pc : Int) + off = (tgt : Int)) (hx : x < 2147483648) (kk : Wc Γ k n tgt L st ws) : Wc Γ k n pc L (.int (nI x) :: st) ws := wc_if_ge X pc tgt hd ht (fun _ => kk) (fun h => absurd (nI_pos' hx) h)
/-- a row of numbers by another function that is the same within its length -/
theorem wc_ext (X : Cx Γ l G cc nL c0 own R) (Y : Cw Γ G) (q0 : Nat) {a N : Nat} {cA : ClassId} {f f' : Nat → Int32} (he : ws[q0]? = some (a, .inl (cA, N, .inl f))) (h : ∀ j, j < N → f j = f' j) (hws : ws.set q0 (a, .inl (cA, N, .inl f')) = ws') (kk : Wc Γ k n pc L st ws') : Wc Γ k n pc L st ws := by
  intro H locs ls hJ hl
  have hJ' := hJ
  rw [Y] at hJ'
  subst hws
  refine kk H locs ls ?_ hl
  rw [Y]
  refine ⟨hJ'.1.set hJ'.2.1 he ?_ (fun _ _ => rfl), hJ'.2.1.set he, hJ'.2.2⟩
  show H[a]? = some (vp_cell cA (N, .inl f'))
  rw [← arr_ext h]
  exact hJ'.1 q0 _ he
theorem wc_copyI (X : Cx Γ l G cc nL c0 own R) (Y : Cw Γ G) (pc q0 q1 : Nat) {a a0 n0 n1 sp dp m idx : Nat} {f g : Nat → Int32} (ha0 : ws[q0]? = some (aI G a0 n0 f)) (ha1 : ws[q1]? = some (aI G a n1 g)) (h1 : sp < 1000000) (h2 : dp < 1000000) (h3 : m < 1000000) (h4 : sp + m ≤ n0) (h5 : dp + m ≤ n1) (hws : ws.set q1 (aI G a n1 (va_cpy f g sp dp m)) = ws') (hlink : Cond.methodLink own idx arraycopyName ∈ lw_good) (hnat : Cond.native arraycopyName ∈ lw_good) (hstat : Cond.static arraycopyName ∈ lw_good) (hini : Cond.initialized "java/lang/System" ∈ lw_good) (hfr : Nat.ble 1 R.frames = true) (hlo : Nat.ble ((st.map fun v => v.category).sum + 18) R.locals = true) (hd : decode cc pc = .ok (.invokestatic idx, 3)) (kk : Wc Γ k n (pc + 3) L st ws') : Wc Γ k n pc L (.int (nI m) :: .int (nI dp) :: .ref a :: .int (nI sp) :: .ref a0 :: st) ws := by
  intro H locs ls hJ hl
  have hJ' := hJ
  rw [Y] at hJ'
  subst hws
  have hro := X.ro
  subst hro
  have c1 : (nI sp).toNatClampNeg = sp := nI_clamp (by omega)
  have c2 : (nI dp).toNatClampNeg = dp := nI_clamp (by omega)
  have c3 : (nI m).toNatClampNeg = m := nI_clamp (by omega)
  refine va_copyi X.ex X.co hl.1.symm X.ow (X.ts _ (List.mem_cons_of_mem _ hlink)) (X.ts _ (List.mem_cons_of_mem _ hnat)) (X.ts _ (List.mem_cons_of_mem _ hstat)) (X.ts _ (List.mem_cons_of_mem _ hini)) X.kk hJ'.1 hJ'.2.1 hJ'.2.2 q0 q1 0 0 (ty := .int) ha0 ha1 rfl rfl rfl (nI_pos (by omega)) (nI_pos (by omega)) (nI_pos (by omega)) (by rw [c1, c3]; exact h4) (by rw [c2, c3]; exact h5) (fun _ _ => rfl) (Nat.le_of_ble_eq_true hfr) (Nat.le_of_ble_eq_true hlo) hd ?_
  rw [c1, c2, c3]
  exact fun H1 locs1 hP hD hS => kk H1 locs1 ls (by rw [Y]; exact ⟨hP, hD, hS⟩) hl
/-- the call of the outer class's own isLetter out of Machine and Script -/
theorem wc_callSN (X : Cx Γ l G cc nL c0 own R) (pc : Nat) {y : MethodName} {bytes : ByteArray} {maxL n0 idx : Nat} {ret : Option FieldType} {rm : Room} {As st0 : List Value} {v : Value} {host : String} (hM : RM l G y (Cond.code y bytes maxL ret) rm As [] v) (hy : Ys y bytes maxL ret n0) (hlink : va_Nw (.methodLinkNest own idx y host) (gS Γ)) (hrm : rm.cells = 0 ∧ rm.slots = 0) (hR : Nat.ble (rm.frames + 1) R.frames = true ∧ Nat.ble (8 + (maxL + 11) + rm.locals) R.locals = true) (hkn : Nat.ble k R.cells = true ∧ Nat.ble n R.slots = true) (hn : As.length = n0) (hst : st0 = As.reverse ++ st) (hsum : Nat.ble (st.map fun v => v.category).sum 8 = true) (hd : decode cc pc = .ok (.invokestatic idx, 3)) (kk : Wc Γ k n (pc + 3) L (v :: st) ws) : Wc Γ k n pc L st0 ws := by
  intro H locs ls hJ hl
  have hla := X.la
  have hro := X.ro
  subst hla; subst hro
  refine wc_ret ?_ (kk H locs ls hJ hl)
  have h := va_runSN (H := H) (locs := locs) (below := gB Γ) (meth := gMe Γ) (e := gE Γ) (cells := k) (slots := n) (As := As) (rest := st) (g := F0 (gM Γ) pc ls st0) ⟨X.ex, X.co, X.ml, X.ow, X.ts⟩ hM ⟨va_cnB n0 X.ts (lw_good1 hy.2.2.1) rfl hrm.1 hrm.2 hlink (X.ts _ (List.mem_cons_of_mem _ hy.2.1)) hy.2.2.2 ⟨Nat.le_of_ble_eq_true hR.1, Nat.le_of_ble_eq_true hR.2⟩, X.ts _ (List.mem_cons_of_mem _ hy.1), trivial⟩ ⟨RM.blind (y := y), fun U hU hW => RM.pre X hJ (is := []) rfl hU hW⟩ rfl hn (by rw [← X.ml]; exact hl.1) hst (lv_room (Nat.le_of_ble_eq_true hsum)) hd ⟨Nat.le_of_ble_eq_true hkn.1, Nat.le_of_ble_eq_true hkn.2⟩
  exact h.run
end WCO
-- pure words
def stepN (g : Nat → Nat) (S c : Nat) : Nat → Nat
  | 0 => 0
  | i + 1 => if Nat.testBit S i then stepN g S c i ||| g (i * 2 + c - 1) else stepN g S c i
def onesN (s : Nat) : Nat → Nat
  | 0 => 0
  | i + 1 => onesN s i + (Nat.testBit s i).toNat
def ones (s : Nat) : Nat := onesN s 10
def edgN (g : Nat → Nat) : Nat → Nat
  | 0 => 0
  | i + 1 => edgN g i + (ones (g (i * 2 + 1 - 1)) + ones (g (i * 2 + 2 - 1)))
def isLet (d : Nat) : Bool := d == 1 || d == 2
/-- behind the highest p of nine figures -/
def walkD (g : Nat → Nat) (n w S : Nat) : Nat → Nat
  | 0 => S
  | p + 1 => if isLet (w / 10 ^ (8 - p) % 10) then stepN g (walkD g n w S p) (w / 10 ^ (8 - p) % 10) n else walkD g n w S p
def fillF (f : Nat → Int32) (x : Int32) (i : Nat) : Nat → Int32 := fun j => if j < i then x else f j
theorem fillF_s (f : Nat → Int32) (x : Int32) (i : Nat) : upd (fillF f x i) i x = fillF f x (i + 1) := by
  funext j
  unfold upd fillF
  by_cases h : j = i
  · rw [if_pos h, if_pos (by omega)]
  · rw [if_neg h]
    by_cases h2 : j < i
    · rw [if_pos h2, if_pos (by omega)]
    · rw [if_neg h2, if_neg (by omega)]
theorem and_lt {a b m : Nat} (h : a < m) : a &&& b < m := Nat.lt_of_le_of_lt Nat.and_le_left h
theorem or_lt5 {a b : Nat} (h : a < 32) (h2 : b < 32) : a ||| b < 32 := Nat.or_lt_two_pow (n := 5) h h2
theorem stepN_lt {g : Nat → Nat} (hg : ∀ j, g j < 32) (S c i : Nat) : stepN g S c i < 32 := by
  induction i with
  | zero => exact Nat.zero_lt_succ _
  | succ i ih =>
    unfold stepN
    split
    · exact or_lt5 ih (hg _)
    · exact ih
theorem walkD_lt {g : Nat → Nat} (hg : ∀ j, g j < 32) {S : Nat} (hS : S < 32) (n w p : Nat) : walkD g n w S p < 32 := by
  induction p with
  | zero => exact hS
  | succ p ih =>
    unfold walkD
    split
    · exact stepN_lt hg _ _ _
    · exact ih
theorem isLet_1 {d : Nat} (h : isLet d = true) : 1 ≤ d := by
  unfold isLet at h
  simp at h
  omega
theorem isLet_2 {d : Nat} (h : isLet d = true) : d ≤ 2 := by
  unfold isLet at h
  simp at h
  omega
theorem fillF_0 (f : Nat → Int32) (x : Int32) : fillF f x 0 = f := by
  funext j
  unfold fillF
  rw [if_neg (Nat.not_lt_zero _)]

/-! rows that make objects and arrays -/
section WMK
variable {Γ : GT} {l : Launch} {G : GG} {cc : ByteArray} {nL : Nat} {c0 : Cond} {own : String} {R : Room} {k n pc : Nat} {L L' : List (Nat × Value)} {st : List Value} {ws ws' : va_W}
theorem wc_putF (X : Cx Γ l G cc nL c0 own R) (Y : Cw Γ G) (pc q0 f : Nat) {a ci N idx : Nat} {C : String} {T : u_T} {ty : Nat → FieldType} {fs : List Value} {v : Value} (K : Kd ci C T N ty) (he : ws[q0]? = some (a, .inr (ci, fs))) (hf : f < N) (hlink : Cond.fieldLink own idx (T f).1 (T f).2.1 (T f).2.2.1 ∈ lw_good) (hfin : (T f).2.2.2 = true) (hin : (gMe Γ).name = "<init>") (hdecl : (T f).1 = own) (hn : narrow (ty f) v = v) (hfit : fits (ty f) v = true) (hfl : f < fs.length) (hws : ws.set q0 (a, .inr (ci, fs.set f v)) = ws') (hd : decode cc pc = .ok (.putfield idx, 3)) (kk : Wc Γ k n (pc + 3) L st ws') : Wc Γ k n pc L (v :: .ref a :: st) ws := by
  intro H locs ls hJ hl
  have hJ' := hJ
  rw [Y] at hJ'
  subst hws
  exact va_putF X.ex X.co X.ts (fun w h => List.mem_cons_of_mem _ (K.2.1 w h)) ty K.2.2.1 K.2.2.2 X.ow X.kk hJ'.1 hJ'.2.1 hJ'.2.2 q0 he K.1 f hf (X.ts _ (List.mem_cons_of_mem _ hlink)) (fun _ h => h) hfin hin hdecl (K.2.2.1 f hf) hn hfit hfl hd (fun H1 locs1 hP hD hS => kk H1 locs1 ls (by rw [Y]; exact ⟨hP, hD, hS⟩) hl)
theorem wc_newI (X : Cx Γ l G cc nL c0 own R) (Y : Cw Γ G) (pc N : Nat) (hN : N < 1000000) (hkn : Nat.ble (k + 1) R.cells = true ∧ Nat.ble (n + N) R.slots = true) (hd : decode cc pc = .ok (.newarray .int, 2)) (kk : ∀ q : Nat, Wc Γ (k + 1) (n + N) (pc + 2) L (.ref q :: st) (ws ++ [aI G q N (nF (fun _ => 0))])) : Wc Γ k n pc L (.int (nI N) :: st) ws := by
  intro H locs ls hJ hl
  have hJ' := hJ
  rw [Y] at hJ'
  have hro := X.ro
  subst hro
  refine va_newa (atype := .int) (a0 := (N, .inl (nF (fun _ => 0)))) X.ex X.co (X.ts _ (List.mem_cons_of_mem _ q_38)) rfl X.kk hJ'.1 hJ'.2.1 hJ'.2.2 X.fr (fun _ => rfl) (nI_pos (by omega)) (nI_clamp (by omega)) (by show N * 4 ≤ _; omega) (Nat.le_of_ble_eq_true hkn.1) (Nat.le_of_ble_eq_true hkn.2) hd (fun q cA H1 hK hP hD hS => ?_)
  have e : cA = G.2.1 := Option.some.inj (((hK.2 3 _ rfl).2 : (gS Γ).vm.findClass ("[" ++ FieldType.int.toString) = some cA).symm.trans (X.kk.2 0 _ rfl).2)
  subst e
  exact kk q H1 locs ls (by rw [Y]; exact ⟨hP, hD, hS⟩) hl
theorem wc_newZ (X : Cx Γ l G cc nL c0 own R) (Y : Cw Γ G) (pc N : Nat) (hN : N < 1000000) (hkn : Nat.ble (k + 1) R.cells = true ∧ Nat.ble (n + N) R.slots = true) (hd : decode cc pc = .ok (.newarray .boolean, 2)) (kk : ∀ q : Nat, Wc Γ (k + 1) (n + N) (pc + 2) L (.ref q :: st) (ws ++ [aZ G q N (bF (fun _ => false))])) : Wc Γ k n pc L (.int (nI N) :: st) ws := by
  intro H locs ls hJ hl
  have hJ' := hJ
  rw [Y] at hJ'
  have hro := X.ro
  subst hro
  refine va_newa (atype := .boolean) (a0 := (N, .inl (bF (fun _ => false)))) X.ex X.co (X.ts _ (List.mem_cons_of_mem _ q_127)) rfl X.kk hJ'.1 hJ'.2.1 hJ'.2.2 X.fr (fun _ => rfl) (nI_pos (by omega)) (nI_clamp (by omega)) (by show N * 1 ≤ _; omega) (Nat.le_of_ble_eq_true hkn.1) (Nat.le_of_ble_eq_true hkn.2) hd (fun q cA H1 hK hP hD hS => ?_)
  have e : cA = G.2.2.1 := Option.some.inj (((hK.2 3 _ rfl).2 : (gS Γ).vm.findClass ("[" ++ FieldType.boolean.toString) = some cA).symm.trans (X.kk.2 1 _ rfl).2)
  subst e
  exact kk q H1 locs ls (by rw [Y]; exact ⟨hP, hD, hS⟩) hl
theorem wc_newO (X : Cx Γ l G cc nL c0 own R) (Y : Cw Γ G) (pc N : Nat) {idx : Nat} (hcl : Cond.classLink own idx RX1 ∈ lw_good) (hN : N < 1000000) (hkn : Nat.ble (k + 1) R.cells = true ∧ Nat.ble (n + N) R.slots = true) (hd : decode cc pc = .ok (.anewarray idx, 3)) (kk : ∀ q : Nat, Wc Γ (k + 1) (n + N) (pc + 3) L (.ref q :: st) (ws ++ [aO G q N (fun _ => none)])) : Wc Γ k n pc L (.int (nI N) :: st) ws := by
  intro H locs ls hJ hl
  have hJ' := hJ
  rw [Y] at hJ'
  have hro := X.ro
  subst hro
  refine va_newq X.ex X.co X.ow (X.ts _ (List.mem_cons_of_mem _ hcl)) X.zn.2.2.2.2.2.2.2 X.kk hJ'.1 hJ'.2.1 hJ'.2.2 X.fr (nI_pos (by omega)) (nI_clamp (by omega)) (by omega) (Nat.le_of_ble_eq_true hkn.1) (Nat.le_of_ble_eq_true hkn.2) hd (fun q cA H1 hK hP hD hS => ?_)
  obtain ⟨-, -, -, -, -, e1⟩ := (hK.2 3 _ rfl).2
  obtain ⟨-, -, -, -, -, e2⟩ := (X.kk.2 2 _ rfl).2
  have e : cA = G.2.2.2.1 := Option.some.inj (e1.symm.trans e2)
  subst e
  exact kk q H1 locs ls (by rw [Y]; exact ⟨hP, hD, hS⟩) hl
theorem wc_new (X : Cx Γ l G cc nL c0 own R) (Y : Cw Γ G) (pc : Nat) {ci N idx : Nat} {C : String} {T : u_T} {ty : Nat → FieldType} (K : Kd ci C T N ty) (fs : List Value) (hcl : Cond.classLink own idx C ∈ lw_good) (hinst : Cond.instantiable C N ∈ lw_good) (hini : Cond.initialized C ∈ lw_good) (hfs : ∀ j, j < N → defaultValue (ty j) = vp_V fs j) (hkn : Nat.ble (k + 1) R.cells = true ∧ Nat.ble (n + N) R.slots = true) (hd : decode cc pc = .ok (.new idx, 3)) (kk : ∀ q : Nat, Wc Γ (k + 1) (n + N) (pc + 3) L (.ref q :: st) (ws ++ [ob q ci fs])) : Wc Γ k n pc L st ws := by
  intro H locs ls hJ hl
  have hJ' := hJ
  rw [Y] at hJ'
  have hro := X.ro
  subst hro
  exact va_new X.ex X.co X.ts (fun w h => List.mem_cons_of_mem _ (K.2.1 w h)) ty K.2.2.1 X.ow (X.ts _ (List.mem_cons_of_mem _ hcl)) (X.ts _ (List.mem_cons_of_mem _ hinst)) (X.ts _ (List.mem_cons_of_mem _ hini)) X.kk hJ'.1 hJ'.2.1 hJ'.2.2 X.fr K.1 hfs (Nat.le_of_ble_eq_true hkn.1) (Nat.le_of_ble_eq_true hkn.2) hd (fun q H1 hP hD hS => kk q H1 locs ls (by rw [Y]; exact ⟨hP, hD, hS⟩) hl)
theorem wc_obj (X : Cx Γ l G cc nL c0 own R) (pc : Nat) {idx a : Nat} (hlink : Cond.methodLink own idx Lib.objectInit ∈ lw_good) (hR : Nat.ble 1 R.frames = true ∧ Nat.ble ((st.map fun v => v.category).sum + 12) R.locals = true) (hd : decode cc pc = .ok (.invokespecial idx, 3)) (kk : Wc Γ k n (pc + 3) L st ws) : Wc Γ k n pc L (.ref a :: st) ws := by
  intro H locs ls hJ hl
  have hro := X.ro
  subst hro
  refine W.objInit X.ex X.co X.ow (X.ts _ (List.mem_cons_of_mem _ hlink)) (X.ts _ (List.mem_cons_of_mem _ q_22)) (X.ts _ (List.mem_cons_of_mem _ q_23)) rfl hl.1 rfl hd (Nat.le_of_ble_eq_true hR.1) ?_ (kk H locs ls hJ hl)
  show 2 * 0 + _ + 12 ≤ _
  rw [Nat.mul_zero, Nat.zero_add]
  exact Nat.le_of_ble_eq_true hR.2
theorem wc_aast (X : Cx Γ l G cc nL c0 own R) (Y : Cw Γ G) (pc q0 qk : Nat) {a N j v : Nat} {vs : List Value} {f f' : Nat → Option Nat} (he : ws[q0]? = some (aO G a N f)) (hv : ws[qk]? = some (v, .inr (1, vs))) (hj : j < N) (hN : N < 2147483648) (hf : va_up f j (some v) = f') (hws : ws.set q0 (aO G a N f') = ws') (hd : decode cc pc = .ok (.aastore, 1)) (kk : Wc Γ k n (pc + 1) L st ws') : Wc Γ k n pc L (.ref v :: .int (nI j) :: .ref a :: st) ws := by
  intro H locs ls hJ hl
  have hJ' := hJ
  rw [Y] at hJ'
  subst hf hws
  refine va_astq X.ex X.co X.kk hJ'.1 hJ'.2.1 hJ'.2.2 q0 2 qk 1 (r := (RX1, TX1, 2)) he rfl hv rfl (vp_in_nI hj hN) hd ?_
  rw [nI_clamp (Nat.lt_trans hj hN)]
  exact fun H1 locs1 hP hD hS => kk H1 locs1 ls (by rw [Y]; exact ⟨hP, hD, hS⟩) hl
theorem arr_extO {cA : ClassId} {N : Nat} {f f' : Nat → Option Nat} (h : ∀ j, j < N → f j = f' j) : vp_cell cA (N, .inr (.inr (.inr (.inr f)))) = vp_cell cA (N, .inr (.inr (.inr (.inr f')))) := by
  rw [vp_cell_q, vp_cell_q]
  unfold arrV
  congr 1
  congr 1
  funext j
  show va_rf (f j.1) = va_rf (f' j.1)
  rw [h j.1 j.2]
theorem wc_extO (X : Cx Γ l G cc nL c0 own R) (Y : Cw Γ G) (q0 : Nat) {a N : Nat} {f f' : Nat → Option Nat} (he : ws[q0]? = some (aO G a N f)) (h : ∀ j, j < N → f j = f' j) (hws : ws.set q0 (aO G a N f') = ws') (kk : Wc Γ k n pc L st ws') : Wc Γ k n pc L st ws := by
  intro H locs ls hJ hl
  have hJ' := hJ
  rw [Y] at hJ'
  subst hws
  refine kk H locs ls ?_ hl
  rw [Y]
  refine ⟨hJ'.1.set hJ'.2.1 he ?_ (fun _ _ => rfl), hJ'.2.1.set he, hJ'.2.2⟩
  show H[a]? = some (vp_cell _ (N, .inr (.inr (.inr (.inr f')))))
  rw [← arr_extO h]
  exact hJ'.1 q0 _ he
end WMK

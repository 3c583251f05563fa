section WCM
variable {Γ : GT} {l : Launch} {G : GG} {cc : ByteArray} {nL : Nat} {c0 : Cond} {own : String} {R : Room} {k n pc : Nat} {L L' : List (Nat × Value)} {st : List Value} {ws ws' : va_W}
/-- behind a call that writes: the rest's cells, then what came back -/
theorem wc_mut (X : Cx Γ l G cc nL c0 own R) (Y : Cw Γ G) {H : Heap} {locs : List Loc} {g : JFrame} {w0 wr : va_W} {post : Option Value → va_W → Prop} {mc ms : Nat} (hJ : gJ Γ ws H locs) (isC isR : List Nat) (hC : isC.map (fun i => ws[i]?) = w0.map some) (hRr : isR.map (fun i => ws[i]?) = wr.map some) (hnd : va_nd isR = true) (hdis : isR.all (fun i => !isC.contains i) = true)
    (hr : CallRun (gP Γ) (gL Γ) (gE Γ) (gR Γ) (gS Γ) (gM Γ) (gA Γ) (gB Γ) (gMe Γ) (gC Γ) H locs k n mc ms g st (fun s0 oc t => (∃ (v : Option Value) (w : va_W), oc = .returned v ∧ post v w ∧ va_P G.1 vwCl w t.heap ∧ va_D (va_A w0 H.size) w) ∧ va_F (va_A w0 H.size) s0 t) (va_A w0 H.size))
    (kk : ∀ (v : Option Value) (w1 : va_W) (H1 : Heap) (locs1 : List Loc), post v w1 → gJ Γ (wr ++ w1) H1 locs1 → W (gP Γ) (gL Γ) (gE Γ) (gR Γ) (gS Γ) (gM Γ) (gA Γ) (gB Γ) (gMe Γ) (gC Γ) H1 locs1 (k + mc) (n + ms) (gQ Γ) { g with pc := g.pc + 3, stack := v.toList ++ st }) : W (gP Γ) (gL Γ) (gE Γ) (gR Γ) (gS Γ) (gM Γ) (gA Γ) (gB Γ) (gMe Γ) (gC Γ) H locs k n (gQ Γ) g := by
  have hJ' := hJ
  rw [Y] at hJ'
  obtain ⟨hP, hD, hS⟩ := hJ'
  have hF : ∀ q, va_A w0 H.size q → gF Γ q := va_free hD hS X.fr isC hC
  intro T hT XT
  obtain ⟨v', st₀, t, T', Lc, h0, X', hL, e1, ⟨⟨v, w, hv, hp, hPw, hDw⟩, hz, hk⟩, hs⟩ := hr T hT XT
  cases hv
  rw [h0] at hz hk
  have hdis' : ∀ i ∈ isR, i ∉ isC := fun i hi => by
    have := List.all_eq_true.mp hdis i hi
    simpa using this
  obtain ⟨hP1, hD1⟩ := va_join hP hD isC isR hC hRr hnd hdis' (fun q h1 h2 => hk q h1 h2) hF hPw hDw
  have hS1 : va_S (gF Γ) (gS Γ).heap t.heap (locs ++ Lc) := ⟨Nat.le_trans hS.1 hz, fun q h1 h2 => by rw [hk q (Nat.lt_of_lt_of_le h1 hS.1) (fun z => h2 (hF q z))]; exact hS.2.1 q h1 h2, fun q hq => by
    rcases List.mem_append.mp hq with h | h
    · exact hS.2.2 q h
    · exact hF _ (hL q h)⟩
  obtain ⟨t2, a1, b1⟩ := kk v' w t.heap (locs ++ Lc) hp (by rw [Y]; exact ⟨hP1, hD1, hS1⟩) T' e1 X'
  exact ⟨t2, hs t2 a1, b1⟩
theorem MM.pre (X : Cx Γ l G cc nL c0 own R) (Y : Cw Γ G) {H : Heap} {locs : List Loc} (hJ : gJ Γ ws H locs) {w0 : va_W} {isC : List Nat} (hC : isC.map (fun i => ws[i]?) = w0.map some) (hnd : va_nd isC = true) {av : List Value} {U : State} (hU : U.heap = H) (hW : (gS Γ).WarmedH U.vm) : va_Pc av (fun U => U.heap.size = H.size ∧ va_P G.1 vwCl w0 U.heap ∧ va_K G.1 vwCl (tyK G) U ∧ va_D (fun _ => True) w0 ∧ Zn G (va_A w0 H.size) U U.heap) av.toArray U := by
  have hJ' := hJ
  rw [Y] at hJ'
  obtain ⟨hP, hD, hS⟩ := hJ'
  have hP0 : va_P G.1 vwCl w0 H := hP.sub isC (by
    have e : isC.filterMap (fun i => ws[i]?) = (isC.map (fun i => ws[i]?)).filterMap id := by rw [List.filterMap_map]; rfl
    rw [e, hC, List.filterMap_map]
    exact List.filterMap_some)
  exact ⟨rfl, by rw [hU], by rw [hU]; exact hP0, va_K.moved hW.alike X.kk, (hD.sub isC hnd hC).weaken (fun _ _ _ _ => trivial), X.znH hJ (va_free hD hS X.fr isC hC) hU hW⟩
theorem wc_mutV (X : Cx Γ l G cc nL c0 own R) (Y : Cw Γ G) (pc : Nat) (isC isR : List Nat) (q0 : Nat) {y : MethodName} {bytes : ByteArray} {maxL n0 idx b ci N mc ms : Nat} {ret : Option FieldType} {C : String} {T : u_T} {ty : Nat → FieldType} {fs : List Value} {rm : Room} {As st0 : List Value} {w0 wr : va_W} {post : Option Value → va_W → Prop} (hM : MM l G y (Cond.code y bytes maxL ret) rm (.ref b :: As) w0 post mc ms) (hy : Yv y bytes maxL ret C n0) (K : Kd ci C T N ty) (he : ws[q0]? = some (b, .inr (ci, fs))) (hC : isC.map (fun i => ws[i]?) = w0.map some) (hRr : isR.map (fun i => ws[i]?) = wr.map some) (hnd : va_nd isC = true ∧ va_nd isR = true ∧ isR.all (fun i => !isC.contains i) = true) (hlink : Cond.methodLink own idx y ∈ lw_good) (hrm : rm.cells = mc ∧ rm.slots = ms) (hR : Nat.ble (rm.frames + 1) R.frames = true ∧ Nat.ble (8 + (maxL + 11) + rm.locals) R.locals = true) (hkn : Nat.ble (k + mc) R.cells = true ∧ Nat.ble (n + ms) R.slots = true) (hn : As.length = n0) (hst : st0 = As.reverse ++ .ref b :: st) (hsum : Nat.ble (st.map fun v => v.category).sum 8 = true) (hd : decode cc pc = .ok (.invokevirtual idx, 3)) (kk : ∀ (v : Option Value) (w1 : va_W), post v w1 → Wc Γ (k + mc) (n + ms) (pc + 3) L (v.toList ++ st) (wr ++ w1)) : Wc Γ k n pc L st0 ws := by
  intro H locs ls hJ hl
  have hla := X.la
  have hro := X.ro
  subst hla; subst hro
  exact wc_mut X Y hJ isC isR hC hRr hnd.2.1 hnd.2.2 (W.runV (As := As) (rest := st) ⟨X.ex, X.co, X.ml, X.ow, X.ts⟩ (hM H.size) (cwV n0 X.ts (hy.good hlink) rfl hrm.1 hrm.2 hy.2.2.2.2 ⟨Nat.le_of_ble_eq_true hR.1, Nat.le_of_ble_eq_true hR.2⟩) ⟨MM.blind, va_recv X.kk (X.jp hJ) K.1 he, fun U hU hW => MM.pre X Y hJ hC hnd.1 hU hW⟩ rfl hn (by rw [← X.ml]; exact hl.1) hst (lv_room (Nat.le_of_ble_eq_true hsum)) hd ⟨Nat.le_of_ble_eq_true hkn.1, Nat.le_of_ble_eq_true hkn.2⟩) (fun v w1 H1 locs1 hp hJ1 => kk v w1 hp H1 locs1 ls hJ1 hl)
theorem wc_mutS (X : Cx Γ l G cc nL c0 own R) (Y : Cw Γ G) (pc : Nat) (isC isR : List Nat) {y : MethodName} {bytes : ByteArray} {maxL n0 idx mc ms : Nat} {ret : Option FieldType} {rm : Room} {As st0 : List Value} {w0 wr : va_W} {post : Option Value → va_W → Prop} (hM : MM l G y (Cond.code y bytes maxL ret) rm As w0 post mc ms) (hy : Ys y bytes maxL ret n0) (hC : isC.map (fun i => ws[i]?) = w0.map some) (hRr : isR.map (fun i => ws[i]?) = wr.map some) (hnd : va_nd isC = true ∧ va_nd isR = true ∧ isR.all (fun i => !isC.contains i) = true) (hlink : Cond.methodLink own idx y ∈ lw_good) (hrm : rm.cells = mc ∧ rm.slots = ms) (hR : Nat.ble (rm.frames + 1) R.frames = true ∧ Nat.ble (8 + (maxL + 11) + rm.locals) R.locals = true) (hkn : Nat.ble (k + mc) R.cells = true ∧ Nat.ble (n + ms) R.slots = true) (hn : As.length = n0) (hst : st0 = As.reverse ++ st) (hsum : Nat.ble (st.map fun v => v.category).sum 8 = true) (hd : decode cc pc = .ok (.invokestatic idx, 3)) (kk : ∀ (v : Option Value) (w1 : va_W), post v w1 → Wc Γ (k + mc) (n + ms) (pc + 3) L (v.toList ++ st) (wr ++ w1)) : Wc Γ k n pc L st0 ws := by
  intro H locs ls hJ hl
  have hla := X.la
  have hro := X.ro
  subst hla; subst hro
  exact wc_mut X Y hJ isC isR hC hRr hnd.2.1 hnd.2.2 (W.runS (As := As) (rest := st) ⟨X.ex, X.co, X.ml, X.ow, X.ts⟩ (hM H.size) (va_cwS n0 X.ts (hy.good hlink) rfl hrm.1 hrm.2 hy.2.2.2 ⟨Nat.le_of_ble_eq_true hR.1, Nat.le_of_ble_eq_true hR.2⟩) ⟨MM.blind, fun U hU hW => MM.pre X Y hJ hC hnd.1 hU hW⟩ rfl hn (by rw [← X.ml]; exact hl.1) hst (lv_room (Nat.le_of_ble_eq_true hsum)) hd ⟨Nat.le_of_ble_eq_true hkn.1, Nat.le_of_ble_eq_true hkn.2⟩) (fun v w1 H1 locs1 hp hJ1 => kk v w1 hp H1 locs1 ls hJ1 hl)
theorem wc_mutI (X : Cx Γ l G cc nL c0 own R) (Y : Cw Γ G) (pc : Nat) (isC isR : List Nat) {y : MethodName} {bytes : ByteArray} {maxL n0 idx b mc ms : Nat} {rm : Room} {As st0 : List Value} {w0 wr : va_W} {post : Option Value → va_W → Prop} (hM : MM l G y (Cond.code y bytes maxL none) rm (.ref b :: As) w0 post mc ms) (hy : Yi y bytes maxL n0) (hC : isC.map (fun i => ws[i]?) = w0.map some) (hRr : isR.map (fun i => ws[i]?) = wr.map some) (hnd : va_nd isC = true ∧ va_nd isR = true ∧ isR.all (fun i => !isC.contains i) = true) (hlink : Cond.methodLink own idx y ∈ lw_good) (hrm : rm.cells = mc ∧ rm.slots = ms) (hR : Nat.ble (rm.frames + 1) R.frames = true ∧ Nat.ble (8 + (maxL + 11) + rm.locals) R.locals = true) (hkn : Nat.ble (k + mc) R.cells = true ∧ Nat.ble (n + ms) R.slots = true) (hn : As.length = n0) (hst : st0 = As.reverse ++ .ref b :: st) (hsum : Nat.ble (st.map fun v => v.category).sum 8 = true) (hd : decode cc pc = .ok (.invokespecial idx, 3)) (kk : ∀ (v : Option Value) (w1 : va_W), post v w1 → Wc Γ (k + mc) (n + ms) (pc + 3) L (v.toList ++ st) (wr ++ w1)) : Wc Γ k n pc L st0 ws := by
  intro H locs ls hJ hl
  have hla := X.la
  have hro := X.ro
  subst hla; subst hro
  exact wc_mut X Y hJ isC isR hC hRr hnd.2.1 hnd.2.2 (W.runI (As := As) (rest := st) ⟨X.ex, X.co, X.ml, X.ow, X.ts⟩ (hM H.size) (cwI n0 X.ts (lw_good1 hy.2.2.1) rfl hrm.1 hrm.2 (X.ts _ (List.mem_cons_of_mem _ hy.2.1)) (X.ts _ (List.mem_cons_of_mem _ hlink)) (X.ts _ (List.mem_cons_of_mem _ hy.1)) hy.2.2.2.1 hy.2.2.2.2 ⟨Nat.le_of_ble_eq_true hR.1, Nat.le_of_ble_eq_true hR.2⟩) ⟨MM.blind, fun U hU hW => MM.pre X Y hJ hC hnd.1 hU hW⟩ rfl hn (by rw [← X.ml]; exact hl.1) hst (lv_room (Nat.le_of_ble_eq_true hsum)) hd ⟨Nat.le_of_ble_eq_true hkn.1, Nat.le_of_ble_eq_true hkn.2⟩) (fun v w1 H1 locs1 hp hJ1 => kk v w1 hp H1 locs1 ls hJ1 hl)
/-- the cells in another order, or fewer -/
theorem wc_perm (Y : Cw Γ G) (is : List Nat) (ws' : va_W) (h : is.map (fun i => ws[i]?) = ws'.map some) (hnd : va_nd is = true) (kk : Wc Γ k n pc L st ws') : Wc Γ k n pc L st ws := by
  intro H locs ls hJ hl
  have hJ' := hJ
  rw [Y] at hJ'
  obtain ⟨hP, hD, hS⟩ := hJ'
  refine kk H locs ls ?_ hl
  rw [Y]
  refine ⟨hP.sub is ?_, hD.sub is hnd h, hS⟩
  have e : is.filterMap (fun i => ws[i]?) = (is.map (fun i => ws[i]?)).filterMap id := by rw [List.filterMap_map]; rfl
  rw [e, h, List.filterMap_map]
  exact List.filterMap_some
end WCM
section WCE
variable {l : Launch} {G : GG} {cc : ByteArray} {maxL : Nat} {y : MethodName} {ret : Option FieldType} {rm : Room} {av : List Value} {w0 : va_W} {mc ms : Nat}
/-- the entry of a method that only reads -/
theorem RM.of {v : Value} (hy : plainName y.cls = true) (hlen : Nat.ble (lg_sl av).length maxL = true)
    (body : ∀ (Γ : GT), Cx Γ l G cc maxL (Cond.code y cc maxL ret) y.cls rm → (gMe Γ).sig.returnType = ret → (gMe Γ).locks = false → gQ Γ = MQ (gB Γ) (fun _ st oc t => oc = .returned (some v) ∧ t.heap = st.heap) (gA Γ) (gS Γ) 0 0 (fun _ => False) → (gJ Γ = fun ws H locs => va_P G.1 vwCl ws H ∧ H = (gS Γ).heap ∧ locs = []) → Wc Γ 0 0 0 (lv_args 0 av) [] w0) : RM l G y (Cond.code y cc maxL ret) rm av w0 v := by
  refine Met.ofW (cc := cc) (maxL := maxL) (ret := ret) hy rfl ?_
  intro p e s m args below meth c s₁ B hml hv
  obtain ⟨rfl, hP, hK, hZ⟩ := hv
  have hl := lv_entry av (n := maxL) (Nat.le_of_ble_eq_true hlen)
  rw [lg_entry_eq]
  exact body (p, l, e, (headSpec (Cond.code y cc maxL ret :: lw_good) rm).room, s, m, av.toArray, below, meth, c, MQ below (fun _ st oc t => oc = .returned (some v) ∧ t.heap = st.heap) av.toArray s 0 0 (fun _ => False), (fun ws H locs => va_P G.1 vwCl ws H ∧ H = s.heap ∧ locs = []), (fun q => s.heap.size ≤ q)) ⟨B.exec, B.bytes, hml, findClass_of_methodNamed B.named, atoms_spec (ws := Cond.code y cc maxL ret :: lw_good) B.pre, hK, fun ws H locs h => ⟨h.1, by obtain ⟨_, rfl, rfl⟩ := h; exact va_S.rf⟩, hZ, rfl, rfl, fun _ h => h⟩ B.returns B.notSynchronized rfl rfl s.heap [] _ ⟨hP, rfl, rfl⟩ (by rw [hml]; exact hl)
/-- the entry of a method that writes -/
theorem MM.of {post : Option Value → va_W → Prop} (hy : plainName y.cls = true) (hlen : Nat.ble (lg_sl av).length maxL = true)
    (body : ∀ (Γ : GT), Cx Γ l G cc maxL (Cond.code y cc maxL ret) y.cls rm → Cw Γ G → (gMe Γ).sig.returnType = ret → (gMe Γ).locks = false → (gMe Γ).name = y.name → gQ Γ = MQ (gB Γ) (fun _ st oc t => (∃ (v : Option Value) (w : va_W), oc = .returned v ∧ post v w ∧ va_P G.1 vwCl w t.heap ∧ va_D (gF Γ) w) ∧ va_F (gF Γ) st t) (gA Γ) (gS Γ) mc ms (gF Γ) → Wc Γ 0 0 0 (lv_args 0 av) [] w0) : MM l G y (Cond.code y cc maxL ret) rm av w0 post mc ms := by
  intro sz
  refine Met.ofW (cc := cc) (maxL := maxL) (ret := ret) hy rfl ?_
  intro p e s m args below meth c s₁ B hml hv
  obtain ⟨rfl, hsz, hP, hK, hD, hZ⟩ := hv
  subst hsz
  have hl := lv_entry av (n := maxL) (Nat.le_of_ble_eq_true hlen)
  rw [lg_entry_eq]
  exact body (p, l, e, (headSpec (Cond.code y cc maxL ret :: lw_good) rm).room, s, m, av.toArray, below, meth, c, MQ below (fun _ st oc t => (∃ (v : Option Value) (w : va_W), oc = .returned v ∧ post v w ∧ va_P G.1 vwCl w t.heap ∧ va_D (va_A w0 s.heap.size) w) ∧ va_F (va_A w0 s.heap.size) st t) av.toArray s mc ms (va_A w0 s.heap.size), (fun ws H locs => va_P G.1 vwCl ws H ∧ va_D (va_A w0 s.heap.size) ws ∧ va_S (va_A w0 s.heap.size) s.heap H locs), va_A w0 s.heap.size) ⟨B.exec, B.bytes, hml, findClass_of_methodNamed B.named, atoms_spec (ws := Cond.code y cc maxL ret :: lw_good) B.pre, hK, fun ws H locs h => ⟨h.1, h.2.2⟩, hZ, rfl, rfl, fun _ h => Or.inr h⟩ rfl B.returns B.notSynchronized (name_of_methodNamed B.named B.method).1 rfl s.heap [] _ ⟨hP, hD.self, va_S.rf⟩ (by rw [hml]; exact hl)
theorem RM.ofI {x : Int32} (hy : plainName y.cls = true) (hlen : Nat.ble (lg_sl av).length maxL = true) (body : ∀ (Γ : GT), Cx Γ l G cc maxL (Cond.code y cc maxL (some .int)) y.cls rm → (∀ (pc : Nat) (L : List (Nat × Value)) (e : Int32), decode cc pc = .ok (.ireturn, 1) → e = x → Wc Γ 0 0 pc L [.int e] w0) → Wc Γ 0 0 0 (lv_args 0 av) [] w0) : RM l G y (Cond.code y cc maxL (some .int)) rm av w0 (.int x) := by
  refine RM.of hy hlen (fun Γ X hr hlk hQ hJ => body Γ X ?_)
  intro pc L e hd he
  subst he
  intro H locs ls hJ' hl
  rw [hQ]
  rw [hJ] at hJ'
  obtain ⟨_, rfl, rfl⟩ := hJ'
  exact W.iret X.ex X.co hr (fun t ht _ => ⟨rfl, ht⟩) (fun _ h => by cases h) hd hlk
theorem RM.ofZ {x : Bool} (hy : plainName y.cls = true) (hlen : Nat.ble (lg_sl av).length maxL = true) (body : ∀ (Γ : GT), Cx Γ l G cc maxL (Cond.code y cc maxL (some .boolean)) y.cls rm → (∀ (pc : Nat) (L : List (Nat × Value)) (e : Bool), decode cc pc = .ok (.ireturn, 1) → e = x → Wc Γ 0 0 pc L [.int (b2i e)] w0) → Wc Γ 0 0 0 (lv_args 0 av) [] w0) : RM l G y (Cond.code y cc maxL (some .boolean)) rm av w0 (.int (b2i x)) := by
  refine RM.of hy hlen (fun Γ X hr hlk hQ hJ => body Γ X ?_)
  intro pc L e hd he
  subst he
  intro H locs ls hJ' hl
  rw [hQ]
  rw [hJ] at hJ'
  obtain ⟨_, rfl, rfl⟩ := hJ'
  exact W.zret X.ex X.co hr (b2i_nar _) (fun t ht _ => ⟨rfl, ht⟩) (fun _ h => by cases h) hd hlk
theorem RM.ofL {x : Int64} (hy : plainName y.cls = true) (hlen : Nat.ble (lg_sl av).length maxL = true) (body : ∀ (Γ : GT), Cx Γ l G cc maxL (Cond.code y cc maxL (some .long)) y.cls rm → (∀ (pc : Nat) (L : List (Nat × Value)) (e : Int64), decode cc pc = .ok (.lreturn, 1) → e = x → Wc Γ 0 0 pc L [.long e] w0) → Wc Γ 0 0 0 (lv_args 0 av) [] w0) : RM l G y (Cond.code y cc maxL (some .long)) rm av w0 (.long x) := by
  refine RM.of hy hlen (fun Γ X hr hlk hQ hJ => body Γ X ?_)
  intro pc L e hd he
  subst he
  intro H locs ls hJ' hl
  rw [hQ]
  rw [hJ] at hJ'
  obtain ⟨_, rfl, rfl⟩ := hJ'
  exact W.lret X.ex X.co hr (fun t ht _ => ⟨rfl, ht⟩) (fun _ h => by cases h) hd hlk
theorem RM.ofA {x : Nat} {tn : String} (hy : plainName y.cls = true) (hlen : Nat.ble (lg_sl av).length maxL = true) (body : ∀ (Γ : GT), Cx Γ l G cc maxL (Cond.code y cc maxL (some (.object tn))) y.cls rm → (∀ (pc : Nat) (L : List (Nat × Value)) (e : Nat), decode cc pc = .ok (.areturn, 1) → e = x → Wc Γ 0 0 pc L [.ref e] w0) → Wc Γ 0 0 0 (lv_args 0 av) [] w0) : RM l G y (Cond.code y cc maxL (some (.object tn))) rm av w0 (.ref x) := by
  refine RM.of hy hlen (fun Γ X hr hlk hQ hJ => body Γ X ?_)
  intro pc L e hd he
  subst he
  intro H locs ls hJ' hl
  rw [hQ]
  rw [hJ] at hJ'
  obtain ⟨_, rfl, rfl⟩ := hJ'
  exact W.aret X.ex X.co hr (Or.inl ⟨_, rfl⟩) (Or.inr ⟨_, rfl⟩) (fun t ht _ => ⟨rfl, ht⟩) (fun _ h => by cases h) hd hlk
theorem MM.ofI {post : Option Value → va_W → Prop} (hy : plainName y.cls = true) (hlen : Nat.ble (lg_sl av).length maxL = true) (body : ∀ (Γ : GT), Cx Γ l G cc maxL (Cond.code y cc maxL (some .int)) y.cls rm → Cw Γ G → (gMe Γ).name = y.name → (∀ (pc : Nat) (L : List (Nat × Value)) (e : Int32) (w : va_W), decode cc pc = .ok (.ireturn, 1) → post (some (.int e)) w → Wc Γ mc ms pc L [.int e] w) → Wc Γ 0 0 0 (lv_args 0 av) [] w0) : MM l G y (Cond.code y cc maxL (some .int)) rm av w0 post mc ms := by
  refine MM.of hy hlen (fun Γ X Y hr hlk hnm hQ => body Γ X Y hnm ?_)
  intro pc L e w hd hp H locs ls hJ hl
  rw [hQ]
  rw [Y] at hJ
  exact W.iret X.ex X.co hr (fun t ht _ => ⟨⟨_, w, rfl, hp, by rw [ht]; exact hJ.1, hJ.2.1⟩, hJ.2.2.F ht⟩) hJ.2.2.2.2 hd hlk
theorem MM.ofZ {post : Option Value → va_W → Prop} (hy : plainName y.cls = true) (hlen : Nat.ble (lg_sl av).length maxL = true) (body : ∀ (Γ : GT), Cx Γ l G cc maxL (Cond.code y cc maxL (some .boolean)) y.cls rm → Cw Γ G → (gMe Γ).name = y.name → (∀ (pc : Nat) (L : List (Nat × Value)) (e : Bool) (w : va_W), decode cc pc = .ok (.ireturn, 1) → post (some (.int (b2i e))) w → Wc Γ mc ms pc L [.int (b2i e)] w) → Wc Γ 0 0 0 (lv_args 0 av) [] w0) : MM l G y (Cond.code y cc maxL (some .boolean)) rm av w0 post mc ms := by
  refine MM.of hy hlen (fun Γ X Y hr hlk hnm hQ => body Γ X Y hnm ?_)
  intro pc L e w hd hp H locs ls hJ hl
  rw [hQ]
  rw [Y] at hJ
  exact W.zret X.ex X.co hr (b2i_nar _) (fun t ht _ => ⟨⟨_, w, rfl, hp, by rw [ht]; exact hJ.1, hJ.2.1⟩, hJ.2.2.F ht⟩) hJ.2.2.2.2 hd hlk
theorem MM.ofL {post : Option Value → va_W → Prop} (hy : plainName y.cls = true) (hlen : Nat.ble (lg_sl av).length maxL = true) (body : ∀ (Γ : GT), Cx Γ l G cc maxL (Cond.code y cc maxL (some .long)) y.cls rm → Cw Γ G → (gMe Γ).name = y.name → (∀ (pc : Nat) (L : List (Nat × Value)) (e : Int64) (w : va_W), decode cc pc = .ok (.lreturn, 1) → post (some (.long e)) w → Wc Γ mc ms pc L [.long e] w) → Wc Γ 0 0 0 (lv_args 0 av) [] w0) : MM l G y (Cond.code y cc maxL (some .long)) rm av w0 post mc ms := by
  refine MM.of hy hlen (fun Γ X Y hr hlk hnm hQ => body Γ X Y hnm ?_)
  intro pc L e w hd hp H locs ls hJ hl
  rw [hQ]
  rw [Y] at hJ
  exact W.lret X.ex X.co hr (fun t ht _ => ⟨⟨_, w, rfl, hp, by rw [ht]; exact hJ.1, hJ.2.1⟩, hJ.2.2.F ht⟩) hJ.2.2.2.2 hd hlk
theorem MM.ofV {post : Option Value → va_W → Prop} (hy : plainName y.cls = true) (hlen : Nat.ble (lg_sl av).length maxL = true) (body : ∀ (Γ : GT), Cx Γ l G cc maxL (Cond.code y cc maxL none) y.cls rm → Cw Γ G → (gMe Γ).name = y.name → (∀ (pc : Nat) (L : List (Nat × Value)) (w : va_W), decode cc pc = .ok (.return_, 1) → post none w → Wc Γ mc ms pc L [] w) → Wc Γ 0 0 0 (lv_args 0 av) [] w0) : MM l G y (Cond.code y cc maxL none) rm av w0 post mc ms := by
  refine MM.of hy hlen (fun Γ X Y hr hlk hnm hQ => body Γ X Y hnm ?_)
  intro pc L w hd hp H locs ls hJ hl
  rw [hQ]
  rw [Y] at hJ
  exact W.vret X.ex X.co hr (fun t ht _ => ⟨⟨_, w, rfl, hp, by rw [ht]; exact hJ.1, hJ.2.1⟩, hJ.2.2.F ht⟩) hJ.2.2.2.2 hd hlk
end WCE
-- numbers in rows
def nF (g : Nat → Nat) : Nat → Int32 := fun j => nI (g j)
def bF (g : Nat → Bool) : Nat → Int32 := fun j => b2i (g j)
def up {α : Type} (g : Nat → α) (j : Nat) (x : α) : Nat → α := fun i => if i = j then x else g i
theorem up_s {α : Type} (g : Nat → α) (j : Nat) (x : α) : up g j x j = x := if_pos rfl
theorem up_n {α : Type} (g : Nat → α) {j i : Nat} (x : α) (h : i ≠ j) : up g j x i = g i := if_neg h
theorem upd_nF (g : Nat → Nat) (j x : Nat) : upd (nF g) j (nI x) = nF (up g j x) := by
  funext i
  unfold upd nF up
  split <;> rfl
theorem upd_bF (g : Nat → Bool) (j : Nat) (x : Bool) : upd (bF g) j (b2i x) = bF (up g j x) := by
  funext i
  unfold upd bF up
  split <;> rfl
theorem upd_up (f : Nat → Int32) (j : Nat) (x : Int32) : upd f j x = up f j x := rfl
section WCN
variable {Γ : GT} {l : Launch} {G : GG} {cc : ByteArray} {nL : Nat} {c0 : Cond} {own : String} {R : Room} {k n pc : Nat} {L L' : List (Nat × Value)} {st : List Value} {ws ws' : va_W}
theorem wc_ialdG (X : Cx Γ l G cc nL c0 own R) (pc q0 : Nat) {a N j : Nat} {g : Nat → Nat} (he : ws[q0]? = some (aI G a N (nF g))) (hj : j < N) (hN : N < 2147483648) (hd : decode cc pc = .ok (.iaload, 1)) (kk : Wc Γ k n (pc + 1) L (.int (nI (g j)) :: st) ws) : Wc Γ k n pc L (.int (nI j) :: .ref a :: st) ws := wc_ialdN X pc q0 he hj hN hd kk
theorem wc_zaldG (X : Cx Γ l G cc nL c0 own R) (pc q0 : Nat) {a N j : Nat} {g : Nat → Bool} (he : ws[q0]? = some (aZ G a N (bF g))) (hj : j < N) (hN : N < 2147483648) (hd : decode cc pc = .ok (.baload, 1)) (kk : Wc Γ k n (pc + 1) L (.int (b2i (g j)) :: st) ws) : Wc Γ k n pc L (.int (nI j) :: .ref a :: st) ws := wc_zaldN X pc q0 he hj hN hd kk
theorem wc_iastG (X : Cx Γ l G cc nL c0 own R) (Y : Cw Γ G) (pc q0 : Nat) {a N j x : Nat} {g : Nat → Nat} (he : ws[q0]? = some (aI G a N (nF g))) (hj : j < N) (hN : N < 2147483648) (hws : ws.set q0 (aI G a N (nF (up g j x))) = ws') (hd : decode cc pc = .ok (.iastore, 1)) (kk : Wc Γ k n (pc + 1) L st ws') : Wc Γ k n pc L (.int (nI x) :: .int (nI j) :: .ref a :: st) ws := wc_iastN X Y pc q0 he hj hN (by rw [upd_nF]; exact hws) hd kk
theorem wc_zastG (X : Cx Γ l G cc nL c0 own R) (Y : Cw Γ G) (pc q0 : Nat) {a N j : Nat} {x : Bool} {g : Nat → Bool} (he : ws[q0]? = some (aZ G a N (bF g))) (hj : j < N) (hN : N < 2147483648) (hws : ws.set q0 (aZ G a N (bF (up g j x))) = ws') (hd : decode cc pc = .ok (.bastore, 1)) (kk : Wc Γ k n (pc + 1) L st ws') : Wc Γ k n pc L (.int (b2i x) :: .int (nI j) :: .ref a :: st) ws := wc_zastN X Y pc q0 he hj hN (by rw [upd_bF]; exact hws) hd kk
theorem wc_iconstB (X : Cx Γ l G cc nL c0 own R) (b : Bool) (kk : Wc Γ k n pc L (.int (b2i b) :: st) ws) : Wc Γ k n pc L (.int (nI (if b then 1 else 0)) :: st) ws := by rw [← b2i_nI]; exact kk
end WCN

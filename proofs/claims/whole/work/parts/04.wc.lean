def b2i (b : Bool) : Int32 := if b then 1 else 0
theorem b2i_0 {b : Bool} (h : b2i b = 0) : b = false := by cases b with
  | false => rfl
  | true => exact absurd h (by decide)
theorem b2i_1 {b : Bool} (h : ¬ b2i b = 0) : b = true := by cases b with
  | false => exact absurd rfl h
  | true => rfl
theorem b2i_inj {b d : Bool} (h : b2i b = b2i d) : b = d := by cases b <;> cases d <;> first | rfl | exact absurd h (by decide)
theorem b2i_nar (b : Bool) : narrow .boolean (.int (b2i b)) = .int (b2i b) := by cases b <;> rfl
theorem b2i_fit (b : Bool) : fits .boolean (.int (b2i b)) = true := by cases b <;> rfl
theorem b2i_vn (b : Bool) : vp_nar .boolean (b2i b) = b2i b := by cases b <;> rfl
theorem b2i_toNat (b : Bool) : b2i b = nI b.toNat := by cases b <;> rfl
theorem nI_bit (x k : Nat) : nI (x / 2 ^ k &&& 1) = b2i (Nat.testBit x k) := by
  rw [b2i_toNat]
  congr 1
  rw [← Nat.shiftRight_eq_div_pow, Nat.and_one_is_mod, Nat.testBit, ← Nat.and_one_is_mod, Nat.and_comm]
  have : (1 &&& x >>> k) = 0 ∨ (1 &&& x >>> k) = 1 := by
    rw [Nat.and_comm, Nat.and_one_is_mod]; omega
  rcases this with h | h <;> rw [h] <;> rfl
theorem b2i_nI (b : Bool) : b2i b = nI (if b then 1 else 0) := by cases b <;> rfl
theorem nx_and (a b : Nat) : nI a &&& nI b = nI (a &&& b) := by
  apply Int32.toBitVec_inj.1
  show BitVec.ofNat 32 a &&& BitVec.ofNat 32 b = BitVec.ofNat 32 (a &&& b)
  apply BitVec.eq_of_getLsbD_eq
  intro i hi
  simp [hi]
theorem nx_xor (a b : Nat) : nI a ^^^ nI b = nI (a ^^^ b) := by
  apply Int32.toBitVec_inj.1
  show BitVec.ofNat 32 a ^^^ BitVec.ofNat 32 b = BitVec.ofNat 32 (a ^^^ b)
  apply BitVec.eq_of_getLsbD_eq
  intro i hi
  simp [hi]
theorem nx_or (a b : Nat) : nI a ||| nI b = nI (a ||| b) := by
  apply Int32.toBitVec_inj.1
  show BitVec.ofNat 32 a ||| BitVec.ofNat 32 b = BitVec.ofNat 32 (a ||| b)
  apply BitVec.eq_of_getLsbD_eq
  intro i hi
  simp [hi]
theorem nx_s : ∀ n, n < 32 → ((nI n &&& 31).toBitVec.smod 32).toNat = n := by decide +kernel
/-- what is the same in every contract: the classes' numbers, the classes of int[], boolean[], Both[], the cells of TENS and DOINGS -/
abbrev GG : Type := va_G × ClassId × ClassId × ClassId × Nat × Nat
abbrev tyK (G : GG) : List (ClassId × FieldType) := [(G.2.1, .int), (G.2.2.1, .boolean), (G.2.2.2.1, .object RX1)]
abbrev aI (G : GG) (q n : Nat) (f : Nat → Int32) : Nat × va_E := (q, .inl (G.2.1, n, .inl f))
abbrev aZ (G : GG) (q n : Nat) (f : Nat → Int32) : Nat × va_E := (q, .inl (G.2.2.1, n, .inl f))
abbrev aO (G : GG) (q n : Nat) (f : Nat → Option Nat) : Nat × va_E := (q, .inl (G.2.2.2.1, n, .inr (.inr (.inr (.inr f)))))
abbrev ob (q c : Nat) (fs : List Value) : Nat × va_E := (q, .inr (c, fs))
def tensV : Nat → Value := fun j => .int (nI (10 ^ j))
def doingV : Nat → Value := fun j => .long (lN (100000 ^ j))
def Zn (G : GG) (A : Nat → Prop) (U : State) (H : Heap) : Prop :=
  va_Z RX10 "TENS" "[I" (.ref G.2.2.2.2.1) A U H ∧ va_T .int G.2.2.2.2.1 9 tensV A U H ∧ va_Z RX10 "DOINGS" "[J" (.ref G.2.2.2.2.2) A U H ∧ va_T .long G.2.2.2.2.2 4 doingV A U H ∧ va_Nw (.fieldLinkNest RX6 51 RX10 "TENS" "[I" RX10) U ∧ va_Nw (.methodLinkNest RX6 54 yX10_isLetter RX10) U ∧ va_Nw (.methodLinkNest RX7 62 yX10_isLetter RX10) U ∧ va_AO RX1 U
theorem Zn.kept {G : GG} {A : Nat → Prop} {U : State} {H H1 : Heap} (h : Zn G A U H) (hq : ∀ a : Nat, a < H.size → ¬ A a → H1[a]? = H[a]?) : Zn G A U H1 := ⟨h.1.kept hq, h.2.1.kept hq, h.2.2.1.kept hq, h.2.2.2.1.kept hq, h.2.2.2.2⟩
theorem Zn.warm {G : GG} {A : Nat → Prop} {s U : State} {H : Heap} (hW : s.WarmedH U.vm) (h : Zn G A s H) : Zn G A U H := ⟨va_Z.moved hW.alike h.1, va_T.moved hW.alike h.2.1, va_Z.moved hW.alike h.2.2.1, va_T.moved hW.alike h.2.2.2.1, h.2.2.2.2.1.warmF hW, h.2.2.2.2.2.1.warmM hW, h.2.2.2.2.2.2.1.warmM hW, va_AO.moved hW.alike h.2.2.2.2.2.2.2⟩
theorem Zn.narrow {G : GG} {A B : Nat → Prop} {U : State} {H : Heap} (h : Zn G A U H) (hAB : ∀ q, B q → A q) : Zn G B U H := ⟨h.1.narrow hAB, h.2.1.narrow hAB, h.2.2.1.narrow hAB, h.2.2.2.1.narrow hAB, h.2.2.2.2⟩
theorem Zn.call {G : GG} {A : Nat → Prop} {U : State} {H : Heap} (h : Zn G A U H) {g : JFrame} {mk : MethodId} {a : Array Value} : Zn G A (U.calling g mk a) H := ⟨va_Z.moved (u := U) (U := U.calling g mk a) (Vm.Alike.refl U.vm) h.1, va_T.moved (u := U) (U := U.calling g mk a) (Vm.Alike.refl U.vm) h.2.1, va_Z.moved (u := U) (U := U.calling g mk a) (Vm.Alike.refl U.vm) h.2.2.1, va_T.moved (u := U) (U := U.calling g mk a) (Vm.Alike.refl U.vm) h.2.2.2.1, h.2.2.2.2.1.same rfl rfl, h.2.2.2.2.2.1.same rfl rfl, h.2.2.2.2.2.2.1.same rfl rfl, va_AO.moved (u := U) (U := U.calling g mk a) (Vm.Alike.refl U.vm) h.2.2.2.2.2.2.2⟩
/-- a method's context: machine, launch, .., what its end must meet, how cells and heap belong together, what it may change -/
abbrev GT : Type := Program × Launch × Env × Room × State × MethodId × Array Value × List Frame × Method × Code × (State → Prop) × (va_W → Heap → List Loc → Prop) × (Nat → Prop)
abbrev gP (g : GT) : Program := g.1
abbrev gL (g : GT) : Launch := g.2.1
abbrev gE (g : GT) : Env := g.2.2.1
abbrev gR (g : GT) : Room := g.2.2.2.1
abbrev gS (g : GT) : State := g.2.2.2.2.1
abbrev gM (g : GT) : MethodId := g.2.2.2.2.2.1
abbrev gA (g : GT) : Array Value := g.2.2.2.2.2.2.1
abbrev gB (g : GT) : List Frame := g.2.2.2.2.2.2.2.1
abbrev gMe (g : GT) : Method := g.2.2.2.2.2.2.2.2.1
abbrev gC (g : GT) : Code := g.2.2.2.2.2.2.2.2.2.1
abbrev gQ (g : GT) : State → Prop := g.2.2.2.2.2.2.2.2.2.2.1
abbrev gJ (g : GT) : va_W → Heap → List Loc → Prop := g.2.2.2.2.2.2.2.2.2.2.2.1
abbrev gF (g : GT) : Nat → Prop := g.2.2.2.2.2.2.2.2.2.2.2.2
def Wc (Γ : GT) (k n pc : Nat) (L : List (Nat × Value)) (st : List Value) (ws : va_W) : Prop :=
  ∀ (H : Heap) (locs : List Loc) (ls : Array Slot), gJ Γ ws H locs → lv_has ls (gC Γ).maxLocals L → W (gP Γ) (gL Γ) (gE Γ) (gR Γ) (gS Γ) (gM Γ) (gA Γ) (gB Γ) (gMe Γ) (gC Γ) H locs k n (gQ Γ) (F0 (gM Γ) pc ls st)
def Cx (Γ : GT) (l : Launch) (G : GG) (cc : ByteArray) (nL : Nat) (c0 : Cond) (own : String) (R : Room) : Prop :=
  (gP Γ).tables.exec = Jvm.exec ∧ (gC Γ).code = cc ∧ (gC Γ).maxLocals = nL ∧ (gS Γ).vm.findClass own = some (gM Γ).cls ∧ (∀ w ∈ c0 :: lw_good, w.before (gA Γ) (gS Γ) = true) ∧ va_K G.1 vwCl (tyK G) (gS Γ) ∧
  (∀ ws H locs, gJ Γ ws H locs → va_P G.1 vwCl ws H ∧ va_S (gF Γ) (gS Γ).heap H locs) ∧ Zn G (gF Γ) (gS Γ) (gS Γ).heap ∧ gL Γ = l ∧ gR Γ = R ∧ (∀ q, (gS Γ).heap.size ≤ q → gF Γ q)
/-- a method that writes: its world is apart and its own -/
def Cw (Γ : GT) (G : GG) : Prop := gJ Γ = fun ws H locs => va_P G.1 vwCl ws H ∧ va_D (gF Γ) ws ∧ va_S (gF Γ) (gS Γ).heap H locs
/-- locals, by number, after a store -/
def insL (i : Nat) (v : Value) : List (Nat × Value) → List (Nat × Value)
  | [] => [(i, v)]
  | q :: t => if i < q.1 then (i, v) :: q :: t else q :: insL i v t
theorem mem_insL {i : Nat} {v : Value} {q : Nat × Value} : ∀ {l : List (Nat × Value)}, q ∈ insL i v l → q ∈ (i, v) :: l
  | [], h => h
  | a :: t, h => by
    unfold insL at h
    split at h
    · exact h
    · rcases List.mem_cons.mp h with h | h
      · exact List.mem_cons_of_mem _ (List.mem_cons.mpr (Or.inl h))
      · rcases List.mem_cons.mp (mem_insL h) with h | h
        · exact List.mem_cons.mpr (Or.inl h)
        · exact List.mem_cons_of_mem _ (List.mem_cons_of_mem _ h)
def stL1 (i : Nat) (v : Value) (L : List (Nat × Value)) : List (Nat × Value) := insL i v (L.filter (fun q => !(q.1 == i) && !(q.1 + 1 == i && q.2.category == 2)))
def stL2 (i : Nat) (v : Value) (L : List (Nat × Value)) : List (Nat × Value) := insL i v (L.filter (fun q => !(q.1 == i) && (!(q.1 == i + 1) && !(q.1 + 1 == i && q.2.category == 2))))
theorem insL_has {ls : Array Slot} {nL i : Nat} {v : Value} {l l' : List (Nat × Value)} (h : lv_has ls nL ((i, v) :: l)) (e : insL i v l = l') : lv_has ls nL l' := ⟨h.1, h.2.1, fun q hq => h.2.2 q (mem_insL (by rw [e]; exact hq))⟩
section WCX
variable {Γ : GT} {l : Launch} {G : GG} {cc : ByteArray} {nL : Nat} {c0 : Cond} {own : String} {R : Room} {k n pc : Nat} {L L' : List (Nat × Value)} {st : List Value} {ws ws' : va_W}
theorem Cx.ex (X : Cx Γ l G cc nL c0 own R) : (gP Γ).tables.exec = Jvm.exec := X.1
theorem Cx.co (X : Cx Γ l G cc nL c0 own R) : (gC Γ).code = cc := X.2.1
theorem Cx.ml (X : Cx Γ l G cc nL c0 own R) : (gC Γ).maxLocals = nL := X.2.2.1
theorem Cx.ow (X : Cx Γ l G cc nL c0 own R) : (gS Γ).vm.findClass own = some (gM Γ).cls := X.2.2.2.1
theorem Cx.ts (X : Cx Γ l G cc nL c0 own R) : ∀ w ∈ c0 :: lw_good, w.before (gA Γ) (gS Γ) = true := X.2.2.2.2.1
theorem Cx.kk (X : Cx Γ l G cc nL c0 own R) : va_K G.1 vwCl (tyK G) (gS Γ) := X.2.2.2.2.2.1
theorem Cx.jp (X : Cx Γ l G cc nL c0 own R) {H : Heap} {locs : List Loc} (h : gJ Γ ws H locs) : va_P G.1 vwCl ws H := (X.2.2.2.2.2.2.1 ws H locs h).1
theorem Cx.js (X : Cx Γ l G cc nL c0 own R) {H : Heap} {locs : List Loc} (h : gJ Γ ws H locs) : va_S (gF Γ) (gS Γ).heap H locs := (X.2.2.2.2.2.2.1 ws H locs h).2
theorem Cx.zn (X : Cx Γ l G cc nL c0 own R) : Zn G (gF Γ) (gS Γ) (gS Γ).heap := X.2.2.2.2.2.2.2.1
theorem Cx.la (X : Cx Γ l G cc nL c0 own R) : gL Γ = l := X.2.2.2.2.2.2.2.2.1
theorem Cx.ro (X : Cx Γ l G cc nL c0 own R) : gR Γ = R := X.2.2.2.2.2.2.2.2.2.1
theorem Cx.fr (X : Cx Γ l G cc nL c0 own R) : ∀ q, (gS Γ).heap.size ≤ q → gF Γ q := X.2.2.2.2.2.2.2.2.2.2
-- constants, loads
theorem wc_iconst (X : Cx Γ l G cc nL c0 own R) (pc : Nat) {i : Int} (v : Int32) (hd : decode cc pc = .ok (.iconst i, 1)) (hv : Int32.ofInt i = v) (kk : Wc Γ k n (pc + 1) L (.int v :: st) ws) : Wc Γ k n pc L st ws := fun H locs ls hJ hl => lv_iconst X.ex X.co hd hv (kk H locs ls hJ hl)
theorem wc_iconstN (X : Cx Γ l G cc nL c0 own R) (pc c : Nat) (hd : decode cc pc = .ok (.iconst (Int.ofNat c), 1)) (kk : Wc Γ k n (pc + 1) L (.int (nI c) :: st) ws) : Wc Γ k n pc L st ws := fun H locs ls hJ hl => lv_iconst X.ex X.co hd (Int32.ofInt_eq_ofNat) (kk H locs ls hJ hl)
theorem wc_bipush (X : Cx Γ l G cc nL c0 own R) (pc : Nat) {i : Int} (v : Int32) (hd : decode cc pc = .ok (.bipush i, 2)) (hv : (Int8.ofInt i).toInt32 = v) (kk : Wc Γ k n (pc + 2) L (.int v :: st) ws) : Wc Γ k n pc L st ws := fun H locs ls hJ hl => lv_bipush X.ex X.co hd hv (kk H locs ls hJ hl)
theorem wc_sipush (X : Cx Γ l G cc nL c0 own R) (pc : Nat) {i : Int} (v : Int32) (hd : decode cc pc = .ok (.sipush i, 3)) (hv : (Int16.ofInt i).toInt32 = v) (kk : Wc Γ k n (pc + 3) L (.int v :: st) ws) : Wc Γ k n pc L st ws := fun H locs ls hJ hl => lv_sipush X.ex X.co hd hv (kk H locs ls hJ hl)
theorem wc_lconst (X : Cx Γ l G cc nL c0 own R) (pc : Nat) {i : Fin 2} (v : Int64) (hd : decode cc pc = .ok (.lconst i, 1)) (hv : Int64.ofNat (i : Nat) = v) (kk : Wc Γ k n (pc + 1) L (.long v :: st) ws) : Wc Γ k n pc L st ws := fun H locs ls hJ hl => lv_lconst X.ex X.co hd hv (kk H locs ls hJ hl)
theorem wc_ldc (X : Cx Γ l G cc nL c0 own R) (pc idx : Nat) (v : Int32) (hw : Cond.constant own idx v ∈ lw_good) (hd : decode cc pc = .ok (.ldc idx, 2)) (kk : Wc Γ k n (pc + 2) L (.int v :: st) ws) : Wc Γ k n pc L st ws := fun H locs ls hJ hl => lv_ldc X.ex X.co X.ow (X.ts _ (List.mem_cons_of_mem _ hw)) hd (kk H locs ls hJ hl)
theorem wc_ldcw (X : Cx Γ l G cc nL c0 own R) (pc idx : Nat) (v : Int32) (hw : Cond.constant own idx v ∈ lw_good) (hd : decode cc pc = .ok (.ldc_w idx, 3)) (kk : Wc Γ k n (pc + 3) L (.int v :: st) ws) : Wc Γ k n pc L st ws := fun H locs ls hJ hl => lv_ldcw X.ex X.co X.ow (X.ts _ (List.mem_cons_of_mem _ hw)) hd (kk H locs ls hJ hl)
theorem wc_ldc2 (X : Cx Γ l G cc nL c0 own R) (pc idx : Nat) (v : Int64) (hw : Cond.constantLong own idx v ∈ lw_good) (hd : decode cc pc = .ok (.ldc2_w idx, 3)) (kk : Wc Γ k n (pc + 3) L (.long v :: st) ws) : Wc Γ k n pc L st ws := fun H locs ls hJ hl => lv_ldc2 X.ex X.co X.ow (X.ts _ (List.mem_cons_of_mem _ hw)) hd (kk H locs ls hJ hl)
theorem wc_iload_n (X : Cx Γ l G cc nL c0 own R) (pc j : Nat) {i : Fin 4} {x : Int32} (hd : decode cc pc = .ok (.iload_n i, 1)) (hL : L[j]? = some ((i : Nat), .int x)) (kk : Wc Γ k n (pc + 1) L (.int x :: st) ws) : Wc Γ k n pc L st ws := fun H locs ls hJ hl => lv_iload_n X.ex X.co hd rfl (lv_at hl j hL) (kk H locs ls hJ hl)
theorem wc_iload (X : Cx Γ l G cc nL c0 own R) (pc j : Nat) {i : Nat} {x : Int32} (hd : decode cc pc = .ok (.iload i, 2)) (hL : L[j]? = some (i, .int x)) (kk : Wc Γ k n (pc + 2) L (.int x :: st) ws) : Wc Γ k n pc L st ws := fun H locs ls hJ hl => lv_iload X.ex X.co hd (lv_at hl j hL) (kk H locs ls hJ hl)
theorem wc_lload_n (X : Cx Γ l G cc nL c0 own R) (pc j : Nat) {i : Fin 4} {x : Int64} (hd : decode cc pc = .ok (.lload_n i, 1)) (hL : L[j]? = some ((i : Nat), .long x)) (kk : Wc Γ k n (pc + 1) L (.long x :: st) ws) : Wc Γ k n pc L st ws := fun H locs ls hJ hl => lv_lload_n X.ex X.co hd rfl (lv_at hl j hL) (kk H locs ls hJ hl)
theorem wc_lload (X : Cx Γ l G cc nL c0 own R) (pc j : Nat) {i : Nat} {x : Int64} (hd : decode cc pc = .ok (.lload i, 2)) (hL : L[j]? = some (i, .long x)) (kk : Wc Γ k n (pc + 2) L (.long x :: st) ws) : Wc Γ k n pc L st ws := fun H locs ls hJ hl => lv_lload X.ex X.co hd (lv_at hl j hL) (kk H locs ls hJ hl)
theorem wc_aload_n (X : Cx Γ l G cc nL c0 own R) (pc j : Nat) {i : Fin 4} {x : Nat} (hd : decode cc pc = .ok (.aload_n i, 1)) (hL : L[j]? = some ((i : Nat), .ref x)) (kk : Wc Γ k n (pc + 1) L (.ref x :: st) ws) : Wc Γ k n pc L st ws := fun H locs ls hJ hl => lv_aload_n X.ex X.co hd rfl (lv_at hl j hL) (kk H locs ls hJ hl)
theorem wc_aload (X : Cx Γ l G cc nL c0 own R) (pc j : Nat) {i : Nat} {x : Nat} (hd : decode cc pc = .ok (.aload i, 2)) (hL : L[j]? = some (i, .ref x)) (kk : Wc Γ k n (pc + 2) L (.ref x :: st) ws) : Wc Γ k n pc L st ws := fun H locs ls hJ hl => lv_aload X.ex X.co hd (lv_at hl j hL) (kk H locs ls hJ hl)
-- stores
theorem wc_istore_n (X : Cx Γ l G cc nL c0 own R) (pc : Nat) {i : Fin 4} {x : Int32} (hd : decode cc pc = .ok (.istore_n i, 1)) (hn : (i : Nat) < nL) (hL : stL1 i (.int x) L = L') (kk : Wc Γ k n (pc + 1) L' st ws) : Wc Γ k n pc L (.int x :: st) ws := fun H locs _ hJ hl => lv_istore_n X.ex X.co hd rfl hl (by rw [X.ml]; exact hn) rfl (fun ls' hl' => kk H locs ls' hJ (insL_has hl' hL))
theorem wc_istore (X : Cx Γ l G cc nL c0 own R) (pc : Nat) {i : Nat} {x : Int32} (hd : decode cc pc = .ok (.istore i, 2)) (hn : i < nL) (hL : stL1 i (.int x) L = L') (kk : Wc Γ k n (pc + 2) L' st ws) : Wc Γ k n pc L (.int x :: st) ws := fun H locs _ hJ hl => lv_istore X.ex X.co hd hl (by rw [X.ml]; exact hn) rfl (fun ls' hl' => kk H locs ls' hJ (insL_has hl' hL))
theorem wc_astore_n (X : Cx Γ l G cc nL c0 own R) (pc : Nat) {i : Fin 4} {x : Nat} (hd : decode cc pc = .ok (.astore_n i, 1)) (hn : (i : Nat) < nL) (hL : stL1 i (.ref x) L = L') (kk : Wc Γ k n (pc + 1) L' st ws) : Wc Γ k n pc L (.ref x :: st) ws := fun H locs _ hJ hl => lv_astore_n X.ex X.co hd rfl hl (by rw [X.ml]; exact hn) rfl (fun ls' hl' => kk H locs ls' hJ (insL_has hl' hL))
theorem wc_astore (X : Cx Γ l G cc nL c0 own R) (pc : Nat) {i : Nat} {x : Nat} (hd : decode cc pc = .ok (.astore i, 2)) (hn : i < nL) (hL : stL1 i (.ref x) L = L') (kk : Wc Γ k n (pc + 2) L' st ws) : Wc Γ k n pc L (.ref x :: st) ws := fun H locs _ hJ hl => lv_astore X.ex X.co hd hl (by rw [X.ml]; exact hn) rfl (fun ls' hl' => kk H locs ls' hJ (insL_has hl' hL))
theorem wc_lstore_n (X : Cx Γ l G cc nL c0 own R) (pc : Nat) {i : Fin 4} {x : Int64} (hd : decode cc pc = .ok (.lstore_n i, 1)) (hn : (i : Nat) + 1 < nL) (hL : stL2 i (.long x) L = L') (kk : Wc Γ k n (pc + 1) L' st ws) : Wc Γ k n pc L (.long x :: st) ws := fun H locs _ hJ hl => lv_lstore_n X.ex X.co hd rfl hl (by rw [X.ml]; exact hn) rfl (fun ls' hl' => kk H locs ls' hJ (insL_has hl' hL))
theorem wc_iinc (X : Cx Γ l G cc nL c0 own R) (pc j : Nat) {i : Nat} {c : Int} {x v : Int32} (hd : decode cc pc = .ok (.iinc i c, 3)) (hj : L[j]? = some (i, .int x)) (hv : x + Int32.ofInt c = v) (hn : i < nL) (hL : stL1 i (.int v) L = L') (kk : Wc Γ k n (pc + 3) L' st ws) : Wc Γ k n pc L st ws := fun H locs _ hJ hl => lv_iinc X.ex X.co hd hl hj hv (by rw [X.ml]; exact hn) rfl (fun ls' hl' => kk H locs ls' hJ (insL_has hl' hL))
theorem wc_iincN (X : Cx Γ l G cc nL c0 own R) (pc j : Nat) {i c x : Nat} (hd : decode cc pc = .ok (.iinc i (Int.ofNat c), 3)) (hj : L[j]? = some (i, .int (nI x))) (hn : i < nL) (hL : stL1 i (.int (nI (x + c))) L = L') (kk : Wc Γ k n (pc + 3) L' st ws) : Wc Γ k n pc L st ws := wc_iinc X pc j hd hj (by rw [show Int32.ofInt (Int.ofNat c) = nI c from Int32.ofInt_eq_ofNat, nI_add]) hn hL kk
/-- fewer locals, by their places -/
theorem wc_loc (ks : List Nat) (h : lv_pick L ks = L') (kk : Wc Γ k n pc L' st ws) : Wc Γ k n pc L st ws := fun H locs ls hJ hl => kk H locs ls hJ (lv_sub hl ks h)
/-- a value by another word for it -/
theorem wc_top {v v' : Value} (h : v = v') (kk : Wc Γ k n pc L (v' :: st) ws) : Wc Γ k n pc L (v :: st) ws := by rw [h]; exact kk
theorem wc_topi {x : Int32} (y : Int32) (h : x = y) (kk : Wc Γ k n pc L (.int y :: st) ws) : Wc Γ k n pc L (.int x :: st) ws := by rw [h]; exact kk
theorem wc_nm {x : Int32} (kk : ∀ y : Int32, y = x → Wc Γ k n pc L (.int y :: st) ws) : Wc Γ k n pc L (.int x :: st) ws := kk x rfl
theorem wc_ws (h : ws = ws') (kk : Wc Γ k n pc L st ws') : Wc Γ k n pc L st ws := by rw [h]; exact kk
theorem wc_st {st' : List Value} (h : st = st') (kk : Wc Γ k n pc L st' ws) : Wc Γ k n pc L st ws := by rw [h]; exact kk
theorem wc_L (h : L = L') (kk : Wc Γ k n pc L' st ws) : Wc Γ k n pc L st ws := by rw [h]; exact kk
theorem wc_wid {k' n' : Nat} (h1 : k ≤ k') (h2 : n ≤ n') (kk : Wc Γ k' n' pc L st ws) : Wc Γ k n pc L st ws := fun H locs ls hJ hl => W.widen h1 h2 (kk H locs ls hJ hl)
theorem wc_iadd (X : Cx Γ l G cc nL c0 own R) (pc : Nat) {x y : Int32} (hd : decode cc pc = .ok (.iadd, 1)) (kk : Wc Γ k n (pc + 1) L (.int (x + y) :: st) ws) : Wc Γ k n pc L (.int y :: .int x :: st) ws := fun H locs ls hJ hl => lv_iadd X.ex X.co hd (kk H locs ls hJ hl)
theorem wc_isub (X : Cx Γ l G cc nL c0 own R) (pc : Nat) {x y : Int32} (hd : decode cc pc = .ok (.isub, 1)) (kk : Wc Γ k n (pc + 1) L (.int (x - y) :: st) ws) : Wc Γ k n pc L (.int y :: .int x :: st) ws := fun H locs ls hJ hl => lv_isub X.ex X.co hd (kk H locs ls hJ hl)
theorem wc_imul (X : Cx Γ l G cc nL c0 own R) (pc : Nat) {x y : Int32} (hd : decode cc pc = .ok (.imul, 1)) (kk : Wc Γ k n (pc + 1) L (.int (x * y) :: st) ws) : Wc Γ k n pc L (.int y :: .int x :: st) ws := fun H locs ls hJ hl => lv_imul X.ex X.co hd (kk H locs ls hJ hl)
theorem wc_iand (X : Cx Γ l G cc nL c0 own R) (pc : Nat) {x y : Int32} (hd : decode cc pc = .ok (.iand, 1)) (kk : Wc Γ k n (pc + 1) L (.int (x &&& y) :: st) ws) : Wc Γ k n pc L (.int y :: .int x :: st) ws := fun H locs ls hJ hl => lv_iand X.ex X.co hd (kk H locs ls hJ hl)
theorem wc_ior (X : Cx Γ l G cc nL c0 own R) (pc : Nat) {x y : Int32} (hd : decode cc pc = .ok (.ior, 1)) (kk : Wc Γ k n (pc + 1) L (.int (x ||| y) :: st) ws) : Wc Γ k n pc L (.int y :: .int x :: st) ws := fun H locs ls hJ hl => lv_ior X.ex X.co hd (kk H locs ls hJ hl)
theorem wc_ixor (X : Cx Γ l G cc nL c0 own R) (pc : Nat) {x y : Int32} (hd : decode cc pc = .ok (.ixor, 1)) (kk : Wc Γ k n (pc + 1) L (.int (x ^^^ y) :: st) ws) : Wc Γ k n pc L (.int y :: .int x :: st) ws := fun H locs ls hJ hl => lv_ixor X.ex X.co hd (kk H locs ls hJ hl)
theorem wc_ishl (X : Cx Γ l G cc nL c0 own R) (pc : Nat) {x y : Int32} (hd : decode cc pc = .ok (.ishl, 1)) (kk : Wc Γ k n (pc + 1) L (.int (x <<< (y &&& 31)) :: st) ws) : Wc Γ k n pc L (.int y :: .int x :: st) ws := fun H locs ls hJ hl => lv_ishl X.ex X.co hd (kk H locs ls hJ hl)
theorem wc_ishr (X : Cx Γ l G cc nL c0 own R) (pc : Nat) {x y : Int32} (hd : decode cc pc = .ok (.ishr, 1)) (kk : Wc Γ k n (pc + 1) L (.int (x >>> (y &&& 31)) :: st) ws) : Wc Γ k n pc L (.int y :: .int x :: st) ws := fun H locs ls hJ hl => lv_ishr X.ex X.co hd (kk H locs ls hJ hl)
theorem wc_iushr (X : Cx Γ l G cc nL c0 own R) (pc : Nat) {x y : Int32} (hd : decode cc pc = .ok (.iushr, 1)) (kk : Wc Γ k n (pc + 1) L (.int ((x.toUInt32 >>> (y.toUInt32 &&& Int32.toUInt32 31)).toInt32) :: st) ws) : Wc Γ k n pc L (.int y :: .int x :: st) ws := fun H locs ls hJ hl => lv_iushr X.ex X.co hd rfl (kk H locs ls hJ hl)
theorem wc_idiv (X : Cx Γ l G cc nL c0 own R) (pc : Nat) {x y : Int32} (hd : decode cc pc = .ok (.idiv, 1)) (hne : ¬ y = 0) (kk : Wc Γ k n (pc + 1) L (.int (x / y) :: st) ws) : Wc Γ k n pc L (.int y :: .int x :: st) ws := fun H locs ls hJ hl => lv_idiv X.ex X.co hd hne (kk H locs ls hJ hl)
theorem wc_irem (X : Cx Γ l G cc nL c0 own R) (pc : Nat) {x y : Int32} (hd : decode cc pc = .ok (.irem, 1)) (hne : ¬ y = 0) (kk : Wc Γ k n (pc + 1) L (.int (x - x / y * y) :: st) ws) : Wc Γ k n pc L (.int y :: .int x :: st) ws := fun H locs ls hJ hl => lv_irem X.ex X.co hd hne (kk H locs ls hJ hl)
theorem wc_ladd (X : Cx Γ l G cc nL c0 own R) (pc : Nat) {x y : Int64} (hd : decode cc pc = .ok (.ladd, 1)) (kk : Wc Γ k n (pc + 1) L (.long (x + y) :: st) ws) : Wc Γ k n pc L (.long y :: .long x :: st) ws := fun H locs ls hJ hl => lv_ladd X.ex X.co hd (kk H locs ls hJ hl)
theorem wc_lsub (X : Cx Γ l G cc nL c0 own R) (pc : Nat) {x y : Int64} (hd : decode cc pc = .ok (.lsub, 1)) (kk : Wc Γ k n (pc + 1) L (.long (x - y) :: st) ws) : Wc Γ k n pc L (.long y :: .long x :: st) ws := fun H locs ls hJ hl => lv_lsub X.ex X.co hd (kk H locs ls hJ hl)
theorem wc_lmul (X : Cx Γ l G cc nL c0 own R) (pc : Nat) {x y : Int64} (hd : decode cc pc = .ok (.lmul, 1)) (kk : Wc Γ k n (pc + 1) L (.long (x * y) :: st) ws) : Wc Γ k n pc L (.long y :: .long x :: st) ws := fun H locs ls hJ hl => lv_lmul X.ex X.co hd (kk H locs ls hJ hl)
theorem wc_land (X : Cx Γ l G cc nL c0 own R) (pc : Nat) {x y : Int64} (hd : decode cc pc = .ok (.land, 1)) (kk : Wc Γ k n (pc + 1) L (.long (x &&& y) :: st) ws) : Wc Γ k n pc L (.long y :: .long x :: st) ws := fun H locs ls hJ hl => lv_land X.ex X.co hd (kk H locs ls hJ hl)
theorem wc_lor (X : Cx Γ l G cc nL c0 own R) (pc : Nat) {x y : Int64} (hd : decode cc pc = .ok (.lor, 1)) (kk : Wc Γ k n (pc + 1) L (.long (x ||| y) :: st) ws) : Wc Γ k n pc L (.long y :: .long x :: st) ws := fun H locs ls hJ hl => lv_lor X.ex X.co hd (kk H locs ls hJ hl)
theorem wc_ldiv (X : Cx Γ l G cc nL c0 own R) (pc : Nat) {x y : Int64} (hd : decode cc pc = .ok (.ldiv, 1)) (hne : ¬ y = 0) (kk : Wc Γ k n (pc + 1) L (.long (x / y) :: st) ws) : Wc Γ k n pc L (.long y :: .long x :: st) ws := fun H locs ls hJ hl => lv_ldiv X.ex X.co hd hne (kk H locs ls hJ hl)
theorem wc_lrem (X : Cx Γ l G cc nL c0 own R) (pc : Nat) {x y : Int64} (hd : decode cc pc = .ok (.lrem, 1)) (hne : ¬ y = 0) (kk : Wc Γ k n (pc + 1) L (.long (x - x / y * y) :: st) ws) : Wc Γ k n pc L (.long y :: .long x :: st) ws := fun H locs ls hJ hl => lv_lrem X.ex X.co hd hne (kk H locs ls hJ hl)
theorem wc_i2l (X : Cx Γ l G cc nL c0 own R) (pc : Nat) {x : Int32} (hd : decode cc pc = .ok (.i2l, 1)) (kk : Wc Γ k n (pc + 1) L (.long x.toInt64 :: st) ws) : Wc Γ k n pc L (.int x :: st) ws := fun H locs ls hJ hl => lv_i2l X.ex X.co hd rfl (kk H locs ls hJ hl)
theorem wc_l2i (X : Cx Γ l G cc nL c0 own R) (pc : Nat) {x : Int64} (hd : decode cc pc = .ok (.l2i, 1)) (kk : Wc Γ k n (pc + 1) L (.int x.toInt32 :: st) ws) : Wc Γ k n pc L (.long x :: st) ws := fun H locs ls hJ hl => lv_l2i X.ex X.co hd rfl (kk H locs ls hJ hl)
theorem wc_lushr (X : Cx Γ l G cc nL c0 own R) (pc : Nat) {x : Int64} {y : Int32} (hd : decode cc pc = .ok (.lushr, 1)) (kk : Wc Γ k n (pc + 1) L (.long ((x.toUInt64 >>> (y.toInt64.toUInt64 &&& Int64.toUInt64 63)).toInt64) :: st) ws) : Wc Γ k n pc L (.int y :: .long x :: st) ws := fun H locs ls hJ hl => lv_lushr X.ex X.co hd rfl (kk H locs ls hJ hl)
theorem wc_lshl (X : Cx Γ l G cc nL c0 own R) (pc : Nat) {x : Int64} {y : Int32} (hd : decode cc pc = .ok (.lshl, 1)) (kk : Wc Γ k n (pc + 1) L (.long (x <<< (y.toInt64 &&& 63)) :: st) ws) : Wc Γ k n pc L (.int y :: .long x :: st) ws := fun H locs ls hJ hl => lv_lshl X.ex X.co hd rfl (kk H locs ls hJ hl)
theorem wc_lcmp (X : Cx Γ l G cc nL c0 own R) (pc : Nat) {x y : Int64} (hd : decode cc pc = .ok (.lcmp, 1)) (kk : Wc Γ k n (pc + 1) L (.int (lg_cmp x y) :: st) ws) : Wc Γ k n pc L (.long y :: .long x :: st) ws := fun H locs ls hJ hl => W.lcmp X.ex X.co hd (kk H locs ls hJ hl)
theorem wc_dup (X : Cx Γ l G cc nL c0 own R) (pc : Nat) {v : Value} (hd : decode cc pc = .ok (.dup, 1)) (hv : v.category = 1) (kk : Wc Γ k n (pc + 1) L (v :: v :: st) ws) : Wc Γ k n pc L (v :: st) ws := fun H locs ls hJ hl => lv_dup X.ex X.co hd hv (kk H locs ls hJ hl)
theorem wc_dup2 (X : Cx Γ l G cc nL c0 own R) (pc : Nat) {v u : Value} (hd : decode cc pc = .ok (.dup2, 1)) (hv : v.category = 1) (hu : u.category = 1) (kk : Wc Γ k n (pc + 1) L (v :: u :: v :: u :: st) ws) : Wc Γ k n pc L (v :: u :: st) ws := fun H locs ls hJ hl => lv_dup2_11 X.ex X.co hd hv hu (kk H locs ls hJ hl)
theorem wc_goto (X : Cx Γ l G cc nL c0 own R) (pc tgt : Nat) {off : Int} (hd : decode cc pc = .ok (.goto off, 3)) (ht : (pc : Int) + off = (tgt : Int)) (kk : Wc Γ k n tgt L st ws) : Wc Γ k n pc L st ws := fun H locs ls hJ hl => lv_goto X.ex X.co hd ht (kk H locs ls hJ hl)
theorem wc_if_eq (X : Cx Γ l G cc nL c0 own R) (pc tgt : Nat) {x : Int32} {off : Int} (hd : decode cc pc = .ok (.ifCond .eq off, 3)) (ht : (pc : Int) + off = (tgt : Int)) (kt : x = 0 → Wc Γ k n tgt L st ws) (kf : ¬ x = 0 → Wc Γ k n (pc + 3) L st ws) : Wc Γ k n pc L (.int x :: st) ws := fun H locs ls hJ hl => lv_if_eq X.ex X.co hd ht (fun h => kt h H locs ls hJ hl) (fun h => kf h H locs ls hJ hl)
theorem wc_icmp_eq (X : Cx Γ l G cc nL c0 own R) (pc tgt : Nat) {x y : Int32} {off : Int} (hd : decode cc pc = .ok (.if_icmp .eq off, 3)) (ht : (pc : Int) + off = (tgt : Int)) (kt : x = y → Wc Γ k n tgt L st ws) (kf : ¬ x = y → Wc Γ k n (pc + 3) L st ws) : Wc Γ k n pc L (.int y :: .int x :: st) ws := fun H locs ls hJ hl => lv_icmp_eq X.ex X.co hd ht (fun h => kt h H locs ls hJ hl) (fun h => kf h H locs ls hJ hl)
theorem wc_if_ne (X : Cx Γ l G cc nL c0 own R) (pc tgt : Nat) {x : Int32} {off : Int} (hd : decode cc pc = .ok (.ifCond .ne off, 3)) (ht : (pc : Int) + off = (tgt : Int)) (kt : ¬ x = 0 → Wc Γ k n tgt L st ws) (kf : x = 0 → Wc Γ k n (pc + 3) L st ws) : Wc Γ k n pc L (.int x :: st) ws := fun H locs ls hJ hl => lv_if_ne X.ex X.co hd ht (fun h => kt h H locs ls hJ hl) (fun h => kf h H locs ls hJ hl)
theorem wc_icmp_ne (X : Cx Γ l G cc nL c0 own R) (pc tgt : Nat) {x y : Int32} {off : Int} (hd : decode cc pc = .ok (.if_icmp .ne off, 3)) (ht : (pc : Int) + off = (tgt : Int)) (kt : ¬ x = y → Wc Γ k n tgt L st ws) (kf : x = y → Wc Γ k n (pc + 3) L st ws) : Wc Γ k n pc L (.int y :: .int x :: st) ws := fun H locs ls hJ hl => lv_icmp_ne X.ex X.co hd ht (fun h => kt h H locs ls hJ hl) (fun h => kf h H locs ls hJ hl)
theorem wc_if_lt (X : Cx Γ l G cc nL c0 own R) (pc tgt : Nat) {x : Int32} {off : Int} (hd : decode cc pc = .ok (.ifCond .lt off, 3)) (ht : (pc : Int) + off = (tgt : Int)) (kt : x < 0 → Wc Γ k n tgt L st ws) (kf : ¬ x < 0 → Wc Γ k n (pc + 3) L st ws) : Wc Γ k n pc L (.int x :: st) ws := fun H locs ls hJ hl => lv_if_lt X.ex X.co hd ht (fun h => kt h H locs ls hJ hl) (fun h => kf h H locs ls hJ hl)
theorem wc_icmp_lt (X : Cx Γ l G cc nL c0 own R) (pc tgt : Nat) {x y : Int32} {off : Int} (hd : decode cc pc = .ok (.if_icmp .lt off, 3)) (ht : (pc : Int) + off = (tgt : Int)) (kt : x < y → Wc Γ k n tgt L st ws) (kf : ¬ x < y → Wc Γ k n (pc + 3) L st ws) : Wc Γ k n pc L (.int y :: .int x :: st) ws := fun H locs ls hJ hl => lv_icmp_lt X.ex X.co hd ht (fun h => kt h H locs ls hJ hl) (fun h => kf h H locs ls hJ hl)
theorem wc_if_ge (X : Cx Γ l G cc nL c0 own R) (pc tgt : Nat) {x : Int32} {off : Int} (hd : decode cc pc = .ok (.ifCond .ge off, 3)) (ht : (pc : Int) + off = (tgt : Int)) (kt : 0 ≤ x → Wc Γ k n tgt L st ws) (kf : ¬ 0 ≤ x → Wc Γ k n (pc + 3) L st ws) : Wc Γ k n pc L (.int x :: st) ws := fun H locs ls hJ hl => lv_if_ge X.ex X.co hd ht (fun h => kt h H locs ls hJ hl) (fun h => kf h H locs ls hJ hl)
theorem wc_icmp_ge (X : Cx Γ l G cc nL c0 own R) (pc tgt : Nat) {x y : Int32} {off : Int} (hd : decode cc pc = .ok (.if_icmp .ge off, 3)) (ht : (pc : Int) + off = (tgt : Int)) (kt : y ≤ x → Wc Γ k n tgt L st ws) (kf : ¬ y ≤ x → Wc Γ k n (pc + 3) L st ws) : Wc Γ k n pc L (.int y :: .int x :: st) ws := fun H locs ls hJ hl => lv_icmp_ge X.ex X.co hd ht (fun h => kt h H locs ls hJ hl) (fun h => kf h H locs ls hJ hl)
theorem wc_if_gt (X : Cx Γ l G cc nL c0 own R) (pc tgt : Nat) {x : Int32} {off : Int} (hd : decode cc pc = .ok (.ifCond .gt off, 3)) (ht : (pc : Int) + off = (tgt : Int)) (kt : 0 < x → Wc Γ k n tgt L st ws) (kf : ¬ 0 < x → Wc Γ k n (pc + 3) L st ws) : Wc Γ k n pc L (.int x :: st) ws := fun H locs ls hJ hl => lv_if_gt X.ex X.co hd ht (fun h => kt h H locs ls hJ hl) (fun h => kf h H locs ls hJ hl)
theorem wc_icmp_gt (X : Cx Γ l G cc nL c0 own R) (pc tgt : Nat) {x y : Int32} {off : Int} (hd : decode cc pc = .ok (.if_icmp .gt off, 3)) (ht : (pc : Int) + off = (tgt : Int)) (kt : y < x → Wc Γ k n tgt L st ws) (kf : ¬ y < x → Wc Γ k n (pc + 3) L st ws) : Wc Γ k n pc L (.int y :: .int x :: st) ws := fun H locs ls hJ hl => lv_icmp_gt X.ex X.co hd ht (fun h => kt h H locs ls hJ hl) (fun h => kf h H locs ls hJ hl)
theorem wc_if_le (X : Cx Γ l G cc nL c0 own R) (pc tgt : Nat) {x : Int32} {off : Int} (hd : decode cc pc = .ok (.ifCond .le off, 3)) (ht : (pc : Int) + off = (tgt : Int)) (kt : x ≤ 0 → Wc Γ k n tgt L st ws) (kf : ¬ x ≤ 0 → Wc Γ k n (pc + 3) L st ws) : Wc Γ k n pc L (.int x :: st) ws := fun H locs ls hJ hl => lv_if_le X.ex X.co hd ht (fun h => kt h H locs ls hJ hl) (fun h => kf h H locs ls hJ hl)
theorem wc_icmp_le (X : Cx Γ l G cc nL c0 own R) (pc tgt : Nat) {x y : Int32} {off : Int} (hd : decode cc pc = .ok (.if_icmp .le off, 3)) (ht : (pc : Int) + off = (tgt : Int)) (kt : x ≤ y → Wc Γ k n tgt L st ws) (kf : ¬ x ≤ y → Wc Γ k n (pc + 3) L st ws) : Wc Γ k n pc L (.int y :: .int x :: st) ws := fun H locs ls hJ hl => lv_icmp_le X.ex X.co hd ht (fun h => kt h H locs ls hJ hl) (fun h => kf h H locs ls hJ hl)
theorem wc_iaddN (X : Cx Γ l G cc nL c0 own R) (pc : Nat) {x y : Nat} (hd : decode cc pc = .ok (.iadd, 1)) (kk : Wc Γ k n (pc + 1) L (.int (nI (x + y)) :: st) ws) : Wc Γ k n pc L (.int (nI y) :: .int (nI x) :: st) ws := wc_iadd X pc hd (by rw [nI_add]; exact kk)
theorem wc_imulN (X : Cx Γ l G cc nL c0 own R) (pc : Nat) {x y : Nat} (hd : decode cc pc = .ok (.imul, 1)) (kk : Wc Γ k n (pc + 1) L (.int (nI (x * y)) :: st) ws) : Wc Γ k n pc L (.int (nI y) :: .int (nI x) :: st) ws := wc_imul X pc hd (by rw [pk_mul]; exact kk)
theorem wc_isubN (X : Cx Γ l G cc nL c0 own R) (pc : Nat) {x y : Nat} (hd : decode cc pc = .ok (.isub, 1)) (h : y ≤ x) (kk : Wc Γ k n (pc + 1) L (.int (nI (x - y)) :: st) ws) : Wc Γ k n pc L (.int (nI y) :: .int (nI x) :: st) ws := wc_isub X pc hd (by rw [pk_sub h]; exact kk)
theorem wc_idivN (X : Cx Γ l G cc nL c0 own R) (pc : Nat) {x y : Nat} (hd : decode cc pc = .ok (.idiv, 1)) (hx : x < 2147483648) (h0 : 0 < y) (hy : y < 2147483648) (kk : Wc Γ k n (pc + 1) L (.int (nI (x / y)) :: st) ws) : Wc Γ k n pc L (.int (nI y) :: .int (nI x) :: st) ws := wc_idiv X pc hd (nI_ne0 h0 hy) (by rw [pk_div hx h0 hy]; exact kk)
theorem wc_iremN (X : Cx Γ l G cc nL c0 own R) (pc : Nat) {x y : Nat} (hd : decode cc pc = .ok (.irem, 1)) (hx : x < 2147483648) (h0 : 0 < y) (hy : y < 2147483648) (kk : Wc Γ k n (pc + 1) L (.int (nI (x % y)) :: st) ws) : Wc Γ k n pc L (.int (nI y) :: .int (nI x) :: st) ws := wc_irem X pc hd (nI_ne0 h0 hy) (by rw [pk_rem hx h0 hy]; exact kk)
theorem wc_iandN (X : Cx Γ l G cc nL c0 own R) (pc : Nat) {x y : Nat} (hd : decode cc pc = .ok (.iand, 1)) (kk : Wc Γ k n (pc + 1) L (.int (nI (x &&& y)) :: st) ws) : Wc Γ k n pc L (.int (nI y) :: .int (nI x) :: st) ws := wc_iand X pc hd (by rw [nx_and]; exact kk)
theorem wc_iorN (X : Cx Γ l G cc nL c0 own R) (pc : Nat) {x y : Nat} (hd : decode cc pc = .ok (.ior, 1)) (kk : Wc Γ k n (pc + 1) L (.int (nI (x ||| y)) :: st) ws) : Wc Γ k n pc L (.int (nI y) :: .int (nI x) :: st) ws := wc_ior X pc hd (by rw [nx_or]; exact kk)
theorem wc_ixorN (X : Cx Γ l G cc nL c0 own R) (pc : Nat) {x y : Nat} (hd : decode cc pc = .ok (.ixor, 1)) (kk : Wc Γ k n (pc + 1) L (.int (nI (x ^^^ y)) :: st) ws) : Wc Γ k n pc L (.int (nI y) :: .int (nI x) :: st) ws := wc_ixor X pc hd (by rw [nx_xor]; exact kk)
theorem wc_ishlN (X : Cx Γ l G cc nL c0 own R) (pc : Nat) {x y : Nat} (hd : decode cc pc = .ok (.ishl, 1)) (hy : y < 32) (hx : x * 2 ^ y < 4294967296) (kk : Wc Γ k n (pc + 1) L (.int (nI (x * 2 ^ y)) :: st) ws) : Wc Γ k n pc L (.int (nI y) :: .int (nI x) :: st) ws := wc_ishl X pc hd (by rw [pk_shlN _ y (nx_s y hy) hx]; exact kk)
theorem wc_ishrN (X : Cx Γ l G cc nL c0 own R) (pc : Nat) {x y : Nat} (hd : decode cc pc = .ok (.ishr, 1)) (hy : y < 32) (hx : x < 2147483648) (kk : Wc Γ k n (pc + 1) L (.int (nI (x / 2 ^ y)) :: st) ws) : Wc Γ k n pc L (.int (nI y) :: .int (nI x) :: st) ws := wc_ishr X pc hd (by rw [pk_shrN hx _ y (nx_s y hy)]; exact kk)
theorem wc_icmp_eqN (X : Cx Γ l G cc nL c0 own R) (pc tgt : Nat) {x y : Nat} {off : Int} (hd : decode cc pc = .ok (.if_icmp .eq off, 3)) (ht : (pc : Int) + off = (tgt : Int)) (hx : x < 2147483648) (hy : y < 2147483648) (kt : x = y → Wc Γ k n tgt L st ws) (kf : x ≠ y → Wc Γ k n (pc + 3) L st ws) : Wc Γ k n pc L (.int (nI y) :: .int (nI x) :: st) ws := wc_icmp_eq X pc tgt hd ht (fun h => kt ((nI_eq hx hy).mp h)) (fun h => kf (fun e => h (by rw [e])))
theorem wc_icmp_neN (X : Cx Γ l G cc nL c0 own R) (pc tgt : Nat) {x y : Nat} {off : Int} (hd : decode cc pc = .ok (.if_icmp .ne off, 3)) (ht : (pc : Int) + off = (tgt : Int)) (hx : x < 2147483648) (hy : y < 2147483648) (kt : x ≠ y → Wc Γ k n tgt L st ws) (kf : x = y → Wc Γ k n (pc + 3) L st ws) : Wc Γ k n pc L (.int (nI y) :: .int (nI x) :: st) ws := wc_icmp_ne X pc tgt hd ht (fun h => kt (fun e => h (by rw [e]))) (fun h => kf ((nI_eq hx hy).mp h))
theorem wc_icmp_ltN (X : Cx Γ l G cc nL c0 own R) (pc tgt : Nat) {x y : Nat} {off : Int} (hd : decode cc pc = .ok (.if_icmp .lt off, 3)) (ht : (pc : Int) + off = (tgt : Int)) (hx : x < 2147483648) (hy : y < 2147483648) (kt : x < y → Wc Γ k n tgt L st ws) (kf : y ≤ x → Wc Γ k n (pc + 3) L st ws) : Wc Γ k n pc L (.int (nI y) :: .int (nI x) :: st) ws := wc_icmp_lt X pc tgt hd ht (fun h => kt ((nI_ltI hx hy).mp h)) (fun h => kf (Nat.le_of_not_lt fun e => h ((nI_ltI hx hy).mpr e)))
theorem wc_icmp_geN (X : Cx Γ l G cc nL c0 own R) (pc tgt : Nat) {x y : Nat} {off : Int} (hd : decode cc pc = .ok (.if_icmp .ge off, 3)) (ht : (pc : Int) + off = (tgt : Int)) (hx : x < 2147483648) (hy : y < 2147483648) (kt : y ≤ x → Wc Γ k n tgt L st ws) (kf : x < y → Wc Γ k n (pc + 3) L st ws) : Wc Γ k n pc L (.int (nI y) :: .int (nI x) :: st) ws := wc_icmp_ge X pc tgt hd ht (fun h => kt ((nI_leI hy hx).mp h)) (fun h => kf (Nat.lt_of_not_le fun e => h ((nI_leI hy hx).mpr e)))
theorem wc_icmp_gtN (X : Cx Γ l G cc nL c0 own R) (pc tgt : Nat) {x y : Nat} {off : Int} (hd : decode cc pc = .ok (.if_icmp .gt off, 3)) (ht : (pc : Int) + off = (tgt : Int)) (hx : x < 2147483648) (hy : y < 2147483648) (kt : y < x → Wc Γ k n tgt L st ws) (kf : x ≤ y → Wc Γ k n (pc + 3) L st ws) : Wc Γ k n pc L (.int (nI y) :: .int (nI x) :: st) ws := wc_icmp_gt X pc tgt hd ht (fun h => kt ((nI_ltI hy hx).mp h)) (fun h => kf (Nat.le_of_not_lt fun e => h ((nI_ltI hy hx).mpr e)))
theorem wc_icmp_leN (X : Cx Γ l G cc nL c0 own R) (pc tgt : Nat) {x y : Nat} {off : Int} (hd : decode cc pc = .ok (.if_icmp .le off, 3)) (ht : (pc : Int) + off = (tgt : Int)) (hx : x < 2147483648) (hy : y < 2147483648) (kt : x ≤ y → Wc Γ k n tgt L st ws) (kf : y < x → Wc Γ k n (pc + 3) L st ws) : Wc Γ k n pc L (.int (nI y) :: .int (nI x) :: st) ws := wc_icmp_le X pc tgt hd ht (fun h => kt ((nI_leI hx hy).mp h)) (fun h => kf (Nat.lt_of_not_le fun e => h ((nI_leI hx hy).mpr e)))
theorem wc_if_eqN (X : Cx Γ l G cc nL c0 own R) (pc tgt : Nat) {x : Nat} {off : Int} (hd : decode cc pc = .ok (.ifCond .eq off, 3)) (ht : (pc : Int) + off = (tgt : Int)) (hx : x < 2147483648) (kt : x = 0 → Wc Γ k n tgt L st ws) (kf : x ≠ 0 → Wc Γ k n (pc + 3) L st ws) : Wc Γ k n pc L (.int (nI x) :: st) ws := wc_if_eq X pc tgt hd ht (fun h => kt ((nI_eq hx (by decide)).mp (show nI x = nI 0 from h))) (fun h => kf (fun e => h (by rw [e]; rfl)))
theorem wc_if_neN (X : Cx Γ l G cc nL c0 own R) (pc tgt : Nat) {x : Nat} {off : Int} (hd : decode cc pc = .ok (.ifCond .ne off, 3)) (ht : (pc : Int) + off = (tgt : Int)) (hx : x < 2147483648) (kt : x ≠ 0 → Wc Γ k n tgt L st ws) (kf : x = 0 → Wc Γ k n (pc + 3) L st ws) : Wc Γ k n pc L (.int (nI x) :: st) ws := wc_if_ne X pc tgt hd ht (fun h => kt (fun e => h (by rw [e]; rfl))) (fun h => kf ((nI_eq hx (by decide)).mp (show nI x = nI 0 from h)))
theorem wc_if_eqB (X : Cx Γ l G cc nL c0 own R) (pc tgt : Nat) {b : Bool} {off : Int} (hd : decode cc pc = .ok (.ifCond .eq off, 3)) (ht : (pc : Int) + off = (tgt : Int)) (kt : b = false → Wc Γ k n tgt L st ws) (kf : b = true → Wc Γ k n (pc + 3) L st ws) : Wc Γ k n pc L (.int (b2i b) :: st) ws := wc_if_eq X pc tgt hd ht (fun h => kt (b2i_0 h)) (fun h => kf (b2i_1 h))
theorem wc_if_neB (X : Cx Γ l G cc nL c0 own R) (pc tgt : Nat) {b : Bool} {off : Int} (hd : decode cc pc = .ok (.ifCond .ne off, 3)) (ht : (pc : Int) + off = (tgt : Int)) (kt : b = true → Wc Γ k n tgt L st ws) (kf : b = false → Wc Γ k n (pc + 3) L st ws) : Wc Γ k n pc L (.int (b2i b) :: st) ws := wc_if_ne X pc tgt hd ht (fun h => kt (b2i_1 h)) (fun h => kf (b2i_0 h))
theorem wc_icmp_eqB (X : Cx Γ l G cc nL c0 own R) (pc tgt : Nat) {b d : Bool} {off : Int} (hd : decode cc pc = .ok (.if_icmp .eq off, 3)) (ht : (pc : Int) + off = (tgt : Int)) (kt : b = d → Wc Γ k n tgt L st ws) (kf : b ≠ d → Wc Γ k n (pc + 3) L st ws) : Wc Γ k n pc L (.int (b2i d) :: .int (b2i b) :: st) ws := wc_icmp_eq X pc tgt hd ht (fun h => kt (b2i_inj h)) (fun h => kf (fun e => h (by rw [e])))
theorem wc_icmp_neB (X : Cx Γ l G cc nL c0 own R) (pc tgt : Nat) {b d : Bool} {off : Int} (hd : decode cc pc = .ok (.if_icmp .ne off, 3)) (ht : (pc : Int) + off = (tgt : Int)) (kt : b ≠ d → Wc Γ k n tgt L st ws) (kf : b = d → Wc Γ k n (pc + 3) L st ws) : Wc Γ k n pc L (.int (b2i d) :: .int (b2i b) :: st) ws := wc_icmp_ne X pc tgt hd ht (fun h => kt (fun e => h (by rw [e]))) (fun h => kf (b2i_inj h))

-- classes, callees
def Kd (ci : Nat) (C : String) (T : u_T) (N : Nat) (ty : Nat → FieldType) : Prop := vwCl[ci]? = some (C, T, N) ∧ (∀ w ∈ u_ws C T N, w ∈ lw_good) ∧ (∀ k, k < N → parseFieldDescriptor (T k).2.2.1 = some (ty k)) ∧ (∀ a, a < N → ∀ b, b < N → a ≠ b → (T a).2.1 ≠ (T b).2.1)
def Yv (y : MethodName) (bytes : ByteArray) (maxL : Nat) (ret : Option FieldType) (C : String) (n0 : Nat) : Prop := Cond.instanceMethod y ∈ lw_good ∧ Cond.selects C y y ∈ lw_good ∧ Cond.initialized C ∈ lw_good ∧ Cond.code y bytes maxL ret ∈ lw_good ∧ y.cls = C ∧ y.cls ≠ "java/lang/invoke/MethodHandle" ∧ y.cls ≠ "java/lang/invoke/VarHandle" ∧ (parseMethodDescriptor y.desc).map (fun d => d.parameters.length) = some n0
def Ys (y : MethodName) (bytes : ByteArray) (maxL : Nat) (ret : Option FieldType) (n0 : Nat) : Prop := Cond.static y ∈ lw_good ∧ Cond.initialized y.cls ∈ lw_good ∧ Cond.code y bytes maxL ret ∈ lw_good ∧ y.cls ≠ "java/lang/invoke/MethodHandle" ∧ y.cls ≠ "java/lang/invoke/VarHandle" ∧ (parseMethodDescriptor y.desc).map (fun d => d.parameters.length) = some n0
def Yi (y : MethodName) (bytes : ByteArray) (maxL : Nat) (n0 : Nat) : Prop := Cond.instanceMethod y ∈ lw_good ∧ Cond.initialized y.cls ∈ lw_good ∧ Cond.code y bytes maxL none ∈ lw_good ∧ y.name = "<init>" ∧ y.cls ≠ "java/lang/invoke/MethodHandle" ∧ y.cls ≠ "java/lang/invoke/VarHandle" ∧ (parseMethodDescriptor y.desc).map (fun d => d.parameters.length) = some n0
theorem Yv.good {y : MethodName} {bytes : ByteArray} {maxL n0 idx : Nat} {ret : Option FieldType} {C own : String} {c1 : Cond} (h : Yv y bytes maxL ret C n0) (hl : Cond.methodLink own idx y ∈ lw_good) : GoodIn (c1 :: lw_good) (wsV own idx C y (Cond.code y bytes maxL ret :: lw_good)) := by
  refine lw_gi fun w hw => ?_
  rcases List.mem_append.mp hw with hw | hw
  · simp only [List.mem_cons, List.not_mem_nil, or_false] at hw
    rcases hw with rfl | rfl | rfl | rfl
    · exact hl
    · exact h.1
    · exact h.2.1
    · exact h.2.2.1
  · rcases List.mem_cons.mp hw with rfl | hw
    · exact h.2.2.2.1
    · exact hw
theorem Ys.good {y : MethodName} {bytes : ByteArray} {maxL n0 idx : Nat} {ret : Option FieldType} {own : String} {c1 : Cond} (h : Ys y bytes maxL ret n0) (hl : Cond.methodLink own idx y ∈ lw_good) : GoodIn (c1 :: lw_good) (va_wsS own idx y (Cond.code y bytes maxL ret :: lw_good)) := by
  refine lw_gi fun w hw => ?_
  rcases List.mem_append.mp hw with hw | hw
  · simp only [List.mem_cons, List.not_mem_nil, or_false] at hw
    rcases hw with rfl | rfl | rfl
    · exact hl
    · exact h.1
    · exact h.2.1
  · rcases List.mem_cons.mp hw with rfl | hw
    · exact h.2.2.1
    · exact hw
theorem lw_good1 {y : MethodName} {bytes : ByteArray} {maxL : Nat} {ret : Option FieldType} {c1 : Cond} (h : Cond.code y bytes maxL ret ∈ lw_good) : GoodIn (c1 :: lw_good) (Cond.code y bytes maxL ret :: lw_good) := by
  refine lw_gi fun w hw => ?_
  rcases List.mem_cons.mp hw with rfl | hw
  · exact h
  · exact hw
-- fields
theorem wc_get (X : Cx Γ l G cc nL c0 own R) (pc q0 f : Nat) {a ci N idx : Nat} {C : String} {T : u_T} {ty : Nat → FieldType} {fs : List Value} {v : Value} (K : Kd ci C T N ty) (he : ws[q0]? = some (a, .inr (ci, fs))) (hf : f < N) (hlink : Cond.fieldLink own idx (T f).1 (T f).2.1 (T f).2.2.1 ∈ lw_good) (hv : fs[f]? = some v) (hd : decode cc pc = .ok (.getfield idx, 3)) (kk : Wc Γ k n (pc + 3) L (v :: st) ws) : Wc Γ k n pc L (.ref a :: st) ws :=
  fun H locs ls hJ hl => va_get X.ex X.co X.ts (fun w h => List.mem_cons_of_mem _ (K.2.1 w h)) X.ow X.kk (X.jp hJ) q0 he K.1 f hf (X.ts _ (List.mem_cons_of_mem _ hlink)) (fun _ h => h) hv hd (kk H locs ls hJ hl)
theorem wc_put (X : Cx Γ l G cc nL c0 own R) (Y : Cw Γ G) (pc q0 f : Nat) {a ci N idx : Nat} {C : String} {T : u_T} {ty : Nat → FieldType} {fs : List Value} {v : Value} (K : Kd ci C T N ty) (he : ws[q0]? = some (a, .inr (ci, fs))) (hf : f < N) (hlink : Cond.fieldLink own idx (T f).1 (T f).2.1 (T f).2.2.1 ∈ lw_good) (hfin : (T f).2.2.2 = false) (hn : narrow (ty f) v = v) (hfit : fits (ty f) v = true) (hfl : f < fs.length) (hws : ws.set q0 (a, .inr (ci, fs.set f v)) = ws') (hd : decode cc pc = .ok (.putfield idx, 3)) (kk : Wc Γ k n (pc + 3) L st ws') : Wc Γ k n pc L (v :: .ref a :: st) ws := by
  intro H locs ls hJ hl
  have hJ' := hJ
  rw [Y] at hJ'
  subst hws
  exact va_put X.ex X.co X.ts (fun w h => List.mem_cons_of_mem _ (K.2.1 w h)) ty K.2.2.1 K.2.2.2 X.ow X.kk hJ'.1 hJ'.2.1 hJ'.2.2 q0 he K.1 f hf (X.ts _ (List.mem_cons_of_mem _ hlink)) (fun _ h => h) hfin (K.2.2.1 f hf) hn hfit hfl hd (fun H1 locs1 hP hD hS => kk H1 locs1 ls (by rw [Y]; exact ⟨hP, hD, hS⟩) hl)
-- arrays
theorem wc_ialdN (X : Cx Γ l G cc nL c0 own R) (pc q0 : Nat) {a N j : Nat} {f : Nat → Int32} (he : ws[q0]? = some (aI G a N f)) (hj : j < N) (hN : N < 2147483648) (hd : decode cc pc = .ok (.iaload, 1)) (kk : Wc Γ k n (pc + 1) L (.int (f j) :: st) ws) : Wc Γ k n pc L (.int (nI j) :: .ref a :: st) ws :=
  fun H locs ls hJ hl => va_iald X.ex X.co X.kk (X.jp hJ) q0 0 he rfl (vp_in_nI hj hN) hd (by rw [nI_clamp (Nat.lt_trans hj hN)]; exact kk H locs ls hJ hl)
theorem wc_zaldN (X : Cx Γ l G cc nL c0 own R) (pc q0 : Nat) {a N j : Nat} {f : Nat → Int32} (he : ws[q0]? = some (aZ G a N f)) (hj : j < N) (hN : N < 2147483648) (hd : decode cc pc = .ok (.baload, 1)) (kk : Wc Γ k n (pc + 1) L (.int (f j) :: st) ws) : Wc Γ k n pc L (.int (nI j) :: .ref a :: st) ws :=
  fun H locs ls hJ hl => va_zald X.ex X.co X.kk (X.jp hJ) q0 1 he rfl (vp_in_nI hj hN) hd (by rw [nI_clamp (Nat.lt_trans hj hN)]; exact kk H locs ls hJ hl)
theorem wc_aaldN (X : Cx Γ l G cc nL c0 own R) (pc q0 : Nat) {a N j : Nat} {f : Nat → Option Nat} (he : ws[q0]? = some (aO G a N f)) (hj : j < N) (hN : N < 2147483648) (hd : decode cc pc = .ok (.aaload, 1)) (kk : Wc Γ k n (pc + 1) L (va_rf (f j) :: st) ws) : Wc Γ k n pc L (.int (nI j) :: .ref a :: st) ws :=
  fun H locs ls hJ hl => va_aldq X.ex X.co X.kk (X.jp hJ) q0 2 he rfl (vp_in_nI hj hN) hd (by rw [nI_clamp (Nat.lt_trans hj hN)]; exact kk H locs ls hJ hl)
theorem wc_alenI (X : Cx Γ l G cc nL c0 own R) (pc q0 : Nat) {a N : Nat} {f : Nat → Int32} (he : ws[q0]? = some (aI G a N f)) (hd : decode cc pc = .ok (.arraylength, 1)) (kk : Wc Γ k n (pc + 1) L (.int (nI N) :: st) ws) : Wc Γ k n pc L (.ref a :: st) ws :=
  fun H locs ls hJ hl => va_alen X.ex X.co X.kk (X.jp hJ) q0 0 he rfl rfl hd (kk H locs ls hJ hl)
theorem wc_iastN (X : Cx Γ l G cc nL c0 own R) (Y : Cw Γ G) (pc q0 : Nat) {a N j : Nat} {f : Nat → Int32} {x : Int32} (he : ws[q0]? = some (aI G a N f)) (hj : j < N) (hN : N < 2147483648) (hws : ws.set q0 (aI G a N (upd f j x)) = ws') (hd : decode cc pc = .ok (.iastore, 1)) (kk : Wc Γ k n (pc + 1) L st ws') : Wc Γ k n pc L (.int x :: .int (nI j) :: .ref a :: st) ws := by
  intro H locs ls hJ hl
  have hJ' := hJ
  rw [Y] at hJ'
  subst hws
  refine va_iast X.ex X.co X.kk hJ'.1 hJ'.2.1 hJ'.2.2 q0 0 he rfl (vp_in_nI hj hN) hd ?_
  rw [nI_clamp (Nat.lt_trans hj hN)]
  exact fun H1 locs1 hP hD hS => kk H1 locs1 ls (by rw [Y]; exact ⟨hP, hD, hS⟩) hl
theorem wc_zastN (X : Cx Γ l G cc nL c0 own R) (Y : Cw Γ G) (pc q0 : Nat) {a N j : Nat} {f : Nat → Int32} {b : Bool} (he : ws[q0]? = some (aZ G a N f)) (hj : j < N) (hN : N < 2147483648) (hws : ws.set q0 (aZ G a N (upd f j (b2i b))) = ws') (hd : decode cc pc = .ok (.bastore, 1)) (kk : Wc Γ k n (pc + 1) L st ws') : Wc Γ k n pc L (.int (b2i b) :: .int (nI j) :: .ref a :: st) ws := by
  intro H locs ls hJ hl
  have hJ' := hJ
  rw [Y] at hJ'
  subst hws
  refine va_zast X.ex X.co X.kk hJ'.1 hJ'.2.1 hJ'.2.2 q0 1 he rfl (vp_in_nI hj hN) hd ?_
  rw [nI_clamp (Nat.lt_trans hj hN), b2i_vn]
  exact fun H1 locs1 hP hD hS => kk H1 locs1 ls (by rw [Y]; exact ⟨hP, hD, hS⟩) hl
/-- a method that only reads: it answers v, the heap stays -/
def RM (l : Launch) (G : GG) (y : MethodName) (c0 : Cond) (rm : Room) (av : List Value) (w0 : va_W) (v : Value) : Prop :=
  Met l y (c0 :: lw_good) rm (va_Pc av (fun U => va_P G.1 vwCl w0 U.heap ∧ va_K G.1 vwCl (tyK G) U ∧ Zn G (fun q => U.heap.size ≤ q) U U.heap)) (fun _ st oc t => oc = .returned (some v) ∧ t.heap = st.heap) 0 0 (fun _ => False)
/-- a method that writes its cells w0 -/
def MM (l : Launch) (G : GG) (y : MethodName) (c0 : Cond) (rm : Room) (av : List Value) (w0 : va_W) (post : Option Value → va_W → Prop) (mc ms : Nat) : Prop :=
  ∀ sz : Nat, Met l y (c0 :: lw_good) rm (va_Pc av (fun U => U.heap.size = sz ∧ va_P G.1 vwCl w0 U.heap ∧ va_K G.1 vwCl (tyK G) U ∧ va_D (fun _ => True) w0 ∧ Zn G (va_A w0 sz) U U.heap)) (fun _ st oc t => (∃ (v : Option Value) (w : va_W), oc = .returned v ∧ post v w ∧ va_P G.1 vwCl w t.heap ∧ va_D (va_A w0 sz) w) ∧ va_F (va_A w0 sz) st t) mc ms (va_A w0 sz)
theorem Cx.znH (X : Cx Γ l G cc nL c0 own R) {H : Heap} {locs : List Loc} (hJ : gJ Γ ws H locs) {B : Nat → Prop} (hB : ∀ q, B q → gF Γ q) {U : State} (hU : U.heap = H) (hW : (gS Γ).WarmedH U.vm) : Zn G B U U.heap := by
  rw [hU]
  exact ((X.zn.kept (X.js hJ).2.1).narrow hB).warm hW
theorem RM.blind {y : MethodName} {av : List Value} {w0 : va_W} : FrameBlind (va_Pc av (fun U => va_P G.1 vwCl w0 U.heap ∧ va_K G.1 vwCl (tyK G) U ∧ Zn G (fun q => U.heap.size ≤ q) U U.heap)) := fun a U g mk q => ⟨q.1, q.2.1, va_K.moved (u := U) (U := U.calling g mk a) (Vm.Alike.refl U.vm) q.2.2.1, q.2.2.2.call⟩
theorem MM.blind {av : List Value} {w0 : va_W} {sz : Nat} : FrameBlind (va_Pc av (fun U => U.heap.size = sz ∧ va_P G.1 vwCl w0 U.heap ∧ va_K G.1 vwCl (tyK G) U ∧ va_D (fun _ => True) w0 ∧ Zn G (va_A w0 sz) U U.heap)) := fun a U g mk q => ⟨q.1, q.2.1, q.2.2.1, va_K.moved (u := U) (U := U.calling g mk a) (Vm.Alike.refl U.vm) q.2.2.2.1, q.2.2.2.2.1, q.2.2.2.2.2.call⟩
theorem RM.pre (X : Cx Γ l G cc nL c0 own R) {H : Heap} {locs : List Loc} (hJ : gJ Γ ws H locs) {w0 : va_W} {is : List Nat} (hw : is.filterMap (fun i => ws[i]?) = w0) {av : List Value} {U : State} (hU : U.heap = H) (hW : (gS Γ).WarmedH U.vm) : va_Pc av (fun U => va_P G.1 vwCl w0 U.heap ∧ va_K G.1 vwCl (tyK G) U ∧ Zn G (fun q => U.heap.size ≤ q) U U.heap) av.toArray U :=
  ⟨rfl, by rw [hU]; exact (X.jp hJ).sub is hw, va_K.moved hW.alike X.kk, X.znH hJ (fun q h => X.fr q (Nat.le_trans (X.js hJ).1 (by rw [← hU]; exact h))) hU hW⟩
theorem wc_ret {H : Heap} {locs : List Loc} {g : JFrame} {v : Value} (hr : CallRun (gP Γ) (gL Γ) (gE Γ) (gR Γ) (gS Γ) (gM Γ) (gA Γ) (gB Γ) (gMe Γ) (gC Γ) H locs k n 0 0 g st (fun s0 oc t => oc = .returned (some v) ∧ t.heap = s0.heap) (fun _ => False)) (kk : W (gP Γ) (gL Γ) (gE Γ) (gR Γ) (gS Γ) (gM Γ) (gA Γ) (gB Γ) (gMe Γ) (gC Γ) H locs k n (gQ Γ) { g with pc := g.pc + 3, stack := v :: st }) : W (gP Γ) (gL Γ) (gE Γ) (gR Γ) (gS Γ) (gM Γ) (gA Γ) (gB Γ) (gMe Γ) (gC Γ) H locs k n (gQ Γ) g := by
  intro T hT X
  obtain ⟨v', st₀, t, T', L, h0, X', hL, e1, ⟨hv, hh⟩, hs⟩ := hr T hT X
  cases hv
  obtain ⟨t2, a1, b1⟩ := kk T' (by rw [e1, hh, h0]) (Stand.forget X' (fun q h => (hL q h).elim))
  exact ⟨t2, hs t2 a1, b1⟩
theorem wc_callV (X : Cx Γ l G cc nL c0 own R) (pc : Nat) (is : List Nat) (q0 : Nat) {y : MethodName} {bytes : ByteArray} {maxL n0 idx b ci N : Nat} {ret : Option FieldType} {C : String} {T : u_T} {ty : Nat → FieldType} {fs : List Value} {rm : Room} {As st0 : List Value} {w0 : va_W} {v : Value} (hM : RM l G y (Cond.code y bytes maxL ret) rm (.ref b :: As) w0 v) (hy : Yv y bytes maxL ret C n0) (K : Kd ci C T N ty) (he : ws[q0]? = some (b, .inr (ci, fs))) (hw0 : is.filterMap (fun i => ws[i]?) = w0) (hlink : Cond.methodLink own idx y ∈ lw_good) (hrm : rm.cells = 0 ∧ rm.slots = 0) (hR : Nat.ble (rm.frames + 1) R.frames = true ∧ Nat.ble (8 + (maxL + 11) + rm.locals) R.locals = true) (hkn : Nat.ble k R.cells = true ∧ Nat.ble n R.slots = true) (hn : As.length = n0) (hst : st0 = As.reverse ++ .ref b :: st) (hsum : Nat.ble (st.map fun v => v.category).sum 8 = true) (hd : decode cc pc = .ok (.invokevirtual idx, 3)) (kk : Wc Γ k n (pc + 3) L (v :: st) ws) : Wc Γ k n pc L st0 ws := by
  intro H locs ls hJ hl
  have hla := X.la
  have hro := X.ro
  subst hla; subst hro
  refine wc_ret (W.runV (As := As) (rest := st) ⟨X.ex, X.co, X.ml, X.ow, X.ts⟩ hM (cwV n0 X.ts (hy.good hlink) rfl hrm.1 hrm.2 hy.2.2.2.2 ⟨Nat.le_of_ble_eq_true hR.1, Nat.le_of_ble_eq_true hR.2⟩) ⟨RM.blind (y := y), va_recv X.kk (X.jp hJ) K.1 he, fun U hU hW => RM.pre X hJ hw0 hU hW⟩ rfl hn (by rw [← X.ml]; exact hl.1) hst (lv_room (Nat.le_of_ble_eq_true hsum)) hd ⟨Nat.le_of_ble_eq_true hkn.1, Nat.le_of_ble_eq_true hkn.2⟩) (kk H locs ls hJ hl)
theorem wc_callS (X : Cx Γ l G cc nL c0 own R) (pc : Nat) (is : List Nat) {y : MethodName} {bytes : ByteArray} {maxL n0 idx : Nat} {ret : Option FieldType} {rm : Room} {As st0 : List Value} {w0 : va_W} {v : Value} (hM : RM l G y (Cond.code y bytes maxL ret) rm As w0 v) (hy : Ys y bytes maxL ret n0) (hw0 : is.filterMap (fun i => ws[i]?) = w0) (hlink : Cond.methodLink own idx y ∈ lw_good) (hrm : rm.cells = 0 ∧ rm.slots = 0) (hR : Nat.ble (rm.frames + 1) R.frames = true ∧ Nat.ble (8 + (maxL + 11) + rm.locals) R.locals = true) (hkn : Nat.ble k R.cells = true ∧ Nat.ble n R.slots = true) (hn : As.length = n0) (hst : st0 = As.reverse ++ st) (hsum : Nat.ble (st.map fun v => v.category).sum 8 = true) (hd : decode cc pc = .ok (.invokestatic idx, 3)) (kk : Wc Γ k n (pc + 3) L (v :: st) ws) : Wc Γ k n pc L st0 ws := by
  intro H locs ls hJ hl
  have hla := X.la
  have hro := X.ro
  subst hla; subst hro
  refine wc_ret (W.runS (As := As) (rest := st) ⟨X.ex, X.co, X.ml, X.ow, X.ts⟩ hM (va_cwS n0 X.ts (hy.good hlink) rfl hrm.1 hrm.2 hy.2.2.2 ⟨Nat.le_of_ble_eq_true hR.1, Nat.le_of_ble_eq_true hR.2⟩) ⟨RM.blind (y := y), fun U hU hW => RM.pre X hJ hw0 hU hW⟩ rfl hn (by rw [← X.ml]; exact hl.1) hst (lv_room (Nat.le_of_ble_eq_true hsum)) hd ⟨Nat.le_of_ble_eq_true hkn.1, Nat.le_of_ble_eq_true hkn.2⟩) (kk H locs ls hJ hl)
theorem wc_shl1 (X : Cx Γ l G cc nL c0 own R) (pc : Nat) {y : Nat} (hd : decode cc pc = .ok (.ishl, 1)) (hy : y < 32) (kk : Wc Γ k n (pc + 1) L (.int (nI (2 ^ y)) :: st) ws) : Wc Γ k n pc L (.int (nI y) :: .int (nI 1) :: st) ws := wc_ishlN X pc hd hy (by rw [Nat.one_mul]; exact Nat.pow_lt_pow_right (by decide) hy) (by rw [Nat.one_mul]; exact kk)
theorem wc_tsI (X : Cx Γ l G cc nL c0 own R) (pc tgt j : Nat) (v : Int32) {x : Int32} {dflt lo hi off : Int} {offs : Array Int} {len : Nat} (hd : decode cc pc = .ok (.tableswitch dflt lo hi offs, len)) (hx : x = v) (h1 : ¬ v.toInt < lo) (h2 : ¬ hi < v.toInt) (ho : offs[(v.toInt - lo).toNat]? = some off) (ht : (pc : Int) + off = (tgt : Int)) (kk : Wc Γ k n tgt L st ws) : Wc Γ k n pc L (.int x :: st) ws := by
  subst hx
  exact fun H locs ls hJ hl => lv_tableIn X.ex X.co hd h1 h2 ho ht (kk H locs ls hJ hl)
theorem wc_tsO (X : Cx Γ l G cc nL c0 own R) (pc tgt : Nat) {x : Int32} {dflt lo hi : Int} {offs : Array Int} {len : Nat} (hd : decode cc pc = .ok (.tableswitch dflt lo hi offs, len)) (h : x.toInt < lo ∨ hi < x.toInt) (ht : (pc : Int) + dflt = (tgt : Int)) (kk : Wc Γ k n tgt L st ws) : Wc Γ k n pc L (.int x :: st) ws := fun H locs ls hJ hl => lv_tableOut X.ex X.co hd h ht (kk H locs ls hJ hl)
-- tables
theorem wc_getTENS (X : Cx Γ l G cc nL c0 RX6 R) (pc : Nat) (hd : decode cc pc = .ok (.getstatic 51, 3)) (kk : Wc Γ k n (pc + 3) L (.ref G.2.2.2.2.1 :: st) ws) : Wc Γ k n pc L st ws := fun H locs ls hJ hl => va_getsN X.ex X.co X.zn.1 (X.js hJ) X.ow (X.zn.2.2.2.2.1.use rfl) (fun _ h => h) hd (kk H locs ls hJ hl)
theorem wc_tensLen (X : Cx Γ l G cc nL c0 own R) (pc : Nat) (hd : decode cc pc = .ok (.arraylength, 1)) (kk : Wc Γ k n (pc + 1) L (.int (nI 9) :: st) ws) : Wc Γ k n pc L (.ref G.2.2.2.2.1 :: st) ws := fun H locs ls hJ hl => va_tlen X.ex X.co X.zn.2.1 (X.js hJ) rfl hd (kk H locs ls hJ hl)
theorem wc_tensAt (X : Cx Γ l G cc nL c0 own R) (pc : Nat) {j : Nat} (hj : j < 9) (hd : decode cc pc = .ok (.iaload, 1)) (kk : Wc Γ k n (pc + 1) L (.int (nI (10 ^ j)) :: st) ws) : Wc Γ k n pc L (.int (nI j) :: .ref G.2.2.2.2.1 :: st) ws := fun H locs ls hJ hl => va_ti X.ex X.co X.zn.2.1 (X.js hJ) (vp_in_nI hj (by decide)) (by rw [nI_clamp (by omega)]; rfl) hd (kk H locs ls hJ hl)
theorem wc_getDOINGS (X : Cx Γ l G cc nL c0 RX10 R) (pc : Nat) {idx : Nat} (hlink : Cond.fieldLink RX10 idx RX10 "DOINGS" "[J" ∈ lw_good) (hd : decode cc pc = .ok (.getstatic idx, 3)) (kk : Wc Γ k n (pc + 3) L (.ref G.2.2.2.2.2 :: st) ws) : Wc Γ k n pc L st ws := fun H locs ls hJ hl => va_gets X.ex X.co X.zn.2.2.1 (X.js hJ) X.ow (X.ts _ (List.mem_cons_of_mem _ hlink)) (fun _ h => h) hd (kk H locs ls hJ hl)
theorem wc_doAt (X : Cx Γ l G cc nL c0 own R) (pc : Nat) {j : Nat} (hj : j < 4) (hd : decode cc pc = .ok (.laload, 1)) (kk : Wc Γ k n (pc + 1) L (.long (lN (100000 ^ j)) :: st) ws) : Wc Γ k n pc L (.int (nI j) :: .ref G.2.2.2.2.2 :: st) ws := fun H locs ls hJ hl => va_tl X.ex X.co X.zn.2.2.2.1 (X.js hJ) (vp_in_nI hj (by decide)) (by rw [nI_clamp (by omega)]; rfl) hd (kk H locs ls hJ hl)
end WCX

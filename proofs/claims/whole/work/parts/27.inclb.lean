def Gw (g0 : Nat → Nat) (n0 : Nat) (g1 : Nat → Nat) (n1 : Nat) (mt row wd : Nat → Nat) (n : Nat) (row0 : Nat → Nat) (m : Nat) : Prop := Ic g0 n0 g1 n1 mt row wd n ∧ m ≤ n ∧ ∀ i, i < m → row i = row0 i
section INB
variable {g0 : Nat → Nat} {n0 : Nat} {g1 : Nat → Nat} {n1 : Nat} {mt row wd : Nat → Nat} {n : Nat} {row0 : Nat → Nat} {m : Nat}
theorem Gw_new (h : Gw g0 n0 g1 n1 mt row wd n row0 m) (hg0 : ∀ j, g0 j < 2 ^ n0) (hg1 : ∀ j, g1 j < 2 ^ 5) (hn0 : 1 ≤ n0) {k c q pr : Nat} (hk : k < m) (hpr : pr = row0 k) (h1 : 1 ≤ c) (h2 : c ≤ 2) (hq : q < 4) (hb : Nat.testBit (g0 (pr / 32 * 2 + c - 1)) q = true) (hn : Nat.testBit (mt q) (stepN g1 (pr % 32) c n1) = false) :
    Gw g0 n0 g1 n1 (up mt q (mt q ||| 2 ^ stepN g1 (pr % 32) c n1)) (up row n (q * 32 + stepN g1 (pr % 32) c n1)) (up wd n (2 * wd k + c)) (n + 1) row0 m := by
  obtain ⟨a, b, d⟩ := h
  have e : row k = pr := by rw [d k hk, hpr]
  have st := Ic_step a hg0 hn0 (show k < n by omega) h1 h2 (by rw [e]; exact hb)
  rw [e] at st
  refine ⟨Ic_new a hq (stepN_ltP (k := 5) hg1 _ _ _) hn st.1 st.2, by omega, fun i hi => ?_⟩
  rw [up_n _ _ (by omega)]
  exact d i hi
theorem Cl_mono {row2 : Nat → Nat} {n2 pr c q : Nat} (h : Cl g0 g1 n1 row n pr c q) (hn : n ≤ n2) (hr : ∀ i, i < n → row2 i = row i) : Cl g0 g1 n1 row2 n2 pr c q := fun hb => by
  obtain ⟨j, hj, e⟩ := h hb
  exact ⟨j, by omega, by rw [hr j hj]; exact e⟩
theorem Cl_up {pr c q v : Nat} (h : Cl g0 g1 n1 row n pr c q) : Cl g0 g1 n1 (up row n v) (n + 1) pr c q := Cl_mono h (by omega) (fun i hi => up_n _ _ (by omega))
theorem Cl_off {pr c q : Nat} (h : Nat.testBit (g0 (pr / 32 * 2 + c - 1)) q = false) : Cl g0 g1 n1 row n pr c q := fun hb => by rw [h] at hb; cases hb
theorem Cl_zero {pr c q : Nat} (h : g0 (pr / 32 * 2 + c - 1) = 0) : Cl g0 g1 n1 row n pr c q := Cl_off (by rw [h, Nat.zero_testBit])
theorem Cl_old (h : Ic g0 n0 g1 n1 mt row wd n) (hg1 : ∀ j, g1 j < 2 ^ 5) {pr c q : Nat} (hq : q < 4) (hb : Nat.testBit (mt q) (stepN g1 (pr % 32) c n1) = true) : Cl g0 g1 n1 row n pr c q := fun _ => (h.1 q _ hq (stepN_ltP (k := 5) hg1 _ _ _)).mp hb
theorem Cl_here {pr c q : Nat} : Cl g0 g1 n1 (up row n (q * 32 + stepN g1 (pr % 32) c n1)) (n + 1) pr c q := fun _ => ⟨n, by omega, up_s _ _ _⟩
theorem Ic_le (h : Ic g0 n0 g1 n1 mt row wd n) : n ≤ 128 := pigeon 128 row n h.2.1 h.2.2.1
end INB
theorem lt4_ext {Q : Nat → Nat → Prop} {c : Nat} (h : ∀ b q, 1 ≤ b → b < c → q < 4 → Q b q) (hc : ∀ q, q < 4 → Q c q) : ∀ b q, 1 ≤ b → b < c + 1 → q < 4 → Q b q := fun b q h1 h2 h3 => by
  rcases Nat.lt_or_ge b c with z | z
  · exact h b q h1 z h3
  · rw [show b = c by omega]; exact hc q h3
theorem inc_cl {g0 : Nat → Nat} {n0 : Nat} {g1 : Nat → Nat} {n1 : Nat} {r2 mt row wd : Nat → Nat} {n k n2 : Nat} (hk : k < n2) (h : ∀ i c q, i < k → 1 ≤ c → c ≤ 2 → q < 4 → Cl g0 g1 n1 r2 n2 (r2 i) c q) (hG : Gw g0 n0 g1 n1 mt row wd n r2 n2) (hc : ∀ c q, 1 ≤ c → c ≤ 2 → q < 4 → Cl g0 g1 n1 row n (r2 k) c q) : ∀ i c q, i < k + 1 → 1 ≤ c → c ≤ 2 → q < 4 → Cl g0 g1 n1 row n (row i) c q := fun i c q h1 h2 h3 h4 => by
  rw [hG.2.2 i (by omega)]
  rcases Nat.lt_or_ge i k with z | z
  · exact Cl_mono (h i c q z h2 h3 h4) hG.2.1 hG.2.2
  · rw [show i = k by omega]
    exact hc c q h2 h3 h4
theorem inc_nb {g0 : Nat → Nat} {n0 : Nat} {g1 : Nat → Nat} {n1 e0 E : Nat} {r2 mt row wd : Nat → Nat} {n k n2 : Nat} (hk : k < n2) (hG : Gw g0 n0 g1 n1 mt row wd n r2 n2) (h : ∀ i, i < k → (decide (r2 i / 32 < n0) && Nat.testBit e0 (r2 i / 32) && (r2 i % 32 &&& E == 0)) = false) (hb : (decide (r2 k / 32 < n0) && Nat.testBit e0 (r2 k / 32) && (r2 k % 32 &&& E == 0)) = false) : ∀ i, i < k + 1 → (decide (row i / 32 < n0) && Nat.testBit e0 (row i / 32) && (row i % 32 &&& E == 0)) = false := fun i hi => by
  rw [hG.2.2 i (by omega)]
  rcases Nat.lt_or_ge i k with z | z
  · exact h i z
  · rw [show i = k by omega]
    exact hb

section RNE
variable {F : Nat → Nat → Bool} {md e0 e1 : Nat} {g0 g1 : Nat → Nat} {n0 n1 : Nat} {s t v : Sr} {k kb : Nat}
abbrev sZ (s : Sr) : Sr := (0, srO s, srM s, srP s, srL s, srG s, 0, 0, 0, none)
theorem rn_off (ht : t = runS F md e0 e1 g0 g1 n1 s k) (hg : srG t k = true) : t = runS F md e0 e1 g0 g1 n1 s (k + 1) := by
  rw [runS, ← ht, rnS_off (by rw [hg]; simp)]
theorem rn_on (ht : t = runS F md e0 e1 g0 g1 n1 s k) (hb : srB t = none) (hk : k < srN t) (hg : srG t k = false) (hv : v = goS F md e0 e1 g0 g1 n1 (srO t k) (srM t k) k (tkS t) 8) : v = runS F md e0 e1 g0 g1 n1 s (k + 1) := by
  rw [runS, ← ht, rnS_on (by rw [hb]; rfl) hk hg, hv]
theorem rn_end1 (ht : t = runS F md e0 e1 g0 g1 n1 s k) (hk : k ≤ 128) (h : srN t ≤ k) : t = runS F md e0 e1 g0 g1 n1 s 128 := by
  have := run_end (F := F) (md := md) (e0 := e0) (e1 := e1) (g0 := g0) (g1 := g1) (n1 := n1) (s := s) (i := k) (Or.inl (by rw [← ht]; exact h)) (128 - k)
  rw [show k + (128 - k) = 128 by omega] at this
  rw [this, ht]
theorem rn_end2 (ht : t = runS F md e0 e1 g0 g1 n1 s k) (hk : k ≤ 128) (h : srB t = some kb) : t = runS F md e0 e1 g0 g1 n1 s 128 := by
  have := run_end (F := F) (md := md) (e0 := e0) (e1 := e1) (g0 := g0) (g1 := g1) (n1 := n1) (s := s) (i := k) (Or.inr (by rw [← ht, h]; rfl)) (128 - k)
  rw [show k + (128 - k) = 128 by omega] at this
  rw [this, ht]
end RNE

/-! SEARCH: the pair of a number among those that are kept -/
def stay (s : Sr) (k : Nat) : Nat := cnt (fun j => !srG s j) k
def kpK (s : Sr) (pr : Int32) : Nat → Option Nat
  | 0 => none
  | k + 1 => if (kpK s pr k).isSome = true then kpK s pr k else if (!srG s k && decide (nI (stay s k) = pr)) = true then some k else none
def kpR (s : Sr) (pr : Int32) : Int32 := match kpK s pr (srN s) with
  | some j => nI (100 * srO s j + srM s j)
  | none => -1
section KPT
variable {s t : Sr} {pr : Int32} {k : Nat}
theorem stay_off (h : srG s k = true) : stay s k = stay s (k + 1) := by
  show _ = cnt _ k + (!srG s k).toNat
  rw [h]; rfl
theorem stay_on (h : srG s k = false) : stay s k + 1 = stay s (k + 1) := by
  show _ = cnt _ k + (!srG s k).toNat
  rw [h]; rfl
theorem kp_off (h0 : kpK s pr k = none) (h : srG s k = true) : kpK s pr (k + 1) = none := by
  rw [kpK, h0, h]; rfl
theorem kp_ne (h0 : kpK s pr k = none) (h : ¬ nI (stay s k) = pr) : kpK s pr (k + 1) = none := by
  rw [kpK, h0, decide_eq_false h, Bool.and_false]; rfl
theorem kp_on (h0 : kpK s pr k = none) (hg : srG s k = false) (h : nI (stay s k) = pr) : kpK s pr (k + 1) = some k := by
  rw [kpK, h0, decide_eq_true h, hg]; rfl
theorem kp_go {j : Nat} (h : kpK s pr k = some j) : ∀ m, kpK s pr (k + m) = some j := by
  intro m
  induction m with
  | zero => exact h
  | succ m ih =>
    show kpK s pr (k + m + 1) = some j
    rw [kpK, ih]; rfl
theorem kpR_some (hk : k < srN s) (h : kpK s pr (k + 1) = some k) : nI (100 * srO s k + srM s k) = kpR s pr := by
  have := kp_go h (srN s - (k + 1))
  rw [show k + 1 + (srN s - (k + 1)) = srN s by omega] at this
  unfold kpR
  rw [this]
theorem kpR_none (hk : k = srN s) (h : kpK s pr k = none) : -1 = kpR s pr := by
  unfold kpR
  rw [← hk, h]
theorem stay_le (s : Sr) (k : Nat) : stay s k ≤ k := cnt_all _ k
end KPT

def spTell (b : Bool) (len : Nat) (g : Nat → Nat) (k : Nat) : Int32 := if b && decide (k ≤ len) then (if k = 0 then nI len else nI (g (len - k))) else -9
def trN (g0 : Nat → Nat) (n0 : Nat) (g1 : Nat → Nat) (n1 v : Nat) : Nat := nodeS g0 n0 v + 16 * nodeS g1 n1 v
theorem tr_z {a b : Nat} (h : a < 16) : (a + 16 * b) % 16 = a := by omega
theorem tr_o {a b : Nat} (h : a < 16) : (a + 16 * b) / 16 = b := by omega
theorem nodeS_lt {g : Nat → Nat} {k : Nat} (hk : 1 ≤ k) (hg : ∀ j, g j < 2 ^ k) (n v : Nat) : nodeS g n v < 2 ^ k := nodeF_lt hk hg n 10 v
theorem grow_bk {h F : Nat → Nat} {v x : Nat} (hh : ∀ u, 1 ≤ u → u < v → h u = F u) (hx : x = F v) : ∀ u, 1 ≤ u → u < v + 1 → up h v x u = F u := fun u h1 h2 => by
  unfold up
  by_cases e : u = v
  · rw [if_pos e, e, hx]
  · rw [if_neg e]
    exact hh u h1 (by omega)
theorem p9 {k : Nat} (h : k ≤ 9) : 2 * 2 ^ k ≤ 1024 := Nat.le_trans (Nat.mul_le_mul_left 2 (Nat.pow_le_pow_right (by decide) h)) (by decide)
/-- the row of acts, the first one forgotten -/
def shAct (r : Nat → Nat) (a : Nat) : Nat → Nat := fun j => if j < 13 then r (j + 1) else a
theorem shAct_ext {r : Nat → Nat} {a j : Nat} (h : j < 14) : upd (va_cpy (nF r) (nF r) 1 0 13) 13 (nI a) j = nF (shAct r a) j := by
  unfold upd nF shAct
  by_cases e : j = 13
  · rw [if_pos e, if_neg (by omega)]
  · rw [if_neg e, if_pos (by omega), pk_cpy_in (Nat.zero_le j) (by omega), Nat.sub_zero, Nat.add_comm]
theorem grow_1 (nd g0 : Nat → Nat) (n0 : Nat) (g1 : Nat → Nat) (n1 : Nat) : ∀ u, 1 ≤ u → u < 2 → up nd 1 17 u = trN g0 n0 g1 n1 u := fun u h1 h2 => by
  rw [show u = 1 by omega, up_s]
  rfl

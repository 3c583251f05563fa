/-! sums over words -/
def sumN (h : Nat → Nat) : Nat → Nat
  | 0 => 0
  | k + 1 => sumN h k + h k
section SUM
variable {f g : Nat → Nat}
theorem sum_cong : ∀ n, (∀ j, j < n → f j = g j) → sumN f n = sumN g n := by
  intro n
  induction n with
  | zero => intro _; rfl
  | succ n ih => intro h; rw [sumN, sumN, ih (fun j hj => h j (by omega)), h n (by omega)]
theorem sum_add : ∀ n, sumN (fun j => f j + g j) n = sumN f n + sumN g n := by
  intro n
  induction n with
  | zero => rfl
  | succ n ih => rw [sumN, sumN, sumN, ih]; omega
theorem sum_split (m : Nat) : ∀ n, sumN f (m + n) = sumN f m + sumN (fun j => f (m + j)) n := by
  intro n
  induction n with
  | zero => rfl
  | succ n ih => rw [show m + (n + 1) = m + n + 1 by omega, sumN, sumN, ih]; omega
theorem sum_two : ∀ n, sumN f (2 * n) = sumN (fun i => f (2 * i) + f (2 * i + 1)) n := by
  intro n
  induction n with
  | zero => rfl
  | succ n ih => rw [show 2 * (n + 1) = 2 * n + 1 + 1 by omega, sumN, sumN, sumN, ih]; omega
theorem sum_mul (c : Nat) : ∀ n, sumN (fun j => c * f j) n = c * sumN f n := by
  intro n
  induction n with
  | zero => rfl
  | succ n ih => rw [sumN, sumN, ih, Nat.mul_add]
theorem sum_swap {F : Nat → Nat → Nat} (m : Nat) : ∀ n, sumN (fun i => sumN (fun j => F i j) m) n = sumN (fun j => sumN (fun i => F i j) n) m := by
  intro n
  induction n with
  | zero =>
    have : ∀ m, sumN (fun _ => 0) m = 0 := by
      intro m
      induction m with
      | zero => rfl
      | succ m ih => rw [sumN, ih]
    exact (this m).symm
  | succ n ih =>
    rw [sumN, ih, ← sum_add]
    exact sum_cong m (fun j _ => rfl)
theorem sum_le {c : Nat} : ∀ n, (∀ j, j < n → f j ≤ c) → sumN f n ≤ c * n := by
  intro n
  induction n with
  | zero => intro _; exact Nat.zero_le _
  | succ n ih =>
    intro h
    have a := ih (fun j hj => h j (by omega))
    have b := h n (by omega)
    rw [sumN, Nat.mul_succ]
    omega
theorem sum_mono : ∀ n, (∀ j, j < n → f j ≤ g j) → sumN f n ≤ sumN g n := by
  intro n
  induction n with
  | zero => intro _; exact Nat.le_refl _
  | succ n ih =>
    intro h
    have a := ih (fun j hj => h j (by omega))
    have b := h n (by omega)
    rw [sumN, sumN]
    omega
end SUM
section WSM
variable {g0 : Nat → Nat} {n0 : Nat} {g1 : Nat → Nat} {n1 : Nat}
theorem afterB_low {g : Nat → Nat} {n b c : Nat} : ∀ k, (∀ i, i < k → Nat.testBit b i = Nat.testBit c i) → afterB g n b k = afterB g n c k := by
  intro k
  induction k with
  | zero => intro _; rfl
  | succ k ih => intro h; rw [afterB, afterB, ih (fun i hi => h i (by omega)), h k (by omega)]
/-- a level of the tree and the words of a length -/
theorem sum_lv : ∀ (n : Nat) (h : Nat → Nat → Nat), n ≤ 9 → sumN (fun j => h (nodeS g0 n0 (2 ^ n + j)) (nodeS g1 n1 (2 ^ n + j))) (2 ^ n) = sumN (fun b => h (afterB g0 n0 b n) (afterB g1 n1 b n)) (2 ^ n) := by
  intro n
  induction n with
  | zero => intro h _; rfl
  | succ n ih =>
    intro h hn
    have hp : 2 ^ (n + 1) = 2 * 2 ^ n := by rw [Nat.pow_succ, Nat.mul_comm]
    have hb : 2 * (2 * 2 ^ n) ≤ 1024 := by
      have := p9 hn
      rw [hp] at this
      exact this
    have hq : 0 < 2 ^ n := Nat.two_pow_pos n
    have e1 : sumN (fun j => h (nodeS g0 n0 (2 ^ (n + 1) + j)) (nodeS g1 n1 (2 ^ (n + 1) + j))) (2 ^ (n + 1)) = sumN (fun j => (fun a b => h (stepN g0 a 1 n0) (stepN g1 b 1 n1) + h (stepN g0 a 2 n0) (stepN g1 b 2 n1)) (nodeS g0 n0 (2 ^ n + j)) (nodeS g1 n1 (2 ^ n + j))) (2 ^ n) := by
      rw [hp, sum_two]
      refine sum_cong _ (fun j hj => ?_)
      show h (nodeS g0 n0 (2 * 2 ^ n + 2 * j)) (nodeS g1 n1 (2 * 2 ^ n + 2 * j)) + h (nodeS g0 n0 (2 * 2 ^ n + (2 * j + 1))) (nodeS g1 n1 (2 * 2 ^ n + (2 * j + 1))) = _
      rw [nodeS_s g0 n0 (2 * 2 ^ n + 2 * j) (by omega) (by omega), nodeS_s g1 n1 (2 * 2 ^ n + 2 * j) (by omega) (by omega), nodeS_s g0 n0 (2 * 2 ^ n + (2 * j + 1)) (by omega) (by omega), nodeS_s g1 n1 (2 * 2 ^ n + (2 * j + 1)) (by omega) (by omega),
        show (2 * 2 ^ n + 2 * j) / 2 = 2 ^ n + j by omega, show (2 * 2 ^ n + (2 * j + 1)) / 2 = 2 ^ n + j by omega, show (2 * 2 ^ n + 2 * j) % 2 + 1 = 1 by omega, show (2 * 2 ^ n + (2 * j + 1)) % 2 + 1 = 2 by omega]
    have e2 : sumN (fun b => h (afterB g0 n0 b (n + 1)) (afterB g1 n1 b (n + 1))) (2 ^ (n + 1)) = sumN (fun b => (fun a b => h (stepN g0 a 1 n0) (stepN g1 b 1 n1) + h (stepN g0 a 2 n0) (stepN g1 b 2 n1)) (afterB g0 n0 b n) (afterB g1 n1 b n)) (2 ^ n) := by
      rw [hp, show 2 * 2 ^ n = 2 ^ n + 2 ^ n by omega, sum_split, ← sum_add]
      refine sum_cong _ (fun j hj => ?_)
      have t0 : Nat.testBit j n = false := Nat.testBit_lt_two_pow hj
      have t1 : Nat.testBit (2 ^ n + j) n = true := by rw [Nat.testBit_two_pow_add_eq, t0]; rfl
      have lo : ∀ i, i < n → Nat.testBit (2 ^ n + j) i = Nat.testBit j i := fun i hi => Nat.testBit_two_pow_add_gt hi j
      show h (stepN g0 (afterB g0 n0 j n) (1 + (Nat.testBit j n).toNat) n0) (stepN g1 (afterB g1 n1 j n) (1 + (Nat.testBit j n).toNat) n1) + h (stepN g0 (afterB g0 n0 (2 ^ n + j) n) (1 + (Nat.testBit (2 ^ n + j) n).toNat) n0) (stepN g1 (afterB g1 n1 (2 ^ n + j) n) (1 + (Nat.testBit (2 ^ n + j) n).toNat) n1) = _
      rw [t0, t1, afterB_low (g := g0) n lo, afterB_low (g := g1) n lo]
      rfl
    rw [e1, e2]
    exact ih (fun a b => h (stepN g0 a 1 n0) (stepN g1 b 1 n1) + h (stepN g0 a 2 n0) (stepN g1 b 2 n1)) (by omega)
/-- all nodes above a level -/
theorem sum_all {f : Nat → Nat} : ∀ m, sumN (fun j => f (1 + j)) (2 ^ m - 1) = sumN (fun n => sumN (fun j => f (2 ^ n + j)) (2 ^ n)) m := by
  intro m
  induction m with
  | zero => rfl
  | succ m ih =>
    have hq : 0 < 2 ^ m := Nat.two_pow_pos m
    rw [sumN, ← ih, show 2 ^ (m + 1) - 1 = (2 ^ m - 1) + 2 ^ m by rw [Nat.pow_succ]; omega, sum_split]
    congr 1
    refine sum_cong _ (fun j _ => ?_)
    congr 1
    omega
end WSM
def mnt (k : Nat) (a b : Bool) : Bool := if k = 0 then a else if k = 1 then b else if k = 2 then a && b else a && !b
def manyV (p : Nat → Nat) (n k : Nat) : Nat := sumN (fun b => (mnt k (afterB (gz p) (p 0) b n &&& p 2 != 0) (afterB (go p) (p 1) b n &&& p 3 != 0)).toNat) (2 ^ n)
def manyC (p : Nat → Nat) (n k i : Nat) : Nat := sumN (fun j => (mnt k (nodeS (gz p) (p 0) (2 ^ n + j) &&& p 2 != 0) (nodeS (go p) (p 1) (2 ^ n + j) &&& p 3 != 0)).toNat) i
theorem many_eq {p : Nat → Nat} {n k : Nat} (hn : n ≤ 9) : manyC p n k (2 ^ n) = manyV p n k := sum_lv n (fun a b => (mnt k (a &&& p 2 != 0) (b &&& p 3 != 0)).toNat) hn

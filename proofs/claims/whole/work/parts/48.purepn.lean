/-- digits from the unit 10^k down -/
def dwk (n : Nat) : Nat → List Nat
  | 0 => [48 + n / 10 ^ 0 % 10]
  | k + 1 => (48 + n / 10 ^ (k + 1) % 10) :: dwk n k
theorem dwk_len (n : Nat) : ∀ k, (dwk n k).length = k + 1 := by
  intro k
  induction k with
  | zero => rfl
  | succ k ih => rw [dwk, List.length_cons, ih]
theorem dwk_dw {n k : Nat} (hk : k ≤ 3) (h1 : n < 10 ^ (k + 1)) (h2 : k = 0 ∨ 10 ^ k ≤ n) : dwk n k = dw n := by
  unfold dw dws
  rcases (show k = 0 ∨ k = 1 ∨ k = 2 ∨ k = 3 by omega) with rfl | rfl | rfl | rfl
  · have h : n < 10 := h1
    rw [if_neg (by omega), if_neg (by omega), if_neg (by omega), if_pos (by omega)]
    rfl
  · have h : n < 100 := h1
    have h3 : 10 ≤ n := by rcases h2 with g | g; omega; exact g
    rw [if_neg (by omega), if_neg (by omega), if_pos (by omega), if_pos (by omega)]
    rfl
  · have h : n < 1000 := h1
    have h3 : 100 ≤ n := by rcases h2 with g | g; omega; exact g
    rw [if_neg (by omega), if_pos (by omega), if_pos (by omega), if_pos (by omega)]
    rfl
  · have h : n < 10000 := h1
    have h3 : 1000 ≤ n := by rcases h2 with g | g; omega; exact g
    rw [if_pos (by omega), if_pos (by omega), if_pos (by omega), if_pos (by omega)]
    rfl

/-! DECIMALS: D has n digits; a row g holds them, the lowest first -/
def isnd (D n : Nat) : Prop := D < 10 ^ n ∧ ∀ j, j < n → 10 ^ j ≤ D
def dgs (g : Nat → Int32) (D n : Nat) : Prop := ∀ j, j < n → g j = nI (48 + D / 10 ^ j % 10)
theorem isnd_u {D a b : Nat} (ha : isnd D a) (hb : isnd D b) : a = b := by
  rcases Nat.lt_trichotomy a b with q | q | q
  · have := hb.2 a q; have := ha.1; omega
  · exact q
  · have := ha.2 b q; have := hb.1; omega
theorem isnd_le {D n : Nat} (h : isnd D n) (hD : D < 10 ^ 19) : n ≤ 19 := by
  rcases Nat.lt_or_ge 19 n with q | q
  · have := h.2 19 q; omega
  · exact q
theorem dgs_put {g : Nat → Int32} {D i : Nat} (h : dgs g D i) : dgs (upd g i (nI (48 + D / 10 ^ i % 10))) D (i + 1) := by
  intro j hj
  unfold upd
  by_cases e : j = i
  · rw [if_pos e, e]
  · rw [if_neg e, h j (by omega)]
/-- the code of the digit of D * 10^t at the place of 10^p, z = p - t -/
def dga (D : Nat) (z : Int) : Nat := if 0 ≤ z then 48 + D / 10 ^ z.toNat % 10 else 48
theorem dga_lt (D : Nat) (z : Int) : dga D z < 58 := by
  unfold dga
  split <;> omega
theorem dec_div {D i : Nat} : D / 10 ^ i / 10 = D / 10 ^ (i + 1) := by
  rw [Nat.div_div_eq_div_mul, Nat.pow_succ]

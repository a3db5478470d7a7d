theorem gw_z (G j : Nat) : gw G 0 j = 0 := by
  simp [gw]
theorem gt_lo (G V F i : Nat) (hG : 0 < G) : (gw G V i * F + gc G 0 V F i) % G = gw G (V * F) i := by
  have := g_lo G 0 V F i hG
  rw [gw_z, Nat.zero_add, Nat.zero_add] at this
  exact this
theorem gt_hi (G V F i : Nat) (hG : 0 < G) : (gw G V i * F + gc G 0 V F i) / G = gc G 0 V F (i + 1) := by
  have := g_hi G 0 V F i hG
  rw [gw_z, Nat.zero_add] at this
  exact this
theorem gt_b {V F i K : Nat} (hF : F ≤ K) (hK : 1000000000 * K < 2 ^ 63) : gw 1000000000 V i * F + gc 1000000000 0 V F i < 2 ^ 63 := by
  have h1 := gw_lt (G := 1000000000) (by decide) V i
  have h2 := gc_lt (G := 1000000000) (A := 0) (C := V) (F := F) (i := i) (by decide)
  have h3 : gw 1000000000 V i * F ≤ 999999999 * F := Nat.mul_le_mul_right _ (by omega)
  omega
/-- the lowest place whose digit isn't 0 -/
def isbt (V k : Nat) : Prop := V % 10 ^ k = 0 ∧ k ≤ 864 ∧ (k = 864 ∨ gw 10 V k ≠ 0)
theorem isbt_lo {V k j : Nat} (h : V % 10 ^ k = 0) (hj : j < k) : gw 10 V j = 0 := by
  unfold gw
  obtain ⟨c, hc⟩ := Nat.dvd_of_mod_eq_zero h
  rw [hc, show k = j + 1 + (k - j - 1) from by omega, Nat.pow_add, Nat.pow_succ, Nat.mul_assoc, Nat.mul_assoc, Nat.mul_div_cancel_left _ (Nat.pow_pos (by decide)), Nat.mul_mod_right]
theorem g_top {V j : Nat} (h : V < 10 ^ (j + 1)) : (gw 10 V j = 0 ↔ V < 10 ^ j) := by
  have hp : 0 < 10 ^ j := Nat.pow_pos (by decide)
  unfold gw
  have h1 : V / 10 ^ j < 10 := (Nat.div_lt_iff_lt_mul hp).mpr (by rw [Nat.pow_succ, Nat.mul_comm] at h; exact h)
  rw [Nat.mod_eq_of_lt h1]
  constructor
  · intro q
    rcases Nat.lt_or_ge V (10 ^ j) with g | g
    · exact g
    · have := Nat.div_pos g hp
      omega
  · intro q
    exact Nat.div_eq_of_lt q
theorem g_9 : (1000000000 : Nat) ^ 96 = 10 ^ 864 := by decide +kernel

/-! THE REFERENCE'S SCALE: the number is 4 m units, the unit a power of two or of five, times 1000 -/
def mpw (i e : Nat) : Int := pwr i e - 2
def mun (i e : Nat) : Nat := 1000 * 2 ^ (mpw i e).toNat * 5 ^ (-(mpw i e)).toNat
theorem mpw_b {i e : Nat} (he : e < 2048) (hi : i < 2) : -1076 ≤ mpw i e ∧ mpw i e ≤ 1968 := by
  have h := la_b i
  unfold mpw pwr
  rcases (show i = 0 ∨ i = 1 by omega) with rfl | rfl
  · have e2 : FB 0 = 52 := rfl
    have e3 : BI 0 = 1023 := rfl
    omega
  · have e2 : FB 1 = 23 := rfl
    have e3 : BI 1 = 127 := rfl
    omega
theorem g_pw2 : 1000 * 2 ^ 1968 * 2 ^ 57 < 1000000000 ^ 96 := by decide +kernel
theorem g_pw5 : 1000 * 5 ^ 1076 * 2 ^ 57 < 1000000000 ^ 96 := by decide +kernel
/-- all that is reached on the way fits -/
theorem mun_fit {a b : Nat} (ha : a ≤ 1968) (hb : b ≤ 1076) (hab : a = 0 ∨ b = 0) : 1000 * 2 ^ a * 5 ^ b * 2 ^ 57 < 1000000000 ^ 96 := by
  rcases hab with rfl | rfl
  · rw [Nat.pow_zero, Nat.mul_one]
    exact Nat.lt_of_le_of_lt (Nat.mul_le_mul_right _ (Nat.mul_le_mul_left _ (Nat.pow_le_pow_right (by decide) hb))) g_pw5
  · rw [Nat.pow_zero, Nat.mul_one]
    exact Nat.lt_of_le_of_lt (Nat.mul_le_mul_right _ (Nat.mul_le_mul_left _ (Nat.pow_le_pow_right (by decide) ha))) g_pw2
theorem mun_fit1 {a b F : Nat} (ha : a ≤ 1968) (hb : b ≤ 1076) (hab : a = 0 ∨ b = 0) (hF : F < 2 ^ 57) : 1000 * 2 ^ a * 5 ^ b * F < 1000000000 ^ 96 :=
  Nat.lt_of_le_of_lt (Nat.mul_le_mul_left _ (Nat.le_of_lt hF)) (mun_fit ha hb hab)
theorem mun_fit0 {a b : Nat} (ha : a ≤ 1968) (hb : b ≤ 1076) (hab : a = 0 ∨ b = 0) : 1000 * 2 ^ a * 5 ^ b < 1000000000 ^ 96 := by
  have := mun_fit1 (F := 1) ha hb hab (by decide)
  rw [Nat.mul_one] at this
  exact this
theorem gl_1000 : vp_updL (gl 0) 0 (lN 1000) = gl 1000 := by
  funext j
  unfold vp_updL gl
  by_cases h : j = 0
  · rw [if_pos h, h]
    rfl
  · rw [if_neg h, gw_z, gw_0 (n := 1) (by decide) (by decide) (by omega)]
theorem isnd_ex (V : Nat) : ∃ n, isnd V n := by
  obtain ⟨k, hk, hl⟩ := pk_least (fun n => V < 10 ^ n) ⟨V, Nat.lt_pow_self (by decide)⟩
  exact ⟨k, hk, fun j hj => Nat.not_lt.mp (hl j hj)⟩

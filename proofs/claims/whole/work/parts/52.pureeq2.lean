theorem p25 {a b F c d f g E : Nat} (h1 : b + F = 4 + c + f + E) (h2 : a + F = 3 + d + g + E) : 1 * 5 ^ a * 2 ^ b * 10 ^ F = 2 * (1000 * 2 ^ c * 5 ^ d) * (1 * 5 ^ g * 2 ^ f) * 10 ^ E := by
  have e1 : ∀ n : Nat, (10 : Nat) ^ n = 2 ^ n * 5 ^ n := fun n => by rw [← Nat.mul_pow]
  have l : 1 * 5 ^ a * 2 ^ b * 10 ^ F = 2 ^ (b + F) * 5 ^ (a + F) := by
    rw [e1, Nat.pow_add, Nat.pow_add, Nat.one_mul]
    ac_rfl
  have r : 2 ^ (4 + c + f + E) * 5 ^ (3 + d + g + E) = 16 * (125 * (2 ^ c * 5 ^ d * (5 ^ g * 2 ^ f) * (2 ^ E * 5 ^ E))) := by
    rw [Nat.pow_add, Nat.pow_add, Nat.pow_add, Nat.pow_add, Nat.pow_add, Nat.pow_add, show (2 : Nat) ^ 4 = 16 from rfl, show (5 : Nat) ^ 3 = 125 from rfl]
    ac_rfl
  have r2 : 2 * (1000 * 2 ^ c * 5 ^ d) * (1 * 5 ^ g * 2 ^ f) * 10 ^ E = 2 * (1000 * (2 ^ c * 5 ^ d * (5 ^ g * 2 ^ f) * (2 ^ E * 5 ^ E))) := by
    rw [e1, Nat.one_mul]
    ac_rfl
  rw [l, h1, h2, r, r2]
  omega
theorem cd_un {i e fr D : Nat} {t : Int} (h : cdec i e fr D t) (hS : 0 < sgf i e fr) : ∃ U O F : Nat, 0 < U ∧ 0 < O ∧ U * 10 ^ F = 2 * mun i e * O ∧ O ≤ 2 * sgf i e fr * U ∧ 2 * sgf i e fr * U < 10 * O ∧
    fd_res (lop e fr) (fd_ev (sgf i e fr)) (2 * sgf i e fr * U) U O ((F : Int) - (3 + (-(mpw i e)).toNat : Nat)) D t := by
  obtain ⟨b, hb, hc, hres⟩ := h
  have hu := fd_use hb hS hc
  generalize hP : fd_hp b (pwr i e) = P at *
  have hUp : 0 < fd_U P (pwr i e) := Nat.mul_pos (Nat.mul_pos (by decide) (Nat.pow_pos (by decide))) (Nat.pow_pos (by decide))
  have hOp : 0 < fd_O P (pwr i e) := Nat.mul_pos (Nat.mul_pos (by decide) (Nat.pow_pos (by decide))) (Nat.pow_pos (by decide))
  have hm0 : 0 < mun i e := Nat.mul_pos (Nat.mul_pos (by decide) (Nat.pow_pos (by decide))) (Nat.pow_pos (by decide))
  have hmp : mpw i e = pwr i e - 2 := rfl
  obtain ⟨β, hβ⟩ : ∃ x, x = 3 + (-(mpw i e)).toNat := ⟨_, rfl⟩
  have key : fd_U P (pwr i e) * 10 ^ (P + β).toNat = 2 * mun i e * fd_O P (pwr i e) * 10 ^ (-(P + β)).toNat := by
    unfold fd_U fd_O mun
    refine p25 ?_ ?_
    · rw [hmp] at *; omega
    · rw [hmp] at *; omega
  generalize hUe : fd_U P (pwr i e) = U at *
  generalize hOe : fd_O P (pwr i e) = O at *
  generalize hSe : sgf i e fr = S at *
  generalize mun i e = M at *
  obtain ⟨hu1, hu2, hu3, hu4, hu5, hu6⟩ := hu
  have hSU : U ≤ 2 * S * U := Nat.le_mul_of_pos_left _ (by omega)
  have hMO : O ≤ 2 * M * O := Nat.le_mul_of_pos_left _ (by omega)
  have hE : (-(P + β)).toNat = 0 := by
    rcases Nat.eq_zero_or_pos (-(P + (β : Int))).toNat with q | q
    · exact q
    · exfalso
      rw [show (P + (β : Int)).toNat = 0 from by omega, Nat.pow_zero, Nat.mul_one] at key
      have h1 : 10 ^ 1 ≤ 10 ^ (-(P + (β : Int))).toNat := Nat.pow_le_pow_right (by decide) q
      have h2 : 2 * M * O * 10 ^ 1 ≤ U := by rw [key]; exact Nat.mul_le_mul_left _ h1
      omega
  rw [hE, Nat.pow_zero, Nat.mul_one] at key
  rw [← hβ]
  by_cases hlt : 2 * S * U < O
  · rw [if_pos hlt, if_pos hlt, if_pos hlt] at hres
    have hF : 0 < (P + (β : Int)).toNat := by
      rcases Nat.eq_zero_or_pos (P + (β : Int)).toNat with q | q
      · rw [q, Nat.pow_zero, Nat.mul_one] at key
        omega
      · exact q
    refine ⟨U * 10, O, (P + (β : Int)).toNat - 1, by omega, hOp, ?_, ?_, ?_, ?_⟩
    · rw [← key, Nat.mul_assoc, Nat.mul_comm 10, ← Nat.pow_succ, show ((P + (β : Int)).toNat - 1).succ = (P + (β : Int)).toNat from by omega]
    · rw [← Nat.mul_assoc]; exact hu5
    · rw [← Nat.mul_assoc]; omega
    · rw [← Nat.mul_assoc, show (((P + (β : Int)).toNat - 1 : Nat) : Int) - β = P - 1 from by omega]
      exact hres
  · rw [if_neg hlt, if_neg hlt, if_neg hlt] at hres
    refine ⟨U, O, (P + (β : Int)).toNat, hUp, hOp, key, by omega, hu6, ?_⟩
    rw [show (((P + (β : Int)).toNat : Nat) : Int) - β = P from by omega]
    exact hres
/-- the class's digits are those of the reference's number -/
theorem fd_rel {R O N p j F : Nat} (hO : 0 < O) (hj : 1 ≤ j) (hp : p + j = F + 1) (h : R * 10 ^ F = N * O) : fd_m R O j = N / 10 ^ p ∧ N % 10 ^ p * O = 10 ^ p * fd_r R O j := by
  have ha : R * 10 ^ (j - 1) * 10 ^ p = N * O := by
    rw [Nat.mul_assoc, ← Nat.pow_add, show j - 1 + p = F from by omega]
    exact h
  unfold fd_m fd_r
  generalize R * 10 ^ (j - 1) = a at ha
  have hd := Nat.div_add_mod a O
  have hr := Nat.mod_lt a hO
  generalize a / O = q at *
  generalize a % O = r at *
  have hG := p10 p
  generalize 10 ^ p = G at *
  have e1 : N * O = q * G * O + r * G := by
    rw [← ha, ← hd, Nat.add_mul, Nat.mul_comm O q, Nat.mul_assoc q, Nat.mul_comm O G, ← Nat.mul_assoc]
  have hle : q * G ≤ N := Nat.le_of_mul_le_mul_right (by omega : q * G * O ≤ N * O) hO
  obtain ⟨y, rfl⟩ : ∃ y, N = q * G + y := ⟨N - q * G, by omega⟩
  have e2 : y * O = r * G := by
    rw [Nat.add_mul] at e1
    omega
  have hy : y < G := by
    have : y * O < G * O := by rw [e2, Nat.mul_comm]; exact Nat.mul_lt_mul_of_pos_left hr hG
    exact Nat.lt_of_mul_lt_mul_right this
  constructor
  · rw [Nat.mul_comm q, Nat.mul_add_div hG, Nat.div_eq_of_lt hy, Nat.add_zero]
  · rw [Nat.mul_comm q, Nat.mul_add_mod, Nat.mod_eq_of_lt hy, e2, Nat.mul_comm]
theorem dbl_sc {lb z r O G : Nat} (h : z * O = G * r) : dbl lb z * O = G * dbl lb r := by
  unfold dbl
  split
  · rw [Nat.add_mul, Nat.mul_add, h]
  · exact h
theorem big_fit {a b : Nat} (ha : a ≤ 1968) (hb : b ≤ 1076) (hab : a = 0 ∨ b = 0) : 1000 * 2 ^ a * 5 ^ b * 2 ^ 61 < 10 ^ 864 := by
  rcases hab with rfl | rfl
  · rw [Nat.pow_zero, Nat.mul_one]
    exact Nat.lt_of_le_of_lt (Nat.mul_le_mul_right _ (Nat.mul_le_mul_left _ (Nat.pow_le_pow_right (by decide) hb))) (show 1000 * 5 ^ 1076 * 2 ^ 61 < 10 ^ 864 by decide +kernel)
  · rw [Nat.pow_zero, Nat.mul_one]
    exact Nat.lt_of_le_of_lt (Nat.mul_le_mul_right _ (Nat.mul_le_mul_left _ (Nat.pow_le_pow_right (by decide) ha))) (show 1000 * 2 ^ 1968 * 2 ^ 61 < 10 ^ 864 by decide +kernel)
theorem mun_big {i e : Nat} (he : e < 2048) (hi : i < 2) : mun i e * 2 ^ 61 < 10 ^ 864 := by
  have := mpw_b he hi
  unfold mun
  exact big_fit (by omega) (by omega) (by omega)
theorem fst7_ex {N ev L A n : Nat} (h : rb ev L A (cand N 0 0) ≠ 0) : ∃ p, fst7 N ev L A n p := by
  obtain ⟨k, hk, hl⟩ := pk_least (fun k => k ≤ n ∧ (rb ev L A (cand N (n - k) 0) ≠ 0 ∨ rb ev L A (cand N (n - k) 1) ≠ 0)) ⟨n, Nat.le_refl _, by rw [Nat.sub_self]; exact Or.inl h⟩
  refine ⟨n - k, by omega, hk.2, ?_⟩
  intro q h1 h2
  have := hl (n - q) (by omega)
  rw [show n - (n - q) = q from by omega] at this
  have h3 : ¬ (rb ev L A (cand N q 0) ≠ 0 ∨ rb ev L A (cand N q 1) ≠ 0) := fun g => this ⟨by omega, g⟩
  exact ⟨Classical.not_not.mp (fun g => h3 (Or.inl g)), Classical.not_not.mp (fun g => h3 (Or.inr g))⟩
theorem ev_fr {i e fr : Nat} : fd_ev (sgf i e fr) = fd_ev fr := by
  unfold fd_ev sgf
  split
  · rfl
  · have hb := la_b i
    have : 2 ^ FB i = 2 * 2 ^ (FB i - 1) := by rw [Nat.mul_comm, ← Nat.pow_succ]; congr 1; omega
    rw [show (fr + 2 ^ FB i) % 2 = fr % 2 from by omega]

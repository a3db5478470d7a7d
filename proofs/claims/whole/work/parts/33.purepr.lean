theorem ite_le1 (p : Prop) [Decidable p] : (if p then 1 else 0 : Nat) ≤ 1 := by
  split <;> omega
theorem sgf_pos {i e fr : Nat} (h : kdo i e fr = 4) : 0 < sgf i e fr := by
  unfold sgf
  unfold kdo at h
  by_cases he : e = 0
  · rw [if_pos he]
    by_cases g : e = 2 ^ EB i - 1
    · rw [if_pos g] at h; split at h <;> omega
    · rw [if_neg g] at h
      rcases Nat.eq_zero_or_pos fr with q | q
      · rw [if_pos ⟨he, q⟩] at h; omega
      · exact q
  · rw [if_neg he]
    have : 0 < 2 ^ FB i := Nat.two_pow_pos _
    omega
theorem cdec_D {i e fr D : Nat} {t : Int} (h : cdec i e fr D t) (hS : 0 < sgf i e fr) : D < 10 ^ 18 := by
  obtain ⟨b, hb, hc, n, k, h1, h2, h3, h4, h5, h6, h7, h8⟩ := h
  have hu := fd_use hb hS hc
  generalize hUe : fd_U (fd_hp b (pwr i e)) (pwr i e) = U at *
  generalize hOe : fd_O (fd_hp b (pwr i e)) (pwr i e) = O at *
  have hO : 0 < O := by omega
  generalize hRe : (if 2 * sgf i e fr * U < O then 2 * sgf i e fr * U * 10 else 2 * sgf i e fr * U) = R at *
  have hR : R < 10 * O := by
    rw [← hRe]
    split <;> omega
  have hm := fd_m_lt (n := n) hO hR (by omega)
  have hn : 10 ^ n ≤ 10 ^ 17 := Nat.pow_le_pow_right (by decide) h2
  have hD : D ≤ D * 10 ^ k := Nat.le_mul_of_pos_right _ (Nat.pow_pos (by decide))
  rw [h5] at hD
  exact Nat.lt_of_le_of_lt hD (Nat.lt_of_le_of_lt (Nat.add_le_add_left (ite_le1 _) _) (by omega))
theorem isnd_18 {D n : Nat} (h : isnd D n) (h0 : 0 < D) (hD : D < 10 ^ 18) : 1 ≤ n ∧ n ≤ 18 := by
  constructor
  · rcases Nat.eq_zero_or_pos n with q | q
    · have := h.1; rw [q] at this; omega
    · exact q
  · rcases Nat.lt_or_ge 18 n with q | q
    · have := h.2 18 q; omega
    · exact q
theorem dtx_len {lo hi : Int} {D n : Nat} {T : Int} (h1 : 1 ≤ n) (h2 : n ≤ 18) (h3 : -30 ≤ lo) (h4 : hi ≤ 30) : (dtx lo hi D n T).length ≤ 60 := by
  unfold dtx
  have := dwz_len (T + n - 1)
  split
  · simp only [List.length_append, List.length_singleton, pls_len]
    obtain ⟨m1, hm1⟩ : ∃ m, m = max (T + n - 1) 0 := ⟨_, rfl⟩
    obtain ⟨m2, hm2⟩ : ∃ m, m = min T (-1) := ⟨_, rfl⟩
    rw [← hm1, ← hm2]
    have : 0 ≤ m1 ∧ m1 ≤ 29 := by omega
    have : m2 ≤ -1 ∧ -48 ≤ m2 ∧ (0 < m1 → -18 ≤ m2) := by omega
    clear hm1 hm2
    omega
  · simp only [List.length_append, List.length_singleton, pls_len]
    obtain ⟨m2, hm2⟩ : ∃ m, m = min T (T + n - 1 - 1) := ⟨_, rfl⟩
    rw [← hm2]
    have : m2 ≤ T + n - 2 ∧ T + n - 19 ≤ m2 := by omega
    clear hm2
    omega
/-- a number of the script as 64 bits -/
def sx (x : Int32) : Nat := x.toInt64.toBitVec.toNat
theorem sx_lt (x : Int32) : sx x < 2 ^ 64 := x.toInt64.toBitVec.isLt
theorem sx_eq (x : Int32) : x.toInt64 = lN (sx x) := wb_inj (by rw [wb_tb, sx]; simp)

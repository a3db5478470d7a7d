/-! WHOLE NUMBERS OF MANY WORDS: a row of longs holds V when word j is V / 2^(32 j) mod 2^32. -/
def bn_w (V j : Nat) : Nat := V / 2 ^ (32 * j) % 2 ^ 32
def bn_f (V : Nat) : Nat → Int64 := fun j => lN (bn_w V j)
/-- the words below i are X's, the others Y's -/
def bn_m (X Y i : Nat) : Nat → Int64 := fun j => if j < i then bn_f X j else bn_f Y j
theorem bn_w_lt (V j : Nat) : bn_w V j < 2 ^ 32 := Nat.mod_lt _ (by decide)
theorem bn_m_0 (X Y : Nat) : bn_m X Y 0 = bn_f Y := by
  funext j
  simp [bn_m]
theorem bn_m_at (X Y i : Nat) : bn_m X Y i i = lN (bn_w Y i) := by
  simp [bn_m, bn_f]
theorem bn_m_up (X Y i : Nat) : vp_updL (bn_m X Y i) i (lN (bn_w X i)) = bn_m X Y (i + 1) := by
  funext j
  unfold vp_updL bn_m
  by_cases h : j = i
  · subst h
    simp [bn_f]
  · by_cases h2 : j < i
    · simp [h, h2, Nat.lt_succ_of_lt h2]
    · have h3 : ¬ j < i + 1 := by omega
      simp [h, h2, h3]
theorem bn_pow (i : Nat) : 2 ^ (32 * (i + 1)) = 2 ^ (32 * i) * 2 ^ 32 := by
  rw [Nat.mul_add, Nat.pow_add]
theorem bn_ple {a b : Nat} (h : a ≤ b) : 2 ^ (32 * a) ≤ 2 ^ (32 * b) := Nat.pow_le_pow_right (by decide) (by omega)
theorem bn_w_0 {X n j : Nat} (hX : X < 2 ^ (32 * n)) (h : n ≤ j) : bn_w X j = 0 := by
  unfold bn_w
  rw [Nat.div_eq_of_lt (Nat.lt_of_lt_of_le hX (bn_ple h))]
theorem bn_m_all {X Y n : Nat} (hX : X < 2 ^ (32 * n)) (hY : Y < 2 ^ (32 * n)) : bn_m X Y n = bn_f X := by
  funext j
  unfold bn_m
  by_cases h : j < n
  · simp [h]
  · simp only [h, if_false]
    unfold bn_f
    rw [bn_w_0 hX (by omega), bn_w_0 hY (by omega)]
theorem bn_split (V F b : Nat) (hb : 0 < b) : V * F / b = V / b * F + V % b * F / b := by
  conv => lhs; rw [← Nat.div_add_mod V b]
  rw [Nat.add_mul, Nat.mul_assoc, Nat.mul_add_div hb]
/-- the carry into word i of V * F -/
def bn_c (V F i : Nat) : Nat := V % 2 ^ (32 * i) * F / 2 ^ (32 * i)
theorem bn_c_0 (V F : Nat) : bn_c V F 0 = 0 := by
  simp [bn_c, Nat.mod_one]
theorem bn_c_lt {V F i : Nat} (hF : 0 < F) : bn_c V F i < F := by
  unfold bn_c
  have hb : 0 < 2 ^ (32 * i) := Nat.two_pow_pos _
  refine (Nat.div_lt_iff_lt_mul hb).mpr ?_
  rw [Nat.mul_comm F]
  exact Nat.mul_lt_mul_of_pos_right (Nat.mod_lt _ hb) hF
theorem bn_t_lo (V F i : Nat) : (bn_w V i * F + bn_c V F i) % 2 ^ 32 = bn_w (V * F) i := by
  unfold bn_w bn_c
  have hb : 0 < 2 ^ (32 * i) := Nat.two_pow_pos _
  generalize 2 ^ (32 * i) = b at hb
  rw [bn_split V F b hb]
  have e2 : V / b * F = V / b % 2 ^ 32 * F + 2 ^ 32 * (V / b / 2 ^ 32 * F) := by
    conv => lhs; rw [← Nat.mod_add_div (V / b) (2 ^ 32)]
    rw [Nat.add_mul, Nat.mul_assoc]
  rw [e2, Nat.add_right_comm, Nat.add_mul_mod_self_left]
theorem bn_mod_succ (V i : Nat) : V % 2 ^ (32 * (i + 1)) = 2 ^ (32 * i) * bn_w V i + V % 2 ^ (32 * i) := by
  unfold bn_w
  rw [bn_pow, Nat.mod_mul]
  omega
theorem bn_t_hi (V F i : Nat) : (bn_w V i * F + bn_c V F i) / 2 ^ 32 = bn_c V F (i + 1) := by
  have hb : 0 < 2 ^ (32 * i) := Nat.two_pow_pos _
  unfold bn_c
  rw [bn_mod_succ, bn_pow, ← Nat.div_div_eq_div_mul, Nat.add_mul, Nat.mul_assoc, Nat.mul_add_div hb]
theorem bn_c_end {V F u : Nat} (h : V < 2 ^ (32 * u)) : bn_c V F u = V * F / 2 ^ (32 * u) := by
  unfold bn_c
  rw [Nat.mod_eq_of_lt h]
theorem bn_c_end0 {V F u : Nat} (h : V < 2 ^ (32 * u)) (h0 : bn_c V F u = 0) : V * F < 2 ^ (32 * u) := by
  rw [bn_c_end h] at h0
  rcases Nat.lt_or_ge (V * F) (2 ^ (32 * u)) with q | q
  · exact q
  · have := Nat.div_pos q (Nat.two_pow_pos _)
    omega
theorem bn_c_end1 {V F u : Nat} (h : V < 2 ^ (32 * u)) (hF : 0 < F) (hF2 : F ≤ 2 ^ 31) : bn_c V F u = bn_w (V * F) u ∧ V * F < 2 ^ (32 * (u + 1)) := by
  have h1 := bn_c_lt (V := V) (i := u) hF
  rw [bn_c_end h] at h1 ⊢
  constructor
  · unfold bn_w
    rw [Nat.mod_eq_of_lt]
    exact Nat.lt_of_lt_of_le h1 (Nat.le_trans hF2 (by decide))
  · rw [bn_pow, Nat.mul_comm (2 ^ (32 * u))]
    exact (Nat.div_lt_iff_lt_mul (Nat.two_pow_pos _)).mp (Nat.lt_of_lt_of_le h1 (Nat.le_trans hF2 (by decide)))
theorem bn_prod_lt {V F i : Nat} (hF : 0 < F) (hF2 : F ≤ 2 ^ 31) : bn_w V i * F + bn_c V F i < 2 ^ 63 := by
  have h1 := bn_w_lt V i
  have h2 := bn_c_lt (V := V) (i := i) hF
  have h3 : bn_w V i * F ≤ (2 ^ 32 - 1) * F := Nat.mul_le_mul_right _ (by omega)
  omega
/-- BORROW: the low i words of V - U -/
def bn_b (V U i : Nat) : Nat := if V % 2 ^ (32 * i) < U % 2 ^ (32 * i) then 1 else 0
theorem bn_b_0 (V U : Nat) : bn_b V U 0 = 0 := by
  simp [bn_b, Nat.mod_one]
theorem bn_b_le (V U i : Nat) : bn_b V U i ≤ 1 := by
  unfold bn_b
  split <;> omega
theorem bn_dsub {V U b : Nat} (hb : 0 < b) (h : U ≤ V) : ∃ z : Nat, z ≤ 1 ∧ (z = 1 ↔ V % b < U % b) ∧ (V - U) / b + U / b + z = V / b := by
  have hv := Nat.div_add_mod V b
  have hu := Nat.div_add_mod U b
  have hvl := Nat.mod_lt V hb
  have hul := Nat.mod_lt U hb
  generalize V / b = qv at *
  generalize U / b = qu at *
  generalize V % b = v at *
  generalize U % b = u at *
  by_cases hc : v < u
  · have hlt : qu < qv := by
      rcases Nat.lt_or_ge qu qv with q | q
      · exact q
      · have := Nat.mul_le_mul_left b q
        omega
    obtain ⟨k, rfl⟩ : ∃ k, qv = qu + 1 + k := ⟨qv - qu - 1, by omega⟩
    rw [Nat.mul_add, Nat.mul_add, Nat.mul_one] at hv
    have hd : V - U = b * k + (b + v - u) := by omega
    refine ⟨1, Nat.le_refl _, by simp [hc], ?_⟩
    rw [hd, Nat.mul_add_div hb, Nat.div_eq_of_lt (by omega)]
    omega
  · have hle : qu ≤ qv := by
      rcases Nat.lt_or_ge qv qu with q | q
      · have := Nat.mul_le_mul_left b (Nat.succ_le_of_lt q)
        rw [Nat.mul_succ] at this
        omega
      · exact q
    obtain ⟨k, rfl⟩ : ∃ k, qv = qu + k := ⟨qv - qu, by omega⟩
    rw [Nat.mul_add] at hv
    have hd : V - U = b * k + (v - u) := by omega
    refine ⟨0, by omega, by simp [hc], ?_⟩
    rw [hd, Nat.mul_add_div hb, Nat.div_eq_of_lt (by omega)]
    omega
theorem bn_s_lo {V U : Nat} (i : Nat) (h : U ≤ V) : ((bn_w V i : Int) - bn_w U i - bn_b V U i) % 4294967296 = bn_w (V - U) i := by
  unfold bn_w bn_b
  have hb : 0 < 2 ^ (32 * i) := Nat.two_pow_pos _
  generalize 2 ^ (32 * i) = b at hb
  obtain ⟨z, h1, h2, h3⟩ := bn_dsub hb h
  have h4 : (if V % b < U % b then 1 else 0 : Nat) = z := by
    by_cases hc : V % b < U % b
    · rw [if_pos hc, h2.mpr hc]
    · have : z ≠ 1 := fun e => hc (h2.mp e)
      rw [if_neg hc]
      omega
  rw [h4, show (2 : Nat) ^ 32 = 4294967296 from rfl]
  omega
theorem bn_s_hi (V U i : Nat) : ((bn_w V i : Int) - bn_w U i - bn_b V U i) / 4294967296 = - (bn_b V U (i + 1) : Int) := by
  have hv := bn_mod_succ V i
  have hu := bn_mod_succ U i
  have h1 := bn_w_lt V i
  have h2 := bn_w_lt U i
  have hb : 0 < 2 ^ (32 * i) := Nat.two_pow_pos _
  have e1 := Nat.mod_lt V hb
  have e2 := Nat.mod_lt U hb
  unfold bn_b
  rw [hv, hu]
  generalize 2 ^ (32 * i) = b at *
  generalize bn_w V i = wv at *
  generalize bn_w U i = wu at *
  generalize V % b = v at *
  generalize U % b = u at *
  rcases Nat.lt_trichotomy wv wu with q | q | q
  · have := Nat.mul_le_mul_left b (Nat.succ_le_of_lt q)
    rw [Nat.mul_succ] at this
    rw [if_pos (show b * wv + v < b * wu + u by omega)]
    split <;> omega
  · subst q
    by_cases hc : v < u
    · rw [if_pos hc, if_pos (show b * wv + v < b * wv + u by omega)]
      omega
    · rw [if_neg hc, if_neg (show ¬ b * wv + v < b * wv + u by omega)]
      omega
  · have := Nat.mul_le_mul_left b (Nat.succ_le_of_lt q)
    rw [Nat.mul_succ] at this
    rw [if_neg (show ¬ b * wv + v < b * wu + u by omega)]
    split <;> omega
/-- COMPARE, from above: the words from i + 1 on are alike -/
theorem bn_div_succ (V i : Nat) : V / 2 ^ (32 * i) = 2 ^ 32 * (V / 2 ^ (32 * (i + 1))) + bn_w V i := by
  unfold bn_w
  rw [bn_pow, ← Nat.div_div_eq_div_mul, Nat.div_add_mod]
theorem bn_cmp_lt {V U i : Nat} (h : V / 2 ^ (32 * (i + 1)) = U / 2 ^ (32 * (i + 1))) (hw : bn_w V i < bn_w U i) : V < U := by
  have h1 : V / 2 ^ (32 * i) < U / 2 ^ (32 * i) := by
    rw [bn_div_succ V i, bn_div_succ U i, h]
    omega
  rcases Nat.lt_or_ge V U with q | q
  · exact q
  · have := Nat.div_le_div_right (c := 2 ^ (32 * i)) q
    omega
theorem bn_cmp_eq {V U i : Nat} (h : V / 2 ^ (32 * (i + 1)) = U / 2 ^ (32 * (i + 1))) (hw : bn_w V i = bn_w U i) : V / 2 ^ (32 * i) = U / 2 ^ (32 * i) := by
  rw [bn_div_succ V i, bn_div_succ U i, h, hw]
theorem bn_div_0 {V n : Nat} (h : V < 2 ^ (32 * n)) : V / 2 ^ (32 * n) = 0 := Nat.div_eq_of_lt h
/-- COMPARE A SUM: the low i words of C - A - B, with the sign -/
def bn_d (A B C i : Nat) : Int := (C % 2 ^ (32 * i) : Nat) - (A % 2 ^ (32 * i) : Nat) - (B % 2 ^ (32 * i) : Nat)
theorem bn_d_0 (A B C : Nat) : bn_d A B C 0 = 0 := by
  simp [bn_d, Nat.mod_one]
theorem bn_d_succ (A B C i : Nat) : bn_d A B C (i + 1) = (2 ^ (32 * i) : Nat) * ((bn_w C i : Int) - bn_w A i - bn_w B i) + bn_d A B C i := by
  unfold bn_d
  rw [bn_mod_succ A, bn_mod_succ B, bn_mod_succ C]
  push_cast
  rw [Int.mul_sub, Int.mul_sub]
  omega
/-- the borrow into word i -/
def bn_e (A B C i : Nat) : Int := bn_d A B C i / (2 ^ (32 * i) : Nat)
theorem bn_e_0 (A B C : Nat) : bn_e A B C 0 = 0 := by
  simp [bn_e, bn_d_0]
theorem bn_e_q (A B C i : Nat) : bn_d A B C (i + 1) / (2 ^ (32 * i) : Nat) = (bn_w C i : Int) - bn_w A i - bn_w B i + bn_e A B C i := by
  have hb : ((2 ^ (32 * i) : Nat) : Int) ≠ 0 := by
    have : 0 < 2 ^ (32 * i) := Nat.two_pow_pos _
    omega
  unfold bn_e
  rw [bn_d_succ, Int.mul_add_ediv_left _ _ hb]
theorem bn_e_succ (A B C i : Nat) : ((bn_w C i : Int) - bn_w A i - bn_w B i + bn_e A B C i) / 4294967296 = bn_e A B C (i + 1) := by
  rw [← bn_e_q]
  unfold bn_e
  rw [bn_pow]
  rw [Int.natCast_mul, ← Int.ediv_ediv_of_nonneg (Int.natCast_nonneg _)]
  rfl
theorem bn_z_succ (A B C i : Nat) : bn_d A B C (i + 1) % (2 ^ (32 * (i + 1)) : Nat) = 0 ↔ bn_d A B C i % (2 ^ (32 * i) : Nat) = 0 ∧ ((bn_w C i : Int) - bn_w A i - bn_w B i + bn_e A B C i) % 4294967296 = 0 := by
  have hb : (0 : Int) < (2 ^ (32 * i) : Nat) := by
    have : 0 < 2 ^ (32 * i) := Nat.two_pow_pos _
    omega
  have h1 := Int.mul_ediv_add_emod (bn_d A B C (i + 1)) (2 ^ (32 * i) : Nat)
  rw [bn_e_q] at h1
  have h2 : bn_d A B C (i + 1) % (2 ^ (32 * i) : Nat) = bn_d A B C i % (2 ^ (32 * i) : Nat) := by
    rw [bn_d_succ, Int.mul_add_emod_self_left]
  rw [h2] at h1
  have h3 : (0 : Int) ≤ bn_d A B C i % (2 ^ (32 * i) : Nat) := Int.emod_nonneg _ (by omega)
  have h4 : bn_d A B C i % (2 ^ (32 * i) : Nat) < (2 ^ (32 * i) : Nat) := Int.emod_lt_of_pos _ hb
  rw [bn_pow, Int.natCast_mul]
  generalize (bn_w C i : Int) - bn_w A i - bn_w B i + bn_e A B C i = X at *
  generalize bn_d A B C i % (2 ^ (32 * i) : Nat) = r at *
  generalize bn_d A B C (i + 1) = D at *
  generalize ((2 ^ (32 * i) : Nat) : Int) = b at *
  rw [show ((2 ^ 32 : Nat) : Int) = 4294967296 from rfl]
  constructor
  · intro h
    obtain ⟨k, hk⟩ := Int.dvd_of_emod_eq_zero h
    rw [Int.mul_assoc] at hk
    have hr : r = b * (4294967296 * k - X) := by
      rw [Int.mul_sub]
      omega
    have hr0 : r = 0 := by
      have := Int.emod_eq_of_lt h3 h4
      rw [hr, Int.mul_emod_right] at this
      omega
    refine ⟨hr0, ?_⟩
    have : X = 4294967296 * k := Int.eq_of_mul_eq_mul_left (by omega) (show b * X = b * (4294967296 * k) by omega)
    omega
  · rintro ⟨hr, hX⟩
    obtain ⟨k, hk⟩ := Int.dvd_of_emod_eq_zero hX
    refine Int.emod_eq_zero_of_dvd ⟨k, ?_⟩
    rw [Int.mul_assoc, ← hk]
    omega
/-- the end: all words are seen -/
theorem bn_d_end {A B C n : Nat} (hA : A < 2 ^ (32 * n)) (hB : B < 2 ^ (32 * n)) (hC : C < 2 ^ (32 * n)) : (bn_e A B C n < 0 ↔ C < A + B) ∧ (¬ C < A + B → (bn_d A B C n % (2 ^ (32 * n) : Nat) = 0 ↔ C = A + B)) := by
  have hd : bn_d A B C n = (C : Int) - A - B := by
    unfold bn_d
    rw [Nat.mod_eq_of_lt hA, Nat.mod_eq_of_lt hB, Nat.mod_eq_of_lt hC]
  unfold bn_e
  rw [hd]
  generalize 2 ^ (32 * n) = b at *
  constructor
  · constructor
    · intro h
      have := Int.ediv_nonneg (a := (C : Int) - A - B) (b := (b : Int))
      rcases Nat.lt_or_ge C (A + B) with q | q
      · exact q
      · have := this (by omega) (by omega)
        omega
    · intro h
      exact Int.ediv_neg_of_neg_of_pos (by omega) (by omega)
  · intro h
    rw [Int.emod_eq_of_lt (by omega) (by omega)]
    omega
theorem bn_e_rng (A B C i : Nat) : -2 ≤ bn_e A B C i ∧ bn_e A B C i ≤ 0 := by
  have hb : 0 < 2 ^ (32 * i) := Nat.two_pow_pos _
  have h1 := Nat.mod_lt A hb
  have h2 := Nat.mod_lt B hb
  have h3 := Nat.mod_lt C hb
  unfold bn_e bn_d
  generalize 2 ^ (32 * i) = b at *
  generalize A % b = x at *
  generalize B % b = y at *
  generalize C % b = z at *
  constructor
  · refine (Int.le_ediv_iff_mul_le (by omega)).mpr ?_
    omega
  · have : ((z : Int) - x - y) / b < 1 := (Int.ediv_lt_iff_lt_mul (by omega)).mpr (by omega)
    omega
/-! LONGS WITH A SIGN -/
def lZ (z : Int) : Int64 := Int64.ofInt z
theorem lZ_N (n : Nat) : lN n = lZ n := Int64.ofInt_eq_ofNat.symm
theorem lZ_add (a b : Int) : lZ a + lZ b = lZ (a + b) := (Int64.ofInt_add a b).symm
theorem lZ_sub (a b : Int) : lZ a - lZ b = lZ (a - b) := (Int64.ofInt_sub a b).symm
theorem lZ_toInt {z : Int} (h1 : -2 ^ 63 ≤ z) (h2 : z < 2 ^ 63) : (lZ z).toInt = z := Int64.toInt_ofInt_of_le h1 h2
theorem lZ_lo (z : Int) : lZ z &&& 4294967295 = lN (z % 4294967296).toNat := by
  apply Int64.toBitVec_inj.mp
  apply BitVec.eq_of_toNat_eq
  show (BitVec.ofInt 64 z &&& 4294967295#64).toNat = (BitVec.ofNat 64 (z % 4294967296).toNat).toNat
  rw [BitVec.toNat_and, show (4294967295#64).toNat = 2 ^ 32 - 1 from by decide, Nat.and_two_pow_sub_one_eq_mod, BitVec.toNat_ofNat, BitVec.toNat_ofInt]
  omega
theorem lZ_shr {z : Int} {D : Int64} (hD : (D.toBitVec.smod 64).toNat = 32) (h1 : -2 ^ 63 ≤ z) (h2 : z < 2 ^ 63) : lZ z >>> D = lZ (z / 4294967296) := by
  apply Int64.toInt_inj.mp
  have e : (lZ z >>> D).toInt = (lZ z).toInt >>> 32 := by
    rw [← hD]
    exact BitVec.toInt_sshiftRight ..
  rw [e, Int.shiftRight_eq_div_pow, lZ_toInt h1 h2, lZ_toInt (by omega) (by omega)]
  rfl
theorem lZ_or (x y : Int64) : (x ||| y) = 0 ↔ x = 0 ∧ y = 0 := by
  rw [← Int64.toBitVec_inj, ← Int64.toBitVec_inj (a := x), ← Int64.toBitVec_inj (a := y)]
  exact BitVec.or_eq_zero_iff
theorem lZ_cmp0 {z : Int} (h1 : -2 ^ 63 ≤ z) (h2 : z < 2 ^ 63) : lZ z < 0 ↔ z < 0 := by
  rw [Int64.lt_iff_toInt_lt, lZ_toInt h1 h2]
  rfl
theorem lZ_bv (n : Nat) : (lN n).toBitVec = BitVec.ofNat 64 n := rfl
theorem lZ_nlo {n : Nat} (h : n < 2 ^ 64) : lN n &&& 4294967295 = lN (n % 2 ^ 32) := by
  rw [lZ_N, lZ_lo]
  congr 1
theorem lZ_nhi {n : Nat} (h : n < 2 ^ 64) : ((lN n).toUInt64 >>> ((32 : Int32).toInt64.toUInt64 &&& Int64.toUInt64 63)).toInt64 = lN (n / 2 ^ 32) := by
  have e : (lN n).toUInt64 >>> ((32 : Int32).toInt64.toUInt64 &&& Int64.toUInt64 63) = UInt64.ofNat (n / 2 ^ 32) := UInt64.toNat_inj.mp (by
    rw [UInt64.toNat_shiftRight, show (((32 : Int32).toInt64.toUInt64 &&& Int64.toUInt64 63).toNat % 64) = 32 from by decide, Nat.shiftRight_eq_div_pow, UInt64.toNat_ofNat']
    show (UInt64.ofNat n).toNat / 2 ^ 32 = _
    rw [UInt64.toNat_ofNat', Nat.mod_eq_of_lt h, Nat.mod_eq_of_lt (by omega)])
  rw [e]
  rfl
/-! INTS WITH A SIGN -/
def iZ (z : Int) : Int32 := Int32.ofInt z
theorem iZ_N (n : Nat) : nI n = iZ n := Int32.ofInt_eq_ofNat.symm
theorem iZ_add (a b : Int) : iZ a + iZ b = iZ (a + b) := (Int32.ofInt_add a b).symm
theorem iZ_sub (a b : Int) : iZ a - iZ b = iZ (a - b) := (Int32.ofInt_sub a b).symm
theorem iZ_mul (a b : Int) : iZ a * iZ b = iZ (a * b) := (Int32.ofInt_mul a b).symm
theorem iZ_neg (a : Int) : -iZ a = iZ (-a) := (Int32.ofInt_neg a).symm
theorem iZ_toInt {z : Int} (h1 : -2 ^ 31 ≤ z) (h2 : z < 2 ^ 31) : (iZ z).toInt = z := Int32.toInt_ofInt_of_le h1 h2
theorem iZ_le {a b : Int} (h1 : -2 ^ 31 ≤ a) (h2 : a < 2 ^ 31) (h3 : -2 ^ 31 ≤ b) (h4 : b < 2 ^ 31) : iZ a ≤ iZ b ↔ a ≤ b := by
  rw [Int32.le_iff_toInt_le, iZ_toInt h1 h2, iZ_toInt h3 h4]
theorem iZ_lt {a b : Int} (h1 : -2 ^ 31 ≤ a) (h2 : a < 2 ^ 31) (h3 : -2 ^ 31 ≤ b) (h4 : b < 2 ^ 31) : iZ a < iZ b ↔ a < b := by
  rw [Int32.lt_iff_toInt_lt, iZ_toInt h1 h2, iZ_toInt h3 h4]
theorem iZ_eq {a b : Int} (h1 : -2 ^ 31 ≤ a) (h2 : a < 2 ^ 31) (h3 : -2 ^ 31 ≤ b) (h4 : b < 2 ^ 31) : iZ a = iZ b ↔ a = b := by
  rw [← Int32.toInt_inj, iZ_toInt h1 h2, iZ_toInt h3 h4]

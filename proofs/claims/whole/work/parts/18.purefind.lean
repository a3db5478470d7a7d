/-! BIT LENGTHS -/
def isbl (v b : Nat) : Prop := v < 2 ^ b ∧ (b = 0 ∨ 2 ^ (b - 1) ≤ v)
theorem isbl_lt {v b k : Nat} (h : isbl v b) (hk : v < 2 ^ k) : b ≤ k := by
  rcases Nat.lt_or_ge k b with q | q
  · rcases h.2 with g | g
    · omega
    · have := Nat.pow_le_pow_right (show 0 < 2 by decide) (show k ≤ b - 1 by omega)
      omega
  · exact q
theorem isbl_ge {v b k : Nat} (h : isbl v b) (hk : 2 ^ k ≤ v) : k < b := by
  rcases Nat.lt_or_ge k b with q | q
  · exact q
  · have := Nat.pow_le_pow_right (show 0 < 2 by decide) q
    have := h.1
    omega
theorem isbl_shr {v b k : Nat} (h : isbl v b) (hk : k < b) : isbl (v / 2 ^ k) (b - k) := by
  have hp : 0 < 2 ^ k := Nat.two_pow_pos _
  constructor
  · refine (Nat.div_lt_iff_lt_mul hp).mpr ?_
    rw [← Nat.pow_add, show b - k + k = b from by omega]
    exact h.1
  · rcases h.2 with g | g
    · omega
    · right
      refine (Nat.le_div_iff_mul_le hp).mpr ?_
      rw [← Nat.pow_add, show b - k - 1 + k = b - 1 from by omega]
      exact g
theorem isbl_pos {v b : Nat} (h : isbl v b) (hv : 0 < v) : 0 < b := by
  rcases Nat.eq_zero_or_pos b with q | q
  · have := h.1; rw [q] at this; omega
  · exact q
theorem nI_m {n k : Nat} (h : k ≤ n) : nI n + Int32.ofInt (-(k : Int)) = nI (n - k) := by
  rw [iZ_N, iZ_N]
  refine (iZ_add _ _).trans ?_
  congr 1
  omega
theorem iZ_shr20 {z : Int} (h1 : -2 ^ 31 ≤ z) (h2 : z < 2 ^ 31) : iZ z >>> ((20 : Int32) &&& 31) = iZ (z / 1048576) := by
  apply Int32.toInt_inj.mp
  rw [pk_shr (iZ z) _ 20 (by decide), iZ_toInt h1 h2, iZ_toInt (by omega) (by omega), Int.shiftRight_eq_div_pow]
  rfl
/-! THE FINDER -/
/-- a first guess at the place of the first digit -/
def fd_hp (b : Nat) (q : Int) : Int := ((b : Int) - 1 + q) * 315653 / 1048576 + 1
def wi (cmp : Int32) (ev : Nat) : Nat := if cmp < 0 ∨ cmp = 0 ∧ ev = 1 then 1 else 0
theorem wi_le (cmp : Int32) (ev : Nat) : wi cmp ev ≤ 1 := by
  unfold wi
  split <;> omega
def fd_dc (lb X U : Nat) : Int32 := if lb = 1 then bn_cmp (X + X) U else bn_cmp X U
def fd_dn (lb ev X U : Nat) : Nat := wi (fd_dc lb X U) ev
def fd_up (ev X U O : Nat) : Nat := wi (-(bn_cmp (X + U) O)) ev
def fd_nr (X O m : Nat) : Nat := if 0 < bn_cmp (X + X) O ∨ bn_cmp (X + X) O = 0 ∧ m % 2 = 1 then 1 else 0
theorem fd_dn_le (lb ev X U : Nat) : fd_dn lb ev X U ≤ 1 := wi_le _ _
theorem fd_up_le (ev X U O : Nat) : fd_up ev X U O ≤ 1 := wi_le _ _
theorem fd_nr_le (X O m : Nat) : fd_nr X O m ≤ 1 := by
  unfold fd_nr
  split <;> omega
theorem nI_b0 {x : Nat} (h : x ≤ 1) : nI x = 0 ↔ x = 0 := nI_eq (b := 0) (by omega) (by omega)
theorem nI_bz {x : Nat} (h : x ≤ 1) : narrow .boolean (.int (nI x)) = .int (nI x) := by
  rcases (show x = 0 ∨ x = 1 by omega) with rfl | rfl <;> rfl
theorem nI_big {v : Nat} (h : 2 ^ 31 ≤ v) (h2 : v < 2 ^ 32) : ¬ (0 : Int32) < nI v ∧ ¬ nI v = 0 := by
  have e : (nI v).toInt = (v : Int) - 2 ^ 32 := by
    have e2 : nI v = iZ ((v : Int) - 2 ^ 32) := by
      rw [iZ_N]
      apply Int32.toBitVec_inj.mp
      show BitVec.ofInt 32 _ = BitVec.ofInt 32 _
      apply BitVec.eq_of_toNat_eq
      rw [BitVec.toNat_ofInt, BitVec.toNat_ofInt]
      omega
    rw [e2, iZ_toInt (by omega) (by omega)]
  constructor
  · rw [Int32.lt_iff_toInt_lt, e, Int32.toInt_zero]
    omega
  · intro q
    rw [q, Int32.toInt_zero] at e
    omega
theorem fd_quot {X O d : Nat} (h1 : d * O ≤ X) (h2 : X - d * O < O) : X / O = d ∧ X % O = X - d * O := by
  have hO : 0 < O := by omega
  have e : X = O * d + (X - d * O) := by rw [Nat.mul_comm O d]; omega
  constructor
  · conv => lhs; rw [e]
    rw [Nat.mul_add_div hO, Nat.div_eq_of_lt h2, Nat.add_zero]
  · conv => lhs; rw [e]
    rw [Nat.mul_add_mod, Nat.mod_eq_of_lt h2]
theorem bn_cmp_lt0 {V U : Nat} : bn_cmp V U < 0 ↔ V < U := by
  unfold bn_cmp
  by_cases h : V < U
  · rw [if_pos h]; exact ⟨fun _ => h, fun _ => by decide⟩
  · rw [if_neg h]
    by_cases h2 : V = U
    · rw [if_pos h2]; exact ⟨fun q => absurd q (by decide), fun q => absurd q h⟩
    · rw [if_neg h2]; exact ⟨fun q => absurd q (by decide), fun q => absurd q h⟩
theorem bn_cmp_ge0 {V U : Nat} : 0 ≤ bn_cmp V U ↔ U ≤ V := by
  unfold bn_cmp
  by_cases h : V < U
  · rw [if_pos h]; exact ⟨fun q => absurd q (by decide), fun q => absurd h (by omega)⟩
  · rw [if_neg h]
    by_cases h2 : V = U
    · rw [if_pos h2]; exact ⟨fun _ => by omega, fun _ => by decide⟩
    · rw [if_neg h2]; exact ⟨fun _ => by omega, fun _ => by decide⟩
/-- the first n digits of R / O, and what they leave -/
def fd_m (R O n : Nat) : Nat := R * 10 ^ (n - 1) / O
def fd_r (R O n : Nat) : Nat := R * 10 ^ (n - 1) % O
theorem fd_step {R O n : Nat} (hO : 0 < O) (hn : 0 < n) : fd_m R O (n + 1) = fd_m R O n * 10 + fd_r R O n * 10 / O ∧ fd_r R O (n + 1) = fd_r R O n * 10 % O := by
  unfold fd_m fd_r
  obtain ⟨k, rfl⟩ : ∃ k, n = k + 1 := ⟨n - 1, by omega⟩
  simp only [Nat.add_sub_cancel]
  have e : R * 10 ^ (k + 1) = O * (R * 10 ^ k / O * 10) + R * 10 ^ k % O * 10 := by
    have := Nat.div_add_mod (R * 10 ^ k) O
    rw [Nat.pow_succ, ← Nat.mul_assoc, ← Nat.mul_assoc, ← Nat.add_mul, this]
  constructor
  · rw [e, Nat.mul_add_div hO]
  · rw [e, Nat.mul_add_mod]
theorem fd_m_lt {R O n : Nat} (hO : 0 < O) (hR : R < 10 * O) (hn : 0 < n) : fd_m R O n < 10 ^ n := by
  unfold fd_m
  refine (Nat.div_lt_iff_lt_mul hO).mpr ?_
  obtain ⟨k, rfl⟩ : ∃ k, n = k + 1 := ⟨n - 1, by omega⟩
  rw [Nat.add_sub_cancel, Nat.pow_succ, Nat.mul_assoc, Nat.mul_comm (10 ^ k)]
  exact Nat.mul_lt_mul_of_pos_right hR (Nat.pow_pos (by decide))
theorem fd_m_pos {R O n : Nat} (hO : 0 < O) (hR : O ≤ R) : 0 < fd_m R O n := by
  unfold fd_m
  refine Nat.div_pos (Nat.le_trans hR (Nat.le_mul_of_pos_right _ (Nat.pow_pos (by decide)))) hO
/-- what find leaves: n digits, the nearer one of two; zeros at the end are taken off -/
def fd_res (lb ev R U O : Nat) (P : Int) (D : Nat) (t : Int) : Prop :=
  ∃ n k : Nat, 2 ≤ n ∧ n ≤ 17 ∧ (∀ j, 2 ≤ j → j < n → fd_dn lb ev (fd_r R O j) (U * 10 ^ (j - 1)) = 0 ∧ fd_up ev (fd_r R O j) (U * 10 ^ (j - 1)) O = 0) ∧
    (n = 17 ∨ fd_dn lb ev (fd_r R O n) (U * 10 ^ (n - 1)) ≠ 0 ∨ fd_up ev (fd_r R O n) (U * 10 ^ (n - 1)) O ≠ 0) ∧
    D * 10 ^ k = fd_m R O n + (if fd_up ev (fd_r R O n) (U * 10 ^ (n - 1)) O ≠ 0 ∧ (fd_dn lb ev (fd_r R O n) (U * 10 ^ (n - 1)) = 0 ∨ fd_nr (fd_r R O n) O (fd_m R O n) ≠ 0) then 1 else 0) ∧
    D % 10 ≠ 0 ∧ t = P - (n - 1 : Nat) + k ∧ k < 19
def fd_ev (S : Nat) : Nat := if S % 2 = 0 then 1 else 0

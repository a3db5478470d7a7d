/-! NUMBERS BY THEIR DIGITS to any base G: limbs (G = 10^9, longs) and decimal digits (G = 10, ints) -/
def gw (G V j : Nat) : Nat := V / G ^ j % G
def gl (V : Nat) : Nat → Int64 := fun j => lN (gw 1000000000 V j)
def gd (V : Nat) : Nat → Int32 := fun j => nI (gw 10 V j)
def gml (X Y i : Nat) : Nat → Int64 := fun j => if j < i then gl X j else gl Y j
def gmd (X Y i : Nat) : Nat → Int32 := fun j => if j < i then gd X j else gd Y j
theorem gw_lt {G : Nat} (hG : 0 < G) (V j : Nat) : gw G V j < G := Nat.mod_lt _ hG
theorem gml_0 (X Y : Nat) : gml X Y 0 = gl Y := by
  funext j
  simp [gml]
theorem gmd_0 (X Y : Nat) : gmd X Y 0 = gd Y := by
  funext j
  simp [gmd]
theorem gml_at (X Y i : Nat) : gml X Y i i = lN (gw 1000000000 Y i) := by
  simp [gml, gl]
theorem gmd_at (X Y i : Nat) : gmd X Y i i = nI (gw 10 Y i) := by
  simp [gmd, gd]
theorem gml_up (X Y i : Nat) : vp_updL (gml X Y i) i (lN (gw 1000000000 X i)) = gml X Y (i + 1) := by
  funext j
  unfold vp_updL gml
  by_cases h : j = i
  · subst h
    simp [gl]
  · by_cases h2 : j < i
    · simp [h, h2, Nat.lt_succ_of_lt h2]
    · have h3 : ¬ j < i + 1 := by omega
      simp [h, h2, h3]
theorem gmd_up (X Y i : Nat) : upd (gmd X Y i) i (nI (gw 10 X i)) = gmd X Y (i + 1) := by
  funext j
  unfold upd gmd
  by_cases h : j = i
  · subst h
    simp [gd]
  · by_cases h2 : j < i
    · simp [h, h2, Nat.lt_succ_of_lt h2]
    · have h3 : ¬ j < i + 1 := by omega
      simp [h, h2, h3]
theorem gw_0 {G X n j : Nat} (hG : 0 < G) (hX : X < G ^ n) (h : n ≤ j) : gw G X j = 0 := by
  unfold gw
  rw [Nat.div_eq_of_lt (Nat.lt_of_lt_of_le hX (Nat.pow_le_pow_right hG h))]
  exact Nat.zero_mod _
theorem gml_all {X Y n : Nat} (hX : X < 1000000000 ^ n) (hY : Y < 1000000000 ^ n) : gml X Y n = gl X := by
  funext j
  unfold gml
  by_cases h : j < n
  · simp [h]
  · simp only [h, if_false]
    unfold gl
    rw [gw_0 (by decide) hX (by omega), gw_0 (by decide) hY (by omega)]
theorem gmd_all {X Y n : Nat} (hX : X < 10 ^ n) (hY : Y < 10 ^ n) : gmd X Y n = gd X := by
  funext j
  unfold gmd
  by_cases h : j < n
  · simp [h]
  · simp only [h, if_false]
    unfold gd
    rw [gw_0 (by decide) hX (by omega), gw_0 (by decide) hY (by omega)]
/-- the carry into place i of A + C * F -/
def gc (G A C F i : Nat) : Nat := (A % G ^ i + C % G ^ i * F) / G ^ i
theorem gc_0 (G A C F : Nat) : gc G A C F 0 = 0 := by
  simp [gc, Nat.mod_one]
theorem gc_split (A C F b : Nat) (hb : 0 < b) : (A + C * F) / b = A / b + C / b * F + (A % b + C % b * F) / b := by
  have e : A + C * F = b * (A / b + C / b * F) + (A % b + C % b * F) := by
    conv => lhs; rw [← Nat.div_add_mod A b, ← Nat.div_add_mod C b]
    rw [Nat.mul_add, Nat.add_mul, Nat.mul_assoc]
    omega
  conv => lhs; rw [e]
  rw [Nat.mul_add_div hb]
theorem g_lo (G A C F i : Nat) (hG : 0 < G) : (gw G A i + gw G C i * F + gc G A C F i) % G = gw G (A + C * F) i := by
  unfold gw gc
  have hb : 0 < G ^ i := Nat.pow_pos hG
  generalize G ^ i = b at hb
  rw [gc_split A C F b hb]
  have e1 : A / b = A / b % G + G * (A / b / G) := (Nat.mod_add_div _ _).symm
  have e2 : C / b * F = C / b % G * F + G * (C / b / G * F) := by
    conv => lhs; rw [← Nat.mod_add_div (C / b) G]
    rw [Nat.add_mul, Nat.mul_assoc]
  conv => rhs; rw [e1, e2]
  rw [show A / b % G + G * (A / b / G) + (C / b % G * F + G * (C / b / G * F)) + (A % b + C % b * F) / b = A / b % G + C / b % G * F + (A % b + C % b * F) / b + G * (A / b / G + C / b / G * F) from by rw [Nat.mul_add]; omega, Nat.add_mul_mod_self_left]
theorem g_mod_succ (G V i : Nat) : V % G ^ (i + 1) = G ^ i * gw G V i + V % G ^ i := by
  unfold gw
  rw [Nat.pow_succ, Nat.mod_mul]
  omega
theorem g_hi (G A C F i : Nat) (hG : 0 < G) : (gw G A i + gw G C i * F + gc G A C F i) / G = gc G A C F (i + 1) := by
  have hb : 0 < G ^ i := Nat.pow_pos hG
  unfold gc
  rw [g_mod_succ G A, g_mod_succ G C]
  rw [Nat.pow_succ, ← Nat.div_div_eq_div_mul]
  rw [show G ^ i * gw G A i + A % G ^ i + (G ^ i * gw G C i + C % G ^ i) * F = G ^ i * (gw G A i + gw G C i * F) + (A % G ^ i + C % G ^ i * F) from by rw [Nat.mul_add, Nat.add_mul, Nat.mul_assoc]; omega, Nat.mul_add_div hb]
theorem gc_lt {G A C F i : Nat} (hG : 0 < G) : gc G A C F i ≤ F := by
  unfold gc
  have hb : 0 < G ^ i := Nat.pow_pos hG
  have h1 := Nat.mod_lt A hb
  have h2 := Nat.mod_lt C hb
  generalize G ^ i = b at *
  have h3 : C % b * F ≤ (b - 1) * F := Nat.mul_le_mul_right _ (by omega)
  rcases Nat.eq_zero_or_pos F with q | q
  · rw [q, Nat.mul_zero, Nat.add_zero, Nat.div_eq_of_lt h1]
    exact Nat.zero_le _
  · have h4 : A % b + C % b * F < b * (F + 1) := by
      have : (b - 1) * F = b * F - F := by rw [Nat.sub_mul, Nat.one_mul]
      rw [Nat.mul_add, Nat.mul_one]
      have : F ≤ b * F := Nat.le_mul_of_pos_left _ hb
      omega
    have := (Nat.div_lt_iff_lt_mul hb).mpr (show A % b + C % b * F < (F + 1) * b by rw [Nat.mul_comm (F + 1) b]; exact h4)
    omega
/-- comparing from above -/
theorem g_div_succ (G V i : Nat) (hG : 0 < G) : V / G ^ i = G * (V / G ^ (i + 1)) + gw G V i := by
  unfold gw
  rw [Nat.pow_succ, ← Nat.div_div_eq_div_mul, Nat.div_add_mod]
theorem g_cmp_lt {G V U i : Nat} (hG : 0 < G) (h : V / G ^ (i + 1) = U / G ^ (i + 1)) (hw : gw G V i < gw G U i) : V < U := by
  have h1 : V / G ^ i < U / G ^ i := by
    rw [g_div_succ G V i hG, g_div_succ G U i hG, h]
    omega
  rcases Nat.lt_or_ge V U with q | q
  · exact q
  · have := Nat.div_le_div_right (c := G ^ i) q
    omega
theorem g_cmp_eq {G V U i : Nat} (hG : 0 < G) (h : V / G ^ (i + 1) = U / G ^ (i + 1)) (hw : gw G V i = gw G U i) : V / G ^ i = U / G ^ i := by
  rw [g_div_succ G V i hG, g_div_succ G U i hG, h, hw]
/-- the bits that the reference reads -/
def iw (i : Nat) : Nat := if i = 0 then 1 else 0
theorem iw_le (i : Nat) : iw i ≤ 1 := by
  unfold iw
  split <;> omega
theorem lN_sar (n s : Nat) (hn : n < 2 ^ 64) (hs : s < 64) : lN n >>> ((nI s).toInt64 &&& 63) = lZ ((if n < 2 ^ 63 then (n : Int) else (n : Int) - 2 ^ 64) / (2 ^ s : Nat)) := by
  rw [wb_c s hs]
  have hz : lN n = lZ (if n < 2 ^ 63 then (n : Int) else (n : Int) - 2 ^ 64) := by
    apply Int64.toBitVec_inj.mp
    show BitVec.ofNat 64 n = BitVec.ofInt 64 _
    apply BitVec.eq_of_toNat_eq
    rw [BitVec.toNat_ofNat, BitVec.toNat_ofInt]
    split <;> omega
  generalize hq : (if n < 2 ^ 63 then (n : Int) else (n : Int) - 2 ^ 64) = z at hz
  have hz1 : -2 ^ 63 ≤ z ∧ z < 2 ^ 63 := by
    rw [← hq]
    split <;> omega
  rw [hz]
  apply Int64.toInt_inj.mp
  have e : (lZ z >>> lN s).toInt = (lZ z).toInt >>> s := by
    have hD : ((lN s).toBitVec.smod 64).toNat = s := by
      rw [wb_tb, wb_sm s hs, BitVec.toNat_ofNat, Nat.mod_eq_of_lt (by omega)]
    conv => rhs; rw [← hD]
    exact BitVec.toInt_sshiftRight ..
  have hp : (0 : Int) < (2 ^ s : Nat) := by
    have : 0 < 2 ^ s := Nat.two_pow_pos _
    omega
  have hb1 : -2 ^ 63 ≤ z / (2 ^ s : Nat) := (Int.le_ediv_iff_mul_le hp).mpr (by
    have : (1 : Int) ≤ (2 ^ s : Nat) := by omega
    omega)
  have hb2 : z / (2 ^ s : Nat) < 2 ^ 63 := by
    rcases Int.lt_or_le z 0 with g | g
    · have := Int.ediv_neg_of_neg_of_pos g hp
      omega
    · exact Int.lt_of_le_of_lt (Int.ediv_le_self _ g) hz1.2
  rw [e, lZ_toInt hz1.1 hz1.2, lZ_toInt hb1 hb2, Int.shiftRight_eq_div_pow]
theorem lN_sarq {n s k : Nat} (hn : n < 2 ^ 64) (hsk : s + k ≤ 63) : ∃ u : Int, (if n < 2 ^ 63 then (n : Int) else (n : Int) - 2 ^ 64) / (2 ^ s : Nat) = ((n / 2 ^ s : Nat) : Int) - (2 ^ k : Nat) * u := by
  have hp : ((2 ^ s : Nat) : Int) ≠ 0 := by
    have : 0 < 2 ^ s := Nat.two_pow_pos _
    omega
  split
  · exact ⟨0, by rw [Int.mul_zero, Int.sub_zero]; rfl⟩
  · refine ⟨(2 ^ (64 - s - k) : Nat), ?_⟩
    have e : (2 : Int) ^ 64 = (2 ^ s : Nat) * ((2 ^ k : Nat) * (2 ^ (64 - s - k) : Nat)) := by
      rw [← Int.natCast_mul, ← Int.natCast_mul, ← Nat.pow_add, ← Nat.pow_add, show s + (k + (64 - s - k)) = 64 from by omega]
      rfl
    rw [e, Int.sub_eq_add_neg, ← Int.mul_neg, Int.add_mul_ediv_left _ _ hp, ← Int.sub_eq_add_neg]
    rfl
theorem lN_sarl {n s : Nat} (k : Nat) (hn : n < 2 ^ 64) (hk : k ≤ 11) (hsk : s + k ≤ 63) : (lN n >>> ((nI s).toInt64 &&& 63)).toInt32 &&& nI (2 ^ k - 1) = nI (n / 2 ^ s % 2 ^ k) := by
  obtain ⟨u, hu⟩ := lN_sarq (k := k) hn hsk
  have h2 : 2 ^ k ≤ 2 ^ 11 := Nat.pow_le_pow_right (by decide) hk
  have h3 : 0 < 2 ^ k := Nat.two_pow_pos _
  rw [lN_sar n s hn (by omega), hu]
  have e1 : (lZ (((n / 2 ^ s : Nat) : Int) - (2 ^ k : Nat) * u)).toInt32 = iZ (((n / 2 ^ s : Nat) : Int) - (2 ^ k : Nat) * u) := Int64.toInt32_ofInt
  rw [e1, pk_and _ (m := nI (2 ^ k - 1)) k (by rw [pk_tn (by omega)])]
  congr 1
  show (BitVec.ofInt 32 _).toNat % 2 ^ k = _
  rw [BitVec.toNat_ofInt]
  generalize hy : ((n / 2 ^ s : Nat) : Int) - (2 ^ k : Nat) * u = y
  have hy2 : y % (2 ^ k : Nat) = ((n / 2 ^ s % 2 ^ k : Nat) : Int) := by
    rw [← hy, Int.sub_mul_emod_self_left]
    rfl
  have hd : ((2 ^ k : Nat) : Int) ∣ ((2 ^ 32 : Nat) : Int) := Int.natCast_dvd_natCast.mpr (Nat.pow_dvd_pow 2 (by omega))
  apply Int.ofNat_inj.mp
  rw [Int.natCast_emod, Int.toNat_of_nonneg (Int.emod_nonneg _ (by decide)), Int.emod_emod_of_dvd _ hd, hy2]
theorem lN_sar1 {n s : Nat} (hn : n < 2 ^ 64) (hs : s ≤ 62) : lN n >>> ((nI s).toInt64 &&& 63) &&& 1 = lN (n / 2 ^ s % 2) := by
  obtain ⟨u, hu⟩ := lN_sarq (k := 1) hn (show s + 1 ≤ 63 by omega)
  rw [lN_sar n s hn (by omega), hu]
  apply Int64.toBitVec_inj.mp
  apply BitVec.eq_of_toNat_eq
  generalize hy : ((n / 2 ^ s : Nat) : Int) - (2 ^ 1 : Nat) * u = y
  show (BitVec.ofInt 64 y &&& 1#64).toNat = (BitVec.ofNat 64 (n / 2 ^ s % 2)).toNat
  rw [BitVec.toNat_and, show (1#64).toNat = 2 ^ 1 - 1 from by decide, Nat.and_two_pow_sub_one_eq_mod, BitVec.toNat_ofNat, BitVec.toNat_ofInt]
  omega
theorem lN_neg {n : Nat} (hn : n < 2 ^ 64) : lN n < 0 ↔ n / 2 ^ 63 % 2 = 1 := by
  have hz : lN n = lZ (if n < 2 ^ 63 then (n : Int) else (n : Int) - 2 ^ 64) := by
    apply Int64.toBitVec_inj.mp
    show BitVec.ofNat 64 n = BitVec.ofInt 64 _
    apply BitVec.eq_of_toNat_eq
    rw [BitVec.toNat_ofNat, BitVec.toNat_ofInt]
    split <;> omega
  rw [hz, lZ_cmp0 (by split <;> omega) (by split <;> omega)]
  split <;> omega

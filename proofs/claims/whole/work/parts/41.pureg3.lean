theorem gw_shift (G V k : Nat) (hG : 0 < G) : gw G (V * G) (k + 1) = gw G V k := by
  unfold gw
  rw [Nat.pow_succ, Nat.mul_comm (G ^ k), ← Nat.div_div_eq_div_mul, Nat.mul_div_cancel _ hG]
theorem gw_low (G A C : Nat) : gw G (A + C * G) 0 = gw G A 0 := by
  unfold gw
  rw [Nat.pow_zero, Nat.div_one, Nat.div_one, Nat.add_mul_mod_self_right]
theorem gml_1 {X Y : Nat} (h : gw 1000000000 X 0 = gw 1000000000 Y 0) : gml X Y 1 = gl Y := by
  funext j
  unfold gml
  by_cases q : j < 1
  · obtain rfl : j = 0 := by omega
    simp [gl, h]
  · simp [q]
theorem gc_1 (G A C F : Nat) (hG : 0 < G) : gc G A (C * G) F 1 = 0 := by
  unfold gc
  rw [Nat.pow_one, Nat.mul_mod_left, Nat.zero_mul, Nat.add_zero]
  exact Nat.div_eq_of_lt (Nat.mod_lt _ hG)
theorem g_dig (W k j : Nat) (hj : j < 9) : gw 10 W (9 * k + j) = gw 1000000000 W k / 10 ^ j % 10 := by
  unfold gw
  rw [show (1000000000 : Nat) = 10 ^ 9 from by decide, ← Nat.pow_mul, Nat.pow_add, ← Nat.div_div_eq_div_mul]
  generalize W / 10 ^ (9 * k) = x
  rw [show (10 : Nat) ^ 9 = 10 ^ j * 10 ^ (9 - j) from by rw [← Nat.pow_add]; congr 1; omega, Nat.mod_mul_right_div_self, Nat.mod_mod_of_dvd]
  exact ⟨10 ^ (9 - j - 1), by rw [Nat.mul_comm, ← Nat.pow_succ]; congr 1; omega⟩
/-- cut off below place p -/
theorem g_floor (N p k : Nat) : gw 10 (N / 10 ^ p * 10 ^ p) k = if k < p then 0 else gw 10 N k := by
  by_cases h : k < p
  · rw [if_pos h]
    exact isbt_lo (k := p) (Nat.mul_mod_left _ _) h
  · rw [if_neg h]
    unfold gw
    obtain ⟨d, rfl⟩ : ∃ d, k = p + d := ⟨k - p, by omega⟩
    rw [Nat.pow_add, ← Nat.div_div_eq_div_mul, ← Nat.div_div_eq_div_mul, Nat.mul_div_cancel _ (Nat.pow_pos (by decide))]
/-- one more at place p: what the carry does -/
theorem g_inc0 {X p : Nat} : (X + 10 ^ p) / 10 ^ p = X / 10 ^ p + 1 := by
  rw [Nat.add_div_right _ (Nat.pow_pos (by decide))]
theorem g_incd {X Y q : Nat} (h : Y / 10 ^ q = X / 10 ^ q + 1) : (gw 10 X q = 9 → gw 10 Y q = 0 ∧ Y / 10 ^ (q + 1) = X / 10 ^ (q + 1) + 1) ∧ (gw 10 X q ≠ 9 → gw 10 Y q = gw 10 X q + 1 ∧ Y / 10 ^ (q + 1) = X / 10 ^ (q + 1)) := by
  unfold gw
  rw [Nat.pow_succ, ← Nat.div_div_eq_div_mul, ← Nat.div_div_eq_div_mul, h]
  generalize X / 10 ^ q = a
  constructor
  · intro g; omega
  · intro g; omega
theorem g_hi_eq {X Y q j : Nat} (h : Y / 10 ^ (q + 1) = X / 10 ^ (q + 1)) (hj : q + 1 ≤ j) : gw 10 Y j = gw 10 X j := by
  unfold gw
  obtain ⟨d, rfl⟩ : ∃ d, j = q + 1 + d := ⟨j - q - 1, by omega⟩
  rw [Nat.pow_add, ← Nat.div_div_eq_div_mul, ← Nat.div_div_eq_div_mul, h]
theorem gmd_hi {X Y q : Nat} (h : Y / 10 ^ (q + 1) = X / 10 ^ (q + 1)) : gmd Y X (q + 1) = gd Y := by
  funext j
  unfold gmd
  by_cases g : j < q + 1
  · simp [g]
  · simp only [g, if_false]
    unfold gd
    rw [g_hi_eq h (by omega)]
theorem gmd_lo {X Y p : Nat} (h : ∀ j, j < p → gw 10 Y j = gw 10 X j) : gmd Y X p = gd X := by
  funext j
  unfold gmd
  by_cases g : j < p
  · simp only [g, if_true]
    unfold gd
    rw [h j g]
  · simp [g]
/-- does a number of that size read back -/
def rb (ev L A T : Nat) : Nat := if 0 < T ∧ (L < T ∨ T = L ∧ ev = 1) ∧ (T < A ∨ T = A ∧ ev = 1) then 1 else 0
theorem rb_le (ev L A T : Nat) : rb ev L A T ≤ 1 := ite_le1 _
theorem bn_cmp_gt0 {V U : Nat} : 0 < bn_cmp V U ↔ U < V := by
  unfold bn_cmp
  by_cases h : V < U
  · rw [if_pos h]; exact ⟨fun q => absurd q (by decide), fun q => by omega⟩
  · rw [if_neg h]
    by_cases h2 : V = U
    · rw [if_pos h2]; exact ⟨fun q => absurd q (by decide), fun q => by omega⟩
    · rw [if_neg h2]; exact ⟨fun _ => by omega, fun _ => by decide⟩
theorem bn_cmp_eq0 {V U : Nat} : bn_cmp V U = 0 ↔ V = U := by
  unfold bn_cmp
  by_cases h : V < U
  · rw [if_pos h]; exact ⟨fun q => absurd q (by decide), fun q => by omega⟩
  · rw [if_neg h]
    by_cases h2 : V = U
    · rw [if_pos h2]; exact ⟨fun _ => h2, fun _ => rfl⟩
    · rw [if_neg h2]; exact ⟨fun q => absurd q (by decide), fun q => absurd q h2⟩
/-- the borrow into place k of A - B -/
def gb (A B k : Nat) : Nat := if A % 10 ^ k < B % 10 ^ k then 1 else 0
theorem gb_0 (A B : Nat) : gb A B 0 = 0 := by
  simp [gb, Nat.mod_one]
theorem gb_le (A B k : Nat) : gb A B k ≤ 1 := ite_le1 _
theorem gs_lo {A B : Nat} (k : Nat) (h : B ≤ A) : ((gw 10 A k : Int) - gw 10 B k - gb A B k) % 10 = gw 10 (A - B) k := by
  unfold gw gb
  have hb : 0 < 10 ^ k := Nat.pow_pos (by decide)
  generalize 10 ^ k = b at hb
  obtain ⟨z, h1, h2, h3⟩ := bn_dsub hb h
  have h4 : (if A % b < B % b then 1 else 0 : Nat) = z := by
    by_cases hc : A % b < B % b
    · rw [if_pos hc, h2.mpr hc]
    · have : z ≠ 1 := fun e => hc (h2.mp e)
      rw [if_neg hc]
      omega
  rw [h4]
  omega
theorem gs_hi (A B k : Nat) : ((gw 10 A k : Int) - gw 10 B k - gb A B k < 0 ↔ gb A B (k + 1) = 1) := by
  have hv := g_mod_succ 10 A k
  have hu := g_mod_succ 10 B k
  have hb : 0 < 10 ^ k := Nat.pow_pos (by decide)
  have e1 := Nat.mod_lt A hb
  have e2 := Nat.mod_lt B hb
  unfold gb
  rw [hv, hu]
  generalize 10 ^ k = b at *
  generalize gw 10 A k = wv at *
  generalize gw 10 B k = wu at *
  generalize A % b = v at *
  generalize B % b = u at *
  rcases Nat.lt_trichotomy wv wu with q | q | q
  · have := Nat.mul_le_mul_left b (Nat.succ_le_of_lt q)
    rw [Nat.mul_succ] at this
    rw [if_pos (show b * wv + v < b * wu + u by omega)]
    split <;> omega
  · subst q
    by_cases hc : v < u
    · rw [if_pos hc, if_pos (show b * wv + v < b * wv + u by omega)]
      omega
    · rw [if_neg hc, if_neg (show ¬ b * wv + v < b * wv + u by omega)]
      omega
  · have := Nat.mul_le_mul_left b (Nat.succ_le_of_lt q)
    rw [Nat.mul_succ] at this
    rw [if_neg (show ¬ b * wv + v < b * wu + u by omega)]
    split <;> omega

/-! THE LAYOUTS: 0 is WIDE, 1 is NARROW -/
def FB (i : Nat) : Nat := if i = 0 then 52 else 23
def EB (i : Nat) : Nat := if i = 0 then 11 else 8
def BI (i : Nat) : Nat := if i = 0 then 1023 else 127
def HX (i : Nat) : Nat := if i = 0 then 13 else 6
theorem la_fb : ∀ i, i < 2 → cb_fb.getD i 0 = nI (FB i) := by decide +kernel
theorem la_te : ∀ i, i < 2 → cb_te.getD i 0 = nI (2 ^ EB i - 1) := by decide +kernel
theorem la_bi : ∀ i, i < 2 → cb_bi.getD i 0 = nI (BI i) := by decide +kernel
theorem la_hp : ∀ i, i < 2 → cb_hp.getD i 0 = nI (HX i) := by decide +kernel
theorem la_b (i : Nat) : FB i ≤ 52 ∧ 23 ≤ FB i ∧ EB i ≤ 11 ∧ 8 ≤ EB i ∧ BI i ≤ 1023 ∧ 127 ≤ BI i ∧ HX i ≤ 13 ∧ 6 ≤ HX i ∧ FB i ≤ 4 * HX i ∧ 4 * HX i - FB i ≤ 1 ∧ FB i + EB i ≤ 63 := by
  unfold FB EB BI HX
  split <;> decide
theorem nI_maskw (n : Nat) {k : Nat} (hk : k ≤ 11) : nI n &&& nI (2 ^ k - 1) = nI (n % 2 ^ k) := by
  have h2 : 2 ^ k ≤ 2 ^ 11 := Nat.pow_le_pow_right (by decide) hk
  have h3 : 0 < 2 ^ k := Nat.two_pow_pos _
  rw [pk_and (nI n) (m := nI (2 ^ k - 1)) k (by rw [pk_tn (by omega)])]
  congr 1
  show (BitVec.ofNat 32 n).toNat % 2 ^ k = _
  rw [BitVec.toNat_ofNat, Nat.mod_mod_of_dvd]
  exact Nat.pow_dvd_pow 2 (by omega)
theorem lN_bitw {n k : Nat} (hn : n < 2 ^ 64) (hk : k < 63) : lN n &&& lN (2 ^ k) = 0 ↔ n / 2 ^ k % 2 = 0 := by
  have h1 : 2 ^ k < 2 ^ 64 := Nat.pow_lt_pow_right (by decide) (by omega)
  rw [wb_and hn h1]
  have h2 : n &&& 2 ^ k < 2 ^ 63 := Nat.lt_of_le_of_lt Nat.and_le_right (Nat.pow_lt_pow_right (by decide) hk)
  have h3 : lN (n &&& 2 ^ k) = 0 ↔ n &&& 2 ^ k = 0 := pk_lEQ (b := 0) h2 (by decide)
  rw [h3]
  have hb : n.testBit k = decide (n / 2 ^ k % 2 = 1) := Nat.testBit_eq_decide_div_mod_eq
  constructor
  · intro h
    have h4 : (n &&& 2 ^ k).testBit k = false := by rw [h]; exact Nat.zero_testBit k
    rw [Nat.testBit_and, Nat.testBit_two_pow_self, Bool.and_true, hb] at h4
    have := of_decide_eq_false h4
    omega
  · intro h
    apply Nat.eq_of_testBit_eq
    intro j
    rw [Nat.testBit_and, Nat.zero_testBit]
    by_cases e : k = j
    · subst e
      rw [hb, decide_eq_false (by omega), Bool.false_and]
    · rw [Nat.testBit_two_pow_of_ne e, Bool.and_false]

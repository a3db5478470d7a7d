/-! TEXTS: a row holds the codes t from its start on -/
def tx (f : Nat → Int32) (t : List Nat) : Prop := ∀ j, j < t.length → f j = nI (t.getD j 0)
theorem tx_nil (f : Nat → Int32) : tx f [] := fun j h => absurd h (Nat.not_lt_zero j)
theorem tx_put {f : Nat → Int32} {t : List Nat} (ch : Nat) (h : tx f t) : tx (upd f t.length (nI ch)) (t ++ [ch]) := by
  intro j hj
  unfold upd
  by_cases e : j = t.length
  · subst e
    simp
  · have hlt : j < t.length := by
      rw [List.length_append, List.length_singleton] at hj
      omega
    rw [if_neg e, h j hlt, List.getD_eq_getElem?_getD, List.getD_eq_getElem?_getD, List.getElem?_append_left hlt]
theorem tx_nar {ch : Nat} (h : ch < 65536) : vp_nar .char (nI ch) = nI ch := by
  unfold vp_nar
  rw [(pk_charN h).1]
/-- what codeAt answers -/
def tx_at (t : List Nat) (k : Int32) : Int32 := if 0 ≤ k.toInt ∧ k.toInt < t.length then nI (t.getD k.toInt.toNat 0) else -1
theorem tx_at_in {t : List Nat} {j : Nat} (hj : j < t.length) (hb : j < 2 ^ 31) : tx_at t (nI j) = nI (t.getD j 0) := by
  unfold tx_at
  rw [nI_toInt hb, if_pos ⟨by omega, by omega⟩]
  rfl
theorem tx_at_neg {t : List Nat} {k : Int32} (h : k < 0) : tx_at t k = -1 := by
  unfold tx_at
  rw [Int32.lt_iff_toInt_lt, Int32.toInt_zero] at h
  rw [if_neg (by omega)]
theorem tx_at_out {t : List Nat} {k : Int32} (ht : t.length < 2 ^ 31) (h : nI t.length ≤ k) : tx_at t k = -1 := by
  unfold tx_at
  rw [Int32.le_iff_toInt_le, nI_toInt ht] at h
  rw [if_neg (by omega)]
/-- a whole number of at most four digits: a digit where the number reaches its unit -/
def dws (n U : Nat) : List Nat := if U ≤ n ∨ U = 1 then [48 + n / U % 10] else []
def dw (n : Nat) : List Nat := dws n 1000 ++ (dws n 100 ++ (dws n 10 ++ dws n 1))
theorem dws_len (n U : Nat) : (dws n U).length ≤ 1 := by
  unfold dws
  split <;> simp
def dwz (z : Int) : List Nat := (if z < 0 then [45] else []) ++ dw z.natAbs
theorem dw_len (n : Nat) : (dw n).length ≤ 4 := by
  unfold dw
  have h1 := dws_len n 1000
  have h2 := dws_len n 100
  have h3 := dws_len n 10
  have h4 := dws_len n 1
  simp only [List.length_append]
  omega
theorem dwz_len (z : Int) : (dwz z).length ≤ 5 := by
  unfold dwz
  have := dw_len z.natAbs
  by_cases h : z < 0 <;> simp [h] <;> omega
/-- the hexadecimal digits of fr, of p places, from place k - 1 down, but no zeros at the end -/
def hxc (v : Nat) : Nat := if v < 10 then 48 + v else 87 + v
def hxl (fr p : Nat) : Nat → List Nat
  | 0 => []
  | k + 1 => if k + 1 < p ∧ fr % 16 ^ (k + 1) = 0 then hxl fr p k else hxc (fr / 16 ^ k % 16) :: hxl fr p k
theorem hxl_len (fr p : Nat) : ∀ k, (hxl fr p k).length ≤ k := by
  intro k
  induction k with
  | zero => simp [hxl]
  | succ k ih =>
    unfold hxl
    split
    · omega
    · simp; omega
theorem hxc_lt {v : Nat} (h : v < 16) : hxc v < 128 := by
  unfold hxc
  split <;> omega
theorem hx_mod (fr k : Nat) : fr % 16 ^ (k + 1) = 16 ^ k * (fr / 16 ^ k % 16) + fr % 16 ^ k := by
  rw [Nat.pow_succ, Nat.mod_mul]
  omega
/-- below the last digit that isn't 0 nothing is written -/
theorem hxl_end {fr p : Nat} : ∀ k, k < p → fr % 16 ^ k = 0 → hxl fr p k = [] := by
  intro k
  induction k with
  | zero => intro _ _; rfl
  | succ k ih =>
    intro hk h0
    have h1 := hx_mod fr k
    have hp : 0 < 16 ^ k := Nat.pow_pos (by decide)
    have h2 : fr % 16 ^ k = 0 := by omega
    unfold hxl
    rw [if_pos ⟨hk, h0⟩]
    exact ih (by omega) h2
theorem hx_lo (n : Nat) : nI n &&& 15 = nI (n % 16) := by
  rw [pk_and (nI n) (m := 15) 4 (by decide)]
  congr 1
  show (BitVec.ofNat 32 n).toNat % 2 ^ 4 = _
  rw [BitVec.toNat_ofNat]
  omega
theorem hx_pow (i : Nat) : 2 ^ (4 * i) = 16 ^ i := by rw [Nat.pow_mul]
theorem hx_sh {fr i : Nat} (hf : fr < 2 ^ 64) (hi : i < 16) : ((lN fr).toUInt64 >>> (((4 : Int32) * nI i).toInt64.toUInt64 &&& Int64.toUInt64 63)).toInt64 = lN (fr / 16 ^ i) := by
  rw [show (4 : Int32) * nI i = nI (4 * i) from pk_mul 4 i, wb_shr hf (by omega), hx_pow]
theorem hx_dvd {fr a k : Nat} (h : a ≤ k) (h0 : fr % 16 ^ k = 0) : fr % 16 ^ a = 0 :=
  Nat.mod_eq_zero_of_dvd (Nat.dvd_trans (Nat.pow_dvd_pow 16 h) (Nat.dvd_of_mod_eq_zero h0))
theorem hxl_go {fr p k : Nat} (h : k + 1 < p → fr % 16 ^ (k + 1) ≠ 0) : hxl fr p (k + 1) = hxc (fr / 16 ^ k % 16) :: hxl fr p k := by
  rw [hxl, if_neg (fun q => h q.1 q.2)]
theorem iZ_abs {z : Int} (h1 : -2 ^ 30 < z) (h2 : z < 2 ^ 30) : (if 0 ≤ iZ z then iZ z else 0 - iZ z) = nI z.natAbs := by
  by_cases h : 0 ≤ z
  · rw [if_pos (show (0 : Int32) ≤ iZ z from (iZ_le (a := 0) (b := z) (by omega) (by omega) (by omega) (by omega)).mpr h), iZ_N]
    congr 1
    omega
  · rw [if_neg (show ¬ (0 : Int32) ≤ iZ z from fun q => h ((iZ_le (a := 0) (b := z) (by omega) (by omega) (by omega) (by omega)).mp q)), iZ_N]
    refine (iZ_sub 0 z).trans ?_
    congr 1
    omega

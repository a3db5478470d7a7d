/-! TEXTS: a row holds the codes t from its start on -/
def tx (f : Nat → Int32) (t : List Nat) : Prop := ∀ j, j < t.length → f j = nI (t.getD j 0)
theorem tx_nil (f : Nat → Int32) : tx f [] := fun j h => absurd h (Nat.not_lt_zero j)
theorem tx_put {f : Nat → Int32} {t : List Nat} (ch : Nat) (h : tx f t) : tx (upd f t.length (nI ch)) (t ++ [ch]) := by
  intro j hj
  unfold upd
  by_cases e : j = t.length
  · subst e
    simp
  · have hlt : j < t.length := by
      rw [List.length_append, List.length_singleton] at hj
      omega
    rw [if_neg e, h j hlt, List.getD_eq_getElem?_getD, List.getD_eq_getElem?_getD, List.getElem?_append_left hlt]
theorem tx_nar {ch : Nat} (h : ch < 65536) : vp_nar .char (nI ch) = nI ch := by
  unfold vp_nar
  rw [(pk_charN h).1]
/-- what codeAt answers -/
def tx_at (t : List Nat) (k : Int32) : Int32 := if 0 ≤ k.toInt ∧ k.toInt < t.length then nI (t.getD k.toInt.toNat 0) else -1
theorem tx_at_in {t : List Nat} {j : Nat} (hj : j < t.length) (hb : j < 2 ^ 31) : tx_at t (nI j) = nI (t.getD j 0) := by
  unfold tx_at
  rw [nI_toInt hb, if_pos ⟨by omega, by omega⟩]
  rfl
theorem tx_at_neg {t : List Nat} {k : Int32} (h : k < 0) : tx_at t k = -1 := by
  unfold tx_at
  rw [Int32.lt_iff_toInt_lt, Int32.toInt_zero] at h
  rw [if_neg (by omega)]
theorem tx_at_out {t : List Nat} {k : Int32} (ht : t.length < 2 ^ 31) (h : nI t.length ≤ k) : tx_at t k = -1 := by
  unfold tx_at
  rw [Int32.le_iff_toInt_le, nI_toInt ht] at h
  rw [if_neg (by omega)]
/-- a whole number of at most four digits -/
def dw (n : Nat) : List Nat := (if 1000 ≤ n then [48 + n / 1000 % 10] else []) ++ ((if 100 ≤ n then [48 + n / 100 % 10] else []) ++ ((if 10 ≤ n then [48 + n / 10 % 10] else []) ++ [48 + n % 10]))
def dwz (z : Int) : List Nat := (if z < 0 then [45] else []) ++ dw z.natAbs
theorem dw_len (n : Nat) : 1 ≤ (dw n).length ∧ (dw n).length ≤ 4 := by
  unfold dw
  by_cases h1 : 1000 ≤ n <;> by_cases h2 : 100 ≤ n <;> by_cases h3 : 10 ≤ n <;> simp [h1, h2, h3]
theorem dwz_len (z : Int) : (dwz z).length ≤ 5 := by
  unfold dwz
  have := dw_len z.natAbs
  by_cases h : z < 0 <;> simp [h] <;> omega
/-- the hexadecimal digits of fr, of p places, from place k - 1 down, but no zeros at the end -/
def hxc (v : Nat) : Nat := if v < 10 then 48 + v else 87 + v
def hxl (fr p : Nat) : Nat → List Nat
  | 0 => []
  | k + 1 => if k + 1 < p ∧ fr % 16 ^ (k + 1) = 0 then hxl fr p k else hxc (fr / 16 ^ k % 16) :: hxl fr p k
theorem hxl_len (fr p : Nat) : ∀ k, (hxl fr p k).length ≤ k := by
  intro k
  induction k with
  | zero => simp [hxl]
  | succ k ih =>
    unfold hxl
    split
    · omega
    · simp; omega
theorem hxc_lt {v : Nat} (h : v < 16) : hxc v < 128 := by
  unfold hxc
  split <;> omega
theorem hx_mod (fr k : Nat) : fr % 16 ^ (k + 1) = 16 ^ k * (fr / 16 ^ k % 16) + fr % 16 ^ k := by
  rw [Nat.pow_succ, Nat.mod_mul]
  omega
/-- below the last digit that isn't 0 nothing is written -/
theorem hxl_end {fr p : Nat} : ∀ k, k < p → fr % 16 ^ k = 0 → hxl fr p k = [] := by
  intro k
  induction k with
  | zero => intro _ _; rfl
  | succ k ih =>
    intro hk h0
    have h1 := hx_mod fr k
    have hp : 0 < 16 ^ k := Nat.pow_pos (by decide)
    have h2 : fr % 16 ^ k = 0 := by omega
    unfold hxl
    rw [if_pos ⟨hk, h0⟩]
    exact ih (by omega) h2

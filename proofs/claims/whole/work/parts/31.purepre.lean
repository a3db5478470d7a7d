/-! THE NUMBERS OF EVERY FINITE VALUE FIT THE FINDER'S ROWS: by a table of all exponents -/
def fd_U (P q : Int) : Nat := 1 * 5 ^ (-P).toNat * 2 ^ (q - 1 - P).toNat
def fd_O (P q : Int) : Nat := 1 * 5 ^ P.toNat * 2 ^ (-(q - 1 - P)).toNat
def fd_chk (b : Nat) (q : Int) : Bool :=
  decide (-2000 < fd_hp b q) && (decide (fd_hp b q < 2000) && (decide (fd_U (fd_hp b q) q * 10 ^ 17 < 2 ^ (32 * 26)) && (decide (fd_O (fd_hp b q) q * 10 < 2 ^ (32 * 26)) && (decide (2 * 2 ^ b * fd_U (fd_hp b q) q * 10 ≤ 2 ^ (32 * 26)) && (decide (fd_O (fd_hp b q) q ≤ 2 ^ b * fd_U (fd_hp b q) q * 10) && decide (2 * 2 ^ b * fd_U (fd_hp b q) q ≤ 10 * fd_O (fd_hp b q) q))))))
set_option maxRecDepth 100000 in
theorem fd_t1 : (List.range 2046).all (fun e => fd_chk 53 ((e : Int) + 1 - 1023 - 52)) = true := by decide +kernel
set_option maxRecDepth 100000 in
theorem fd_t2 : (List.range 52).all (fun b => fd_chk (b + 1) (1 - 1023 - 52)) = true := by decide +kernel
set_option maxRecDepth 100000 in
theorem fd_t3 : (List.range 254).all (fun e => fd_chk 24 ((e : Int) + 1 - 127 - 23)) = true := by decide +kernel
set_option maxRecDepth 100000 in
theorem fd_t4 : (List.range 23).all (fun b => fd_chk (b + 1) (1 - 127 - 23)) = true := by decide +kernel
theorem fd_all {n : Nat} {p : Nat → Bool} (h : (List.range n).all p = true) {k : Nat} (hk : k < n) : p k = true := List.all_eq_true.mp h k (List.mem_range.mpr hk)
def sgf (i e fr : Nat) : Nat := if e = 0 then fr else fr + 2 ^ FB i
def lop (e fr : Nat) : Nat := if fr = 0 ∧ 1 < e then 1 else 0
def pwr (i e : Nat) : Int := ((max e 1 : Nat) : Int) - BI i - FB i
theorem isbl_ex {v : Nat} (hv : 0 < v) : isbl v (Nat.log2 v + 1) := by
  constructor
  · exact Nat.lt_log2_self
  · right
    rw [Nat.add_sub_cancel]
    exact Nat.log2_self_le (by omega)
theorem fd_pre {i e fr : Nat} (hi : i < 2) (he : e < 2 ^ EB i - 1) (hfr : fr < 2 ^ FB i) (h0 : ¬ (e = 0 ∧ fr = 0)) : ∃ b, isbl (sgf i e fr) b ∧ b ≤ 53 ∧ 0 < sgf i e fr ∧ fd_chk b (pwr i e) = true := by
  unfold sgf pwr
  rcases (show i = 0 ∨ i = 1 by omega) with rfl | rfl
  · have e1 : EB 0 = 11 := rfl
    have e2 : FB 0 = 52 := rfl
    have e3 : BI 0 = 1023 := rfl
    rw [e1] at he
    rw [e2] at hfr
    rw [e2, e3]
    by_cases hz : e = 0
    · subst hz
      have hp : 0 < fr := by omega
      rw [if_pos rfl]
      have hb := isbl_ex hp
      have hle := isbl_lt hb hfr
      exact ⟨_, hb, by omega, hp, fd_all fd_t2 (k := fr.log2) (by omega)⟩
    · rw [if_neg hz]
      refine ⟨53, ⟨by omega, Or.inr (by omega)⟩, by omega, by omega, ?_⟩
      have := fd_all fd_t1 (k := e - 1) (by omega)
      rw [show ((e - 1 : Nat) : Int) + 1 = ((max e 1 : Nat) : Int) from by omega] at this
      exact this
  · have e1 : EB 1 = 8 := rfl
    have e2 : FB 1 = 23 := rfl
    have e3 : BI 1 = 127 := rfl
    rw [e1] at he
    rw [e2] at hfr
    rw [e2, e3]
    by_cases hz : e = 0
    · subst hz
      have hp : 0 < fr := by omega
      rw [if_pos rfl]
      have hb := isbl_ex hp
      have hle := isbl_lt hb hfr
      exact ⟨_, hb, by omega, hp, fd_all fd_t4 (k := fr.log2) (by omega)⟩
    · rw [if_neg hz]
      refine ⟨24, ⟨by omega, Or.inr (by omega)⟩, by omega, by omega, ?_⟩
      have := fd_all fd_t3 (k := e - 1) (by omega)
      rw [show ((e - 1 : Nat) : Int) + 1 = ((max e 1 : Nat) : Int) from by omega] at this
      exact this
theorem fd_use {S b : Nat} {q : Int} (hb : isbl S b) (hS : 0 < S) (h : fd_chk b q = true) :
    (-2000 < fd_hp b q ∧ fd_hp b q < 2000) ∧ fd_U (fd_hp b q) q * 10 ^ 17 < 2 ^ (32 * 26) ∧ fd_O (fd_hp b q) q * 10 < 2 ^ (32 * 26) ∧ 2 * S * fd_U (fd_hp b q) q * 10 < 2 ^ (32 * 26) ∧ fd_O (fd_hp b q) q ≤ 2 * S * fd_U (fd_hp b q) q * 10 ∧ 2 * S * fd_U (fd_hp b q) q < 10 * fd_O (fd_hp b q) q := by
  unfold fd_chk at h
  simp only [Bool.and_eq_true, decide_eq_true_eq] at h
  obtain ⟨h1, h2, h3, h4, h5, h6, h7⟩ := h
  have hU : 0 < fd_U (fd_hp b q) q := Nat.mul_pos (Nat.mul_pos (by decide) (Nat.pow_pos (by decide))) (Nat.pow_pos (by decide))
  generalize fd_U (fd_hp b q) q = U at *
  generalize fd_O (fd_hp b q) q = O at *
  have hb0 := isbl_pos hb hS
  have g1 : 2 * S * U < 2 * 2 ^ b * U := Nat.mul_lt_mul_of_pos_right (Nat.mul_lt_mul_of_pos_left hb.1 (by decide)) hU
  have g2 : 2 ^ b ≤ 2 * S := by
    rcases hb.2 with g | g
    · omega
    · have : 2 ^ b = 2 ^ (b - 1) * 2 := by rw [← Nat.pow_succ]; congr 1; omega
      omega
  have g3 : 2 ^ b * U ≤ 2 * S * U := Nat.mul_le_mul_right _ g2
  exact ⟨⟨h1, h2⟩, h3, h4, by omega, by omega, by omega⟩
/-- what the class holds as d and t for a finite number that is not zero -/
def cdec (i e fr D : Nat) (t : Int) : Prop := ∃ b : Nat, isbl (sgf i e fr) b ∧ fd_chk b (pwr i e) = true ∧
  fd_res (lop e fr) (fd_ev (sgf i e fr)) (if 2 * sgf i e fr * fd_U (fd_hp b (pwr i e)) (pwr i e) < fd_O (fd_hp b (pwr i e)) (pwr i e) then 2 * sgf i e fr * fd_U (fd_hp b (pwr i e)) (pwr i e) * 10 else 2 * sgf i e fr * fd_U (fd_hp b (pwr i e)) (pwr i e))
    (if 2 * sgf i e fr * fd_U (fd_hp b (pwr i e)) (pwr i e) < fd_O (fd_hp b (pwr i e)) (pwr i e) then fd_U (fd_hp b (pwr i e)) (pwr i e) * 10 else fd_U (fd_hp b (pwr i e)) (pwr i e)) (fd_O (fd_hp b (pwr i e)) (pwr i e))
    (if 2 * sgf i e fr * fd_U (fd_hp b (pwr i e)) (pwr i e) < fd_O (fd_hp b (pwr i e)) (pwr i e) then fd_hp b (pwr i e) - 1 else fd_hp b (pwr i e)) D t
/-- the decimal's part of the class's state: k is the kind -/
def cst (i e fr k D : Nat) (t : Int) : Prop := (k = 4 → cdec i e fr D t) ∧ (k ≠ 4 → D = 0 ∧ t = 0)
def sgn (mi k : Nat) : List Nat := if mi = 1 ∧ k ≠ 1 then [45] else []
theorem sgn_len (mi k : Nat) : (sgn mi k).length ≤ 1 := by
  unfold sgn
  split <;> simp
theorem nI_bf {x : Nat} (h : x ≤ 1) : fits .boolean (.int (nI x)) = true := by
  rcases (show x = 0 ∨ x = 1 by omega) with rfl | rfl <;> rfl
theorem cdec_t {i e fr D : Nat} {t : Int} (h : cdec i e fr D t) (hS : 0 < sgf i e fr) : -2100 < t ∧ t < 2100 ∧ 0 < D := by
  obtain ⟨b, hb, hc, n, k, h1, h2, h3, h4, h5, h6, h7, h8⟩ := h
  have hu := fd_use hb hS hc
  have hD : 0 < D := by
    rcases Nat.eq_zero_or_pos D with q | q
    · rw [q] at h6; omega
    · exact q
  refine ⟨?_, ?_, hD⟩
  · rw [h7]; split <;> omega
  · rw [h7]; split <;> omega

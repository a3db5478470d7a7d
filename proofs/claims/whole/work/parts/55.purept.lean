/-! THE REFERENCE'S WAY OF WRITING THE DIGITS: from a place down, a point behind one of them -/
def prl (D : Nat) (T pt a : Int) : Nat → List Nat
  | 0 => []
  | c + 1 => dga D (a - T) :: ((if a = pt then [46] else []) ++ prl D T pt (a - 1) c)
theorem prl_lo (D : Nat) (T pt : Int) : ∀ (c : Nat) (a : Int), a < pt → prl D T pt a c = plc D T a c := by
  intro c
  induction c with
  | zero => intro a _; rfl
  | succ c ih =>
    intro a h
    rw [prl, plc, if_neg (by omega), ih _ (by omega)]
    rfl
theorem prl_hi (D : Nat) (T pt : Int) (r : Nat) : ∀ (c : Nat) (a : Int), a = pt + c → prl D T pt a (c + 1 + r) = plc D T a (c + 1) ++ ([46] ++ plc D T (pt - 1) r) := by
  intro c
  induction c with
  | zero =>
    intro a h
    rw [show 0 + 1 + r = r + 1 from by omega, prl, if_pos (by omega), prl_lo _ _ _ _ _ (by omega), show a - 1 = pt - 1 from by omega]
    rfl
  | succ c ih =>
    intro a h
    rw [show c + 1 + 1 + r = c + 1 + r + 1 from by omega, prl, if_neg (by omega), ih (a - 1) (by omega), plc]
    rfl
theorem prl_all {D : Nat} {T pt a b : Int} (h1 : pt ≤ a) (h2 : b ≤ pt) : prl D T pt a (a - b + 1).toNat = pls D T a pt ++ ([46] ++ pls D T (pt - 1) b) := by
  have := prl_hi D T pt (pt - b).toNat (a - pt).toNat a (by omega)
  rw [show (a - pt).toNat + 1 + (pt - b).toNat = (a - b + 1).toNat from by omega] at this
  rw [this]
  unfold pls
  rw [show (a - pt).toNat + 1 = (a - pt + 1).toNat from by omega, show (pt - 1 - b + 1) = pt - b from by omega]
theorem gw_dga {D w k : Nat} {z : Int} (h : z = (k : Int) - w) : 48 + gw 10 (D * 10 ^ w) k = dga D z := by
  unfold dga
  by_cases g : w ≤ k
  · rw [if_pos (by omega)]
    unfold gw
    rw [show 10 ^ k = 10 ^ w * 10 ^ (k - w) from by rw [← Nat.pow_add]; congr 1; omega, Nat.mul_comm D, Nat.mul_div_mul_left _ _ (p10 w), show z.toNat = k - w from by omega]
  · rw [if_neg (by omega), isbt_lo (k := w) (Nat.mul_mod_left _ _) (by omega)]
theorem dga_neg {D : Nat} {z : Int} (h : z < 0) : 48 + 0 = dga D z := by
  unfold dga
  rw [if_neg (by omega)]
/-- the two forms of the text -/
theorem dtx_pl {lo hi : Int} {D n : Nat} {T : Int} (h : lo ≤ T + n - 1 ∧ T + n - 1 < hi) : dtx lo hi D n T = pls D T (max (T + n - 1) 0) 0 ++ ([46] ++ pls D T (0 - 1) (min T (0 - 1))) := by
  unfold dtx
  rw [if_pos h]
  rfl
theorem dtx_sc {lo hi : Int} {D n : Nat} {T : Int} (h : ¬ (lo ≤ T + n - 1 ∧ T + n - 1 < hi)) : dtx lo hi D n T = (pls D T (T + n - 1) (T + n - 1) ++ ([46] ++ pls D T (T + n - 1 - 1) (min T (T + n - 1 - 1)))) ++ ([69] ++ dwz (T + n - 1)) := by
  unfold dtx
  rw [if_neg h]
  simp only [List.append_assoc]

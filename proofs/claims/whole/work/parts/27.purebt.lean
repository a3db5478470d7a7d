/-! WHAT THE CLASS PRINTS -/
def kdo (i e fr : Nat) : Nat := if e = 2 ^ EB i - 1 then (if fr = 0 then 2 else 1) else if e = 0 ∧ fr = 0 then 3 else 4
theorem kdo_le (i e fr : Nat) : 1 ≤ kdo i e fr ∧ kdo i e fr ≤ 4 := by
  unfold kdo
  split
  · split <;> omega
  · split <;> omega
/-- the digits' codes from the place of ten a down to b -/
def plc (D : Nat) (T a : Int) : Nat → List Nat
  | 0 => []
  | k + 1 => dga D (a - T) :: plc D T (a - 1) k
theorem plc_len (D : Nat) (T : Int) : ∀ (k : Nat) (a : Int), (plc D T a k).length = k := by
  intro k
  induction k with
  | zero => intro a; rfl
  | succ k ih => intro a; rw [plc, List.length_cons, ih]
def pls (D : Nat) (T a b : Int) : List Nat := plc D T a (a - b + 1).toNat
theorem pls_len (D : Nat) (T a b : Int) : (pls D T a b).length = (a - b + 1).toNat := plc_len D T _ a
def dtx (lo hi : Int) (D n : Nat) (T : Int) : List Nat :=
  if lo ≤ T + n - 1 ∧ T + n - 1 < hi then pls D T (max (T + n - 1) 0) 0 ++ ([46] ++ pls D T (-1) (min T (-1)))
  else pls D T (T + n - 1) (T + n - 1) ++ ([46] ++ (pls D T (T + n - 1 - 1) (min T (T + n - 1 - 1)) ++ ([69] ++ dwz (T + n - 1))))
theorem iZ_maxz (a b : Int) (h1 : -2 ^ 30 < a) (h2 : a < 2 ^ 30) (h3 : -2 ^ 30 < b) (h4 : b < 2 ^ 30) : (if iZ a < iZ b then iZ b else iZ a) = iZ (max a b) := by
  by_cases h : a < b
  · rw [if_pos ((iZ_lt (by omega) (by omega) (by omega) (by omega)).mpr h), Int.max_eq_right (by omega)]
  · rw [if_neg (fun q => h ((iZ_lt (by omega) (by omega) (by omega) (by omega)).mp q)), Int.max_eq_left (by omega)]
theorem iZ_minz (a b : Int) (h1 : -2 ^ 30 < a) (h2 : a < 2 ^ 30) (h3 : -2 ^ 30 < b) (h4 : b < 2 ^ 30) : (if iZ b < iZ a then iZ b else iZ a) = iZ (min a b) := by
  by_cases h : b < a
  · rw [if_pos ((iZ_lt (by omega) (by omega) (by omega) (by omega)).mpr h), Int.min_eq_right (by omega)]
  · rw [if_neg (fun q => h ((iZ_lt (by omega) (by omega) (by omega) (by omega)).mp q)), Int.min_eq_left (by omega)]
/-- the hexadecimal text, without the sign -/
def htxt (i b : Nat) : List Nat := cb_str.getD (if b / 2 ^ FB i % 2 ^ EB i = 0 then 3 else 4) [] ++ (hxl (b % 2 ^ FB i * 2 ^ (4 * HX i - FB i)) (HX i) (HX i) ++ ([112] ++ dwz (((max (b / 2 ^ FB i % 2 ^ EB i) 1 : Nat) : Int) - BI i)))

theorem iZ_of (x : Int32) : ∃ a : Int, -2 ^ 31 ≤ a ∧ a < 2 ^ 31 ∧ x = iZ a := ⟨x.toInt, Int32.le_toInt x, Int32.toInt_lt x, (Int32.ofInt_toInt x).symm⟩
theorem and15_of (x : Int32) : ∃ k, k < 16 ∧ x &&& 15 = nI k := by
  obtain ⟨n, -, rfl⟩ := wb_of32 x
  exact ⟨n % 16, Nat.mod_lt _ (by decide), hx_lo n⟩
theorem txd_len {i e fr mi D n : Nat} {T lo hi9 : Int} (hc : cst i e fr (kdo i e fr) D T) (hn : isnd D n) (h1 : -30 ≤ lo) (h2 : hi9 ≤ 30) : (sgn mi (kdo i e fr) ++ (if kdo i e fr = 4 then dtx lo hi9 D n T else cb_str.getD (if kdo i e fr = 1 then 1 else if kdo i e fr = 2 then 2 else 0) [])).length ≤ 64 := by
  rw [List.length_append]
  have hs := sgn_len mi (kdo i e fr)
  by_cases h : kdo i e fr = 4
  · rw [if_pos h]
    have hcd := hc.1 h
    have hsp := sgf_pos h
    have hct := cdec_t hcd hsp
    have h18 := isnd_18 hn hct.2.2 (cdec_D hcd hsp)
    have hdl := dtx_len (lo := lo) (hi := hi9) (D := D) (T := T) h18.1 h18.2 h1 h2
    omega
  · rw [if_neg h]
    have hz6 : (if kdo i e fr = 1 then 1 else if kdo i e fr = 2 then 2 else 0) < 6 := by
      split
      · decide
      · split <;> decide
    have hq := cb_s_len _ hz6
    omega
theorem txh_len {i e fr mi b : Nat} : (sgn mi (kdo i e fr) ++ (if kdo i e fr = 4 then htxt i b else cb_str.getD (if kdo i e fr = 1 then 1 else if kdo i e fr = 2 then 2 else 5) [])).length ≤ 64 := by
  rw [List.length_append]
  have hs := sgn_len mi (kdo i e fr)
  by_cases h : kdo i e fr = 4
  · rw [if_pos h]
    have h1 := hxl_len (b % 2 ^ FB i * 2 ^ (4 * HX i - FB i)) (HX i) (HX i)
    have h2 := dwz_len (((max (b / 2 ^ FB i % 2 ^ EB i) 1 : Nat) : Int) - BI i)
    have h3 : (cb_str.getD (if b / 2 ^ FB i % 2 ^ EB i = 0 then 3 else 4) []).length = 4 := by split <;> rfl
    have hb9 := la_b i
    unfold htxt
    simp only [List.length_append, List.length_singleton, h3]
    omega
  · rw [if_neg h]
    have hz6 : (if kdo i e fr = 1 then 1 else if kdo i e fr = 2 then 2 else 5) < 6 := by
      split
      · decide
      · split <;> decide
    have hq := cb_s_len _ hz6
    omega
theorem nI_toInt16 : ∀ k, k < 16 → (nI k).toInt = (k : Int) := by decide +kernel

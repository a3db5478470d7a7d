/-! THE REFERENCE'S SEARCH AND THE CLASS'S FINDER AGREE -/
theorem qs_lt {z V r u O G : Nat} (hO : 0 < O) (hG : 0 < G) (h1 : z * O = G * r) (h2 : V * O = G * u) : z < V ↔ r < u := by
  constructor
  · intro h
    have := Nat.mul_lt_mul_of_pos_right h hO
    rw [h1, h2] at this
    exact Nat.lt_of_mul_lt_mul_left this
  · intro h
    have := Nat.mul_lt_mul_of_pos_left h hG
    rw [← h1, ← h2] at this
    exact Nat.lt_of_mul_lt_mul_right this
theorem qs_eq {z V r u O G : Nat} (hO : 0 < O) (hG : 0 < G) (h1 : z * O = G * r) (h2 : V * O = G * u) : z = V ↔ r = u := by
  constructor
  · intro h
    rw [h, h2] at h1
    exact (Nat.eq_of_mul_eq_mul_left hG h1).symm
  · intro h
    rw [h, ← h2] at h1
    exact Nat.eq_of_mul_eq_mul_right hO h1
theorem wi_ne (c : Int32) (ev : Nat) : wi c ev ≠ 0 ↔ (c < 0 ∨ c = 0 ∧ ev = 1) := by
  unfold wi
  by_cases h : c < 0 ∨ c = 0 ∧ ev = 1
  · rw [if_pos h]; exact ⟨fun _ => h, fun _ => by decide⟩
  · rw [if_neg h]; exact ⟨fun g => absurd rfl g, fun g => absurd g h⟩
theorem bn_ncmp {V U : Nat} : (-(bn_cmp V U) < 0 ↔ U < V) ∧ (-(bn_cmp V U) = 0 ↔ V = U) := by
  rcases Nat.lt_trichotomy V U with q | q | q
  · rw [bn_cmp_l q]; exact ⟨⟨fun g => absurd g (by decide), fun g => by omega⟩, ⟨fun g => absurd g (by decide), fun g => by omega⟩⟩
  · subst q; rw [bn_cmp_e]; exact ⟨⟨fun g => absurd g (by decide), fun g => by omega⟩, ⟨fun _ => rfl, fun _ => rfl⟩⟩
  · rw [bn_cmp_g q]; exact ⟨⟨fun _ => q, fun _ => by decide⟩, ⟨fun g => absurd g (by decide), fun g => by omega⟩⟩
theorem fd_up_ne (ev X U O : Nat) : fd_up ev X U O ≠ 0 ↔ (O < X + U ∨ X + U = O ∧ ev = 1) := by
  unfold fd_up
  rw [wi_ne, bn_ncmp.1, bn_ncmp.2]
def dbl (lb X : Nat) : Nat := if lb = 1 then X + X else X
theorem fd_dn_ne (lb ev X U : Nat) : fd_dn lb ev X U ≠ 0 ↔ (dbl lb X < U ∨ dbl lb X = U ∧ ev = 1) := by
  unfold fd_dn fd_dc dbl
  rw [wi_ne]
  by_cases h : lb = 1
  · rw [if_pos h, if_pos h, bn_cmp_lt0, bn_cmp_eq0]
  · rw [if_neg h, if_neg h, bn_cmp_lt0, bn_cmp_eq0]
theorem fd_nr_ne (X O q : Nat) : fd_nr X O q ≠ 0 ↔ (O < X + X ∨ X + X = O ∧ q % 2 = 1) := by
  unfold fd_nr
  by_cases h : O < X + X ∨ X + X = O ∧ q % 2 = 1
  · rw [if_pos (h.imp bn_cmp_gt0.mpr (And.imp_left bn_cmp_eq0.mpr))]; exact ⟨fun _ => h, fun _ => by decide⟩
  · rw [if_neg (fun g => h (g.imp bn_cmp_gt0.mp (And.imp_left bn_cmp_eq0.mp)))]; exact ⟨fun g => absurd rfl g, fun g => absurd g h⟩
theorem rb_ne (ev L A T : Nat) : rb ev L A T ≠ 0 ↔ (0 < T ∧ (L < T ∨ T = L ∧ ev = 1) ∧ (T < A ∨ T = A ∧ ev = 1)) := by
  unfold rb
  by_cases h : 0 < T ∧ (L < T ∨ T = L ∧ ev = 1) ∧ (T < A ∨ T = A ∧ ev = 1)
  · rw [if_pos h]; exact ⟨fun _ => h, fun _ => by decide⟩
  · rw [if_neg h]; exact ⟨fun g => absurd rfl g, fun g => absurd g h⟩
theorem cand_0 (N p : Nat) : cand N p 0 + N % 10 ^ p = N := by
  unfold cand
  rw [Nat.zero_mul, Nat.add_zero, Nat.mul_comm]
  exact Nat.div_add_mod _ _
theorem cand_1 (N p : Nat) : cand N p 1 = cand N p 0 + 10 ^ p := by
  unfold cand
  rw [Nat.zero_mul, Nat.add_zero, Nat.one_mul]
theorem p10 (p : Nat) : 0 < 10 ^ p := Nat.pow_pos (by decide)
/-- the bounds, as both have them -/
def lims (N U0 lb L A : Nat) : Prop := 0 < U0 ∧ lb ≤ 1 ∧ L + (2 - lb) * U0 = N ∧ A = N + 2 * U0
theorem rb_c0 {N U0 lb ev L A p : Nat} (h : lims N U0 lb L A) (hp : 10 ^ p ≤ N) : rb ev L A (cand N p 0) ≠ 0 ↔ (dbl lb (N % 10 ^ p) < 2 * U0 ∨ dbl lb (N % 10 ^ p) = 2 * U0 ∧ ev = 1) := by
  have h0 := cand_0 N p
  have h1 := Nat.mod_lt N (p10 p)
  rw [rb_ne]
  obtain ⟨g1, g2, g3, g4⟩ := h
  generalize cand N p 0 = T at *
  generalize N % 10 ^ p = z at *
  unfold dbl
  rcases (show lb = 0 ∨ lb = 1 by omega) with rfl | rfl
  · rw [if_neg (by decide)]; omega
  · rw [if_pos rfl]; omega
theorem rb_c1 {N U0 lb ev L A p : Nat} (h : lims N U0 lb L A) : rb ev L A (cand N p 1) ≠ 0 ↔ (10 ^ p < N % 10 ^ p + 2 * U0 ∨ N % 10 ^ p + 2 * U0 = 10 ^ p ∧ ev = 1) := by
  have h0 := cand_0 N p
  have h1 := Nat.mod_lt N (p10 p)
  have hp := p10 p
  rw [rb_ne, cand_1]
  obtain ⟨g1, g2, g3, g4⟩ := h
  generalize cand N p 0 = T at *
  generalize N % 10 ^ p = z at *
  generalize 10 ^ p = G at *
  rcases (show lb = 0 ∨ lb = 1 by omega) with rfl | rfl
  · omega
  · omega
theorem rb_lo {N U0 lb ev L A T T' : Nat} (h : lims N U0 lb L A) (ht : rb ev L A T ≠ 0) (h1 : T ≤ T') (h2 : T' ≤ N) : rb ev L A T' ≠ 0 := by
  rw [rb_ne] at *
  obtain ⟨g1, g2, g3, g4⟩ := h
  omega
theorem rb_hi {N U0 lb ev L A T T' : Nat} (h : lims N U0 lb L A) (ht : rb ev L A T ≠ 0) (h1 : T' ≤ T) (h2 : N < T') : rb ev L A T' ≠ 0 := by
  rw [rb_ne] at *
  obtain ⟨g1, g2, g3, g4⟩ := h
  have : L ≤ N := by omega
  omega
/-- a multiple of 10^r lies at or below the floor, or at or above the ceiling -/
theorem mul_lo {N T r : Nat} (hT : T % 10 ^ r = 0) (h : T ≤ N) : T ≤ cand N r 0 := by
  obtain ⟨x, hx⟩ := Nat.dvd_of_mod_eq_zero hT
  unfold cand
  rw [Nat.zero_mul, Nat.add_zero, hx, Nat.mul_comm]
  refine Nat.mul_le_mul_right _ ?_
  rw [Nat.le_div_iff_mul_le (p10 r), Nat.mul_comm, ← hx]
  exact h
theorem mul_hi {N T r : Nat} (hT : T % 10 ^ r = 0) (h : N < T) : cand N r 1 ≤ T := by
  obtain ⟨x, hx⟩ := Nat.dvd_of_mod_eq_zero hT
  unfold cand
  rw [← Nat.add_mul, hx, Nat.mul_comm (10 ^ r)]
  refine Nat.mul_le_mul_right _ ?_
  refine (Nat.div_lt_iff_lt_mul (p10 r)).mpr ?_
  rw [Nat.mul_comm, ← hx]
  exact h
theorem cand_mod (N p k : Nat) {r : Nat} (h : r ≤ p) : cand N p k % 10 ^ r = 0 := by
  unfold cand
  rw [← Nat.add_mul]
  exact Nat.mod_eq_zero_of_dvd (Nat.dvd_trans (Nat.pow_dvd_pow 10 h) (Nat.dvd_mul_left _ _))
/-- a candidate that is a multiple of a higher power is one of that place -/
theorem cand_up {N p r k : Nat} (hk : k ≤ 1) (hpr : p ≤ r) (h : cand N p k % 10 ^ r = 0) : cand N p k = cand N r k := by
  have h0 := cand_0 N p
  have h1 := Nat.mod_lt N (p10 p)
  have h2 := cand_0 N r
  have h3 := Nat.mod_lt N (p10 r)
  have hle : 10 ^ p ≤ 10 ^ r := Nat.pow_le_pow_right (by decide) hpr
  rcases (show k = 0 ∨ k = 1 by omega) with rfl | rfl
  · have a := mul_lo h (show cand N p 0 ≤ N by omega)
    have b := mul_lo (cand_mod N r 0 hpr) (show cand N r 0 ≤ N by omega)
    omega
  · have c1 := cand_1 N p
    have c2 := cand_1 N r
    have a := mul_hi h (show N < cand N p 1 by omega)
    have b := mul_hi (cand_mod N r 1 hpr) (show N < cand N r 1 by omega)
    omega
/-! lengths -/
theorem lnc_ge1 {T : Nat} (hT : T < 10 ^ 864) (h0 : 0 < T) : 1 ≤ lnc T := by
  have hb := btc_ok hT
  have hn := ndc_ok T
  have : btc T < ndc T := by
    rcases hb.2.2 with g | g
    · have h9 := hb.1
      rw [g, Nat.mod_eq_of_lt hT] at h9
      omega
    · rcases Nat.lt_or_ge (btc T) (ndc T) with q | q
      · exact q
      · exfalso
        apply g
        exact gw_0 (by decide) hn.1 q
  unfold lnc
  omega
theorem lnc_le {T F pb : Nat} (hT : T < 10 ^ 864) (hF : 10 ^ F ≤ T) (hl : lnc T ≤ (F : Int) - pb + 1) : T % 10 ^ pb = 0 := by
  have hb := btc_ok hT
  have hn := ndc_ok T
  have h1 : F < ndc T := by
    rcases Nat.lt_or_ge F (ndc T) with q | q
    · exact q
    · have := Nat.pow_le_pow_right (show 0 < 10 by decide) q
      have := hn.1
      omega
  unfold lnc at hl
  have h2 : pb ≤ btc T := by omega
  exact Nat.mod_eq_zero_of_dvd (Nat.dvd_trans (Nat.pow_dvd_pow 10 h2) (Nat.dvd_of_mod_eq_zero hb.1))
theorem btc_ge {T pb : Nat} (hT : T < 10 ^ 864) (hp : pb ≤ 864) (h : T % 10 ^ pb = 0) : pb ≤ btc T := by
  have hb := btc_ok hT
  rcases Nat.lt_or_ge (btc T) pb with q | q
  · rcases hb.2.2 with g | g
    · omega
    · exact absurd (isbt_lo h q) g
  · exact q
theorem lnc_mul {T F pb : Nat} (hT : T < 10 ^ 864) (hF : F ≤ 862) (hpb : pb ≤ F) (h : T % 10 ^ pb = 0) (h0 : 0 < T) (h1 : T ≤ 10 ^ (F + 1)) : lnc T ≤ (F : Int) - pb + 1 := by
  have hn := ndc_ok T
  unfold lnc
  rcases Nat.lt_or_ge T (10 ^ (F + 1)) with q | q
  · have h2 : ndc T ≤ F + 1 := by
      rcases Nat.lt_or_ge (F + 1) (ndc T) with g | g
      · have := hn.2 (F + 1) g
        omega
      · exact g
    have h3 := btc_ge hT (by omega) h
    omega
  · have e : T = 10 ^ (F + 1) := Nat.le_antisymm h1 q
    have h2 : ndc T ≤ F + 2 := by
      rcases Nat.lt_or_ge (F + 2) (ndc T) with g | g
      · have h9 := hn.2 (F + 2) g
        rw [e] at h9
        have := Nat.pow_lt_pow_right (a := 10) (by decide) (show F + 1 < F + 2 by omega)
        omega
      · exact g
    have h3 : F + 1 ≤ btc T := btc_ge hT (by omega) (by rw [e, Nat.mod_self])
    omega
/-! the selection -/
def W7 (N ev L A p : Nat) : Nat := if rb ev L A (cand N p 1) ≠ 0 ∧ (rb ev L A (cand N p 0) = 0 ∨ (10 ^ p < N % 10 ^ p + N % 10 ^ p ∨ N % 10 ^ p + N % 10 ^ p = 10 ^ p ∧ N / 10 ^ p % 2 = 1)) then cand N p 1 else cand N p 0
def gst (N ev L A pb : Nat) (st : Nat × Nat × Nat) : Prop := st.1 = 0 ∨ st.1 = 1 ∧ rb ev L A st.2.1 ≠ 0 ∧ st.2.2 = dst N st.2.1 ∧ st.2.1 % 10 ^ pb = 0
theorem gst_sel {N ev L A pb p T : Nat} {mst : Int} {st : Nat × Nat × Nat} (h : gst N ev L A pb st) (hT : T % 10 ^ pb = 0) : gst N ev L A pb (sel N ev L A mst p st T) := by
  unfold sel
  split
  · exact h
  · split
    · exact h
    · split
      · exact h
      · exact Or.inr ⟨rfl, by assumption, rfl, hT⟩
theorem dst_0 (N p : Nat) : dst N (cand N p 0) = N % 10 ^ p := by
  have h0 := cand_0 N p
  unfold dst
  split <;> omega
theorem dst_1 (N p : Nat) : dst N (cand N p 1) = 10 ^ p - N % 10 ^ p := by
  have h0 := cand_0 N p
  have h1 := Nat.mod_lt N (p10 p)
  rw [cand_1]
  unfold dst
  split <;> omega
theorem gw_c0 (N p : Nat) : gw 10 (cand N p 0) p % 2 = N / 10 ^ p % 2 := by
  unfold gw cand
  rw [Nat.zero_mul, Nat.add_zero, Nat.mul_div_cancel _ (p10 p)]
  omega
theorem gw_c1 (N p : Nat) : gw 10 (cand N p 1) p % 2 = (N / 10 ^ p + 1) % 2 := by
  unfold gw cand
  rw [← Nat.add_mul, Nat.mul_div_cancel _ (p10 p)]
  omega
theorem sel_pb {N U0 lb ev L A pb : Nat} {mst : Int} {st : Nat × Nat × Nat} (h : lims N U0 lb L A) (hs : gst N ev L A pb st) (hl0 : rb ev L A (cand N pb 0) ≠ 0 → lnc (cand N pb 0) ≤ mst) (hl1 : rb ev L A (cand N pb 1) ≠ 0 → lnc (cand N pb 1) ≤ mst)
    (hr : rb ev L A (cand N pb 0) ≠ 0 ∨ rb ev L A (cand N pb 1) ≠ 0) : sel2 N ev L A mst pb st = (1, W7 N ev L A pb, dst N (W7 N ev L A pb)) := by
  have h0 := cand_0 N pb
  have h1 := Nat.mod_lt N (p10 pb)
  have hc1 := cand_1 N pb
  have d0 := dst_0 N pb
  have d1 := dst_1 N pb
  have g0 := gw_c0 N pb
  have g1 := gw_c1 N pb
  have hlo : st.1 = 1 → st.2.1 ≤ N → st.2.1 ≤ cand N pb 0 ∧ rb ev L A (cand N pb 0) ≠ 0 ∧ st.2.2 = N - st.2.1 := by
    intro e1 e2
    rcases hs with q | ⟨q1, q2, q3, q4⟩
    · omega
    · have a := mul_lo q4 e2
      refine ⟨a, rb_lo h q2 a (by omega), ?_⟩
      rw [q3]; unfold dst; split <;> omega
  have hhi : st.1 = 1 → N < st.2.1 → cand N pb 1 ≤ st.2.1 ∧ rb ev L A (cand N pb 1) ≠ 0 ∧ st.2.2 = st.2.1 - N := by
    intro e1 e2
    rcases hs with q | ⟨q1, q2, q3, q4⟩
    · omega
    · have a := mul_hi q4 e2
      refine ⟨a, rb_hi h q2 a (by omega), ?_⟩
      rw [q3]; unfold dst; split <;> omega
  have hs1 : st.1 = 0 ∨ st.1 = 1 := hs.elim Or.inl (fun q => Or.inr q.1)
  clear hs
  have hst : st = (st.1, st.2.1, st.2.2) := rfl
  unfold sel2
  by_cases r0 : rb ev L A (cand N pb 0) = 0
  · have r1 := hr.resolve_left (fun g => g r0)
    have hW : W7 N ev L A pb = cand N pb 1 := if_pos ⟨r1, Or.inl r0⟩
    rw [hW, show sel N ev L A mst pb st (cand N pb 0) = st from by unfold sel; rw [if_pos r0]]
    unfold sel
    rw [if_neg r1, if_neg (by have := hl1 r1; omega)]
    by_cases c : st.1 = 1 ∧ (st.2.2 < dst N (cand N pb 1) ∨ dst N (cand N pb 1) = st.2.2 ∧ gw 10 (cand N pb 1) pb % 2 = 1)
    · rw [if_pos c]
      have a := Nat.lt_or_ge N st.2.1
      rcases a with a | a
      · have b := hhi c.1 a
        have e1 : st.2.1 = cand N pb 1 := by omega
        have e2 : st.2.2 = dst N (cand N pb 1) := by omega
        rw [hst, c.1, e1, e2]
      · exact absurd r0 (hlo c.1 a).2.1
    · rw [if_neg c]
  · have k0 := hl0 r0
    have hS : sel N ev L A mst pb st (cand N pb 0) = (1, cand N pb 0, N % 10 ^ pb) ∨ (sel N ev L A mst pb st (cand N pb 0) = st ∧ st.1 = 1 ∧ N < st.2.1 ∧ (st.2.2 < N % 10 ^ pb ∨ N % 10 ^ pb = st.2.2 ∧ N / 10 ^ pb % 2 = 1)) := by
      unfold sel
      rw [if_neg r0, if_neg (by omega), d0, g0]
      by_cases c : st.1 = 1 ∧ (st.2.2 < N % 10 ^ pb ∨ N % 10 ^ pb = st.2.2 ∧ N / 10 ^ pb % 2 = 1)
      · rw [if_pos c]
        rcases Nat.lt_or_ge N st.2.1 with a | a
        · exact Or.inr ⟨rfl, c.1, a, c.2⟩
        · left
          have b := hlo c.1 a
          have e1 : st.2.1 = cand N pb 0 := by omega
          have e2 : st.2.2 = N % 10 ^ pb := by omega
          rw [hst, c.1, e1, e2]
      · rw [if_neg c]
        exact Or.inl rfl
    rcases hS with hS | ⟨hS, s1, s2, s3⟩
    · rw [hS]
      by_cases r1 : rb ev L A (cand N pb 1) = 0
      · have hW : W7 N ev L A pb = cand N pb 0 := if_neg (fun g => g.1 r1)
        rw [hW, d0]
        unfold sel
        rw [if_pos r1]
      · have k1 := hl1 r1
        unfold sel
        rw [if_neg r1, if_neg (by omega)]
        simp only [true_and]
        rw [d1, g1]
        by_cases c : 10 ^ pb < N % 10 ^ pb + N % 10 ^ pb ∨ N % 10 ^ pb + N % 10 ^ pb = 10 ^ pb ∧ N / 10 ^ pb % 2 = 1
        · have hW : W7 N ev L A pb = cand N pb 1 := if_pos ⟨r1, Or.inr c⟩
          rw [hW, d1, if_neg (by omega)]
        · have hW : W7 N ev L A pb = cand N pb 0 := if_neg (fun g => g.2.elim r0 c)
          rw [hW, d0, if_pos (by omega)]
    · rw [hS]
      have b := hhi s1 s2
      have k1 := hl1 b.2.1
      have c : 10 ^ pb < N % 10 ^ pb + N % 10 ^ pb ∨ N % 10 ^ pb + N % 10 ^ pb = 10 ^ pb ∧ N / 10 ^ pb % 2 = 1 := by omega
      have hW : W7 N ev L A pb = cand N pb 1 := if_pos ⟨b.2.1, Or.inr c⟩
      rw [hW]
      unfold sel
      rw [if_neg b.2.1, if_neg (by omega)]
      by_cases c2 : st.1 = 1 ∧ (st.2.2 < dst N (cand N pb 1) ∨ dst N (cand N pb 1) = st.2.2 ∧ gw 10 (cand N pb 1) pb % 2 = 1)
      · rw [if_pos c2]
        have e1 : st.2.1 = cand N pb 1 := by omega
        have e2 : st.2.2 = dst N (cand N pb 1) := by omega
        rw [hst, s1, e1, e2]
      · rw [if_neg c2]
theorem sel_post {N U0 lb ev L A pb p k : Nat} {mst : Int} (h : lims N U0 lb L A) (hk : k ≤ 1) (hp : p < pb) (hm : rb ev L A (cand N p k) ≠ 0 → lnc (cand N p k) ≤ mst → cand N p k % 10 ^ pb = 0) :
    sel N ev L A mst p (1, W7 N ev L A pb, dst N (W7 N ev L A pb)) (cand N p k) = (1, W7 N ev L A pb, dst N (W7 N ev L A pb)) := by
  unfold sel
  by_cases r : rb ev L A (cand N p k) = 0
  · rw [if_pos r]
  rw [if_neg r]
  by_cases l : mst < lnc (cand N p k)
  · rw [if_pos l]
  rw [if_neg l]
  have e := cand_up hk (by omega) (hm r (by omega))
  have h0 := cand_0 N pb
  have h1 := Nat.mod_lt N (p10 pb)
  have h2 := cand_0 N p
  have h3 := Nat.mod_lt N (p10 p)
  have hc1 := cand_1 N pb
  have hc2 := cand_1 N p
  have d0 := dst_0 N pb
  have d1 := dst_1 N pb
  have h10 : 10 * 10 ^ p ≤ 10 ^ pb := by
    rw [Nat.mul_comm, ← Nat.pow_succ]
    exact Nat.pow_le_pow_right (by decide) hp
  rw [e] at r ⊢
  by_cases w : W7 N ev L A pb = cand N pb k
  · rw [w]
    split <;> rfl
  · rw [if_pos]
    refine ⟨rfl, Or.inl ?_⟩
    show dst N (W7 N ev L A pb) < dst N (cand N pb k)
    unfold W7 at w ⊢
    rcases (show k = 0 ∨ k = 1 by omega) with rfl | rfl
    · by_cases c : rb ev L A (cand N pb 1) ≠ 0 ∧ (rb ev L A (cand N pb 0) = 0 ∨ (10 ^ pb < N % 10 ^ pb + N % 10 ^ pb ∨ N % 10 ^ pb + N % 10 ^ pb = 10 ^ pb ∧ N / 10 ^ pb % 2 = 1))
      · rw [if_pos c, d0, d1]
        have := c.2.resolve_left r
        omega
      · rw [if_neg c] at w
        exact absurd rfl w
    · by_cases c : rb ev L A (cand N pb 1) ≠ 0 ∧ (rb ev L A (cand N pb 0) = 0 ∨ (10 ^ pb < N % 10 ^ pb + N % 10 ^ pb ∨ N % 10 ^ pb + N % 10 ^ pb = 10 ^ pb ∧ N / 10 ^ pb % 2 = 1))
      · rw [if_pos c] at w
        exact absurd rfl w
      · rw [if_neg c, d0, d1]
        have c2 : ¬ (10 ^ pb < N % 10 ^ pb + N % 10 ^ pb) := fun g => c ⟨r, Or.inr (Or.inl g)⟩
        omega
theorem selk_keep {N U0 lb ev L A pb : Nat} {mst : Int} (h : lims N U0 lb L A) (hm : ∀ p k, p < pb → k ≤ 1 → rb ev L A (cand N p k) ≠ 0 → lnc (cand N p k) ≤ mst → cand N p k % 10 ^ pb = 0) :
    ∀ (c : Nat) (p : Int), p < pb → selk N ev L A mst c p (1, W7 N ev L A pb, dst N (W7 N ev L A pb)) = (1, W7 N ev L A pb, dst N (W7 N ev L A pb)) := by
  intro c
  induction c with
  | zero => intro p hp; rfl
  | succ c ih =>
    intro p hp
    rw [selk]
    split
    · rfl
    · rw [sel2, sel_post h (by omega) (by omega) (hm _ _ (by omega) (by omega)), sel_post h (by omega) (by omega) (hm _ _ (by omega) (by omega))]
      exact ih _ (by omega)
theorem selk_run {N U0 lb ev L A pb : Nat} {mst : Int} (h : lims N U0 lb L A) (hm : ∀ p k, p < pb → k ≤ 1 → rb ev L A (cand N p k) ≠ 0 → lnc (cand N p k) ≤ mst → cand N p k % 10 ^ pb = 0)
    (hl0 : rb ev L A (cand N pb 0) ≠ 0 → lnc (cand N pb 0) ≤ mst) (hl1 : rb ev L A (cand N pb 1) ≠ 0 → lnc (cand N pb 1) ≤ mst) (hr : rb ev L A (cand N pb 0) ≠ 0 ∨ rb ev L A (cand N pb 1) ≠ 0) :
    ∀ (c p : Nat) (st : Nat × Nat × Nat), pb ≤ p → p < pb + c → gst N ev L A pb st → selk N ev L A mst c p st = (1, W7 N ev L A pb, dst N (W7 N ev L A pb)) := by
  intro c
  induction c with
  | zero => intro p st h1 h2; omega
  | succ c ih =>
    intro p st h1 h2 hs
    rw [selk, if_neg (by omega), Int.toNat_natCast]
    rcases Nat.lt_or_ge pb p with q | q
    · rw [show (p : Int) - 1 = ((p - 1 : Nat) : Int) from by omega]
      exact ih (p - 1) _ (by omega) (by omega) (gst_sel (gst_sel hs (cand_mod _ _ _ h1)) (cand_mod _ _ _ h1))
    · obtain rfl : pb = p := by omega
      rw [sel_pb h hs hl0 hl1 hr]
      exact selk_keep h hm c _ (by omega)

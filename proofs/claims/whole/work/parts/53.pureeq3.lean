theorem big_fit2 {a b : Nat} (ha : a ≤ 1968) (hb : b ≤ 1076) (hab : a = 0 ∨ b = 0) : 1000 * 2 ^ a * 5 ^ b * 2 ^ 61 < 10 ^ 790 := by
  rcases hab with rfl | rfl
  · rw [Nat.pow_zero, Nat.mul_one]
    exact Nat.lt_of_le_of_lt (Nat.mul_le_mul_right _ (Nat.mul_le_mul_left _ (Nat.pow_le_pow_right (by decide) hb))) (show 1000 * 5 ^ 1076 * 2 ^ 61 < 10 ^ 790 by decide +kernel)
  · rw [Nat.pow_zero, Nat.mul_one]
    exact Nat.lt_of_le_of_lt (Nat.mul_le_mul_right _ (Nat.mul_le_mul_left _ (Nat.pow_le_pow_right (by decide) ha))) (show 1000 * 2 ^ 1968 * 2 ^ 61 < 10 ^ 790 by decide +kernel)
theorem mun_big2 {i e : Nat} (he : e < 2048) (hi : i < 2) : mun i e * 2 ^ 61 < 10 ^ 790 := by
  have := mpw_b he hi
  unfold mun
  exact big_fit2 (by omega) (by omega) (by omega)
/-- the core: the reference's choice is the class's decimal -/
theorem md_core {S U O F M lb ev N L A D n k : Nat} (hU : 0 < U) (hO : 0 < O) (hM : 1000 ≤ M) (hS : 0 < S) (hS53 : S < 2 ^ 53) (hlb : lb ≤ 1) (hS52 : lb = 1 → S ≤ 2 ^ 52) (hE : U * 10 ^ F = 2 * M * O) (hR1 : O ≤ 2 * S * U) (hR2 : 2 * S * U < 10 * O)
    (hN : M * (4 * S) = N) (hL : M * (4 * S - (2 - lb)) = L) (hA : M * (4 * S + 2) = A) (hfit : M * 2 ^ 61 < 10 ^ 864) (hn2 : 2 ≤ n) (hn17 : n ≤ 17)
    (hnone : ∀ j, 2 ≤ j → j < n → fd_dn lb ev (fd_r (2 * S * U) O j) (U * 10 ^ (j - 1)) = 0 ∧ fd_up ev (fd_r (2 * S * U) O j) (U * 10 ^ (j - 1)) O = 0)
    (hstop : n = 17 ∨ fd_dn lb ev (fd_r (2 * S * U) O n) (U * 10 ^ (n - 1)) ≠ 0 ∨ fd_up ev (fd_r (2 * S * U) O n) (U * 10 ^ (n - 1)) O ≠ 0)
    (hD : D * 10 ^ k = fd_m (2 * S * U) O n + (if fd_up ev (fd_r (2 * S * U) O n) (U * 10 ^ (n - 1)) O ≠ 0 ∧ (fd_dn lb ev (fd_r (2 * S * U) O n) (U * 10 ^ (n - 1)) = 0 ∨ fd_nr (fd_r (2 * S * U) O n) O (fd_m (2 * S * U) O n) ≠ 0) then 1 else 0)) :
    n ≤ F + 1 ∧ ∃ p0, isnd N (F + 1) ∧ N < 10 ^ 864 ∧ L < 10 ^ 864 ∧ A < 10 ^ 864 ∧ N + 10 ^ (F + 1) < 10 ^ 864 ∧ fst7 N ev L A (F + 1) p0 ∧ ∀ B0 G0, (selk N ev L A (mst7 (tr7 N ev L A p0)) 3 p0 (0, B0, G0)).2.1 = D * 10 ^ (k + (F + 1 - n)) ∧ (selk N ev L A (mst7 (tr7 N ev L A p0)) 3 p0 (0, B0, G0)).2.2 < 10 ^ 864 := by
  have hlim : lims N M lb L A := by
    refine ⟨by omega, hlb, ?_, ?_⟩
    · rw [← hL, ← hN, Nat.mul_comm (2 - lb), ← Nat.mul_add, show 4 * S - (2 - lb) + (2 - lb) = 4 * S from by omega]
    · rw [← hA, ← hN, Nat.mul_add, Nat.mul_comm 2 M]
  have hNO : 2 * S * U * 10 ^ F = N * O := by
    rw [Nat.mul_assoc, hE, ← hN, show M * (4 * S) = 2 * S * (2 * M) from by rw [Nat.mul_comm, show 4 * S = 2 * S * 2 from by omega, Nat.mul_assoc], Nat.mul_assoc (2 * S)]
  have hF1 : 10 ^ F ≤ N := by
    have h1 : O * 10 ^ F ≤ 2 * S * U * 10 ^ F := Nat.mul_le_mul_right _ hR1
    rw [hNO, Nat.mul_comm N] at h1
    exact Nat.le_of_mul_le_mul_left h1 hO
  have hF2 : N < 10 ^ (F + 1) := by
    have h1 : 2 * S * U * 10 ^ F < 10 * O * 10 ^ F := Nat.mul_lt_mul_of_pos_right hR2 (p10 F)
    rw [hNO, Nat.mul_comm 10 O, Nat.mul_assoc O, Nat.mul_comm 10, ← Nat.pow_succ, Nat.mul_comm O] at h1
    exact Nat.lt_of_mul_lt_mul_right h1
  have hN16 : N * 16 < 10 ^ 864 := by
    have h1 : M * (4 * S * 16) ≤ M * 2 ^ 61 := Nat.mul_le_mul_left _ (by omega)
    rw [← Nat.mul_assoc, hN] at h1
    omega
  have hAN : A ≤ 3 * N := by
    have : M * (4 * S + 2) ≤ M * (3 * (4 * S)) := Nat.mul_le_mul_left _ (by omega)
    rw [Nat.mul_left_comm, hN, hA] at this
    exact this
  have hLN : L ≤ N := by
    have := hlim.2.2.1
    omega
  have hF10 : 10 ^ (F + 1) ≤ 10 * N := by
    rw [Nat.pow_succ, Nat.mul_comm]
    exact Nat.mul_le_mul_left _ hF1
  have hF862 : F ≤ 862 := by
    rcases Nat.lt_or_ge 862 F with g | g
    · have := Nat.pow_le_pow_right (show 0 < 10 by decide) (show 864 ≤ F + 1 by omega)
      omega
    · exact g
  have hF3 : 3 ≤ F := by
    have h1 : 1000 * 4 ≤ M * (4 * S) := Nat.mul_le_mul hM (by omega)
    rcases Nat.lt_or_ge F 3 with g | g
    · have := Nat.pow_le_pow_right (show 0 < 10 by decide) (show F + 1 ≤ 3 by omega)
      omega
    · exact g
  have hN0 : 0 < N := Nat.lt_of_lt_of_le (p10 F) hF1
  have hpN : ∀ p, p ≤ F → 10 ^ p ≤ N := fun p hp => Nat.le_trans (Nat.pow_le_pow_right (by decide) hp) hF1
  have A1 : ∀ j p, 1 ≤ j → p + j = F + 1 → (fd_dn lb ev (fd_r (2 * S * U) O j) (U * 10 ^ (j - 1)) ≠ 0 ↔ rb ev L A (cand N p 0) ≠ 0) ∧ (fd_up ev (fd_r (2 * S * U) O j) (U * 10 ^ (j - 1)) O ≠ 0 ↔ rb ev L A (cand N p 1) ≠ 0) ∧ fd_m (2 * S * U) O j = N / 10 ^ p ∧ (fd_nr (fd_r (2 * S * U) O j) O (fd_m (2 * S * U) O j) ≠ 0 ↔ (10 ^ p < N % 10 ^ p + N % 10 ^ p ∨ N % 10 ^ p + N % 10 ^ p = 10 ^ p ∧ N / 10 ^ p % 2 = 1)) := by
    intro j p h1 h2
    have hr := fd_rel hO h1 h2 hNO
    have hG := p10 p
    have hV : 2 * M * O = 10 ^ p * (U * 10 ^ (j - 1)) := by
      rw [← hE, Nat.mul_left_comm, ← Nat.pow_add, show p + (j - 1) = F from by omega]
    have hz := hr.2
    have e1 := qs_lt hO hG (dbl_sc (lb := lb) hz) hV
    have e2 := qs_eq hO hG (dbl_sc (lb := lb) hz) hV
    have hs : (N % 10 ^ p + 2 * M) * O = 10 ^ p * (fd_r (2 * S * U) O j + U * 10 ^ (j - 1)) := by rw [Nat.add_mul, Nat.mul_add, hz, hV]
    have hs2 : (N % 10 ^ p + N % 10 ^ p) * O = 10 ^ p * (fd_r (2 * S * U) O j + fd_r (2 * S * U) O j) := by rw [Nat.add_mul, Nat.mul_add, hz]
    have e3 := qs_lt hO hG (rfl : 10 ^ p * O = 10 ^ p * O) hs
    have e4 := qs_eq hO hG hs (rfl : 10 ^ p * O = 10 ^ p * O)
    have e5 := qs_lt hO hG (rfl : 10 ^ p * O = 10 ^ p * O) hs2
    have e6 := qs_eq hO hG hs2 (rfl : 10 ^ p * O = 10 ^ p * O)
    refine ⟨?_, ?_, hr.1, ?_⟩
    · rw [fd_dn_ne, rb_c0 hlim (hpN p (by omega)), e1, e2]
    · rw [fd_up_ne, rb_c1 hlim, e3, e4]
    · rw [fd_nr_ne, hr.1, e5, e6]
  have hrb0 : rb ev L A (cand N 0 0) ≠ 0 := by
    have h1 := cand_0 N 0
    rw [Nat.pow_zero, Nat.mod_one, Nat.add_zero] at h1
    rw [h1, rb_ne]
    obtain ⟨g1, g2, g3, g4⟩ := hlim
    rcases (show lb = 0 ∨ lb = 1 by omega) with rfl | rfl <;> omega
  have hnF : n ≤ F + 1 := by
    rcases Nat.lt_or_ge (F + 1) n with g | g
    · have h1 := hnone (F + 1) (by omega) g
      exact absurd h1.1 ((A1 (F + 1) 0 (by omega) (by omega)).1.mpr hrb0)
    · exact g
  obtain ⟨pb, hpb⟩ : ∃ pb, pb + n = F + 1 := ⟨F + 1 - n, by omega⟩
  have hB := A1 n pb (by omega) hpb
  have hread : rb ev L A (cand N pb 0) ≠ 0 ∨ rb ev L A (cand N pb 1) ≠ 0 := by
    rw [← hB.1, ← hB.2.1]
    rcases hstop with h17 | h
    · rw [h17, fd_dn_ne, fd_up_ne]
      have hr := Nat.mod_lt (2 * S * U * 10 ^ (n - 1)) hO
      have hx : fd_r (2 * S * U) O 17 < O := Nat.mod_lt _ hO
      generalize fd_r (2 * S * U) O 17 = X at *
      rw [show 17 - 1 = 16 from rfl]
      apply Classical.byContradiction
      intro hc
      have c1 : ¬ dbl lb X < U * 10 ^ 16 := fun g => hc (Or.inl (Or.inl g))
      have c2 : ¬ O < X + U * 10 ^ 16 := fun g => hc (Or.inr (Or.inl g))
      clear hc
      unfold dbl at c1
      by_cases hl : lb = 1
      · rw [if_pos hl] at c1
        have h1 : 3 * 10 ^ 16 * U ≤ 4 * S * U := by
          rw [show 4 * S * U = 2 * (2 * S * U) from by rw [← Nat.mul_assoc, ← Nat.mul_assoc]]
          omega
        have := Nat.le_of_mul_le_mul_right h1 hU
        have := hS52 hl
        omega
      · rw [if_neg hl] at c1
        have h1 : 2 * 10 ^ 16 * U ≤ 2 * S * U := by omega
        have := Nat.le_of_mul_le_mul_right h1 hU
        omega
    · exact h
  have hW : W7 N ev L A pb = D * 10 ^ (k + pb) := by
    rw [Nat.pow_add, ← Nat.mul_assoc, hD, hB.2.2.1]
    unfold W7
    have hiff : (rb ev L A (cand N pb 1) ≠ 0 ∧ (rb ev L A (cand N pb 0) = 0 ∨ (10 ^ pb < N % 10 ^ pb + N % 10 ^ pb ∨ N % 10 ^ pb + N % 10 ^ pb = 10 ^ pb ∧ N / 10 ^ pb % 2 = 1))) ↔ (fd_up ev (fd_r (2 * S * U) O n) (U * 10 ^ (n - 1)) O ≠ 0 ∧ (fd_dn lb ev (fd_r (2 * S * U) O n) (U * 10 ^ (n - 1)) = 0 ∨ fd_nr (fd_r (2 * S * U) O n) O (N / 10 ^ pb) ≠ 0)) := by
      have q := hB.2.2.2
      rw [hB.2.2.1] at q
      rw [q, hB.2.1]
      have h2 : fd_dn lb ev (fd_r (2 * S * U) O n) (U * 10 ^ (n - 1)) = 0 ↔ rb ev L A (cand N pb 0) = 0 := ⟨fun g => Classical.not_not.mp (fun g2 => hB.1.mpr g2 g), fun g => Classical.not_not.mp (fun g2 => hB.1.mp g2 g)⟩
      rw [h2]
    by_cases c : rb ev L A (cand N pb 1) ≠ 0 ∧ (rb ev L A (cand N pb 0) = 0 ∨ (10 ^ pb < N % 10 ^ pb + N % 10 ^ pb ∨ N % 10 ^ pb + N % 10 ^ pb = 10 ^ pb ∧ N / 10 ^ pb % 2 = 1))
    · rw [if_pos c, if_pos (hiff.mp c), Nat.add_mul]
      rfl
    · rw [if_neg c, if_neg (fun g => c (hiff.mpr g)), Nat.add_mul]
      rfl
  -- sizes of candidates
  have hcu : ∀ p q, p ≤ F + 1 → q ≤ 1 → cand N p q ≤ 10 ^ (F + 1) := by
    intro p q hp hq
    have h1 := mul_hi (r := p) (Nat.mod_eq_zero_of_dvd (Nat.pow_dvd_pow 10 hp)) hF2
    have h2 := cand_1 N p
    have h3 := p10 p
    rcases (show q = 0 ∨ q = 1 by omega) with rfl | rfl <;> omega
  have hcl : ∀ p q, p ≤ F + 1 → q ≤ 1 → rb ev L A (cand N p q) ≠ 0 → 10 ^ F ≤ cand N p q := by
    intro p q hp hq hr
    rcases Nat.lt_or_ge F p with g | g
    · obtain rfl : p = F + 1 := by omega
      have h0 := (rb_ne _ _ _ _).mp hr
      have h1 : 10 ^ (F + 1) ≤ cand N (F + 1) q := Nat.le_of_dvd h0.1 (Nat.dvd_of_mod_eq_zero (cand_mod N (F + 1) q (Nat.le_refl _)))
      have := Nat.pow_le_pow_right (show 0 < 10 by decide) (show F ≤ F + 1 by omega)
      omega
    · have h1 := mul_lo (r := p) (Nat.mod_eq_zero_of_dvd (Nat.pow_dvd_pow 10 g)) hF1
      have h2 := cand_1 N p
      have h3 := p10 p
      rcases (show q = 0 ∨ q = 1 by omega) with rfl | rfl <;> omega
  have h864 : ∀ p q, p ≤ F + 1 → q ≤ 1 → cand N p q < 10 ^ 864 := fun p q hp hq => by
    have := hcu p q hp hq
    omega
  obtain ⟨p0, hp0⟩ := fst7_ex (n := F + 1) hrb0
  refine ⟨hnF, p0, ⟨hF2, fun j hj => hpN j (by omega)⟩, by omega, by omega, by omega, by omega, hp0, ?_⟩
  obtain ⟨q1, q2, q3⟩ := hp0
  obtain ⟨k0, hk0, htr, hrt⟩ : ∃ k0, k0 ≤ 1 ∧ tr7 N ev L A p0 = cand N p0 k0 ∧ rb ev L A (cand N p0 k0) ≠ 0 := by
    unfold tr7
    by_cases g : rb ev L A (cand N p0 0) ≠ 0
    · exact ⟨0, by omega, if_pos g, g⟩
    · exact ⟨1, by omega, if_neg g, q2.resolve_left g⟩
  have htl := hcl p0 k0 q1 hk0 hrt
  have htu := hcu p0 k0 q1 hk0
  have ht864 := h864 p0 k0 q1 hk0
  have ht0 : 0 < cand N p0 k0 := ((rb_ne _ _ _ _).mp hrt).1
  have hpp : (p0 = pb ∧ p0 + 1 ≤ F) ∨ (F ≤ p0 ∧ pb + 1 = F) := by
    rcases Nat.lt_or_ge p0 F with g | g
    · left
      rcases Nat.lt_trichotomy p0 pb with h | h | h
      · have := q3 pb h (by omega)
        exact absurd hread (fun g => g.elim (fun g => g this.1) (fun g => g this.2))
      · omega
      · have h1 := hnone (F + 1 - p0) (by omega) (by omega)
        have h2 := A1 (F + 1 - p0) p0 (by omega) (by omega)
        exact absurd q2 (fun g => g.elim (fun g => h2.1.mpr g h1.1) (fun g => h2.2.1.mpr g h1.2))
    · right
      refine ⟨g, ?_⟩
      rcases Nat.lt_or_ge 2 n with h | h
      · exfalso
        have h1 := hnone 2 (by omega) h
        have h2 := A1 2 (F - 1) (by omega) (by omega)
        have hmod : cand N p0 k0 % 10 ^ (F - 1) = 0 := cand_mod N p0 k0 (by omega)
        rcases Nat.lt_or_ge N (cand N p0 k0) with a | a
        · have b := mul_hi hmod a
          have c0 := cand_0 N (F - 1)
          have c1 := cand_1 N (F - 1)
          have c2 := Nat.mod_lt N (p10 (F - 1))
          exact h2.2.1.mpr (rb_hi hlim hrt b (by omega)) h1.2
        · have b := mul_lo hmod a
          have c0 := cand_0 N (F - 1)
          exact h2.1.mpr (rb_lo hlim hrt b (by omega)) h1.1
      · omega
  have hms : mst7 (tr7 N ev L A p0) = (F : Int) - pb + 1 := by
    rw [htr]
    unfold mst7
    rcases hpp with ⟨e, h⟩ | ⟨h, e⟩
    · have h1 := lnc_mul ht864 hF862 (show p0 ≤ F by omega) (cand_mod N p0 k0 (Nat.le_refl _)) ht0 htu
      have h2 : ¬ lnc (cand N p0 k0) ≤ (F : Int) - (p0 + 1 : Nat) + 1 := by
        intro g
        have h3 := lnc_le ht864 htl g
        have h4 := cand_up hk0 (show p0 ≤ p0 + 1 by omega) h3
        have h5 := q3 (p0 + 1) (by omega) (by omega)
        rw [h4] at hrt
        rcases (show k0 = 0 ∨ k0 = 1 by omega) with rfl | rfl
        · exact hrt h5.1
        · exact hrt h5.2
      rw [if_neg (by omega)]
      omega
    · have h1 := lnc_mul ht864 hF862 (Nat.le_refl F) (cand_mod N p0 k0 h) ht0 htu
      have h2 := lnc_ge1 ht864 ht0
      rw [if_pos (by omega)]
      omega
  intro B0 G0
  rw [hms, show F + 1 - n = pb from by omega, ← hW]
  have hl : ∀ q, q ≤ 1 → rb ev L A (cand N pb q) ≠ 0 → lnc (cand N pb q) ≤ (F : Int) - pb + 1 := fun q hq hr =>
    lnc_mul (h864 pb q (by omega) hq) hF862 (by omega) (cand_mod N pb q (Nat.le_refl _)) ((rb_ne _ _ _ _).mp hr).1 (hcu pb q (by omega) hq)
  rw [selk_run hlim (fun p q hp hq hr hln => lnc_le (h864 p q (by omega) hq) (hcl p q (by omega) hq hr) hln) (hl 0 (by omega)) (hl 1 (by omega)) hread 3 p0 _ (by omega) (by omega) (Or.inl rfl)]
  refine ⟨rfl, dst_lt (by omega) ?_⟩
  unfold W7
  split
  · exact h864 pb 1 (by omega) (by omega)
  · exact h864 pb 0 (by omega) (by omega)
theorem md_ok {i e fr D : Nat} {t : Int} {N L A ev : Nat} (hi : i < 2) (he : e < 2048) (hfr : fr < 2 ^ FB i) (hS : 0 < sgf i e fr) (h : cdec i e fr D t)
    (hN : mun i e * (4 * sgf i e fr) = N) (hL : mun i e * (4 * sgf i e fr - (2 - lop e fr)) = L) (hA : mun i e * (4 * sgf i e fr + 2) = A) (hev : fd_ev fr = ev) :
    ∃ nN p0 w : Nat, isnd N nN ∧ N < 10 ^ 864 ∧ L < 10 ^ 864 ∧ A < 10 ^ 864 ∧ N + 10 ^ nN < 10 ^ 864 ∧ fst7 N ev L A nN p0 ∧ D % 10 ≠ 0 ∧ D < 10 ^ 18 ∧ w ≤ 806 ∧ (w : Int) = t + (3 + (-(mpw i e)).toNat : Nat) ∧ ∀ B0 G0, (selk N ev L A (mst7 (tr7 N ev L A p0)) 3 p0 (0, B0, G0)).2.1 = D * 10 ^ w ∧ (selk N ev L A (mst7 (tr7 N ev L A p0)) 3 p0 (0, B0, G0)).2.2 < 10 ^ 864 := by
  have hD18 := cdec_D h hS
  obtain ⟨U, O, F, hU, hO, hE, hR1, hR2, n, k, hn2, hn17, hnone, hstop, hD, hD10, ht, hk⟩ := cd_un h hS
  have hb := la_b i
  have h52 : 2 ^ FB i ≤ 2 ^ 52 := Nat.pow_le_pow_right (by decide) (by omega)
  have hS53 : sgf i e fr < 2 ^ 53 := by unfold sgf; split <;> omega
  have hlb : lop e fr ≤ 1 := by unfold lop; exact ite_le1 _
  have hS52 : lop e fr = 1 → sgf i e fr ≤ 2 ^ 52 := by
    unfold lop sgf
    intro g
    split at g
    · split <;> omega
    · omega
  have hM : 1000 ≤ mun i e := by
    unfold mun
    rw [Nat.mul_assoc]
    exact Nat.le_mul_of_pos_right _ (Nat.mul_pos (Nat.pow_pos (by decide)) (Nat.pow_pos (by decide)))
  rw [ev_fr, hev] at hnone hstop hD
  have hfit := mun_big he hi
  obtain ⟨hnF, p0, a1, a2, a3, a4, a5, a6, a7⟩ := md_core hU hO hM hS hS53 hlb hS52 hE hR1 hR2 hN hL hA hfit hn2 hn17 hnone hstop hD
  refine ⟨F + 1, p0, k + (F + 1 - n), a1, a2, a3, a4, a5, a6, hD10, hD18, ?_, ?_, a7⟩
  · have h1 := a1.2 F (by omega)
    have h2 : N * 16 < 10 ^ 864 := by
      have h1 : mun i e * (4 * sgf i e fr * 16) ≤ mun i e * 2 ^ 61 := Nat.mul_le_mul_left _ (by omega)
      rw [← Nat.mul_assoc, hN] at h1
      omega
    rcases Nat.lt_or_ge F 790 with g | g
    · omega
    · exfalso
      have h3 : 10 ^ 790 ≤ 10 ^ F := Nat.pow_le_pow_right (by decide) g
      have h4 : mun i e * (4 * sgf i e fr) ≤ mun i e * 2 ^ 61 := Nat.mul_le_mul_left _ (by omega)
      have h5 := mun_big2 he hi
      omega
  · omega
/-- nine numbers -/
def v9 (a b c d e f g h i : Nat) : Nat → Nat
  | 0 => a
  | 1 => b
  | 2 => c
  | 3 => d
  | 4 => e
  | 5 => f
  | 6 => g
  | 7 => h
  | _ => i
theorem v9_lt {a b c d e f g h i B : Nat} (h0 : a < B) (h1 : b < B) (h2 : c < B) (h3 : d < B) (h4 : e < B) (h5 : f < B) (h6 : g < B) (h7 : h < B) (h8 : i < B) (j : Nat) : v9 a b c d e f g h i j < B := by
  unfold v9
  split <;> assumption
theorem isbt_D {D w : Nat} (h : D % 10 ≠ 0) (hw : w ≤ 864) : isbt (D * 10 ^ w) w := by
  refine ⟨Nat.mul_mod_left _ _, hw, Or.inr ?_⟩
  unfold gw
  rw [Nat.mul_div_cancel _ (p10 w)]
  exact h
theorem isnd_D {D n w : Nat} (h : isnd D n) (h0 : 0 < n) : isnd (D * 10 ^ w) (n + w) := by
  constructor
  · rw [Nat.pow_add]
    exact Nat.mul_lt_mul_of_pos_right h.1 (p10 w)
  · intro j hj
    refine Nat.le_trans (Nat.pow_le_pow_right (by decide) (show j ≤ n - 1 + w by omega)) ?_
    rw [Nat.pow_add]
    exact Nat.mul_le_mul_right _ (h.2 (n - 1) (by omega))
theorem D_fit {D w : Nat} (h : D < 10 ^ 18) (hw : w ≤ 806) : D * 10 ^ w < 10 ^ 864 := by
  have h1 : D * 10 ^ w < 10 ^ 18 * 10 ^ w := Nat.mul_lt_mul_of_pos_right h (p10 w)
  rw [← Nat.pow_add] at h1
  exact Nat.lt_of_lt_of_le h1 (Nat.pow_le_pow_right (by decide) (by omega))
theorem e9_lt {i e : Nat} (h : e < 2 ^ EB i) : e < 2048 := by
  have hb := la_b i
  have : 2 ^ EB i ≤ 2 ^ 11 := Nat.pow_le_pow_right (by decide) (by omega)
  omega
theorem mun_lt {i e : Nat} (he : e < 2048) (hi : i < 2) : mun i e < 10 ^ 864 := by
  have := mun_big he hi
  omega

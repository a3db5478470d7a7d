/-! THE REFERENCE'S SEARCH, as a function -/
noncomputable def ndc (T : Nat) : Nat := Classical.choose (isnd_ex T)
theorem ndc_ok (T : Nat) : isnd T (ndc T) := Classical.choose_spec (isnd_ex T)
theorem isbt_ex {V : Nat} (hV : V < 10 ^ 864) : ∃ k, isbt V k := by
  by_cases h : ∃ k, gw 10 V k ≠ 0
  · obtain ⟨k, hk, hl⟩ := pk_least (fun k => gw 10 V k ≠ 0) h
    have hz : ∀ j, j ≤ k → V % 10 ^ j = 0 := by
      intro j
      induction j with
      | zero => intro _; rw [Nat.pow_zero, Nat.mod_one]
      | succ j ih =>
        intro hj
        rw [g_mod_succ, ih (by omega), Classical.not_not.mp (hl j (by omega)), Nat.mul_zero]
    refine ⟨k, hz k (Nat.le_refl _), ?_, Or.inr hk⟩
    rcases Nat.lt_or_ge 864 k with q | q
    · exact absurd (gw_0 (by decide) hV (by omega)) hk
    · exact q
  · have hz : ∀ j, V % 10 ^ j = 0 := by
      intro j
      induction j with
      | zero => rw [Nat.pow_zero, Nat.mod_one]
      | succ j ih => rw [g_mod_succ, ih, Classical.not_not.mp (fun g => h ⟨j, g⟩), Nat.mul_zero]
    exact ⟨864, hz 864, Nat.le_refl _, Or.inl rfl⟩
theorem btc_ex (V : Nat) : ∃ k, V < 10 ^ 864 → isbt V k := by
  by_cases h : V < 10 ^ 864
  · obtain ⟨k, hk⟩ := isbt_ex h
    exact ⟨k, fun _ => hk⟩
  · exact ⟨0, fun g => absurd g h⟩
noncomputable def btc (V : Nat) : Nat := Classical.choose (btc_ex V)
theorem btc_ok {V : Nat} (h : V < 10 ^ 864) : isbt V (btc V) := Classical.choose_spec (btc_ex V) h
def cand (N p k : Nat) : Nat := N / 10 ^ p * 10 ^ p + k * 10 ^ p
def dst (N T : Nat) : Nat := if T < N then N - T else T - N
/-- the length as the reference counts it -/
noncomputable def lnc (T : Nat) : Int := ((ndc T : Int) - 1) - btc T + 1
noncomputable def sel (N ev L A : Nat) (mst : Int) (p : Nat) (st : Nat × Nat × Nat) (T : Nat) : Nat × Nat × Nat :=
  if rb ev L A T = 0 then st else if mst < lnc T then st else if st.1 = 1 ∧ (st.2.2 < dst N T ∨ dst N T = st.2.2 ∧ gw 10 T p % 2 = 1) then st else (1, T, dst N T)
noncomputable def sel2 (N ev L A : Nat) (mst : Int) (p : Nat) (st : Nat × Nat × Nat) : Nat × Nat × Nat := sel N ev L A mst p (sel N ev L A mst p st (cand N p 0)) (cand N p 1)
noncomputable def selk (N ev L A : Nat) (mst : Int) : Nat → Int → Nat × Nat × Nat → Nat × Nat × Nat
  | 0, _, st => st
  | c + 1, p, st => if p < 0 then st else selk N ev L A mst c (p - 1) (sel2 N ev L A mst p.toNat st)
/-- the first place, from above, at which something reads back -/
def fst7 (N ev L A n p : Nat) : Prop := p ≤ n ∧ (rb ev L A (cand N p 0) ≠ 0 ∨ rb ev L A (cand N p 1) ≠ 0) ∧ ∀ q, p < q → q ≤ n → rb ev L A (cand N q 0) = 0 ∧ rb ev L A (cand N q 1) = 0
def tr7 (N ev L A p : Nat) : Nat := if rb ev L A (cand N p 0) ≠ 0 then cand N p 0 else cand N p 1
noncomputable def mst7 (T : Nat) : Int := if lnc T = 1 then 2 else lnc T
theorem dst_lt {N T M : Nat} (h1 : N < M) (h2 : T < M) : dst N T < M := by
  unfold dst
  split <;> omega
theorem sel_bd {N ev L A p T M : Nat} {mst : Int} {st : Nat × Nat × Nat} (h1 : st.1 ≤ 1) (h2 : st.2.1 < M) (h3 : st.2.2 < M) (hT : T < M) (hN : N < M) : (sel N ev L A mst p st T).1 ≤ 1 ∧ (sel N ev L A mst p st T).2.1 < M ∧ (sel N ev L A mst p st T).2.2 < M := by
  unfold sel
  split
  · exact ⟨h1, h2, h3⟩
  · split
    · exact ⟨h1, h2, h3⟩
    · split
      · exact ⟨h1, h2, h3⟩
      · exact ⟨Nat.le_refl _, hT, dst_lt hN hT⟩

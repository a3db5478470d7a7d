/-! what the Statement gives of the start: the background of all contracts -/
abbrev bkF : List Cond := flatC (Jvm.Cond.and given_1 narrow_1)
theorem bk_ex : ∀ i, i < 2 → Cond.exactly (.static R_La (cb_nm.getD i "") "LBinaryText$Layout;") R_La ∈ bkF := by decide +kernel
theorem bk_f : ∀ q ∈ cb_F, ∀ i, i < 2 → Cond.eq (.field (.static R_La (cb_nm.getD i "") "LBinaryText$Layout;") q.1 q.2.1 q.2.2.1) (.int (q.2.2.2.getD i 0)) ∈ bkF := by decide +kernel
theorem bk_d : ∀ i, i < 2 → ∀ j, j < 2 → i ≠ j → Cond.not (.eq (.static R_La (cb_nm.getD i "") "LBinaryText$Layout;") (.static R_La (cb_nm.getD j "") "LBinaryText$Layout;")) ∈ bkF ∨ Cond.not (.eq (.static R_La (cb_nm.getD j "") "LBinaryText$Layout;") (.static R_La (cb_nm.getD i "") "LBinaryText$Layout;")) ∈ bkF := by decide +kernel
theorem bk_cs : Cond.eq (.static R_St "COMPACT_STRINGS" "Z") (.int 1) ∈ bkF := by decide +kernel
theorem bk_si : Cond.isRef (.static R_Pr "SIOOBE_FORMATTER" "Ljava/util/function/BiFunction;") ∈ bkF := by decide +kernel
def bkT (i : Nat) : Term := .string R_Bt (cb_idx.getD i 0)
theorem bk_s1 : ∀ i, i < 6 → Cond.exactly (bkT i) "java/lang/String" ∈ bkF := by decide +kernel
theorem bk_s2 : ∀ i, i < 6 → Cond.eq (.field (bkT i) "java/lang/String" "coder" "B") (.int 0) ∈ bkF := by decide +kernel
theorem bk_s3 : ∀ i, i < 6 → Cond.arrayOf (.field (bkT i) "java/lang/String" "value" "[B") .byte ∈ bkF := by decide +kernel
theorem bk_s4 : ∀ i, i < 6 → Cond.eq (.length (.field (bkT i) "java/lang/String" "value" "[B")) (.int (Int32.ofNat (cb_len.getD i 0))) ∈ bkF := by decide +kernel
theorem bk_s5 : ∀ i, i < 6 → ∀ j, j < cb_len.getD i 0 → Cond.eq (.elem (.field (bkT i) "java/lang/String" "value" "[B") (.int (Int32.ofNat j))) (.int ((cb_byt.getD i []).getD j 0)) ∈ bkF := by decide +kernel
theorem bk_s6 : ∀ i, i < 6 → ∀ j, j < 6 → i ≠ j → Cond.not (.eq (bkT i) (bkT j)) ∈ bkF ∨ Cond.not (.eq (bkT j) (bkT i)) ∈ bkF := by decide +kernel
theorem bk_ls (i : Nat) (hi : i < 2) : Cond.laysStatic R_La (cb_nm.getD i "") "LBinaryText$Layout;" ∈ tables_1 := by
  rcases (show i = 0 ∨ i = 1 by omega) with rfl | rfl
  · exact ls_La_WIDE
  · exact ls_La_NARROW
theorem bk_sr (i : Nat) (hi : i < 6) : Cond.stringRef R_Bt (cb_idx.getD i 0) (cb_txt.getD i "") ∈ tables_1 := by
  rcases (show i = 0 ∨ i = 1 ∨ i = 2 ∨ i = 3 ∨ i = 4 ∨ i = 5 by omega) with rfl | rfl | rfl | rfl | rfl | rfl
  · exact sr_Bt_78
  · exact sr_Bt_130
  · exact sr_Bt_135
  · exact sr_Bt_162
  · exact sr_Bt_164
  · exact sr_Bt_90
theorem bk_nest (w : Cond) (hw : w ∈ cb_nest) : w ∈ tables_1 := by
  simp only [cb_nest, List.mem_cons, List.not_mem_nil, or_false] at hw
  rcases hw with rfl | rfl | rfl | rfl | rfl | rfl | rfl
  · exact mln_Bt_9
  · exact mln_Fi_9
  · exact mln_Bt_18
  · exact mln_Bt_25
  · exact fln_Bt_64
  · exact fln_Bt_68
  · exact fln_Bt_84
theorem law_back {s : State} {b9 : Nat} {A : Nat → Prop} (hgv : (Jvm.Cond.and given_1 narrow_1).before #[Value.ref b9] s = true) (hts0 : ∀ w ∈ lw_tbl, w.before #[Value.ref b9] s = true) (hA0 : ∀ a : Nat, a < s.heap.size → ¬ A a) : ∃ ad adK adV : Nat → Nat, cb_E ad adK adV A s s.heap := by
  have hs : ∀ w ∈ bkF, w.before #[Value.ref b9] s = true := flat_of_before _ hgv
  have ht : ∀ w ∈ tables_1, w.before #[Value.ref b9] s = true := fun w h => hts0 w (List.mem_append_right _ h)
  have hg : ∀ w ∈ gT, w.before #[Value.ref b9] s = true := fun w h => hts0 w (List.mem_filter.mp h).1
  obtain ⟨ad, hEn, -⟩ := va_Enof2 (args := #[Value.ref b9]) (s := s) (E := R_La) (d := "LBinaryText$Layout;") (nm := cb_nm) (F := cb_F) (A := A) (fun i hi => ht _ (bk_ls i hi)) (hg _ ini_La) (fun i hi => hs _ (bk_ex i hi)) (fun q hq i hi => hs _ (bk_f q hq i hi)) (fun i j hi hj hne => (bk_d i hi j hj hne).imp (hs _) (hs _)) hA0
  obtain ⟨adK, adV, hSt, hev⟩ := vk_Sof (args := #[Value.ref b9]) (s := s) (N := 6) (tm := bkT) (len := cb_len) (byt := cb_byt) (A := A) (fun i hi => Nat.lt_of_le_of_lt (cb_s_len i hi).2 (by decide)) (fun i hi => hs _ (bk_s1 i hi)) (fun i hi => hs _ (bk_s2 i hi)) (fun i hi => hs _ (bk_s3 i hi)) (fun i hi => hs _ (bk_s4 i hi)) (fun i hi j hj => hs _ (bk_s5 i hi j hj)) (fun i j hi hj hne => (bk_s6 i hi j hj hne).imp (hs _) (hs _)) hA0
  exact ⟨ad, adK, adV, fun w hw => va_Nw.of (cb_nest_tab w hw) (ht w (bk_nest w hw)), hEn, va_Zof (ht _ ls_St_COMPACT_STRINGS) (hg _ ini_St) (va_eqi (hs _ bk_cs)) hA0, va_Zqof (ht _ ls_Pr_SIOOBE_FORMATTER) (hg _ ini_Pr) (hs _ bk_si) hA0, hSt, fun i hi => vk_R.of (ht _ (bk_sr i hi)) (hev i hi)⟩

set_option maxHeartbeats 4000000 in
set_option maxRecDepth 100000 in
theorem c_Mo_put (l : Launch) (dC : Nat → ClassId) (dI : Nat → Nat → Nat) (sz : Nat) (hm tx9 un ro nu be ab tr bs fa bf : Nat) (th lo9 hi8 pr wd bh ev : Int32) (la : Int64) (cI : ClassId) (f : Nat → Int32) (t : List Nat) (ch : Nat)  (htx : tx f t) (htl : t.length < 96) : Met l y_Mo_put (Cond.code y_Mo_put b_Mo_put 2 none :: gT) ({ frames := 0, cells := 0, slots := 0, locals := 0 }) (va_Pc [.ref hm, .int (nI ch)] (pw_P (dC, dI) cls [(cI, .int)] pw_0 [(hm, .inr (5, [.int th, .int lo9, .int hi8, .int pr, .int wd, .long la, .int (nI t.length), .ref tx9, .ref un, .ref ro, .ref nu, .ref be, .ref ab, .ref tr, .ref bs, .ref fa, .ref bf, .int bh, .int ev])), (tx9, .inl (cI, 96, .inl (f)))] sz)) (va_Qv (fun (f2 : Nat → Int32) => tx f2 (t ++ [ch])) (fun (f2 : Nat → Int32) => pw_B (dC, dI) cls [(cI, .int)] (va_A [(hm, .inr (5, [.int th, .int lo9, .int hi8, .int pr, .int wd, .long la, .int (nI t.length), .ref tx9, .ref un, .ref ro, .ref nu, .ref be, .ref ab, .ref tr, .ref bs, .ref fa, .ref bf, .int bh, .int ev])), (tx9, .inl (cI, 96, .inl (f)))] sz) [(hm, .inr (5, [.int th, .int lo9, .int hi8, .int pr, .int wd, .long la, .int (nI (t ++ [ch]).length), .ref tx9, .ref un, .ref ro, .ref nu, .ref be, .ref ab, .ref tr, .ref bs, .ref fa, .ref bf, .int bh, .int ev])), (tx9, .inl (cI, 96, .inl (f2)))]) (va_A [(hm, .inr (5, [.int th, .int lo9, .int hi8, .int pr, .int wd, .long la, .int (nI t.length), .ref tx9, .ref un, .ref ro, .ref nu, .ref be, .ref ab, .ref tr, .ref bs, .ref fa, .ref bf, .int bh, .int ev])), (tx9, .inl (cI, 96, .inl (f)))] sz)) 0 0 (va_A [(hm, .inr (5, [.int th, .int lo9, .int hi8, .int pr, .int wd, .long la, .int (nI t.length), .ref tx9, .ref un, .ref ro, .ref nu, .ref be, .ref ab, .ref tr, .ref bs, .ref fa, .ref bf, .int bh, .int ev])), (tx9, .inl (cI, 96, .inl (f)))] sz) := by
  refine pw_metv (tn := fun (f2 : Nat → Int32) => [(cI, .int)]) (wn := fun (f2 : Nat → Int32) => [(hm, .inr (5, [.int th, .int lo9, .int hi8, .int pr, .int wd, .long la, .int (nI (t ++ [ch]).length), .ref tx9, .ref un, .ref ro, .ref nu, .ref be, .ref ab, .ref tr, .ref bs, .ref fa, .ref bf, .int bh, .int ev])), (tx9, .inl (cI, 96, .inl (f2)))]) (by decide) (Nat.le_of_ble_eq_true rfl) ?_
  intro p e s m args below meth c A Q H ls hx hb hml hown hts hnm hA hE hP hK hD hS hret hl
  have hown : s.vm.findClass R_Mo = some m.cls := hown
  have hl : lv_has ls 2 [(0, .ref hm), (1, .int (nI ch))] := hl
  refine lv_aload_n hx hb d_Mo_put_0 rfl (lv_at hl 0 rfl) ?_
  refine va_get (D := (dC, dI)) (ci := 5) (v := .ref tx9) (C := R_Mo) (T := F_Mo) (N := 19) hx hb hts i_Mo hown hK hP 0 rfl rfl 7 (by decide) (hts _ fl_Mo_16) (fun _ h9 => h9) rfl d_Mo_put_1 ?_
  refine lv_aload_n hx hb d_Mo_put_4 rfl (lv_at hl 0 rfl) ?_
  refine va_get (D := (dC, dI)) (ci := 5) (v := .int (nI t.length)) (C := R_Mo) (T := F_Mo) (N := 19) hx hb hts i_Mo hown hK hP 0 rfl rfl 6 (by decide) (hts _ fl_Mo_140) (fun _ h9 => h9) rfl d_Mo_put_5 ?_
  refine lv_iload_n hx hb d_Mo_put_8 rfl (lv_at hl 1 rfl) ?_
  refine va_iast hx hb hK hP hD hS 1 0 rfl rfl (vp_in_nI htl (by omega)) d_Mo_put_9 (fun H locs hP hD hS => ?_)
  have e_1 : upd f (nI t.length).toNatClampNeg (nI ch) = upd f t.length (nI ch) := by rw [nI_clamp (by omega)]
  have hP : va_P (dC, dI) cls [(hm, .inr (5, [.int th, .int lo9, .int hi8, .int pr, .int wd, .long la, .int (nI t.length), .ref tx9, .ref un, .ref ro, .ref nu, .ref be, .ref ab, .ref tr, .ref bs, .ref fa, .ref bf, .int bh, .int ev])), (tx9, .inl (cI, 96, .inl (upd f t.length (nI ch))))] H := by rw [← e_1]; exact hP
  have hD : va_D A [(hm, .inr (5, [.int th, .int lo9, .int hi8, .int pr, .int wd, .long la, .int (nI t.length), .ref tx9, .ref un, .ref ro, .ref nu, .ref be, .ref ab, .ref tr, .ref bs, .ref fa, .ref bf, .int bh, .int ev])), (tx9, .inl (cI, 96, .inl (upd f t.length (nI ch))))] := by rw [← e_1]; exact hD
  refine lv_aload_n hx hb d_Mo_put_10 rfl (lv_at hl 0 rfl) ?_
  refine lv_dup hx hb d_Mo_put_11 rfl ?_
  refine va_get (D := (dC, dI)) (ci := 5) (v := .int (nI t.length)) (C := R_Mo) (T := F_Mo) (N := 19) hx hb hts i_Mo hown hK hP 0 rfl rfl 6 (by decide) (hts _ fl_Mo_140) (fun _ h9 => h9) rfl d_Mo_put_12 ?_
  refine lv_iconst (v := 1) hx hb d_Mo_put_15 (by decide) ?_
  refine lv_iadd hx hb d_Mo_put_16 ?_
  refine lv_topi (fun x_2 e_3 => ?_)
  obtain rfl : x_2 = nI (t ++ [ch]).length := e_3.trans ((nI_1 _).trans (by rw [List.length_append]; rfl))
  refine va_put (D := (dC, dI)) (ci := 5) (v := .int (nI (t ++ [ch]).length)) (ty := .int) (C := R_Mo) (T := F_Mo) (N := 19) hx hb hts i_Mo t_Mo t_Mo_ok n_Mo hown hK hP hD hS 0 rfl rfl 6 (by decide) (hts _ fl_Mo_140) (fun _ h9 => h9) rfl (by decide +kernel) rfl rfl (Nat.le_of_ble_eq_true rfl) d_Mo_put_17 (fun H locs hP hD hS => ?_)
  have hP : va_P (dC, dI) cls [(hm, .inr (5, [.int th, .int lo9, .int hi8, .int pr, .int wd, .long la, .int (nI (t ++ [ch]).length), .ref tx9, .ref un, .ref ro, .ref nu, .ref be, .ref ab, .ref tr, .ref bs, .ref fa, .ref bf, .int bh, .int ev])), (tx9, .inl (cI, 96, .inl (upd f t.length (nI ch))))] H := hP
  have hD : va_D A [(hm, .inr (5, [.int th, .int lo9, .int hi8, .int pr, .int wd, .long la, .int (nI (t ++ [ch]).length), .ref tx9, .ref un, .ref ro, .ref nu, .ref be, .ref ab, .ref tr, .ref bs, .ref fa, .ref bf, .int bh, .int ev])), (tx9, .inl (cI, 96, .inl (upd f t.length (nI ch))))] := hD
  exact hret _ _ _ _ (upd f t.length (nI ch)) d_Mo_put_20 (tx_put ch htx) hP hK hD hS
set_option maxHeartbeats 4000000 in
set_option maxRecDepth 100000 in
theorem c_Mo_characterAt (l : Launch) (dC : Nat → ClassId) (dI : Nat → Nat → Nat) (sz : Nat) (hm tx9 un ro nu be ab tr bs fa bf : Nat) (th lo9 hi8 pr wd bh ev : Int32) (la : Int64) (cI : ClassId) (f : Nat → Int32) (t : List Nat) (k : Int32)  (htx : tx f t) (htl : t.length ≤ 96) : Met l y_Mo_characterAt (Cond.code y_Mo_characterAt b_Mo_characterAt 2 (some .int) :: gT) ({ frames := 0, cells := 0, slots := 0, locals := 0 }) (va_Pc [.ref hm, .int k] (pw_P (dC, dI) cls [(cI, .int)] pw_0 [(hm, .inr (5, [.int th, .int lo9, .int hi8, .int pr, .int wd, .long la, .int (nI t.length), .ref tx9, .ref un, .ref ro, .ref nu, .ref be, .ref ab, .ref tr, .ref bs, .ref fa, .ref bf, .int bh, .int ev])), (tx9, .inl (cI, 96, .inl (f)))] sz)) (va_Qi (fun (r : Int32) (uu : Unit) => r = tx_at t k) (fun (uu : Unit) => pw_B (dC, dI) cls [(cI, .int)] (va_A [(hm, .inr (5, [.int th, .int lo9, .int hi8, .int pr, .int wd, .long la, .int (nI t.length), .ref tx9, .ref un, .ref ro, .ref nu, .ref be, .ref ab, .ref tr, .ref bs, .ref fa, .ref bf, .int bh, .int ev])), (tx9, .inl (cI, 96, .inl (f)))] sz) [(hm, .inr (5, [.int 0, .int lo9, .int hi8, .int pr, .int wd, .long la, .int (nI t.length), .ref tx9, .ref un, .ref ro, .ref nu, .ref be, .ref ab, .ref tr, .ref bs, .ref fa, .ref bf, .int bh, .int ev])), (tx9, .inl (cI, 96, .inl (f)))]) (va_A [(hm, .inr (5, [.int th, .int lo9, .int hi8, .int pr, .int wd, .long la, .int (nI t.length), .ref tx9, .ref un, .ref ro, .ref nu, .ref be, .ref ab, .ref tr, .ref bs, .ref fa, .ref bf, .int bh, .int ev])), (tx9, .inl (cI, 96, .inl (f)))] sz)) 0 0 (va_A [(hm, .inr (5, [.int th, .int lo9, .int hi8, .int pr, .int wd, .long la, .int (nI t.length), .ref tx9, .ref un, .ref ro, .ref nu, .ref be, .ref ab, .ref tr, .ref bs, .ref fa, .ref bf, .int bh, .int ev])), (tx9, .inl (cI, 96, .inl (f)))] sz) := by
  refine pw_meti (tn := fun (uu : Unit) => [(cI, .int)]) (wn := fun (uu : Unit) => [(hm, .inr (5, [.int 0, .int lo9, .int hi8, .int pr, .int wd, .long la, .int (nI t.length), .ref tx9, .ref un, .ref ro, .ref nu, .ref be, .ref ab, .ref tr, .ref bs, .ref fa, .ref bf, .int bh, .int ev])), (tx9, .inl (cI, 96, .inl (f)))]) (by decide) (Nat.le_of_ble_eq_true rfl) ?_
  intro p e s m args below meth c A Q H ls hx hb hml hown hts hA hE hP hK hD hS hret hl
  have hown : s.vm.findClass R_Mo = some m.cls := hown
  have hl : lv_has ls 2 [(0, .ref hm), (1, .int k)] := hl
  refine lv_aload_n hx hb d_Mo_characterAt_0 rfl (lv_at hl 0 rfl) ?_
  refine lv_iconst (v := 0) hx hb d_Mo_characterAt_1 (by decide) ?_
  refine va_put (D := (dC, dI)) (ci := 5) (v := .int 0) (ty := .int) (C := R_Mo) (T := F_Mo) (N := 19) hx hb hts i_Mo t_Mo t_Mo_ok n_Mo hown hK hP hD hS 0 rfl rfl 0 (by decide) (hts _ fl_Mo_48) (fun _ h9 => h9) rfl (by decide +kernel) rfl rfl (Nat.le_of_ble_eq_true rfl) d_Mo_characterAt_2 (fun H locs hP hD hS => ?_)
  have hP : va_P (dC, dI) cls [(hm, .inr (5, [.int 0, .int lo9, .int hi8, .int pr, .int wd, .long la, .int (nI t.length), .ref tx9, .ref un, .ref ro, .ref nu, .ref be, .ref ab, .ref tr, .ref bs, .ref fa, .ref bf, .int bh, .int ev])), (tx9, .inl (cI, 96, .inl (f)))] H := hP
  have hD : va_D A [(hm, .inr (5, [.int 0, .int lo9, .int hi8, .int pr, .int wd, .long la, .int (nI t.length), .ref tx9, .ref un, .ref ro, .ref nu, .ref be, .ref ab, .ref tr, .ref bs, .ref fa, .ref bf, .int bh, .int ev])), (tx9, .inl (cI, 96, .inl (f)))] := hD
  refine lv_iload_n hx hb d_Mo_characterAt_5 rfl (lv_at hl 1 rfl) ?_
  refine lv_if_lt (tgt := 17) hx hb d_Mo_characterAt_6 (by decide) (fun hq => ?_) (fun hq => ?_)
  · refine lv_iconst (v := (-1)) hx hb d_Mo_characterAt_17 (by decide) ?_
    refine lv_goto (tgt := 27) hx hb d_Mo_characterAt_18 (by decide) ?_
    exact hret _ _ _ _ _ () d_Mo_characterAt_27 (vp_nar_int _) (tx_at_neg hq).symm hP hK hD hS
  · refine lv_iload_n hx hb d_Mo_characterAt_9 rfl (lv_at hl 1 rfl) ?_
    refine lv_aload_n hx hb d_Mo_characterAt_10 rfl (lv_at hl 0 rfl) ?_
    refine va_get (D := (dC, dI)) (ci := 5) (v := .int (nI t.length)) (C := R_Mo) (T := F_Mo) (N := 19) hx hb hts i_Mo hown hK hP 0 rfl rfl 6 (by decide) (hts _ fl_Mo_140) (fun _ h9 => h9) rfl d_Mo_characterAt_11 ?_
    refine lv_icmp_lt (tgt := 21) hx hb d_Mo_characterAt_14 (by decide) (fun hq2 => ?_) (fun hq2 => ?_)
    · obtain ⟨j, hj, rfl⟩ : ∃ j : Nat, j < t.length ∧ k = nI j := by
        obtain ⟨j, hj, rfl⟩ := nI_of hq
        exact ⟨j, (nI_ltI (a := j) (b := t.length) hj (by omega)).mp hq2, rfl⟩
      refine lv_aload_n hx hb d_Mo_characterAt_21 rfl (lv_at hl 0 rfl) ?_
      refine va_get (D := (dC, dI)) (ci := 5) (v := .ref tx9) (C := R_Mo) (T := F_Mo) (N := 19) hx hb hts i_Mo hown hK hP 0 rfl rfl 7 (by decide) (hts _ fl_Mo_16) (fun _ h9 => h9) rfl d_Mo_characterAt_22 ?_
      refine lv_iload_n hx hb d_Mo_characterAt_25 rfl (lv_at hl 1 rfl) ?_
      refine va_iald hx hb hK hP 1 0 rfl rfl (vp_in_nI (by omega) (by omega)) d_Mo_characterAt_26 ?_
      refine lv_topi (fun x_1 e_2 => ?_)
      obtain rfl : x_1 = nI (t.getD j 0) := e_2.trans (by rw [nI_clamp (by omega)]; exact htx j hj)
      exact hret _ _ _ _ _ () d_Mo_characterAt_27 (vp_nar_int _) (tx_at_in hj (by omega)).symm hP hK hD hS
    · refine lv_iconst (v := (-1)) hx hb d_Mo_characterAt_17 (by decide) ?_
      refine lv_goto (tgt := 27) hx hb d_Mo_characterAt_18 (by decide) ?_
      exact hret _ _ _ _ _ () d_Mo_characterAt_27 (vp_nar_int _) (tx_at_out (by omega) (Int32.not_lt.mp hq2)).symm hP hK hD hS
set_option maxHeartbeats 4000000 in
set_option maxRecDepth 100000 in
theorem c_Mo_timesUnit (l : Launch) (dC : Nat → ClassId) (dI : Nat → Nat → Nat) (sz : Nat) (hm tx9 un ro nu be ab tr bs fa bf : Nat) (th lo9 hi8 pr wd le bh ev : Int32) (la : Int64) (cJ : ClassId) (V F : Nat)  (hV : V < 1000000000 ^ 96) (hF : F ≤ 244140625) (hVF : V * F < 1000000000 ^ 96) : Met l y_Mo_timesUnit (Cond.code y_Mo_timesUnit b_Mo_timesUnit 8 none :: gT) ({ frames := 0, cells := 0, slots := 0, locals := 0 }) (va_Pc [.ref hm, .long (lN F)] (pw_P (dC, dI) cls [(cJ, .long)] pw_0 [(hm, .inr (5, [.int th, .int lo9, .int hi8, .int pr, .int wd, .long la, .int le, .ref tx9, .ref un, .ref ro, .ref nu, .ref be, .ref ab, .ref tr, .ref bs, .ref fa, .ref bf, .int bh, .int ev])), (un, .inl (cJ, 96, .inr (.inl (gl V))))] sz)) (va_Qv (fun (uu : Unit) => True) (fun (uu : Unit) => pw_B (dC, dI) cls [(cJ, .long)] (va_A [(hm, .inr (5, [.int th, .int lo9, .int hi8, .int pr, .int wd, .long la, .int le, .ref tx9, .ref un, .ref ro, .ref nu, .ref be, .ref ab, .ref tr, .ref bs, .ref fa, .ref bf, .int bh, .int ev])), (un, .inl (cJ, 96, .inr (.inl (gl V))))] sz) [(hm, .inr (5, [.int th, .int lo9, .int hi8, .int pr, .int wd, .long la, .int le, .ref tx9, .ref un, .ref ro, .ref nu, .ref be, .ref ab, .ref tr, .ref bs, .ref fa, .ref bf, .int bh, .int ev])), (un, .inl (cJ, 96, .inr (.inl (gl (V * F)))))]) (va_A [(hm, .inr (5, [.int th, .int lo9, .int hi8, .int pr, .int wd, .long la, .int le, .ref tx9, .ref un, .ref ro, .ref nu, .ref be, .ref ab, .ref tr, .ref bs, .ref fa, .ref bf, .int bh, .int ev])), (un, .inl (cJ, 96, .inr (.inl (gl V))))] sz)) 0 0 (va_A [(hm, .inr (5, [.int th, .int lo9, .int hi8, .int pr, .int wd, .long la, .int le, .ref tx9, .ref un, .ref ro, .ref nu, .ref be, .ref ab, .ref tr, .ref bs, .ref fa, .ref bf, .int bh, .int ev])), (un, .inl (cJ, 96, .inr (.inl (gl V))))] sz) := by
  refine pw_metv (tn := fun (uu : Unit) => [(cJ, .long)]) (wn := fun (uu : Unit) => [(hm, .inr (5, [.int th, .int lo9, .int hi8, .int pr, .int wd, .long la, .int le, .ref tx9, .ref un, .ref ro, .ref nu, .ref be, .ref ab, .ref tr, .ref bs, .ref fa, .ref bf, .int bh, .int ev])), (un, .inl (cJ, 96, .inr (.inl (gl (V * F)))))]) (by decide) (Nat.le_of_ble_eq_true rfl) ?_
  intro p e s m args below meth c A Q H ls hx hb hml hown hts hnm hA hE hP hK hD hS hret hl
  have hown : s.vm.findClass R_Mo = some m.cls := hown
  have hl : lv_has ls 8 [(0, .ref hm), (1, .long (lN F))] := hl
  refine lv_lconst (v := 0) hx hb d_Mo_timesUnit_0 (by decide) ?_
  refine lv_lstore_n (lv' := [(3, .long 0), (0, .ref hm), (1, .long (lN F))]) hx hb d_Mo_timesUnit_1 rfl hl (by decide) rfl (fun ls hl => ?_)
  refine lv_iconst (v := 0) hx hb d_Mo_timesUnit_2 (by decide) ?_
  refine lv_istore (lv' := [(5, .int 0), (3, .long 0), (0, .ref hm), (1, .long (lN F))]) hx hb d_Mo_timesUnit_3 hl (by decide) rfl (fun ls hl => ?_)
  have lp : ∀ (n k : Nat) (H : Heap) (locs : List Loc) (ls : Array Slot), (k ≤ 96) → (97 ≤ k + n) → va_P (dC, dI) cls [(hm, .inr (5, [.int th, .int lo9, .int hi8, .int pr, .int wd, .long la, .int le, .ref tx9, .ref un, .ref ro, .ref nu, .ref be, .ref ab, .ref tr, .ref bs, .ref fa, .ref bf, .int bh, .int ev])), (un, .inl (cJ, 96, .inr (.inl (gml (V * F) V k))))] H → va_D A [(hm, .inr (5, [.int th, .int lo9, .int hi8, .int pr, .int wd, .long la, .int le, .ref tx9, .ref un, .ref ro, .ref nu, .ref be, .ref ab, .ref tr, .ref bs, .ref fa, .ref bf, .int bh, .int ev])), (un, .inl (cJ, 96, .inr (.inl (gml (V * F) V k))))] → va_S A s.heap H locs → lv_has ls 8 [(5, .int (nI k)), (3, .long (lN (gc 1000000000 0 V F k))), (0, .ref hm), (1, .long (lN F))] → W p l e { frames := 0, cells := 0, slots := 0, locals := 0 } s m args below meth c H locs 0 0 Q (F0 m 5 ls []) := by
    intro n
    induction n with
    | zero => intro k H locs ls hk hn hP hD hS hl; exact absurd hn (by omega)
    | succ n ih =>
      intro k H locs ls hk hn hP hD hS hl
      refine lv_iload hx hb d_Mo_timesUnit_5 (lv_at hl 0 rfl) ?_
      refine lv_bipush (v := 96) hx hb d_Mo_timesUnit_7 (by decide) ?_
      refine lv_icmp_ge (tgt := 51) hx hb d_Mo_timesUnit_9 (by decide) (fun hc => ?_) (fun hc => ?_)
      · obtain rfl : k = 96 := by have := (nI_leI (a := 96) (b := k) (by omega) (by omega)).mp hc; omega
        exact hret _ _ _ _ () d_Mo_timesUnit_51 trivial (by rw [← gml_all hVF hV]; exact hP) hK (by rw [← gml_all hVF hV]; exact hD) hS
      · have hlt : k < 96 := by have := mt (nI_leI (a := 96) (b := k) (by omega) (by omega)).mpr hc; omega
        have hbd := gt_b (V := V) (i := k) hF (by decide)
        refine lv_aload_n hx hb d_Mo_timesUnit_12 rfl (lv_at hl 2 rfl) ?_
        refine va_get (D := (dC, dI)) (ci := 5) (v := .ref un) (C := R_Mo) (T := F_Mo) (N := 19) hx hb hts i_Mo hown hK hP 0 rfl rfl 8 (by decide) (hts _ fl_Mo_20) (fun _ h9 => h9) rfl d_Mo_timesUnit_13 ?_
        refine lv_iload hx hb d_Mo_timesUnit_16 (lv_at hl 0 rfl) ?_
        refine va_lald hx hb hK hP 1 0 rfl rfl (vp_in_nI (by omega) (by omega)) d_Mo_timesUnit_18 ?_
        refine lv_topl (fun x_1 e_2 => ?_)
        obtain rfl : x_1 = lN (gw 1000000000 V k) := e_2.trans (by rw [nI_clamp (by omega)]; exact gml_at (V * F) V k)
        refine lv_lload_n hx hb d_Mo_timesUnit_19 rfl (lv_at hl 3 rfl) ?_
        refine lv_lmul hx hb d_Mo_timesUnit_20 ?_
        refine lv_topl (fun x_3 e_4 => ?_)
        obtain rfl : x_3 = lN (gw 1000000000 V k * F) := e_4.trans (lN_mul _ _)
        refine lv_lload_n hx hb d_Mo_timesUnit_21 rfl (lv_at hl 1 rfl) ?_
        refine lv_ladd hx hb d_Mo_timesUnit_22 ?_
        refine lv_topl (fun x_5 e_6 => ?_)
        obtain rfl : x_5 = lN (gw 1000000000 V k * F + gc 1000000000 0 V F k) := e_6.trans (lN_add _ _)
        refine lv_lstore (lv' := [(6, .long (lN (gw 1000000000 V k * F + gc 1000000000 0 V F k))), (5, .int (nI k)), (3, .long (lN (gc 1000000000 0 V F k))), (0, .ref hm), (1, .long (lN F))]) hx hb d_Mo_timesUnit_23 hl (by decide) rfl (fun ls hl => ?_)
        refine lv_aload_n hx hb d_Mo_timesUnit_25 rfl (lv_at hl 3 rfl) ?_
        refine va_get (D := (dC, dI)) (ci := 5) (v := .ref un) (C := R_Mo) (T := F_Mo) (N := 19) hx hb hts i_Mo hown hK hP 0 rfl rfl 8 (by decide) (hts _ fl_Mo_20) (fun _ h9 => h9) rfl d_Mo_timesUnit_26 ?_
        refine lv_iload hx hb d_Mo_timesUnit_29 (lv_at hl 1 rfl) ?_
        refine lv_lload hx hb d_Mo_timesUnit_31 (lv_at hl 0 rfl) ?_
        refine lv_ldc2 (v := 1000000000) hx hb hown (hts _ kl_Mo_78) d_Mo_timesUnit_33 ?_
        refine lv_lrem hx hb d_Mo_timesUnit_36 (by decide) ?_
        refine lv_topl (fun x_7 e_8 => ?_)
        obtain rfl : x_7 = lN (gw 1000000000 (V * F) k) := e_8.trans ((pk_lRem (b := 1000000000) hbd (by decide) (by decide)).trans (by rw [gt_lo _ _ _ _ (by decide)]))
        refine va_last hx hb hK hP hD hS 1 0 rfl rfl (vp_in_nI (by omega) (by omega)) d_Mo_timesUnit_37 (fun H locs hP hD hS => ?_)
        have e_9 : vp_updL (gml (V * F) V k) (nI k).toNatClampNeg (lN (gw 1000000000 (V * F) k)) = gml (V * F) V (k + 1) := by rw [nI_clamp (by omega)]; exact gml_up (V * F) V k
        have hP : va_P (dC, dI) cls [(hm, .inr (5, [.int th, .int lo9, .int hi8, .int pr, .int wd, .long la, .int le, .ref tx9, .ref un, .ref ro, .ref nu, .ref be, .ref ab, .ref tr, .ref bs, .ref fa, .ref bf, .int bh, .int ev])), (un, .inl (cJ, 96, .inr (.inl (gml (V * F) V (k + 1)))))] H := by rw [← e_9]; exact hP
        have hD : va_D A [(hm, .inr (5, [.int th, .int lo9, .int hi8, .int pr, .int wd, .long la, .int le, .ref tx9, .ref un, .ref ro, .ref nu, .ref be, .ref ab, .ref tr, .ref bs, .ref fa, .ref bf, .int bh, .int ev])), (un, .inl (cJ, 96, .inr (.inl (gml (V * F) V (k + 1)))))] := by rw [← e_9]; exact hD
        refine lv_lload hx hb d_Mo_timesUnit_38 (lv_at hl 0 rfl) ?_
        refine lv_ldc2 (v := 1000000000) hx hb hown (hts _ kl_Mo_78) d_Mo_timesUnit_40 ?_
        refine lv_ldiv hx hb d_Mo_timesUnit_43 (by decide) ?_
        refine lv_topl (fun x_10 e_11 => ?_)
        obtain rfl : x_10 = lN (gc 1000000000 0 V F (k + 1)) := e_11.trans ((pk_lDiv (b := 1000000000) hbd (by decide) (by decide)).trans (by rw [gt_hi _ _ _ _ (by decide)]))
        refine lv_lstore_n (lv' := [(3, .long (lN (gc 1000000000 0 V F (k + 1)))), (6, .long (lN (gw 1000000000 V k * F + gc 1000000000 0 V F k))), (5, .int (nI k)), (0, .ref hm), (1, .long (lN F))]) hx hb d_Mo_timesUnit_44 rfl hl (by decide) rfl (fun ls hl => ?_)
        refine lv_iinc (v := nI (k + 1)) (lv' := [(5, .int (nI (k + 1))), (3, .long (lN (gc 1000000000 0 V F (k + 1)))), (6, .long (lN (gw 1000000000 V k * F + gc 1000000000 0 V F k))), (0, .ref hm), (1, .long (lN F))]) hx hb d_Mo_timesUnit_45 hl (k := 2) rfl (nI_1 _) (by decide) rfl (fun ls hl => ?_)
        refine lv_goto (tgt := 5) hx hb d_Mo_timesUnit_48 (by decide) ?_
        exact ih (k + 1) H _ ls (by omega) (by omega) hP hD hS (lv_sub hl [0, 1, 3, 4] rfl)
  exact lp 97 0 H _ ls (by omega) (by omega) (by rw [gml_0]; exact hP) (by rw [gml_0]; exact hD) hS (by rw [gc_0]; exact lv_sub hl [0, 1, 2, 3] rfl)
set_option maxHeartbeats 4000000 in
set_option maxRecDepth 100000 in
theorem c_Mo_compare (l : Launch) (dC : Nat → ClassId) (dI : Nat → Nat → Nat) (sz : Nat) (a1 a2 : Nat) (cI : ClassId) (V U : Nat)  (hV : V < 10 ^ 864) (hU : U < 10 ^ 864) : Met l y_Mo_compare (Cond.code y_Mo_compare b_Mo_compare 3 (some .int) :: gT) ({ frames := 0, cells := 0, slots := 0, locals := 0 }) (va_Pc [.ref a1, .ref a2] (pw_P (dC, dI) cls [(cI, .int)] pw_0 [(a1, .inl (cI, 864, .inl (gd V))), (a2, .inl (cI, 864, .inl (gd U)))] sz)) (va_Qi (fun (r : Int32) (uu : Unit) => r = bn_cmp V U) (fun (uu : Unit) => pw_B (dC, dI) cls [(cI, .int)] (va_A [(a1, .inl (cI, 864, .inl (gd V))), (a2, .inl (cI, 864, .inl (gd U)))] sz) [(a1, .inl (cI, 864, .inl (gd V))), (a2, .inl (cI, 864, .inl (gd U)))]) (va_A [(a1, .inl (cI, 864, .inl (gd V))), (a2, .inl (cI, 864, .inl (gd U)))] sz)) 0 0 (va_A [(a1, .inl (cI, 864, .inl (gd V))), (a2, .inl (cI, 864, .inl (gd U)))] sz) := by
  refine pw_meti (tn := fun (uu : Unit) => [(cI, .int)]) (wn := fun (uu : Unit) => [(a1, .inl (cI, 864, .inl (gd V))), (a2, .inl (cI, 864, .inl (gd U)))]) (by decide) (Nat.le_of_ble_eq_true rfl) ?_
  intro p e s m args below meth c A Q H ls hx hb hml hown hts hA hE hP hK hD hS hret hl
  have hown : s.vm.findClass R_Mo = some m.cls := hown
  have hl : lv_has ls 3 [(0, .ref a1), (1, .ref a2)] := hl
  refine lv_sipush (v := 863) hx hb d_Mo_compare_0 (by decide) ?_
  refine lv_istore_n (lv' := [(2, .int 863), (0, .ref a1), (1, .ref a2)]) hx hb d_Mo_compare_3 rfl hl (by decide) rfl (fun ls hl => ?_)
  have lp : ∀ (n j : Nat) (H : Heap) (locs : List Loc) (ls : Array Slot), (j < n) → (j ≤ 864) → (V / 10 ^ j = U / 10 ^ j) → va_P (dC, dI) cls [(a1, .inl (cI, 864, .inl (gd V))), (a2, .inl (cI, 864, .inl (gd U)))] H → va_D A [(a1, .inl (cI, 864, .inl (gd V))), (a2, .inl (cI, 864, .inl (gd U)))] → va_S A s.heap H locs → lv_has ls 3 [(2, .int (iZ ((j : Int) - 1))), (0, .ref a1), (1, .ref a2)] → W p l e { frames := 0, cells := 0, slots := 0, locals := 0 } s m args below meth c H locs 0 0 Q (F0 m 4 ls []) := by
    intro n
    induction n with
    | zero => intro j H locs ls hn hj hq hP hD hS hl; exact absurd hn (by omega)
    | succ n ih =>
      intro j H locs ls hn hj hq hP hD hS hl
      refine lv_iload_n hx hb d_Mo_compare_4 rfl (lv_at hl 0 rfl) ?_
      refine lv_if_lt (tgt := 23) hx hb d_Mo_compare_5 (by decide) (fun hc => ?_) (fun hc => ?_)
      · have hj0 : j = 0 := by have := (iZ_lt (a := (j : Int) - 1) (b := 0) (by omega) (by omega) (by omega) (by omega)).mp hc; omega
        subst hj0
        have hVU : V = U := by simpa using hq
        refine lv_iload_n hx hb d_Mo_compare_23 rfl (lv_at hl 0 rfl) ?_
        refine lv_if_ge (tgt := 31) hx hb d_Mo_compare_24 (by decide) (fun hg => ?_) (fun hg => ?_)
        · exact absurd hc (Int32.not_lt.mpr hg)
        · refine lv_iconst (v := 0) hx hb d_Mo_compare_27 (by decide) ?_
          refine lv_goto (tgt := 45) hx hb d_Mo_compare_28 (by decide) ?_
          exact hret _ _ _ _ _ () d_Mo_compare_45 (vp_nar_int _) (by rw [hVU, bn_cmp_e]) hP hK hD hS
      · have hj0 : 0 < j := by have := mt (iZ_lt (a := (j : Int) - 1) (b := 0) (by omega) (by omega) (by omega) (by omega)).mpr hc; omega
        obtain ⟨i, rfl⟩ : ∃ i, j = i + 1 := ⟨j - 1, by omega⟩
        rw [iZ_succ'] at hl hc
        have hw1 := gw_lt (G := 10) (by decide) V i
        have hw2 := gw_lt (G := 10) (by decide) U i
        refine lv_aload_n hx hb d_Mo_compare_8 rfl (lv_at hl 1 rfl) ?_
        refine lv_iload_n hx hb d_Mo_compare_9 rfl (lv_at hl 0 rfl) ?_
        refine va_iald hx hb hK hP 0 0 rfl rfl (vp_in_nI (by omega) (by omega)) d_Mo_compare_10 ?_
        refine lv_topi (fun x_1 e_2 => ?_)
        obtain rfl : x_1 = nI (gw 10 V i) := e_2.trans (by rw [nI_clamp (by omega)]; rfl)
        refine lv_aload_n hx hb d_Mo_compare_11 rfl (lv_at hl 2 rfl) ?_
        refine lv_iload_n hx hb d_Mo_compare_12 rfl (lv_at hl 0 rfl) ?_
        refine va_iald hx hb hK hP 1 0 rfl rfl (vp_in_nI (by omega) (by omega)) d_Mo_compare_13 ?_
        refine lv_topi (fun x_3 e_4 => ?_)
        obtain rfl : x_3 = nI (gw 10 U i) := e_4.trans (by rw [nI_clamp (by omega)]; rfl)
        refine lv_icmp_ne (tgt := 23) hx hb d_Mo_compare_14 (by decide) (fun hz => ?_) (fun hz => ?_)
        · have hne : gw 10 V i ≠ gw 10 U i := fun g => hz (by rw [g])
          refine lv_iload_n hx hb d_Mo_compare_23 rfl (lv_at hl 0 rfl) ?_
          refine lv_if_ge (tgt := 31) hx hb d_Mo_compare_24 (by decide) (fun hg => ?_) (fun hg => ?_)
          · refine lv_aload_n hx hb d_Mo_compare_31 rfl (lv_at hl 1 rfl) ?_
            refine lv_iload_n hx hb d_Mo_compare_32 rfl (lv_at hl 0 rfl) ?_
            refine va_iald hx hb hK hP 0 0 rfl rfl (vp_in_nI (by omega) (by omega)) d_Mo_compare_33 ?_
            refine lv_topi (fun x_5 e_6 => ?_)
            obtain rfl : x_5 = nI (gw 10 V i) := e_6.trans (by rw [nI_clamp (by omega)]; rfl)
            refine lv_aload_n hx hb d_Mo_compare_34 rfl (lv_at hl 2 rfl) ?_
            refine lv_iload_n hx hb d_Mo_compare_35 rfl (lv_at hl 0 rfl) ?_
            refine va_iald hx hb hK hP 1 0 rfl rfl (vp_in_nI (by omega) (by omega)) d_Mo_compare_36 ?_
            refine lv_topi (fun x_7 e_8 => ?_)
            obtain rfl : x_7 = nI (gw 10 U i) := e_8.trans (by rw [nI_clamp (by omega)]; rfl)
            refine lv_icmp_ge (tgt := 44) hx hb d_Mo_compare_37 (by decide) (fun hy => ?_) (fun hy => ?_)
            · have hle : gw 10 U i ≤ gw 10 V i := (nI_leI (by omega) (by omega)).mp hy
              refine lv_iconst (v := 1) hx hb d_Mo_compare_44 (by decide) ?_
              exact hret _ _ _ _ _ () d_Mo_compare_45 (vp_nar_int _) (bn_cmp_g (g_cmp_lt (by decide) hq.symm (by omega))).symm hP hK hD hS
            · have hlt : gw 10 V i < gw 10 U i := by have := mt (nI_leI (a := gw 10 U i) (b := gw 10 V i) (by omega) (by omega)).mpr hy; omega
              refine lv_iconst (v := (-1)) hx hb d_Mo_compare_40 (by decide) ?_
              refine lv_goto (tgt := 45) hx hb d_Mo_compare_41 (by decide) ?_
              exact hret _ _ _ _ _ () d_Mo_compare_45 (vp_nar_int _) (bn_cmp_l (g_cmp_lt (by decide) hq hlt)).symm hP hK hD hS
          · exact absurd (nI_pos' (by omega)) hg
        · have he : gw 10 V i = gw 10 U i := (nI_eq (by omega) (by omega)).mp hz
          refine lv_iinc (v := iZ ((i : Int) - 1)) (lv' := [(2, .int (iZ ((i : Int) - 1))), (0, .ref a1), (1, .ref a2)]) hx hb d_Mo_compare_17 hl (k := 0) rfl (by rw [iZ_N]; exact iZ_add _ (-1)) (by decide) rfl (fun ls hl => ?_)
          refine lv_goto (tgt := 4) hx hb d_Mo_compare_20 (by decide) ?_
          exact ih i H _ ls (by omega) (by omega) (g_cmp_eq (by decide) hq he) hP hD hS (lv_sub hl [0, 1, 2] rfl)
  exact lp 865 864 H _ ls (by omega) (by omega) (by rw [Nat.div_eq_of_lt hV, Nat.div_eq_of_lt hU]) hP hD hS (lv_sub hl [0, 1, 2] rfl)
set_option maxHeartbeats 4000000 in
set_option maxRecDepth 100000 in
theorem c_Mo_top (l : Launch) (dC : Nat → ClassId) (dI : Nat → Nat → Nat) (sz : Nat) (a1 : Nat) (cI : ClassId) (V n : Nat)  (hV : V < 10 ^ 864) (hn : isnd V n) : Met l y_Mo_top (Cond.code y_Mo_top b_Mo_top 2 (some .int) :: gT) ({ frames := 0, cells := 0, slots := 0, locals := 0 }) (va_Pc [.ref a1] (pw_P (dC, dI) cls [(cI, .int)] pw_0 [(a1, .inl (cI, 864, .inl (gd V)))] sz)) (va_Qi (fun (r : Int32) (uu : Unit) => r = iZ ((n : Int) - 1)) (fun (uu : Unit) => pw_B (dC, dI) cls [(cI, .int)] (va_A [(a1, .inl (cI, 864, .inl (gd V)))] sz) [(a1, .inl (cI, 864, .inl (gd V)))]) (va_A [(a1, .inl (cI, 864, .inl (gd V)))] sz)) 0 0 (va_A [(a1, .inl (cI, 864, .inl (gd V)))] sz) := by
  refine pw_meti (tn := fun (uu : Unit) => [(cI, .int)]) (wn := fun (uu : Unit) => [(a1, .inl (cI, 864, .inl (gd V)))]) (by decide) (Nat.le_of_ble_eq_true rfl) ?_
  intro p e s m args below meth c A Q H ls hx hb hml hown hts hA hE hP hK hD hS hret hl
  have hown : s.vm.findClass R_Mo = some m.cls := hown
  have hl : lv_has ls 2 [(0, .ref a1)] := hl
  refine lv_sipush (v := 863) hx hb d_Mo_top_0 (by decide) ?_
  refine lv_istore_n (lv' := [(1, .int 863), (0, .ref a1)]) hx hb d_Mo_top_3 rfl hl (by decide) rfl (fun ls hl => ?_)
  have lp : ∀ (n7 j : Nat) (H : Heap) (locs : List Loc) (ls : Array Slot), (j < n7) → (j ≤ 864) → (V < 10 ^ j) → va_P (dC, dI) cls [(a1, .inl (cI, 864, .inl (gd V)))] H → va_D A [(a1, .inl (cI, 864, .inl (gd V)))] → va_S A s.heap H locs → lv_has ls 2 [(1, .int (iZ ((j : Int) - 1))), (0, .ref a1)] → W p l e { frames := 0, cells := 0, slots := 0, locals := 0 } s m args below meth c H locs 0 0 Q (F0 m 4 ls []) := by
    intro n7
    induction n7 with
    | zero => intro j H locs ls hm7 hj hq hP hD hS hl; exact absurd hm7 (by omega)
    | succ n7 ih =>
      intro j H locs ls hm7 hj hq hP hD hS hl
      refine lv_iload_n hx hb d_Mo_top_4 rfl (lv_at hl 0 rfl) ?_
      refine lv_if_lt (tgt := 20) hx hb d_Mo_top_5 (by decide) (fun hc => ?_) (fun hc => ?_)
      · have hj0 : j = 0 := by have := (iZ_lt (a := (j : Int) - 1) (b := 0) (by omega) (by omega) (by omega) (by omega)).mp hc; omega
        obtain rfl : j = n := isnd_u ⟨hq, fun k hk => by omega⟩ hn
        refine lv_iload_n hx hb d_Mo_top_20 rfl (lv_at hl 0 rfl) ?_
        exact hret _ _ _ _ _ () d_Mo_top_21 (vp_nar_int _) rfl hP hK hD hS
      · have hj0 : 0 < j := by have := mt (iZ_lt (a := (j : Int) - 1) (b := 0) (by omega) (by omega) (by omega) (by omega)).mpr hc; omega
        obtain ⟨i, rfl⟩ : ∃ i, j = i + 1 := ⟨j - 1, by omega⟩
        have hl0 := hl
        rw [iZ_succ'] at hl
        have hw1 := gw_lt (G := 10) (by decide) V i
        have hgt := g_top hq
        refine lv_aload_n hx hb d_Mo_top_8 rfl (lv_at hl 1 rfl) ?_
        refine lv_iload_n hx hb d_Mo_top_9 rfl (lv_at hl 0 rfl) ?_
        refine va_iald hx hb hK hP 0 0 rfl rfl (vp_in_nI (by omega) (by omega)) d_Mo_top_10 ?_
        refine lv_topi (fun x_1 e_2 => ?_)
        obtain rfl : x_1 = nI (gw 10 V i) := e_2.trans (by rw [nI_clamp (by omega)]; rfl)
        refine lv_if_ne (tgt := 20) hx hb d_Mo_top_11 (by decide) (fun hz => ?_) (fun hz => ?_)
        · have hne : ¬ V < 10 ^ i := fun g => hz (by rw [hgt.mpr g]; rfl)
          obtain rfl : i + 1 = n := isnd_u ⟨hq, fun k hk => Nat.le_trans (Nat.pow_le_pow_right (by decide) (show k ≤ i by omega)) (by omega)⟩ hn
          refine lv_iload_n hx hb d_Mo_top_20 rfl (lv_at hl 0 rfl) ?_
          exact hret _ _ _ _ _ () d_Mo_top_21 (vp_nar_int _) (iZ_succ' i).symm hP hK hD hS
        · have he : V < 10 ^ i := hgt.mp ((nI_eq (b := 0) (by omega) (by omega)).mp hz)
          refine lv_iinc (v := iZ ((i : Int) - 1)) (lv' := [(1, .int (iZ ((i : Int) - 1))), (0, .ref a1)]) hx hb d_Mo_top_14 hl (k := 0) rfl (by rw [iZ_N]; exact iZ_add _ (-1)) (by decide) rfl (fun ls hl => ?_)
          refine lv_goto (tgt := 4) hx hb d_Mo_top_17 (by decide) ?_
          exact ih i H _ ls (by omega) (by omega) he hP hD hS (lv_sub hl [0, 1] rfl)
  exact lp 865 864 H _ ls (by omega) (by omega) hV hP hD hS (lv_sub hl [0, 1] rfl)
set_option maxHeartbeats 4000000 in
set_option maxRecDepth 100000 in
theorem c_Mo_bottom (l : Launch) (dC : Nat → ClassId) (dI : Nat → Nat → Nat) (sz : Nat) (a1 : Nat) (cI : ClassId) (V k : Nat)  (hk : isbt V k) : Met l y_Mo_bottom (Cond.code y_Mo_bottom b_Mo_bottom 2 (some .int) :: gT) ({ frames := 0, cells := 0, slots := 0, locals := 0 }) (va_Pc [.ref a1] (pw_P (dC, dI) cls [(cI, .int)] pw_0 [(a1, .inl (cI, 864, .inl (gd V)))] sz)) (va_Qi (fun (r : Int32) (uu : Unit) => r = nI k) (fun (uu : Unit) => pw_B (dC, dI) cls [(cI, .int)] (va_A [(a1, .inl (cI, 864, .inl (gd V)))] sz) [(a1, .inl (cI, 864, .inl (gd V)))]) (va_A [(a1, .inl (cI, 864, .inl (gd V)))] sz)) 0 0 (va_A [(a1, .inl (cI, 864, .inl (gd V)))] sz) := by
  refine pw_meti (tn := fun (uu : Unit) => [(cI, .int)]) (wn := fun (uu : Unit) => [(a1, .inl (cI, 864, .inl (gd V)))]) (by decide) (Nat.le_of_ble_eq_true rfl) ?_
  intro p e s m args below meth c A Q H ls hx hb hml hown hts hA hE hP hK hD hS hret hl
  have hown : s.vm.findClass R_Mo = some m.cls := hown
  have hl : lv_has ls 2 [(0, .ref a1)] := hl
  have hk1 := hk.2.1
  refine lv_iconst (v := 0) hx hb d_Mo_bottom_0 (by decide) ?_
  refine lv_istore_n (lv' := [(1, .int 0), (0, .ref a1)]) hx hb d_Mo_bottom_1 rfl hl (by decide) rfl (fun ls hl => ?_)
  have lp : ∀ (n i : Nat) (H : Heap) (locs : List Loc) (ls : Array Slot), (865 ≤ i + n) → (i ≤ k) → va_P (dC, dI) cls [(a1, .inl (cI, 864, .inl (gd V)))] H → va_D A [(a1, .inl (cI, 864, .inl (gd V)))] → va_S A s.heap H locs → lv_has ls 2 [(1, .int (nI i)), (0, .ref a1)] → W p l e { frames := 0, cells := 0, slots := 0, locals := 0 } s m args below meth c H locs 0 0 Q (F0 m 2 ls []) := by
    intro n
    induction n with
    | zero => intro i H locs ls hn hi hP hD hS hl; exact absurd hn (by omega)
    | succ n ih =>
      intro i H locs ls hn hi hP hD hS hl
      refine lv_iload_n hx hb d_Mo_bottom_2 rfl (lv_at hl 0 rfl) ?_
      refine lv_sipush (v := 864) hx hb d_Mo_bottom_3 (by decide) ?_
      refine lv_icmp_ge (tgt := 21) hx hb d_Mo_bottom_6 (by decide) (fun hc => ?_) (fun hc => ?_)
      · have hge : 864 ≤ i := (nI_leI (a := 864) (b := i) (by omega) (by omega)).mp hc
        obtain rfl : i = k := by omega
        refine lv_iload_n hx hb d_Mo_bottom_21 rfl (lv_at hl 0 rfl) ?_
        exact hret _ _ _ _ _ () d_Mo_bottom_22 (vp_nar_int _) rfl hP hK hD hS
      · have hlt : i < 864 := by have := mt (nI_leI (a := 864) (b := i) (by omega) (by omega)).mpr hc; omega
        have hw1 := gw_lt (G := 10) (by decide) V i
        refine lv_aload_n hx hb d_Mo_bottom_9 rfl (lv_at hl 1 rfl) ?_
        refine lv_iload_n hx hb d_Mo_bottom_10 rfl (lv_at hl 0 rfl) ?_
        refine va_iald hx hb hK hP 0 0 rfl rfl (vp_in_nI (by omega) (by omega)) d_Mo_bottom_11 ?_
        refine lv_topi (fun x_1 e_2 => ?_)
        obtain rfl : x_1 = nI (gw 10 V i) := e_2.trans (by rw [nI_clamp (by omega)]; rfl)
        refine lv_if_ne (tgt := 21) hx hb d_Mo_bottom_12 (by decide) (fun hz => ?_) (fun hz => ?_)
        · have hne : gw 10 V i ≠ 0 := fun g => hz (by rw [g]; rfl)
          obtain rfl : i = k := by rcases Nat.lt_or_ge i k with g | g; exact absurd (isbt_lo hk.1 g) hne; omega
          refine lv_iload_n hx hb d_Mo_bottom_21 rfl (lv_at hl 0 rfl) ?_
          exact hret _ _ _ _ _ () d_Mo_bottom_22 (vp_nar_int _) rfl hP hK hD hS
        · have he : gw 10 V i = 0 := (nI_eq (b := 0) (by omega) (by omega)).mp hz
          have hlk : i < k := by rcases Nat.lt_or_ge i k with g | g; exact g; rcases hk.2.2 with g2 | g2; omega; exact absurd (by rw [show k = i from by omega]; exact he) g2
          refine lv_iinc (v := nI (i + 1)) (lv' := [(1, .int (nI (i + 1))), (0, .ref a1)]) hx hb d_Mo_bottom_15 hl (k := 0) rfl (nI_1 _) (by decide) rfl (fun ls hl => ?_)
          refine lv_goto (tgt := 2) hx hb d_Mo_bottom_18 (by decide) ?_
          exact ih (i + 1) H _ ls (by omega) (by omega) hP hD hS (lv_sub hl [0, 1] rfl)
  exact lp 865 0 H _ ls (by omega) (by omega) hP hD hS (lv_sub hl [0, 1] rfl)

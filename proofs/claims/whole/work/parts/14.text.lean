set_option maxHeartbeats 4000000 in
set_option maxRecDepth 100000 in
/-- clear -/
theorem c_Te_clear (l : Launch) (dC : Nat → ClassId) (dI : Nat → Nat → Nat) (sz : Nat) (h w : Nat) (cC : ClassId) (f : Nat → Int32) (ux : Int32)  : Met l y_Te_clear (Cond.code y_Te_clear b_Te_clear 1 none :: gT) ({ frames := 0, cells := 0, slots := 0, locals := 0 }) (va_Pc [.ref h] (pw_P (dC, dI) cls [(cC, .char)] pw_0 [(h, .inr (3, [.ref w, .int ux])), (w, .inl (cC, 64, .inl (f)))] sz)) (va_Qv (fun (uu : Unit) => True) (fun (uu : Unit) => pw_B (dC, dI) cls [(cC, .char)] (va_A [(h, .inr (3, [.ref w, .int ux])), (w, .inl (cC, 64, .inl (f)))] sz) [(h, .inr (3, [.ref w, .int 0])), (w, .inl (cC, 64, .inl (f)))]) (va_A [(h, .inr (3, [.ref w, .int ux])), (w, .inl (cC, 64, .inl (f)))] sz)) 0 0 (va_A [(h, .inr (3, [.ref w, .int ux])), (w, .inl (cC, 64, .inl (f)))] sz) := by
  refine pw_metv (tn := fun (uu : Unit) => [(cC, .char)]) (wn := fun (uu : Unit) => [(h, .inr (3, [.ref w, .int 0])), (w, .inl (cC, 64, .inl (f)))]) (by decide) (Nat.le_of_ble_eq_true rfl) ?_
  intro p e s m args below meth c A Q H ls hx hb hml hown hts hnm hA hE hP hK hD hS hret hl
  have hown : s.vm.findClass R_Te = some m.cls := hown
  have hl : lv_has ls 1 [(0, .ref h)] := hl
  refine lv_aload_n hx hb d_Te_clear_0 rfl (lv_at hl 0 rfl) ?_
  refine lv_iconst (v := 0) hx hb d_Te_clear_1 (by decide) ?_
  refine va_put (D := (dC, dI)) (ci := 3) (v := .int 0) (ty := .int) (C := R_Te) (T := F_Te) (N := 2) hx hb hts i_Te t_Te t_Te_ok n_Te hown hK hP hD hS 0 rfl rfl 1 (by decide) (hts _ fl_Te_13) (fun _ h9 => h9) rfl (by decide +kernel) rfl rfl (Nat.le_of_ble_eq_true rfl) d_Te_clear_2 (fun H locs hP hD hS => ?_)
  have hP : va_P (dC, dI) cls [(h, .inr (3, [.ref w, .int 0])), (w, .inl (cC, 64, .inl (f)))] H := hP
  have hD : va_D A [(h, .inr (3, [.ref w, .int 0])), (w, .inl (cC, 64, .inl (f)))] := hD
  exact hret _ _ _ _ () d_Te_clear_5 trivial hP hK hD hS
set_option maxHeartbeats 4000000 in
set_option maxRecDepth 100000 in
/-- put -/
theorem c_Te_put (l : Launch) (dC : Nat → ClassId) (dI : Nat → Nat → Nat) (sz : Nat) (h w : Nat) (cC : ClassId) (f : Nat → Int32) (t : List Nat) (ch : Nat) (hf : tx f t) (ht : t.length < 64) (hc : ch < 65536) : Met l y_Te_put (Cond.code y_Te_put b_Te_put 2 none :: gT) ({ frames := 0, cells := 0, slots := 0, locals := 0 }) (va_Pc [.ref h, .int (nI ch)] (pw_P (dC, dI) cls [(cC, .char)] pw_0 [(h, .inr (3, [.ref w, .int (nI t.length)])), (w, .inl (cC, 64, .inl (f)))] sz)) (va_Qv (fun (f2 : Nat → Int32) => tx f2 (t ++ [ch])) (fun (f2 : Nat → Int32) => pw_B (dC, dI) cls [(cC, .char)] (va_A [(h, .inr (3, [.ref w, .int (nI t.length)])), (w, .inl (cC, 64, .inl (f)))] sz) [(h, .inr (3, [.ref w, .int (nI (t ++ [ch]).length)])), (w, .inl (cC, 64, .inl (f2)))]) (va_A [(h, .inr (3, [.ref w, .int (nI t.length)])), (w, .inl (cC, 64, .inl (f)))] sz)) 0 0 (va_A [(h, .inr (3, [.ref w, .int (nI t.length)])), (w, .inl (cC, 64, .inl (f)))] sz) := by
  refine pw_metv (tn := fun (f2 : Nat → Int32) => [(cC, .char)]) (wn := fun (f2 : Nat → Int32) => [(h, .inr (3, [.ref w, .int (nI (t ++ [ch]).length)])), (w, .inl (cC, 64, .inl (f2)))]) (by decide) (Nat.le_of_ble_eq_true rfl) ?_
  intro p e s m args below meth c A Q H ls hx hb hml hown hts hnm hA hE hP hK hD hS hret hl
  have hown : s.vm.findClass R_Te = some m.cls := hown
  have hl : lv_has ls 2 [(0, .ref h), (1, .int (nI ch))] := hl
  refine lv_aload_n hx hb d_Te_put_0 rfl (lv_at hl 0 rfl) ?_
  refine va_get (D := (dC, dI)) (ci := 3) (v := .int (nI t.length)) (C := R_Te) (T := F_Te) (N := 2) hx hb hts i_Te hown hK hP 0 rfl rfl 1 (by decide) (hts _ fl_Te_13) (fun _ h9 => h9) rfl d_Te_put_1 ?_
  refine lv_if_lt (tgt := 39) hx hb d_Te_put_4 (by decide) (fun hq => ?_) (fun hq => ?_)
  · exact absurd hq (nI_pos (by omega))
  · refine lv_aload_n hx hb d_Te_put_7 rfl (lv_at hl 0 rfl) ?_
    refine va_get (D := (dC, dI)) (ci := 3) (v := .int (nI t.length)) (C := R_Te) (T := F_Te) (N := 2) hx hb hts i_Te hown hK hP 0 rfl rfl 1 (by decide) (hts _ fl_Te_13) (fun _ h9 => h9) rfl d_Te_put_8 ?_
    refine lv_aload_n hx hb d_Te_put_11 rfl (lv_at hl 0 rfl) ?_
    refine va_get (D := (dC, dI)) (ci := 3) (v := .ref w) (C := R_Te) (T := F_Te) (N := 2) hx hb hts i_Te hown hK hP 0 rfl rfl 0 (by decide) (hts _ fl_Te_9) (fun _ h9 => h9) rfl d_Te_put_12 ?_
    refine va_alen (v := nI 64) hx hb hK hP 1 0 rfl rfl rfl d_Te_put_15 ?_
    refine lv_icmp_ge (tgt := 39) hx hb d_Te_put_16 (by decide) (fun hq2 => ?_) (fun hq2 => ?_)
    · exact absurd ((nI_leI (a := 64) (b := t.length) (by omega) (by omega)).mp hq2) (by omega)
    · refine lv_aload_n hx hb d_Te_put_19 rfl (lv_at hl 0 rfl) ?_
      refine va_get (D := (dC, dI)) (ci := 3) (v := .ref w) (C := R_Te) (T := F_Te) (N := 2) hx hb hts i_Te hown hK hP 0 rfl rfl 0 (by decide) (hts _ fl_Te_9) (fun _ h9 => h9) rfl d_Te_put_20 ?_
      refine lv_aload_n hx hb d_Te_put_23 rfl (lv_at hl 0 rfl) ?_
      refine va_get (D := (dC, dI)) (ci := 3) (v := .int (nI t.length)) (C := R_Te) (T := F_Te) (N := 2) hx hb hts i_Te hown hK hP 0 rfl rfl 1 (by decide) (hts _ fl_Te_13) (fun _ h9 => h9) rfl d_Te_put_24 ?_
      refine lv_iload_n hx hb d_Te_put_27 rfl (lv_at hl 1 rfl) ?_
      refine va_cast hx hb hK hP hD hS 1 0 rfl rfl (vp_in_nI ht (by omega)) d_Te_put_28 (fun H locs hP hD hS => ?_)
      have e_1 : upd f (nI t.length).toNatClampNeg (vp_nar .char (nI ch)) = upd f t.length (nI ch) := by rw [nI_clamp (by omega), tx_nar hc]
      have hP : va_P (dC, dI) cls [(h, .inr (3, [.ref w, .int (nI t.length)])), (w, .inl (cC, 64, .inl (upd f t.length (nI ch))))] H := by rw [← e_1]; exact hP
      have hD : va_D A [(h, .inr (3, [.ref w, .int (nI t.length)])), (w, .inl (cC, 64, .inl (upd f t.length (nI ch))))] := by rw [← e_1]; exact hD
      refine lv_aload_n hx hb d_Te_put_29 rfl (lv_at hl 0 rfl) ?_
      refine lv_dup hx hb d_Te_put_30 rfl ?_
      refine va_get (D := (dC, dI)) (ci := 3) (v := .int (nI t.length)) (C := R_Te) (T := F_Te) (N := 2) hx hb hts i_Te hown hK hP 0 rfl rfl 1 (by decide) (hts _ fl_Te_13) (fun _ h9 => h9) rfl d_Te_put_31 ?_
      refine lv_iconst (v := 1) hx hb d_Te_put_34 (by decide) ?_
      refine lv_iadd hx hb d_Te_put_35 ?_
      refine lv_topi (fun x_2 e_3 => ?_)
      obtain rfl : x_2 = nI (t ++ [ch]).length := e_3.trans ((nI_1 _).trans (by rw [List.length_append]; rfl))
      refine va_put (D := (dC, dI)) (ci := 3) (v := .int (nI (t ++ [ch]).length)) (ty := .int) (C := R_Te) (T := F_Te) (N := 2) hx hb hts i_Te t_Te t_Te_ok n_Te hown hK hP hD hS 0 rfl rfl 1 (by decide) (hts _ fl_Te_13) (fun _ h9 => h9) rfl (by decide +kernel) rfl rfl (Nat.le_of_ble_eq_true rfl) d_Te_put_36 (fun H locs hP hD hS => ?_)
      have hP : va_P (dC, dI) cls [(h, .inr (3, [.ref w, .int (nI (t ++ [ch]).length)])), (w, .inl (cC, 64, .inl (upd f t.length (nI ch))))] H := hP
      have hD : va_D A [(h, .inr (3, [.ref w, .int (nI (t ++ [ch]).length)])), (w, .inl (cC, 64, .inl (upd f t.length (nI ch))))] := hD
      exact hret _ _ _ _ (upd f t.length (nI ch)) d_Te_put_39 (tx_put ch hf) hP hK hD hS
set_option maxHeartbeats 4000000 in
set_option maxRecDepth 100000 in
/-- codeAt -/
theorem c_Te_codeAt (l : Launch) (dC : Nat → ClassId) (dI : Nat → Nat → Nat) (sz : Nat) (h w : Nat) (cC : ClassId) (f : Nat → Int32) (t : List Nat) (k : Int32) (hf : tx f t) (ht : t.length ≤ 64) : Met l y_Te_codeAt (Cond.code y_Te_codeAt b_Te_codeAt 2 (some .int) :: gT) ({ frames := 0, cells := 0, slots := 0, locals := 0 }) (va_Pc [.ref h, .int k] (pw_P (dC, dI) cls [(cC, .char)] pw_0 [(h, .inr (3, [.ref w, .int (nI t.length)])), (w, .inl (cC, 64, .inl (f)))] sz)) (va_Qi (fun (r : Int32) (uu : Unit) => r = tx_at t k) (fun (uu : Unit) => pw_B (dC, dI) cls [(cC, .char)] (va_A [(h, .inr (3, [.ref w, .int (nI t.length)])), (w, .inl (cC, 64, .inl (f)))] sz) [(h, .inr (3, [.ref w, .int (nI t.length)])), (w, .inl (cC, 64, .inl (f)))]) (va_A [(h, .inr (3, [.ref w, .int (nI t.length)])), (w, .inl (cC, 64, .inl (f)))] sz)) 0 0 (va_A [(h, .inr (3, [.ref w, .int (nI t.length)])), (w, .inl (cC, 64, .inl (f)))] sz) := by
  refine pw_meti (tn := fun (uu : Unit) => [(cC, .char)]) (wn := fun (uu : Unit) => [(h, .inr (3, [.ref w, .int (nI t.length)])), (w, .inl (cC, 64, .inl (f)))]) (by decide) (Nat.le_of_ble_eq_true rfl) ?_
  intro p e s m args below meth c A Q H ls hx hb hml hown hts hA hE hP hK hD hS hret hl
  have hown : s.vm.findClass R_Te = some m.cls := hown
  have hl : lv_has ls 2 [(0, .ref h), (1, .int k)] := hl
  refine lv_iload_n hx hb d_Te_codeAt_0 rfl (lv_at hl 1 rfl) ?_
  refine lv_if_lt (tgt := 30) hx hb d_Te_codeAt_1 (by decide) (fun hq => ?_) (fun hq => ?_)
  · refine lv_iconst (v := (-1)) hx hb d_Te_codeAt_30 (by decide) ?_
    exact hret _ _ _ _ _ () d_Te_codeAt_31 (vp_nar_int _) (tx_at_neg hq).symm hP hK hD hS
  · refine lv_iload_n hx hb d_Te_codeAt_4 rfl (lv_at hl 1 rfl) ?_
    refine lv_aload_n hx hb d_Te_codeAt_5 rfl (lv_at hl 0 rfl) ?_
    refine va_get (D := (dC, dI)) (ci := 3) (v := .int (nI t.length)) (C := R_Te) (T := F_Te) (N := 2) hx hb hts i_Te hown hK hP 0 rfl rfl 1 (by decide) (hts _ fl_Te_13) (fun _ h9 => h9) rfl d_Te_codeAt_6 ?_
    refine lv_icmp_ge (tgt := 30) hx hb d_Te_codeAt_9 (by decide) (fun hq2 => ?_) (fun hq2 => ?_)
    · refine lv_iconst (v := (-1)) hx hb d_Te_codeAt_30 (by decide) ?_
      exact hret _ _ _ _ _ () d_Te_codeAt_31 (vp_nar_int _) (tx_at_out (by omega) hq2).symm hP hK hD hS
    · refine lv_iload_n hx hb d_Te_codeAt_12 rfl (lv_at hl 1 rfl) ?_
      refine lv_aload_n hx hb d_Te_codeAt_13 rfl (lv_at hl 0 rfl) ?_
      refine va_get (D := (dC, dI)) (ci := 3) (v := .ref w) (C := R_Te) (T := F_Te) (N := 2) hx hb hts i_Te hown hK hP 0 rfl rfl 0 (by decide) (hts _ fl_Te_9) (fun _ h9 => h9) rfl d_Te_codeAt_14 ?_
      refine va_alen (v := nI 64) hx hb hK hP 1 0 rfl rfl rfl d_Te_codeAt_17 ?_
      obtain ⟨j, hj, rfl⟩ : ∃ j : Nat, j < t.length ∧ k = nI j := by
        obtain ⟨j, hj, rfl⟩ := nI_of hq
        exact ⟨j, by have := mt (nI_leI (a := t.length) (b := j) (by omega) hj).mpr hq2; omega, rfl⟩
      refine lv_icmp_ge (tgt := 30) hx hb d_Te_codeAt_18 (by decide) (fun hq3 => ?_) (fun hq3 => ?_)
      · exact absurd ((nI_leI (a := 64) (b := j) (by omega) (by omega)).mp hq3) (by omega)
      · refine lv_aload_n hx hb d_Te_codeAt_21 rfl (lv_at hl 0 rfl) ?_
        refine va_get (D := (dC, dI)) (ci := 3) (v := .ref w) (C := R_Te) (T := F_Te) (N := 2) hx hb hts i_Te hown hK hP 0 rfl rfl 0 (by decide) (hts _ fl_Te_9) (fun _ h9 => h9) rfl d_Te_codeAt_22 ?_
        refine lv_iload_n hx hb d_Te_codeAt_25 rfl (lv_at hl 1 rfl) ?_
        refine va_cald hx hb hK hP 1 0 rfl rfl (vp_in_nI (by omega) (by omega)) d_Te_codeAt_26 ?_
        refine lv_topi (fun x_1 e_2 => ?_)
        obtain rfl : x_1 = nI (t.getD j 0) := e_2.trans (by rw [nI_clamp (by omega)]; exact hf j hj)
        refine lv_goto (tgt := 31) hx hb d_Te_codeAt_27 (by decide) ?_
        exact hret _ _ _ _ _ () d_Te_codeAt_31 (vp_nar_int _) (tx_at_in hj (by omega)).symm hP hK hD hS
set_option maxHeartbeats 4000000 in
set_option maxRecDepth 100000 in
/-- hexDigit -/
theorem c_Te_hexDigit (l : Launch) (dC : Nat → ClassId) (dI : Nat → Nat → Nat) (sz : Nat) (v : Nat) (hv : v < 16) : Met l y_Te_hexDigit (Cond.code y_Te_hexDigit b_Te_hexDigit 1 (some .char) :: gT) ({ frames := 0, cells := 0, slots := 0, locals := 0 }) (va_Pc [.int (nI v)] (pw_P (dC, dI) cls [] pw_0 [] sz)) (va_Qi (fun (r : Int32) (uu : Unit) => r = nI (hxc v)) (fun (uu : Unit) => pw_B (dC, dI) cls [] (va_A [] sz) []) (va_A [] sz)) 0 0 (va_A [] sz) := by
  refine pw_meti (tn := fun (uu : Unit) => []) (wn := fun (uu : Unit) => []) (by decide) (Nat.le_of_ble_eq_true rfl) ?_
  intro p e s m args below meth c A Q H ls hx hb hml hown hts hA hE hP hK hD hS hret hl
  have hown : s.vm.findClass R_Te = some m.cls := hown
  have hl : lv_has ls 1 [(0, .int (nI v))] := hl
  refine lv_iload_n hx hb d_Te_hexDigit_0 rfl (lv_at hl 0 rfl) ?_
  refine lv_bipush (v := 10) hx hb d_Te_hexDigit_1 (by decide) ?_
  refine lv_icmp_ge (tgt := 13) hx hb d_Te_hexDigit_3 (by decide) (fun hq => ?_) (fun hq => ?_)
  · have h10 : 10 ≤ v := (nI_leI (a := 10) (b := v) (by omega) (by omega)).mp hq
    have e1 : hxc v = 87 + v := if_neg (by omega)
    refine lv_bipush (v := 97) hx hb d_Te_hexDigit_13 (by decide) ?_
    refine lv_iload_n hx hb d_Te_hexDigit_15 rfl (lv_at hl 0 rfl) ?_
    refine lv_iadd hx hb d_Te_hexDigit_16 ?_
    refine lv_bipush (v := 10) hx hb d_Te_hexDigit_17 (by decide) ?_
    refine lv_isub hx hb d_Te_hexDigit_19 ?_
    refine lv_topi (fun x_1 e_2 => ?_)
    obtain rfl : x_1 = nI (hxc v) := e_2.trans (by rw [e1, show (97 : Int32) = nI 97 from rfl, nI_add, show (10 : Int32) = nI 10 from rfl, pk_sub (by omega)]; congr 1; omega)
    refine lv_i2c (v := nI (hxc v)) hx hb d_Te_hexDigit_20 ((pk_char _).trans (by rw [pk_tn (by have := hxc_lt hv; omega), Nat.mod_eq_of_lt (by have := hxc_lt hv; omega)])) ?_
    exact hret _ _ _ _ _ () d_Te_hexDigit_21 (pk_charN (by have := hxc_lt hv; omega)).1 rfl hP hK hD hS
  · have h10 : v < 10 := by have := mt (nI_leI (a := 10) (b := v) (by omega) (by omega)).mpr hq; omega
    have e1 : hxc v = 48 + v := if_pos (by omega)
    refine lv_bipush (v := 48) hx hb d_Te_hexDigit_6 (by decide) ?_
    refine lv_iload_n hx hb d_Te_hexDigit_8 rfl (lv_at hl 0 rfl) ?_
    refine lv_iadd hx hb d_Te_hexDigit_9 ?_
    refine lv_topi (fun x_3 e_4 => ?_)
    obtain rfl : x_3 = nI (hxc v) := e_4.trans (by rw [e1, show (48 : Int32) = nI 48 from rfl, nI_add])
    refine lv_goto (tgt := 20) hx hb d_Te_hexDigit_10 (by decide) ?_
    refine lv_i2c (v := nI (hxc v)) hx hb d_Te_hexDigit_20 ((pk_char _).trans (by rw [pk_tn (by have := hxc_lt hv; omega), Nat.mod_eq_of_lt (by have := hxc_lt hv; omega)])) ?_
    exact hret _ _ _ _ _ () d_Te_hexDigit_21 (pk_charN (by have := hxc_lt hv; omega)).1 rfl hP hK hD hS

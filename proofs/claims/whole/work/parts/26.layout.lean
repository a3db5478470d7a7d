set_option maxHeartbeats 4000000 in
set_option maxRecDepth 100000 in
theorem c_La_hiddenOne (l : Launch) (dC : Nat → ClassId) (dI : Nat → Nat → Nat) (sz : Nat) (ad adK adV : Nat → Nat) (i : Nat)  (hi : i < 2)  : Met l y_La_hiddenOne (Cond.code y_La_hiddenOne b_La_hiddenOne 1 (some .long) :: gT) ({ frames := 0, cells := 0, slots := 0, locals := 0 }) (va_Pc [.ref (ad i)] (pw_P (dC, dI) cls [] (cb_E ad adK adV) [] sz)) (va_Ql (fun (r : Int64) (uu : Unit) => r = lN (2 ^ FB i)) (fun (uu : Unit) => pw_B (dC, dI) cls [] (va_A [] sz) []) (va_A [] sz)) 0 0 (va_A [] sz) := by
  refine pw_metl (tn := fun (uu : Unit) => []) (wn := fun (uu : Unit) => []) (by decide) (Nat.le_of_ble_eq_true rfl) ?_
  intro p e s m args below meth c A Q H ls hx hb hml hown hts hA hE hP hK hD hS hret hl
  have hown : s.vm.findClass R_La = some m.cls := hown
  have hl : lv_has ls 1 [(0, .ref (ad i))] := hl
  have hb9 := la_b i
  refine lv_lconst (v := 1) hx hb d_La_hiddenOne_0 (by decide) ?_
  refine lv_aload_n hx hb d_La_hiddenOne_1 rfl (lv_at hl 0 rfl) ?_
  refine va_getE (q := (R_La, "fractionBits", "I", cb_fb)) hx hb hE.2.1 hi hS hown (List.mem_of_getElem? (i := 0) rfl) (hts _ fl_La_29) (fun _ h9 => h9) d_La_hiddenOne_2 ?_
  refine lv_topi (fun x_1 e_2 => ?_)
  obtain rfl : x_1 = nI (FB i) := e_2.trans (la_fb i hi)
  refine lv_lshl (v := lN (2 ^ FB i)) hx hb d_La_hiddenOne_5 (bn_shl1 (by omega)) ?_
  exact hret _ _ _ _ _ () d_La_hiddenOne_6 rfl hP hK hD hS
set_option maxHeartbeats 4000000 in
set_option maxRecDepth 100000 in
theorem c_La_exponentOf (l : Launch) (dC : Nat → ClassId) (dI : Nat → Nat → Nat) (sz : Nat) (ad adK adV : Nat → Nat) (i : Nat) (b : Nat) (hi : i < 2) (hbb : b < 2 ^ 64) : Met l y_La_exponentOf (Cond.code y_La_exponentOf b_La_exponentOf 3 (some .int) :: gT) ({ frames := 0, cells := 0, slots := 0, locals := 0 }) (va_Pc [.ref (ad i), .long (lN b)] (pw_P (dC, dI) cls [] (cb_E ad adK adV) [] sz)) (va_Qi (fun (r : Int32) (uu : Unit) => r = nI (b / 2 ^ FB i % 2 ^ EB i)) (fun (uu : Unit) => pw_B (dC, dI) cls [] (va_A [] sz) []) (va_A [] sz)) 0 0 (va_A [] sz) := by
  refine pw_meti (tn := fun (uu : Unit) => []) (wn := fun (uu : Unit) => []) (by decide) (Nat.le_of_ble_eq_true rfl) ?_
  intro p e s m args below meth c A Q H ls hx hb hml hown hts hA hE hP hK hD hS hret hl
  have hown : s.vm.findClass R_La = some m.cls := hown
  have hl : lv_has ls 3 [(0, .ref (ad i)), (1, .long (lN b))] := hl
  have hb9 := la_b i
  refine lv_lload_n hx hb d_La_exponentOf_0 rfl (lv_at hl 1 rfl) ?_
  refine lv_aload_n hx hb d_La_exponentOf_1 rfl (lv_at hl 0 rfl) ?_
  refine va_getE (q := (R_La, "fractionBits", "I", cb_fb)) hx hb hE.2.1 hi hS hown (List.mem_of_getElem? (i := 0) rfl) (hts _ fl_La_29) (fun _ h9 => h9) d_La_exponentOf_2 ?_
  refine lv_topi (fun x_1 e_2 => ?_)
  obtain rfl : x_1 = nI (FB i) := e_2.trans (la_fb i hi)
  refine lv_lushr (v := lN (b / 2 ^ FB i)) hx hb d_La_exponentOf_5 (wb_shr hbb (by omega)) ?_
  refine lv_l2i (v := nI (b / 2 ^ FB i)) hx hb d_La_exponentOf_6 (lN_i _) ?_
  refine lv_aload_n hx hb d_La_exponentOf_7 rfl (lv_at hl 0 rfl) ?_
  refine va_getE (q := (R_La, "topExponent", "I", cb_te)) hx hb hE.2.1 hi hS hown (List.mem_of_getElem? (i := 1) rfl) (hts _ fl_La_33) (fun _ h9 => h9) d_La_exponentOf_8 ?_
  refine lv_topi (fun x_3 e_4 => ?_)
  obtain rfl : x_3 = nI (2 ^ EB i - 1) := e_4.trans (la_te i hi)
  refine lv_iand hx hb d_La_exponentOf_11 ?_
  refine lv_topi (fun x_5 e_6 => ?_)
  obtain rfl : x_5 = nI (b / 2 ^ FB i % 2 ^ EB i) := e_6.trans (nI_maskw _ (by omega))
  exact hret _ _ _ _ _ () d_La_exponentOf_12 (vp_nar_int _) rfl hP hK hD hS
set_option maxHeartbeats 4000000 in
set_option maxRecDepth 100000 in
theorem c_La_fractionOf (l : Launch) (dC : Nat → ClassId) (dI : Nat → Nat → Nat) (sz : Nat) (ad adK adV : Nat → Nat) (i : Nat) (b : Nat) (hi : i < 2) (hbb : b < 2 ^ 64) : Met l y_La_fractionOf (Cond.code y_La_fractionOf b_La_fractionOf 3 (some .long) :: gT) ({ frames := 1, cells := 0, slots := 0, locals := 20 }) (va_Pc [.ref (ad i), .long (lN b)] (pw_P (dC, dI) cls [] (cb_E ad adK adV) [] sz)) (va_Ql (fun (r : Int64) (uu : Unit) => r = lN (b % 2 ^ FB i)) (fun (uu : Unit) => pw_B (dC, dI) cls [] (va_A [] sz) []) (va_A [] sz)) 0 0 (va_A [] sz) := by
  refine pw_metl (tn := fun (uu : Unit) => []) (wn := fun (uu : Unit) => []) (by decide) (Nat.le_of_ble_eq_true rfl) ?_
  intro p e s m args below meth c A Q H ls hx hb hml hown hts hA hE hP hK hD hS hret hl
  have hown : s.vm.findClass R_La = some m.cls := hown
  have hl : lv_has ls 3 [(0, .ref (ad i)), (1, .long (lN b))] := hl
  have hb9 := la_b i
  refine lv_lload_n hx hb d_La_fractionOf_0 rfl (lv_at hl 1 rfl) ?_
  refine lv_aload_n hx hb d_La_fractionOf_1 rfl (lv_at hl 0 rfl) ?_
  refine pw_calll (wc := []) (wr := []) [] [] rfl rfl rfl (by decide) (by decide) (by decide) hP hD hS hA (fun hPc hDc hF => va_runV (As := []) (rest := [.long (lN b)]) ⟨hx, hb, hml, hown, hts⟩ (c_La_hiddenOne l dC dI H.size ad adK adV i hi) (cwV 0 hts (gw_V (gw_self cod_La_hiddenOne) ml_La_42 im_La_hiddenOne sel_La_hiddenOne ini_La) rfl rfl rfl (by decide +kernel) ⟨Nat.le_of_ble_eq_true rfl, Nat.le_of_ble_eq_true rfl⟩) (pw_preV (cb_E_ok ad adK adV) hE hS hF hPc hDc (hK.sub [] rfl) (va_recvE hE.2.1 hi hS)) rfl rfl hl.1 rfl (lv_room (Nat.le_of_ble_eq_true rfl)) d_La_fractionOf_2 ⟨Nat.le_of_ble_eq_true rfl, Nat.le_of_ble_eq_true rfl⟩) (fun r5 u5 H locs hw5 hK1 hP hD hS => ?_)
  have hP : va_P (dC, dI) cls [] H := hP
  have hD : va_D A [] := hD
  subst hw5
  refine lv_lconst (v := 1) hx hb d_La_fractionOf_5 (by decide) ?_
  refine lv_lsub hx hb d_La_fractionOf_6 ?_
  refine lv_topl (fun x_1 e_2 => ?_)
  obtain rfl : x_1 = lN (2 ^ FB i - 1) := e_2.trans (lN_sub (b := 1) (Nat.one_le_two_pow))
  refine lv_land hx hb d_La_fractionOf_7 ?_
  refine lv_topl (fun x_3 e_4 => ?_)
  obtain rfl : x_3 = lN (b % 2 ^ FB i) := e_4.trans (wb_mask hbb (by omega))
  exact hret _ _ _ _ _ () d_La_fractionOf_8 rfl hP hK hD hS
set_option maxHeartbeats 4000000 in
set_option maxRecDepth 100000 in
theorem c_La_hexFractionOf (l : Launch) (dC : Nat → ClassId) (dI : Nat → Nat → Nat) (sz : Nat) (ad adK adV : Nat → Nat) (i : Nat) (b : Nat) (hi : i < 2) (hbb : b < 2 ^ 64) : Met l y_La_hexFractionOf (Cond.code y_La_hexFractionOf b_La_hexFractionOf 3 (some .long) :: gT) ({ frames := 2, cells := 0, slots := 0, locals := 42 }) (va_Pc [.ref (ad i), .long (lN b)] (pw_P (dC, dI) cls [] (cb_E ad adK adV) [] sz)) (va_Ql (fun (r : Int64) (uu : Unit) => r = lN (b % 2 ^ FB i * 2 ^ (4 * HX i - FB i))) (fun (uu : Unit) => pw_B (dC, dI) cls [] (va_A [] sz) []) (va_A [] sz)) 0 0 (va_A [] sz) := by
  refine pw_metl (tn := fun (uu : Unit) => []) (wn := fun (uu : Unit) => []) (by decide) (Nat.le_of_ble_eq_true rfl) ?_
  intro p e s m args below meth c A Q H ls hx hb hml hown hts hA hE hP hK hD hS hret hl
  have hown : s.vm.findClass R_La = some m.cls := hown
  have hl : lv_has ls 3 [(0, .ref (ad i)), (1, .long (lN b))] := hl
  have hb9 := la_b i
  refine lv_aload_n hx hb d_La_hexFractionOf_0 rfl (lv_at hl 0 rfl) ?_
  refine lv_lload_n hx hb d_La_hexFractionOf_1 rfl (lv_at hl 1 rfl) ?_
  refine pw_calll (wc := []) (wr := []) [] [] rfl rfl rfl (by decide) (by decide) (by decide) hP hD hS hA (fun hPc hDc hF => va_runV (As := [.long (lN b)]) (rest := []) ⟨hx, hb, hml, hown, hts⟩ (c_La_fractionOf l dC dI H.size ad adK adV i b hi hbb) (cwV 1 hts (gw_V (gw_self cod_La_fractionOf) ml_La_46 im_La_fractionOf sel_La_fractionOf ini_La) rfl rfl rfl (by decide +kernel) ⟨Nat.le_of_ble_eq_true rfl, Nat.le_of_ble_eq_true rfl⟩) (pw_preV (cb_E_ok ad adK adV) hE hS hF hPc hDc (hK.sub [] rfl) (va_recvE hE.2.1 hi hS)) rfl rfl hl.1 rfl (lv_room (Nat.le_of_ble_eq_true rfl)) d_La_hexFractionOf_2 ⟨Nat.le_of_ble_eq_true rfl, Nat.le_of_ble_eq_true rfl⟩) (fun r5 u5 H locs hw5 hK1 hP hD hS => ?_)
  have hP : va_P (dC, dI) cls [] H := hP
  have hD : va_D A [] := hD
  subst hw5
  refine lv_iconst (v := 4) hx hb d_La_hexFractionOf_5 (by decide) ?_
  refine lv_aload_n hx hb d_La_hexFractionOf_6 rfl (lv_at hl 0 rfl) ?_
  refine va_getE (q := (R_La, "hexPlaces", "I", cb_hp)) hx hb hE.2.1 hi hS hown (List.mem_of_getElem? (i := 3) rfl) (hts _ fl_La_39) (fun _ h9 => h9) d_La_hexFractionOf_7 ?_
  refine lv_topi (fun x_1 e_2 => ?_)
  obtain rfl : x_1 = nI (HX i) := e_2.trans (la_hp i hi)
  refine lv_imul hx hb d_La_hexFractionOf_10 ?_
  refine lv_topi (fun x_3 e_4 => ?_)
  obtain rfl : x_3 = nI (4 * HX i) := e_4.trans (pk_mul 4 _)
  refine lv_aload_n hx hb d_La_hexFractionOf_11 rfl (lv_at hl 0 rfl) ?_
  refine va_getE (q := (R_La, "fractionBits", "I", cb_fb)) hx hb hE.2.1 hi hS hown (List.mem_of_getElem? (i := 0) rfl) (hts _ fl_La_29) (fun _ h9 => h9) d_La_hexFractionOf_12 ?_
  refine lv_topi (fun x_5 e_6 => ?_)
  obtain rfl : x_5 = nI (FB i) := e_6.trans (la_fb i hi)
  refine lv_isub hx hb d_La_hexFractionOf_15 ?_
  refine lv_topi (fun x_7 e_8 => ?_)
  obtain rfl : x_7 = nI (4 * HX i - FB i) := e_8.trans (pk_sub (by omega))
  refine lv_lshl (v := lN (b % 2 ^ FB i * 2 ^ (4 * HX i - FB i))) hx hb d_La_hexFractionOf_16 (wb_shl _ (by omega)) ?_
  exact hret _ _ _ _ _ () d_La_hexFractionOf_17 rfl hP hK hD hS
set_option maxHeartbeats 4000000 in
set_option maxRecDepth 100000 in
theorem c_La_signOf (l : Launch) (dC : Nat → ClassId) (dI : Nat → Nat → Nat) (sz : Nat) (ad adK adV : Nat → Nat) (i : Nat) (b : Nat) (hi : i < 2) (hbb : b < 2 ^ 64) : Met l y_La_signOf (Cond.code y_La_signOf b_La_signOf 3 (some .boolean) :: gT) ({ frames := 0, cells := 0, slots := 0, locals := 0 }) (va_Pc [.ref (ad i), .long (lN b)] (pw_P (dC, dI) cls [] (cb_E ad adK adV) [] sz)) (va_Qi (fun (r : Int32) (uu : Unit) => r = nI (b / 2 ^ (FB i + EB i) % 2)) (fun (uu : Unit) => pw_B (dC, dI) cls [] (va_A [] sz) []) (va_A [] sz)) 0 0 (va_A [] sz) := by
  refine pw_meti (tn := fun (uu : Unit) => []) (wn := fun (uu : Unit) => []) (by decide) (Nat.le_of_ble_eq_true rfl) ?_
  intro p e s m args below meth c A Q H ls hx hb hml hown hts hA hE hP hK hD hS hret hl
  have hown : s.vm.findClass R_La = some m.cls := hown
  have hl : lv_has ls 3 [(0, .ref (ad i)), (1, .long (lN b))] := hl
  have hb9 := la_b i
  refine lv_lload_n hx hb d_La_signOf_0 rfl (lv_at hl 1 rfl) ?_
  refine lv_aload_n hx hb d_La_signOf_1 rfl (lv_at hl 0 rfl) ?_
  refine va_getE (q := (R_La, "fractionBits", "I", cb_fb)) hx hb hE.2.1 hi hS hown (List.mem_of_getElem? (i := 0) rfl) (hts _ fl_La_29) (fun _ h9 => h9) d_La_signOf_2 ?_
  refine lv_topi (fun x_1 e_2 => ?_)
  obtain rfl : x_1 = nI (FB i) := e_2.trans (la_fb i hi)
  refine lv_lushr (v := lN (b / 2 ^ FB i)) hx hb d_La_signOf_5 (wb_shr hbb (by omega)) ?_
  refine lv_aload_n hx hb d_La_signOf_6 rfl (lv_at hl 0 rfl) ?_
  refine va_getE (q := (R_La, "topExponent", "I", cb_te)) hx hb hE.2.1 hi hS hown (List.mem_of_getElem? (i := 1) rfl) (hts _ fl_La_33) (fun _ h9 => h9) d_La_signOf_7 ?_
  refine lv_topi (fun x_3 e_4 => ?_)
  obtain rfl : x_3 = nI (2 ^ EB i - 1) := e_4.trans (la_te i hi)
  refine lv_iconst (v := 1) hx hb d_La_signOf_10 (by decide) ?_
  refine lv_iadd hx hb d_La_signOf_11 ?_
  refine lv_topi (fun x_5 e_6 => ?_)
  obtain rfl : x_5 = nI (2 ^ EB i) := e_6.trans ((nI_1 _).trans (by rw [Nat.sub_add_cancel Nat.one_le_two_pow]))
  have hp11 : 2 ^ EB i ≤ 2 ^ 11 := Nat.pow_le_pow_right (by decide) (by omega)
  have hdd : b / 2 ^ FB i / 2 ^ EB i = b / 2 ^ (FB i + EB i) := by rw [Nat.div_div_eq_div_mul, Nat.pow_add]
  have hbw := lN_bitw (n := b / 2 ^ FB i) (k := EB i) (Nat.lt_of_le_of_lt (Nat.div_le_self _ _) hbb) (by omega)
  rw [hdd] at hbw
  refine lv_i2l (v := lN (2 ^ EB i)) hx hb d_La_signOf_12 (nI_l (by omega)) ?_
  refine lv_land hx hb d_La_signOf_13 ?_
  refine lv_lconst (v := 0) hx hb d_La_signOf_14 (by decide) ?_
  refine lx_eq (tgt := 23) hx hb d_La_signOf_15 d_La_signOf_16 (by decide) (fun hz => ?_) (fun hz => ?_)
  · have h0 : b / 2 ^ (FB i + EB i) % 2 = 0 := hbw.mp hz
    refine lv_iconst (v := 0) hx hb d_La_signOf_23 (by decide) ?_
    exact hret _ _ _ _ _ () d_La_signOf_24 rfl (by rw [h0]; rfl) hP hK hD hS
  · have h0 : b / 2 ^ (FB i + EB i) % 2 = 1 := by have := mt hbw.mpr hz; omega
    refine lv_iconst (v := 1) hx hb d_La_signOf_19 (by decide) ?_
    refine lv_goto (tgt := 24) hx hb d_La_signOf_20 (by decide) ?_
    exact hret _ _ _ _ _ () d_La_signOf_24 rfl (by rw [h0]; rfl) hP hK hD hS
set_option maxHeartbeats 4000000 in
set_option maxRecDepth 100000 in
theorem c_La_binaryExponentOf (l : Launch) (dC : Nat → ClassId) (dI : Nat → Nat → Nat) (sz : Nat) (ad adK adV : Nat → Nat) (i : Nat) (e9 : Nat) (hi : i < 2) (he9 : e9 < 4096) : Met l y_La_binaryExponentOf (Cond.code y_La_binaryExponentOf b_La_binaryExponentOf 2 (some .int) :: gT) ({ frames := 1, cells := 0, slots := 0, locals := 21 }) (va_Pc [.ref (ad i), .int (nI e9)] (pw_P (dC, dI) cls [] (cb_E ad adK adV) [] sz)) (va_Qi (fun (r : Int32) (uu : Unit) => r = iZ (((max e9 1 : Nat) : Int) - BI i)) (fun (uu : Unit) => pw_B (dC, dI) cls [] (va_A [] sz) []) (va_A [] sz)) 0 0 (va_A [] sz) := by
  refine pw_meti (tn := fun (uu : Unit) => []) (wn := fun (uu : Unit) => []) (by decide) (Nat.le_of_ble_eq_true rfl) ?_
  intro p e s m args below meth c A Q H ls hx hb hml hown hts hA hE hP hK hD hS hret hl
  have hown : s.vm.findClass R_La = some m.cls := hown
  have hl : lv_has ls 2 [(0, .ref (ad i)), (1, .int (nI e9))] := hl
  have hb9 := la_b i
  refine lv_iload_n hx hb d_La_binaryExponentOf_0 rfl (lv_at hl 1 rfl) ?_
  refine lv_iconst (v := 1) hx hb d_La_binaryExponentOf_1 (by decide) ?_
  refine va_mmax hx hb (hml.trans hl.1.symm) hown (hts _ ml_La_50) (hts _ sta_Ma_max) (hts _ ini_Ma) (hts _ cod_Ma_max) (Nat.le_of_ble_eq_true rfl) (Nat.le_of_ble_eq_true rfl) (Nat.zero_le _) (Nat.zero_le _) d_La_binaryExponentOf_2 ?_
  refine lv_topi (fun x_1 e_2 => ?_)
  obtain rfl : x_1 = nI (max e9 1) := e_2.trans (iZ_max e9 1 (by omega) (by omega))
  refine lv_aload_n hx hb d_La_binaryExponentOf_5 rfl (lv_at hl 0 rfl) ?_
  refine va_getE (q := (R_La, "bias", "I", cb_bi)) hx hb hE.2.1 hi hS hown (List.mem_of_getElem? (i := 2) rfl) (hts _ fl_La_36) (fun _ h9 => h9) d_La_binaryExponentOf_6 ?_
  refine lv_topi (fun x_3 e_4 => ?_)
  obtain rfl : x_3 = nI (BI i) := e_4.trans (la_bi i hi)
  refine lv_isub hx hb d_La_binaryExponentOf_9 ?_
  refine lv_topi (fun x_5 e_6 => ?_)
  obtain rfl : x_5 = iZ (((max e9 1 : Nat) : Int) - BI i) := e_6.trans (by rw [iZ_N, iZ_N]; exact iZ_sub _ _)
  exact hret _ _ _ _ _ () d_La_binaryExponentOf_10 (vp_nar_int _) rfl hP hK hD hS
set_option maxHeartbeats 4000000 in
set_option maxRecDepth 100000 in
theorem c_La_powerOf (l : Launch) (dC : Nat → ClassId) (dI : Nat → Nat → Nat) (sz : Nat) (ad adK adV : Nat → Nat) (i : Nat) (e9 : Nat) (hi : i < 2) (he9 : e9 < 4096) : Met l y_La_powerOf (Cond.code y_La_powerOf b_La_powerOf 2 (some .int) :: gT) ({ frames := 2, cells := 0, slots := 0, locals := 42 }) (va_Pc [.ref (ad i), .int (nI e9)] (pw_P (dC, dI) cls [] (cb_E ad adK adV) [] sz)) (va_Qi (fun (r : Int32) (uu : Unit) => r = iZ (((max e9 1 : Nat) : Int) - BI i - FB i)) (fun (uu : Unit) => pw_B (dC, dI) cls [] (va_A [] sz) []) (va_A [] sz)) 0 0 (va_A [] sz) := by
  refine pw_meti (tn := fun (uu : Unit) => []) (wn := fun (uu : Unit) => []) (by decide) (Nat.le_of_ble_eq_true rfl) ?_
  intro p e s m args below meth c A Q H ls hx hb hml hown hts hA hE hP hK hD hS hret hl
  have hown : s.vm.findClass R_La = some m.cls := hown
  have hl : lv_has ls 2 [(0, .ref (ad i)), (1, .int (nI e9))] := hl
  have hb9 := la_b i
  refine lv_aload_n hx hb d_La_powerOf_0 rfl (lv_at hl 0 rfl) ?_
  refine lv_iload_n hx hb d_La_powerOf_1 rfl (lv_at hl 1 rfl) ?_
  refine pw_calli (wc := []) (wr := []) [] [] rfl rfl rfl (by decide) (by decide) (by decide) hP hD hS hA (fun hPc hDc hF => va_runV (As := [.int (nI e9)]) (rest := []) ⟨hx, hb, hml, hown, hts⟩ (c_La_binaryExponentOf l dC dI H.size ad adK adV i e9 hi he9) (cwV 1 hts (gw_V (gw_self cod_La_binaryExponentOf) ml_La_56 im_La_binaryExponentOf sel_La_binaryExponentOf ini_La) rfl rfl rfl (by decide +kernel) ⟨Nat.le_of_ble_eq_true rfl, Nat.le_of_ble_eq_true rfl⟩) (pw_preV (cb_E_ok ad adK adV) hE hS hF hPc hDc (hK.sub [] rfl) (va_recvE hE.2.1 hi hS)) rfl rfl hl.1 rfl (lv_room (Nat.le_of_ble_eq_true rfl)) d_La_powerOf_2 ⟨Nat.le_of_ble_eq_true rfl, Nat.le_of_ble_eq_true rfl⟩) (fun r5 u5 H locs hw5 hK1 hP hD hS => ?_)
  have hP : va_P (dC, dI) cls [] H := hP
  have hD : va_D A [] := hD
  subst hw5
  refine lv_aload_n hx hb d_La_powerOf_5 rfl (lv_at hl 0 rfl) ?_
  refine va_getE (q := (R_La, "fractionBits", "I", cb_fb)) hx hb hE.2.1 hi hS hown (List.mem_of_getElem? (i := 0) rfl) (hts _ fl_La_29) (fun _ h9 => h9) d_La_powerOf_6 ?_
  refine lv_topi (fun x_1 e_2 => ?_)
  obtain rfl : x_1 = nI (FB i) := e_2.trans (la_fb i hi)
  refine lv_isub hx hb d_La_powerOf_9 ?_
  refine lv_topi (fun x_3 e_4 => ?_)
  obtain rfl : x_3 = iZ (((max e9 1 : Nat) : Int) - BI i - FB i) := e_4.trans (by rw [iZ_N]; exact iZ_sub _ _)
  exact hret _ _ _ _ _ () d_La_powerOf_10 (vp_nar_int _) rfl hP hK hD hS

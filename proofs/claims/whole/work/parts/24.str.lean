theorem tk_1 {l : List Nat} {j : Nat} (h : j < l.length) : l.take j ++ [l.getD j 0] = l.take (j + 1) := by
  rw [List.take_add_one, List.getD_eq_getElem?_getD, List.getElem?_eq_getElem h]
  rfl
set_option maxHeartbeats 4000000 in
set_option maxRecDepth 100000 in
theorem c_St_coder (l : Launch) (dC : Nat → ClassId) (dI : Nat → Nat → Nat) (sz : Nat) (ad adK adV : Nat → Nat) (i : Nat) (hi : i < 6) : Met l y_St_coder (Cond.code y_St_coder b_St_coder 1 (some .byte) :: gT) ({ frames := 0, cells := 0, slots := 0, locals := 0 }) (va_Pc [.ref (adK i)] (pw_P (dC, dI) cls [] (cb_E ad adK adV) [] sz)) (va_Qi (fun (r : Int32) (uu : Unit) => r = 0) (fun (uu : Unit) => pw_B (dC, dI) cls [] (va_A [] sz) []) (va_A [] sz)) 0 0 (va_A [] sz) := by
  refine pw_meti (tn := fun (uu : Unit) => []) (wn := fun (uu : Unit) => []) (by decide) (Nat.le_of_ble_eq_true rfl) ?_
  intro p e s m args below meth c A Q H ls hx hb hml hown hts hA hE hP hK hD hS hret hl
  have hown : s.vm.findClass R_St = some m.cls := hown
  have hl : lv_has ls 1 [(0, .ref (adK i))] := hl
  refine va_gets hx hb hE.2.2.1 hS hown (hts _ fl_St_38) (fun _ h9 => h9) d_St_coder_0 ?_
  refine lv_if_eq (tgt := 13) hx hb d_St_coder_3 (by decide) (fun hc => ?_) (fun hc => ?_)
  · exact absurd hc (by decide)
  · refine lv_aload_n hx hb d_St_coder_6 rfl (lv_at hl 0 rfl) ?_
    refine vk_getf (v := .int 0) hx hb (hE.2.2.2.2.1.1 i hi).2.1 hS hown (hts _ fl_St_15) (fun _ h9 => h9) d_St_coder_7 ?_
    refine lv_goto (tgt := 14) hx hb d_St_coder_10 (by decide) ?_
    exact hret _ _ _ _ _ () d_St_coder_14 rfl rfl hP hK hD hS
set_option maxHeartbeats 4000000 in
set_option maxRecDepth 100000 in
theorem c_St_isLatin1 (l : Launch) (dC : Nat → ClassId) (dI : Nat → Nat → Nat) (sz : Nat) (ad adK adV : Nat → Nat) (i : Nat) (hi : i < 6) : Met l y_St_isLatin1 (Cond.code y_St_isLatin1 b_St_isLatin1 1 (some .boolean) :: gT) ({ frames := 0, cells := 0, slots := 0, locals := 0 }) (va_Pc [.ref (adK i)] (pw_P (dC, dI) cls [] (cb_E ad adK adV) [] sz)) (va_Qi (fun (r : Int32) (uu : Unit) => r = 1) (fun (uu : Unit) => pw_B (dC, dI) cls [] (va_A [] sz) []) (va_A [] sz)) 0 0 (va_A [] sz) := by
  refine pw_meti (tn := fun (uu : Unit) => []) (wn := fun (uu : Unit) => []) (by decide) (Nat.le_of_ble_eq_true rfl) ?_
  intro p e s m args below meth c A Q H ls hx hb hml hown hts hA hE hP hK hD hS hret hl
  have hown : s.vm.findClass R_St = some m.cls := hown
  have hl : lv_has ls 1 [(0, .ref (adK i))] := hl
  refine va_gets hx hb hE.2.2.1 hS hown (hts _ fl_St_38) (fun _ h9 => h9) d_St_isLatin1_0 ?_
  refine lv_if_eq (tgt := 17) hx hb d_St_isLatin1_3 (by decide) (fun hc => ?_) (fun hc => ?_)
  · exact absurd hc (by decide)
  · refine lv_aload_n hx hb d_St_isLatin1_6 rfl (lv_at hl 0 rfl) ?_
    refine vk_getf (v := .int 0) hx hb (hE.2.2.2.2.1.1 i hi).2.1 hS hown (hts _ fl_St_15) (fun _ h9 => h9) d_St_isLatin1_7 ?_
    refine lv_if_ne (tgt := 17) hx hb d_St_isLatin1_10 (by decide) (fun hc2 => ?_) (fun hc2 => ?_)
    · exact absurd rfl hc2
    · refine lv_iconst (v := 1) hx hb d_St_isLatin1_13 (by decide) ?_
      refine lv_goto (tgt := 18) hx hb d_St_isLatin1_14 (by decide) ?_
      exact hret _ _ _ _ _ () d_St_isLatin1_18 rfl rfl hP hK hD hS
set_option maxHeartbeats 4000000 in
set_option maxRecDepth 100000 in
theorem c_St_length (l : Launch) (dC : Nat → ClassId) (dI : Nat → Nat → Nat) (sz : Nat) (ad adK adV : Nat → Nat) (i : Nat) (hi : i < 6) : Met l y_St_length (Cond.code y_St_length b_St_length 1 (some .int) :: gT) ({ frames := 1, cells := 0, slots := 0, locals := 20 }) (va_Pc [.ref (adK i)] (pw_P (dC, dI) cls [] (cb_E ad adK adV) [] sz)) (va_Qi (fun (r : Int32) (uu : Unit) => r = nI (cb_len.getD i 0)) (fun (uu : Unit) => pw_B (dC, dI) cls [] (va_A [] sz) []) (va_A [] sz)) 0 0 (va_A [] sz) := by
  refine pw_meti (tn := fun (uu : Unit) => []) (wn := fun (uu : Unit) => []) (by decide) (Nat.le_of_ble_eq_true rfl) ?_
  intro p e s m args below meth c A Q H ls hx hb hml hown hts hA hE hP hK hD hS hret hl
  have hown : s.vm.findClass R_St = some m.cls := hown
  have hl : lv_has ls 1 [(0, .ref (adK i))] := hl
  have hln := (cb_s_len i hi).2
  refine lv_aload_n hx hb d_St_length_0 rfl (lv_at hl 0 rfl) ?_
  refine vk_getf (v := .ref (adV i)) hx hb (hE.2.2.2.2.1.1 i hi).2.2.1 hS hown (hts _ fl_St_9) (fun _ h9 => h9) d_St_length_1 ?_
  refine va_tlen (v := nI (cb_len.getD i 0)) hx hb (hE.2.2.2.2.1.1 i hi).2.2.2 hS rfl d_St_length_4 ?_
  refine lv_aload_n hx hb d_St_length_5 rfl (lv_at hl 0 rfl) ?_
  refine pw_calli (wc := []) (wr := []) [] [] rfl rfl rfl (by decide) (by decide) (by decide) hP hD hS hA (fun hPc hDc hF => va_runV (As := []) (rest := [.int (nI (cb_len.getD i 0))]) ⟨hx, hb, hml, hown, hts⟩ (c_St_coder l dC dI H.size ad adK adV i hi) (cwV 0 hts (gw_V (gw_self cod_St_coder) ml_St_335 im_St_coder sel_St_coder ini_St) rfl rfl rfl (by decide +kernel) ⟨Nat.le_of_ble_eq_true rfl, Nat.le_of_ble_eq_true rfl⟩) (pw_preV (cb_E_ok ad adK adV) hE hS hF hPc hDc (hK.sub [] rfl) (vk_recv hE.2.2.2.2.1 hi hS)) rfl rfl hl.1 rfl (lv_room (Nat.le_of_ble_eq_true rfl)) d_St_length_6 ⟨Nat.le_of_ble_eq_true rfl, Nat.le_of_ble_eq_true rfl⟩) (fun r5 u5 H locs hw5 hK1 hP hD hS => ?_)
  have hP : va_P (dC, dI) cls [] H := hP
  have hD : va_D A [] := hD
  subst hw5
  refine lv_ishr hx hb d_St_length_9 ?_
  refine lv_topi (fun x_1 e_2 => ?_)
  obtain rfl : x_1 = nI (cb_len.getD i 0) := e_2.trans (sc_shr0 (by omega))
  exact hret _ _ _ _ _ () d_St_length_10 (vp_nar_int _) rfl hP hK hD hS
set_option maxHeartbeats 4000000 in
set_option maxRecDepth 100000 in
theorem c_Pr_checkIndexN (l : Launch) (dC : Nat → ClassId) (dI : Nat → Nat → Nat) (sz : Nat) (k n : Nat) (hk : k < n) (hn : n < 2 ^ 31) : Met l y_Pr_checkIndex (Cond.code y_Pr_checkIndex b_Pr_checkIndex 3 (some .int) :: gT) ({ frames := 0, cells := 0, slots := 0, locals := 0 }) (va_Pc [.int (nI k), .int (nI n), .null] (pw_P (dC, dI) cls [] pw_0 [] sz)) (va_Qi (fun (r : Int32) (uu : Unit) => True) (fun (uu : Unit) => pw_B (dC, dI) cls [] (va_A [] sz) []) (va_A [] sz)) 0 0 (va_A [] sz) := by
  refine pw_meti (tn := fun (uu : Unit) => []) (wn := fun (uu : Unit) => []) (by decide) (Nat.le_of_ble_eq_true rfl) ?_
  intro p e s m args below meth c A Q H ls hx hb hml hown hts hA hE hP hK hD hS hret hl
  have hown : s.vm.findClass R_Pr = some m.cls := hown
  have hl : lv_has ls 3 [(0, .int (nI k)), (1, .int (nI n)), (2, .null)] := hl
  refine lv_iload_n hx hb d_Pr_checkIndex_0 rfl (lv_at hl 0 rfl) ?_
  refine lv_if_lt (tgt := 9) hx hb d_Pr_checkIndex_1 (by decide) (fun hc => ?_) (fun hc => ?_)
  · exact absurd hc (nI_pos (by omega))
  · refine lv_iload_n hx hb d_Pr_checkIndex_4 rfl (lv_at hl 0 rfl) ?_
    refine lv_iload_n hx hb d_Pr_checkIndex_5 rfl (lv_at hl 1 rfl) ?_
    refine lv_icmp_lt (tgt := 16) hx hb d_Pr_checkIndex_6 (by decide) (fun hc2 => ?_) (fun hc2 => ?_)
    · refine lv_iload_n hx hb d_Pr_checkIndex_16 rfl (lv_at hl 0 rfl) ?_
      exact hret _ _ _ _ _ () d_Pr_checkIndex_17 (vp_nar_int _) trivial hP hK hD hS
    · exact absurd ((nI_ltI (by omega) (by omega)).mpr hk) hc2
set_option maxHeartbeats 4000000 in
set_option maxRecDepth 100000 in
theorem c_Pr_checkIndexR (l : Launch) (dC : Nat → ClassId) (dI : Nat → Nat → Nat) (sz : Nat) (t9 : Nat) (k n : Nat) (hk : k < n) (hn : n < 2 ^ 31) : Met l y_Pr_checkIndex (Cond.code y_Pr_checkIndex b_Pr_checkIndex 3 (some .int) :: gT) ({ frames := 0, cells := 0, slots := 0, locals := 0 }) (va_Pc [.int (nI k), .int (nI n), .ref t9] (pw_P (dC, dI) cls [] pw_0 [] sz)) (va_Qi (fun (r : Int32) (uu : Unit) => True) (fun (uu : Unit) => pw_B (dC, dI) cls [] (va_A [] sz) []) (va_A [] sz)) 0 0 (va_A [] sz) := by
  refine pw_meti (tn := fun (uu : Unit) => []) (wn := fun (uu : Unit) => []) (by decide) (Nat.le_of_ble_eq_true rfl) ?_
  intro p e s m args below meth c A Q H ls hx hb hml hown hts hA hE hP hK hD hS hret hl
  have hown : s.vm.findClass R_Pr = some m.cls := hown
  have hl : lv_has ls 3 [(0, .int (nI k)), (1, .int (nI n)), (2, .ref t9)] := hl
  refine lv_iload_n hx hb d_Pr_checkIndex_0 rfl (lv_at hl 0 rfl) ?_
  refine lv_if_lt (tgt := 9) hx hb d_Pr_checkIndex_1 (by decide) (fun hc => ?_) (fun hc => ?_)
  · exact absurd hc (nI_pos (by omega))
  · refine lv_iload_n hx hb d_Pr_checkIndex_4 rfl (lv_at hl 0 rfl) ?_
    refine lv_iload_n hx hb d_Pr_checkIndex_5 rfl (lv_at hl 1 rfl) ?_
    refine lv_icmp_lt (tgt := 16) hx hb d_Pr_checkIndex_6 (by decide) (fun hc2 => ?_) (fun hc2 => ?_)
    · refine lv_iload_n hx hb d_Pr_checkIndex_16 rfl (lv_at hl 0 rfl) ?_
      exact hret _ _ _ _ _ () d_Pr_checkIndex_17 (vp_nar_int _) trivial hP hK hD hS
    · exact absurd ((nI_ltI (by omega) (by omega)).mpr hk) hc2
set_option maxHeartbeats 4000000 in
set_option maxRecDepth 100000 in
theorem c_St_checkIndex (l : Launch) (dC : Nat → ClassId) (dI : Nat → Nat → Nat) (sz : Nat) (ad adK adV : Nat → Nat) (k n : Nat) (hk : k < n) (hn : n < 2 ^ 31) : Met l y_St_checkIndex (Cond.code y_St_checkIndex b_St_checkIndex 2 none :: gT) ({ frames := 1, cells := 0, slots := 0, locals := 22 }) (va_Pc [.int (nI k), .int (nI n)] (pw_P (dC, dI) cls [] (cb_E ad adK adV) [] sz)) (va_Qv (fun (uu : Unit) => True) (fun (uu : Unit) => pw_B (dC, dI) cls [] (va_A [] sz) []) (va_A [] sz)) 0 0 (va_A [] sz) := by
  refine pw_metv (tn := fun (uu : Unit) => []) (wn := fun (uu : Unit) => []) (by decide) (Nat.le_of_ble_eq_true rfl) ?_
  intro p e s m args below meth c A Q H ls hx hb hml hown hts hnm hA hE hP hK hD hS hret hl
  have hown : s.vm.findClass R_St = some m.cls := hown
  have hl : lv_has ls 2 [(0, .int (nI k)), (1, .int (nI n))] := hl
  refine lv_iload_n hx hb d_St_checkIndex_0 rfl (lv_at hl 0 rfl) ?_
  refine lv_iload_n hx hb d_St_checkIndex_1 rfl (lv_at hl 1 rfl) ?_
  rcases hE.2.2.2.1 with hz | ⟨t9, hz⟩
  · refine va_gets hx hb hz hS hown (hts _ fl_St_1053) (fun _ h9 => h9) d_St_checkIndex_2 ?_
    refine pw_calli (wc := []) (wr := []) [] [] rfl rfl rfl (by decide) (by decide) (by decide) hP hD hS hA (fun hPc hDc hF => va_runS (As := [.int (nI k), .int (nI n), .null]) (rest := []) ⟨hx, hb, hml, hown, hts⟩ (c_Pr_checkIndexN l dC dI H.size k n hk hn) (va_cwS 3 hts (gw_S (gw_self cod_Pr_checkIndex) ml_St_1059 sta_Pr_checkIndex ini_Pr) rfl rfl rfl (by decide +kernel) ⟨Nat.le_of_ble_eq_true rfl, Nat.le_of_ble_eq_true rfl⟩) (pw_preS pw_0_ok (trivial : pw_0 A s s.heap) hS hF hPc hDc (hK.sub [] rfl)) rfl rfl hl.1 rfl (lv_room (Nat.le_of_ble_eq_true rfl)) d_St_checkIndex_5 ⟨Nat.le_of_ble_eq_true rfl, Nat.le_of_ble_eq_true rfl⟩) (fun r5 u5 H locs hw5 hK1 hP hD hS => ?_)
    have hP : va_P (dC, dI) cls [] H := hP
    have hD : va_D A [] := hD
    refine lv_pop hx hb d_St_checkIndex_8 rfl ?_
    exact hret _ _ _ _ () d_St_checkIndex_9 trivial hP hK hD hS
  · refine va_gets hx hb hz hS hown (hts _ fl_St_1053) (fun _ h9 => h9) d_St_checkIndex_2 ?_
    refine pw_calli (wc := []) (wr := []) [] [] rfl rfl rfl (by decide) (by decide) (by decide) hP hD hS hA (fun hPc hDc hF => va_runS (As := [.int (nI k), .int (nI n), .ref t9]) (rest := []) ⟨hx, hb, hml, hown, hts⟩ (c_Pr_checkIndexR l dC dI H.size t9 k n hk hn) (va_cwS 3 hts (gw_S (gw_self cod_Pr_checkIndex) ml_St_1059 sta_Pr_checkIndex ini_Pr) rfl rfl rfl (by decide +kernel) ⟨Nat.le_of_ble_eq_true rfl, Nat.le_of_ble_eq_true rfl⟩) (pw_preS pw_0_ok (trivial : pw_0 A s s.heap) hS hF hPc hDc (hK.sub [] rfl)) rfl rfl hl.1 rfl (lv_room (Nat.le_of_ble_eq_true rfl)) d_St_checkIndex_5 ⟨Nat.le_of_ble_eq_true rfl, Nat.le_of_ble_eq_true rfl⟩) (fun r5 u5 H locs hw5 hK1 hP hD hS => ?_)
    have hP : va_P (dC, dI) cls [] H := hP
    have hD : va_D A [] := hD
    refine lv_pop hx hb d_St_checkIndex_8 rfl ?_
    exact hret _ _ _ _ () d_St_checkIndex_9 trivial hP hK hD hS
set_option maxHeartbeats 4000000 in
set_option maxRecDepth 100000 in
theorem c_SL_charAt (l : Launch) (dC : Nat → ClassId) (dI : Nat → Nat → Nat) (sz : Nat) (ad adK adV : Nat → Nat) (i k : Nat) (hi : i < 6) (hk : k < cb_len.getD i 0) : Met l y_SL_charAt (Cond.code y_SL_charAt b_SL_charAt 2 (some .char) :: gT) ({ frames := 2, cells := 0, slots := 0, locals := 43 }) (va_Pc [.ref (adV i), .int (nI k)] (pw_P (dC, dI) cls [] (cb_E ad adK adV) [] sz)) (va_Qi (fun (r : Int32) (uu : Unit) => r = nI ((cb_str.getD i []).getD k 0)) (fun (uu : Unit) => pw_B (dC, dI) cls [] (va_A [] sz) []) (va_A [] sz)) 0 0 (va_A [] sz) := by
  refine pw_meti (tn := fun (uu : Unit) => []) (wn := fun (uu : Unit) => []) (by decide) (Nat.le_of_ble_eq_true rfl) ?_
  intro p e s m args below meth c A Q H ls hx hb hml hown hts hA hE hP hK hD hS hret hl
  have hown : s.vm.findClass R_SL = some m.cls := hown
  have hl : lv_has ls 2 [(0, .ref (adV i)), (1, .int (nI k))] := hl
  have hln := (cb_s_len i hi).2
  have hat := cb_s_at i hi k (by omega) hk
  refine lv_iload_n hx hb d_SL_charAt_0 rfl (lv_at hl 1 rfl) ?_
  refine lv_aload_n hx hb d_SL_charAt_1 rfl (lv_at hl 0 rfl) ?_
  refine va_tlen (v := nI (cb_len.getD i 0)) hx hb (hE.2.2.2.2.1.1 i hi).2.2.2 hS rfl d_SL_charAt_2 ?_
  refine pw_callv (wc := []) (wr := []) [] [] rfl rfl rfl (by decide) (by decide) (by decide) hP hD hS hA (fun hPc hDc hF => va_runS (As := [.int (nI k), .int (nI (cb_len.getD i 0))]) (rest := []) ⟨hx, hb, hml, hown, hts⟩ (c_St_checkIndex l dC dI H.size ad adK adV k (cb_len.getD i 0) hk (by omega)) (va_cwS 2 hts (gw_S (gw_self cod_St_checkIndex) ml_SL_9 sta_St_checkIndex ini_St) rfl rfl rfl (by decide +kernel) ⟨Nat.le_of_ble_eq_true rfl, Nat.le_of_ble_eq_true rfl⟩) (pw_preS (cb_E_ok ad adK adV) hE hS hF hPc hDc (hK.sub [] rfl)) rfl rfl hl.1 rfl (lv_room (Nat.le_of_ble_eq_true rfl)) d_SL_charAt_3 ⟨Nat.le_of_ble_eq_true rfl, Nat.le_of_ble_eq_true rfl⟩) (fun u5 H locs hw5 hK1 hP hD hS => ?_)
  have hP : va_P (dC, dI) cls [] H := hP
  have hD : va_D A [] := hD
  refine lv_aload_n hx hb d_SL_charAt_6 rfl (lv_at hl 0 rfl) ?_
  refine lv_iload_n hx hb d_SL_charAt_7 rfl (lv_at hl 1 rfl) ?_
  refine va_tb (v := .int ((cb_byt.getD i []).getD k 0)) hx hb (hE.2.2.2.2.1.1 i hi).2.2.2 hS (vp_in_nI hk (by omega)) (by rw [nI_clamp (by omega)]) d_SL_charAt_8 ?_
  refine lv_sipush (v := 255) hx hb d_SL_charAt_9 (by decide) ?_
  refine lv_iand hx hb d_SL_charAt_12 ?_
  refine lv_topi (fun x_1 e_2 => ?_)
  obtain rfl : x_1 = nI ((cb_str.getD i []).getD k 0) := e_2.trans (hat.1)
  refine lv_i2c (v := nI ((cb_str.getD i []).getD k 0)) hx hb d_SL_charAt_13 ((pk_char _).trans (by rw [pk_tn (by omega), Nat.mod_eq_of_lt (by omega)])) ?_
  exact hret _ _ _ _ _ () d_SL_charAt_14 (pk_charN (by omega)).1 rfl hP hK hD hS
set_option maxHeartbeats 4000000 in
set_option maxRecDepth 100000 in
theorem c_St_charAt (l : Launch) (dC : Nat → ClassId) (dI : Nat → Nat → Nat) (sz : Nat) (ad adK adV : Nat → Nat) (i k : Nat) (hi : i < 6) (hk : k < cb_len.getD i 0) : Met l y_St_charAt (Cond.code y_St_charAt b_St_charAt 2 (some .char) :: gT) ({ frames := 3, cells := 0, slots := 0, locals := 64 }) (va_Pc [.ref (adK i), .int (nI k)] (pw_P (dC, dI) cls [] (cb_E ad adK adV) [] sz)) (va_Qi (fun (r : Int32) (uu : Unit) => r = nI ((cb_str.getD i []).getD k 0)) (fun (uu : Unit) => pw_B (dC, dI) cls [] (va_A [] sz) []) (va_A [] sz)) 0 0 (va_A [] sz) := by
  refine pw_meti (tn := fun (uu : Unit) => []) (wn := fun (uu : Unit) => []) (by decide) (Nat.le_of_ble_eq_true rfl) ?_
  intro p e s m args below meth c A Q H ls hx hb hml hown hts hA hE hP hK hD hS hret hl
  have hown : s.vm.findClass R_St = some m.cls := hown
  have hl : lv_has ls 2 [(0, .ref (adK i)), (1, .int (nI k))] := hl
  have hln := (cb_s_len i hi).2
  have hat := cb_s_at i hi k (by omega) hk
  refine lv_aload_n hx hb d_St_charAt_0 rfl (lv_at hl 0 rfl) ?_
  refine pw_calli (wc := []) (wr := []) [] [] rfl rfl rfl (by decide) (by decide) (by decide) hP hD hS hA (fun hPc hDc hF => va_runV (As := []) (rest := []) ⟨hx, hb, hml, hown, hts⟩ (c_St_isLatin1 l dC dI H.size ad adK adV i hi) (cwV 0 hts (gw_V (gw_self cod_St_isLatin1) ml_St_492 im_St_isLatin1 sel_St_isLatin1 ini_St) rfl rfl rfl (by decide +kernel) ⟨Nat.le_of_ble_eq_true rfl, Nat.le_of_ble_eq_true rfl⟩) (pw_preV (cb_E_ok ad adK adV) hE hS hF hPc hDc (hK.sub [] rfl) (vk_recv hE.2.2.2.2.1 hi hS)) rfl rfl hl.1 rfl (lv_room (Nat.le_of_ble_eq_true rfl)) d_St_charAt_1 ⟨Nat.le_of_ble_eq_true rfl, Nat.le_of_ble_eq_true rfl⟩) (fun r5 u5 H locs hw5 hK1 hP hD hS => ?_)
  have hP : va_P (dC, dI) cls [] H := hP
  have hD : va_D A [] := hD
  subst hw5
  refine lv_if_eq (tgt := 16) hx hb d_St_charAt_4 (by decide) (fun hc => ?_) (fun hc => ?_)
  · exact absurd hc (by decide)
  · refine lv_aload_n hx hb d_St_charAt_7 rfl (lv_at hl 0 rfl) ?_
    refine vk_getf (v := .ref (adV i)) hx hb (hE.2.2.2.2.1.1 i hi).2.2.1 hS hown (hts _ fl_St_9) (fun _ h9 => h9) d_St_charAt_8 ?_
    refine lv_iload_n hx hb d_St_charAt_11 rfl (lv_at hl 1 rfl) ?_
    refine pw_calli (wc := []) (wr := []) [] [] rfl rfl rfl (by decide) (by decide) (by decide) hP hD hS hA (fun hPc hDc hF => va_runS (As := [.ref (adV i), .int (nI k)]) (rest := []) ⟨hx, hb, hml, hown, hts⟩ (c_SL_charAt l dC dI H.size ad adK adV i k hi hk) (va_cwS 2 hts (gw_S (gw_self cod_SL_charAt) ml_St_495 sta_SL_charAt ini_SL) rfl rfl rfl (by decide +kernel) ⟨Nat.le_of_ble_eq_true rfl, Nat.le_of_ble_eq_true rfl⟩) (pw_preS (cb_E_ok ad adK adV) hE hS hF hPc hDc (hK.sub [] rfl)) rfl rfl hl.1 rfl (lv_room (Nat.le_of_ble_eq_true rfl)) d_St_charAt_12 ⟨Nat.le_of_ble_eq_true rfl, Nat.le_of_ble_eq_true rfl⟩) (fun r6 u6 H locs hw6 hK1 hP hD hS => ?_)
    have hP : va_P (dC, dI) cls [] H := hP
    have hD : va_D A [] := hD
    exact hret _ _ _ _ _ () d_St_charAt_15 (by rw [hw6]; exact (pk_charN (by omega)).1) hw6 hP hK hD hS
set_option maxHeartbeats 4000000 in
set_option maxRecDepth 100000 in
/-- putAll -/
theorem c_Te_putAll (l : Launch) (dC : Nat → ClassId) (dI : Nat → Nat → Nat) (sz : Nat) (ad adK adV : Nat → Nat) (h w : Nat) (cC : ClassId) (f : Nat → Int32) (t : List Nat) (i : Nat) (hf : tx f t) (ht : t.length + 8 ≤ 64) (hi : i < 6) : Met l y_Te_putAll (Cond.code y_Te_putAll b_Te_putAll 3 none :: gT) ({ frames := 4, cells := 0, slots := 0, locals := 85 }) (va_Pc [.ref h, .ref (adK i)] (pw_P (dC, dI) cls [(cC, .char)] (cb_E ad adK adV) [(h, .inr (3, [.ref w, .int (nI t.length)])), (w, .inl (cC, 64, .inl (f)))] sz)) (va_Qv (fun (f2 : Nat → Int32) => tx f2 (t ++ cb_str.getD i [])) (fun (f2 : Nat → Int32) => pw_B (dC, dI) cls [(cC, .char)] (va_A [(h, .inr (3, [.ref w, .int (nI t.length)])), (w, .inl (cC, 64, .inl (f)))] sz) [(h, .inr (3, [.ref w, .int (nI (t ++ cb_str.getD i []).length)])), (w, .inl (cC, 64, .inl (f2)))]) (va_A [(h, .inr (3, [.ref w, .int (nI t.length)])), (w, .inl (cC, 64, .inl (f)))] sz)) 0 0 (va_A [(h, .inr (3, [.ref w, .int (nI t.length)])), (w, .inl (cC, 64, .inl (f)))] sz) := by
  refine pw_metv (tn := fun (f2 : Nat → Int32) => [(cC, .char)]) (wn := fun (f2 : Nat → Int32) => [(h, .inr (3, [.ref w, .int (nI (t ++ cb_str.getD i []).length)])), (w, .inl (cC, 64, .inl (f2)))]) (by decide) (Nat.le_of_ble_eq_true rfl) ?_
  intro p e s m args below meth c A Q H ls hx hb hml hown hts hnm hA hE hP hK hD hS hret hl
  have hown : s.vm.findClass R_Te = some m.cls := hown
  have hl : lv_has ls 3 [(0, .ref h), (1, .ref (adK i))] := hl
  have hln := cb_s_len i hi
  refine lv_iconst (v := 0) hx hb d_Te_putAll_0 (by decide) ?_
  refine lv_istore_n (lv' := [(2, .int 0), (0, .ref h), (1, .ref (adK i))]) hx hb d_Te_putAll_1 rfl hl (by decide) rfl (fun ls hl => ?_)
  have lp : ∀ (n j : Nat) (f : Nat → Int32) (H : Heap) (locs : List Loc) (ls : Array Slot), (9 ≤ j + n) → (j ≤ cb_len.getD i 0) → (tx f (t ++ (cb_str.getD i []).take j)) → va_P (dC, dI) cls [(h, .inr (3, [.ref w, .int (nI (t ++ (cb_str.getD i []).take j).length)])), (w, .inl (cC, 64, .inl (f)))] H → va_D A [(h, .inr (3, [.ref w, .int (nI (t ++ (cb_str.getD i []).take j).length)])), (w, .inl (cC, 64, .inl (f)))] → va_S A s.heap H locs → lv_has ls 3 [(2, .int (nI j)), (0, .ref h), (1, .ref (adK i))] → W p l e { frames := 4, cells := 0, slots := 0, locals := 85 } s m args below meth c H locs 0 0 Q (F0 m 2 ls []) := by
    intro n
    induction n with
    | zero => intro j f H locs ls hn hj hf hP hD hS hl; exact absurd hn (by omega)
    | succ n ih =>
      intro j f H locs ls hn hj hf hP hD hS hl
      refine lv_iload_n hx hb d_Te_putAll_2 rfl (lv_at hl 0 rfl) ?_
      refine lv_aload_n hx hb d_Te_putAll_3 rfl (lv_at hl 2 rfl) ?_
      refine pw_calli (wc := []) (wr := [(h, .inr (3, [.ref w, .int (nI (t ++ (cb_str.getD i []).take j).length)])), (w, .inl (cC, 64, .inl (f)))]) [] [0, 1] rfl rfl rfl (by decide) (by decide) (by decide) hP hD hS hA (fun hPc hDc hF => va_runV (As := []) (rest := [.int (nI j)]) ⟨hx, hb, hml, hown, hts⟩ (c_St_length l dC dI H.size ad adK adV i hi) (cwV 0 hts (gw_V (gw_self cod_St_length) ml_Te_17 im_St_length sel_St_length ini_St) rfl rfl rfl (by decide +kernel) ⟨Nat.le_of_ble_eq_true rfl, Nat.le_of_ble_eq_true rfl⟩) (pw_preV (cb_E_ok ad adK adV) hE hS hF hPc hDc (hK.sub [] rfl) (vk_recv hE.2.2.2.2.1 hi hS)) rfl rfl hl.1 rfl (lv_room (Nat.le_of_ble_eq_true rfl)) d_Te_putAll_4 ⟨Nat.le_of_ble_eq_true rfl, Nat.le_of_ble_eq_true rfl⟩) (fun r5 u5 H locs hw5 hK1 hP hD hS => ?_)
      have hP : va_P (dC, dI) cls [(h, .inr (3, [.ref w, .int (nI (t ++ (cb_str.getD i []).take j).length)])), (w, .inl (cC, 64, .inl (f)))] H := hP
      have hD : va_D A [(h, .inr (3, [.ref w, .int (nI (t ++ (cb_str.getD i []).take j).length)])), (w, .inl (cC, 64, .inl (f)))] := hD
      subst hw5
      refine lv_icmp_ge (tgt := 25) hx hb d_Te_putAll_7 (by decide) (fun hc => ?_) (fun hc => ?_)
      · have hge : cb_len.getD i 0 ≤ j := (nI_leI (by omega) (by omega)).mp hc
        rw [List.take_of_length_le (by omega)] at hf hP hD
        exact hret _ _ _ _ f d_Te_putAll_25 hf hP hK hD hS
      · have hlt : j < cb_len.getD i 0 := by have := mt (nI_leI (a := cb_len.getD i 0) (b := j) (by omega) (by omega)).mpr hc; omega
        have hat := cb_s_at i hi j (by omega) hlt
        refine lv_aload_n hx hb d_Te_putAll_10 rfl (lv_at hl 1 rfl) ?_
        refine lv_aload_n hx hb d_Te_putAll_11 rfl (lv_at hl 2 rfl) ?_
        refine lv_iload_n hx hb d_Te_putAll_12 rfl (lv_at hl 0 rfl) ?_
        refine pw_calli (wc := []) (wr := [(h, .inr (3, [.ref w, .int (nI (t ++ (cb_str.getD i []).take j).length)])), (w, .inl (cC, 64, .inl (f)))]) [] [0, 1] rfl rfl rfl (by decide) (by decide) (by decide) hP hD hS hA (fun hPc hDc hF => va_runV (As := [.int (nI j)]) (rest := [.ref h]) ⟨hx, hb, hml, hown, hts⟩ (c_St_charAt l dC dI H.size ad adK adV i j hi hlt) (cwV 1 hts (gw_V (gw_self cod_St_charAt) ml_Te_23 im_St_charAt sel_St_charAt ini_St) rfl rfl rfl (by decide +kernel) ⟨Nat.le_of_ble_eq_true rfl, Nat.le_of_ble_eq_true rfl⟩) (pw_preV (cb_E_ok ad adK adV) hE hS hF hPc hDc (hK.sub [] rfl) (vk_recv hE.2.2.2.2.1 hi hS)) rfl rfl hl.1 rfl (lv_room (Nat.le_of_ble_eq_true rfl)) d_Te_putAll_13 ⟨Nat.le_of_ble_eq_true rfl, Nat.le_of_ble_eq_true rfl⟩) (fun r6 u6 H locs hw6 hK1 hP hD hS => ?_)
        have hP : va_P (dC, dI) cls [(h, .inr (3, [.ref w, .int (nI (t ++ (cb_str.getD i []).take j).length)])), (w, .inl (cC, 64, .inl (f)))] H := hP
        have hD : va_D A [(h, .inr (3, [.ref w, .int (nI (t ++ (cb_str.getD i []).take j).length)])), (w, .inl (cC, 64, .inl (f)))] := hD
        subst hw6
        refine pw_callv (wc := [(h, .inr (3, [.ref w, .int (nI (t ++ (cb_str.getD i []).take j).length)])), (w, .inl (cC, 64, .inl (f)))]) (wr := []) [0, 1] [] rfl rfl rfl (by decide) (by decide) (by decide) hP hD hS hA (fun hPc hDc hF => va_runV (As := [.int (nI ((cb_str.getD i []).getD j 0))]) (rest := []) ⟨hx, hb, hml, hown, hts⟩ (c_Te_put l dC dI H.size h w cC f (t ++ (cb_str.getD i []).take j) ((cb_str.getD i []).getD j 0) hf (by rw [List.length_append, List.length_take]; omega) (by omega)) (cwV 1 hts (gw_V (gw_self cod_Te_put) ml_Te_27 im_Te_put sel_Te_put ini_Te) rfl rfl rfl (by decide +kernel) ⟨Nat.le_of_ble_eq_true rfl, Nat.le_of_ble_eq_true rfl⟩) (pw_preV pw_0_ok (trivial : pw_0 A s s.heap) hS hF hPc hDc (hK.sub [0] rfl) (va_recv hK hPc (ci := 3) (q0 := 0) rfl rfl)) rfl rfl hl.1 rfl (lv_room (Nat.le_of_ble_eq_true rfl)) d_Te_putAll_16 ⟨Nat.le_of_ble_eq_true rfl, Nat.le_of_ble_eq_true rfl⟩) (fun f3 H locs hw3 hK1 hP hD hS => ?_)
        have hP : va_P (dC, dI) cls [(h, .inr (3, [.ref w, .int (nI ((t ++ (cb_str.getD i []).take j) ++ [(cb_str.getD i []).getD j 0]).length)])), (w, .inl (cC, 64, .inl (f3)))] H := hP
        have hD : va_D A [(h, .inr (3, [.ref w, .int (nI ((t ++ (cb_str.getD i []).take j) ++ [(cb_str.getD i []).getD j 0]).length)])), (w, .inl (cC, 64, .inl (f3)))] := hD
        rw [List.append_assoc, tk_1 (by omega)] at hw3 hP hD
        refine lv_iinc (v := nI (j + 1)) (lv' := [(2, .int (nI (j + 1))), (0, .ref h), (1, .ref (adK i))]) hx hb d_Te_putAll_19 hl (k := 0) rfl (nI_1 _) (by decide) rfl (fun ls hl => ?_)
        refine lv_goto (tgt := 2) hx hb d_Te_putAll_22 (by decide) ?_
        exact ih (j + 1) f3 H _ ls (by omega) (by omega) hw3 hP hD hS (lv_sub hl [0, 1, 2] rfl)
  have e0 : t ++ (cb_str.getD i []).take 0 = t := by rw [List.take_zero, List.append_nil]
  exact lp 9 0 f H _ ls (by omega) (by omega) (by rw [e0]; exact hf) (by rw [e0]; exact hP) (by rw [e0]; exact hD) hS (lv_sub hl [0, 1, 2] rfl)

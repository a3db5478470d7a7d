set_option maxHeartbeats 4000000 in
set_option maxRecDepth 100000 in
/-- putWhole -/
theorem c_Te_putWhole (l : Launch) (dC : Nat → ClassId) (dI : Nat → Nat → Nat) (sz : Nat) (h w : Nat) (cC : ClassId) (f : Nat → Int32) (t : List Nat) (z : Int) (hf : tx f t) (ht : t.length + 5 ≤ 64) (hz1 : -10000 < z) (hz2 : z < 10000) : Met l y_Te_putWhole (Cond.code y_Te_putWhole b_Te_putWhole 4 none :: gT) ({ frames := 1, cells := 0, slots := 0, locals := 21 }) (va_Pc [.ref h, .int (iZ z)] (pw_P (dC, dI) cls [(cC, .char)] pw_0 [(h, .inr (3, [.ref w, .int (nI t.length)])), (w, .inl (cC, 64, .inl (f)))] sz)) (va_Qv (fun (f2 : Nat → Int32) => tx f2 (t ++ dwz z)) (fun (f2 : Nat → Int32) => pw_B (dC, dI) cls [(cC, .char)] (va_A [(h, .inr (3, [.ref w, .int (nI t.length)])), (w, .inl (cC, 64, .inl (f)))] sz) [(h, .inr (3, [.ref w, .int (nI (t ++ dwz z).length)])), (w, .inl (cC, 64, .inl (f2)))]) (va_A [(h, .inr (3, [.ref w, .int (nI t.length)])), (w, .inl (cC, 64, .inl (f)))] sz)) 0 0 (va_A [(h, .inr (3, [.ref w, .int (nI t.length)])), (w, .inl (cC, 64, .inl (f)))] sz) := by
  refine pw_metv (tn := fun (f2 : Nat → Int32) => [(cC, .char)]) (wn := fun (f2 : Nat → Int32) => [(h, .inr (3, [.ref w, .int (nI (t ++ dwz z).length)])), (w, .inl (cC, 64, .inl (f2)))]) (by decide) (Nat.le_of_ble_eq_true rfl) ?_
  intro p e s m args below meth c A Q H ls hx hb hml hown hts hnm hA hE hP hK hD hS hret hl
  have hown : s.vm.findClass R_Te = some m.cls := hown
  have hl : lv_has ls 4 [(0, .ref h), (1, .int (iZ z))] := hl
  have un : ∀ (U U2 : Nat) (f : Nat → Int32) (tt : List Nat) (H : Heap) (locs : List Loc) (ls : Array Slot), 0 < U → U ≤ 1000 → U / 10 = U2 → tx f tt → tt.length < 64 → (∀ (f : Nat → Int32) (H : Heap) (locs : List Loc) (ls : Array Slot), tx f (tt ++ dws z.natAbs U) → va_P (dC, dI) cls [(h, .inr (3, [.ref w, .int (nI (tt ++ dws z.natAbs U).length)])), (w, .inl (cC, 64, .inl (f)))] H → va_D A [(h, .inr (3, [.ref w, .int (nI (tt ++ dws z.natAbs U).length)])), (w, .inl (cC, 64, .inl (f)))] → va_S A s.heap H locs → lv_has ls 4 [(3, .int (nI U2)), (2, .int (nI z.natAbs)), (0, .ref h), (1, .int (iZ z))] → W p l e { frames := 1, cells := 0, slots := 0, locals := 21 } s m args below meth c H locs 0 0 Q (F0 m 19 ls [])) → va_P (dC, dI) cls [(h, .inr (3, [.ref w, .int (nI tt.length)])), (w, .inl (cC, 64, .inl (f)))] H → va_D A [(h, .inr (3, [.ref w, .int (nI tt.length)])), (w, .inl (cC, 64, .inl (f)))] → va_S A s.heap H locs → lv_has ls 4 [(3, .int (nI U)), (2, .int (nI z.natAbs)), (0, .ref h), (1, .int (iZ z))] → W p l e { frames := 1, cells := 0, slots := 0, locals := 21 } s m args below meth c H locs 0 0 Q (F0 m 19 ls []) := by
    intro U U2 f tt H locs ls hU hU1 hU2 hf ht kk hP hD hS hl
    refine lv_iload_n hx hb d_Te_putWhole_19 rfl (lv_at hl 0 rfl) ?_
    refine lv_iconst (v := 1) hx hb d_Te_putWhole_20 (by decide) ?_
    refine lv_icmp_lt (tgt := 56) hx hb d_Te_putWhole_21 (by decide) (fun hq => ?_) (fun hq => ?_)
    · exact absurd ((nI_ltI (a := U) (b := 1) (by omega) (by omega)).mp hq) (by omega)
    · refine lv_iload_n hx hb d_Te_putWhole_24 rfl (lv_at hl 1 rfl) ?_
      refine lv_iload_n hx hb d_Te_putWhole_25 rfl (lv_at hl 0 rfl) ?_
      refine lv_icmp_ge (tgt := 34) hx hb d_Te_putWhole_26 (by decide) (fun hq2 => ?_) (fun hq2 => ?_)
      · have hge : U ≤ z.natAbs := (nI_leI (by omega) (by omega)).mp hq2
        have hd : dws z.natAbs U = [48 + z.natAbs / U % 10] := if_pos (Or.inl hge)
        rw [hd] at kk
        refine lv_aload_n hx hb d_Te_putWhole_34 rfl (lv_at hl 2 rfl) ?_
        refine lv_bipush (v := 48) hx hb d_Te_putWhole_35 (by decide) ?_
        refine lv_iload_n hx hb d_Te_putWhole_37 rfl (lv_at hl 1 rfl) ?_
        refine lv_iload_n hx hb d_Te_putWhole_38 rfl (lv_at hl 0 rfl) ?_
        have hne : ¬ nI U = 0 := nI_ne0 hU (by omega)
        refine lv_idiv hx hb d_Te_putWhole_39 hne ?_
        refine lv_topi (fun x_1 e_2 => ?_)
        obtain rfl : x_1 = nI (z.natAbs / U) := e_2.trans (pk_div (by omega) hU (by omega))
        refine lv_bipush (v := 10) hx hb d_Te_putWhole_40 (by decide) ?_
        refine lv_irem hx hb d_Te_putWhole_42 (by decide) ?_
        refine lv_topi (fun x_3 e_4 => ?_)
        obtain rfl : x_3 = nI (z.natAbs / U % 10) := e_4.trans (pk_rem (d := 10) (by have := Nat.div_le_self z.natAbs U; omega) (by omega) (by omega))
        refine lv_iadd hx hb d_Te_putWhole_43 ?_
        refine lv_topi (fun x_5 e_6 => ?_)
        obtain rfl : x_5 = nI (48 + z.natAbs / U % 10) := e_6.trans (nI_add 48 _)
        refine lv_i2c (v := nI (48 + z.natAbs / U % 10)) hx hb d_Te_putWhole_44 ((pk_char _).trans (by rw [pk_tn (by omega), Nat.mod_eq_of_lt (by omega)])) ?_
        refine pw_callv (wc := [(h, .inr (3, [.ref w, .int (nI tt.length)])), (w, .inl (cC, 64, .inl (f)))]) (wr := []) [0, 1] [] rfl rfl rfl (by decide) (by decide) (by decide) hP hD hS hA (fun hPc hDc hF => va_runV (As := [.int (nI (48 + z.natAbs / U % 10))]) (rest := []) ⟨hx, hb, hml, hown, hts⟩ (c_Te_put l dC dI H.size h w cC f tt (48 + z.natAbs / U % 10) hf ht (by omega)) (cwV 1 hts (gw_V (gw_self cod_Te_put) ml_Te_27 im_Te_put sel_Te_put ini_Te) rfl rfl rfl (by decide +kernel) ⟨Nat.le_of_ble_eq_true rfl, Nat.le_of_ble_eq_true rfl⟩) (pw_preV pw_0_ok (trivial : pw_0 A s s.heap) hS hF hPc hDc (hK.sub [0] rfl) (va_recv hK hPc (ci := 3) (q0 := 0) rfl rfl)) rfl rfl hl.1 rfl (lv_room (Nat.le_of_ble_eq_true rfl)) d_Te_putWhole_45 ⟨Nat.le_of_ble_eq_true rfl, Nat.le_of_ble_eq_true rfl⟩) (fun f3 H locs hw3 hK1 hP hD hS => ?_)
        have hP : va_P (dC, dI) cls [(h, .inr (3, [.ref w, .int (nI (tt ++ [48 + z.natAbs / U % 10]).length)])), (w, .inl (cC, 64, .inl (f3)))] H := hP
        have hD : va_D A [(h, .inr (3, [.ref w, .int (nI (tt ++ [48 + z.natAbs / U % 10]).length)])), (w, .inl (cC, 64, .inl (f3)))] := hD
        refine lv_iload_n hx hb d_Te_putWhole_48 rfl (lv_at hl 0 rfl) ?_
        refine lv_bipush (v := 10) hx hb d_Te_putWhole_49 (by decide) ?_
        refine lv_idiv hx hb d_Te_putWhole_51 (by decide) ?_
        refine lv_topi (fun x_7 e_8 => ?_)
        obtain rfl : x_7 = nI U2 := e_8.trans ((pk_div (d := 10) (by omega) (by omega) (by omega)).trans (by rw [hU2]))
        refine lv_istore_n (lv' := [(3, .int (nI U2)), (2, .int (nI z.natAbs)), (0, .ref h), (1, .int (iZ z))]) hx hb d_Te_putWhole_52 rfl hl (by decide) rfl (fun ls hl => ?_)
        refine lv_goto (tgt := 19) hx hb d_Te_putWhole_53 (by decide) ?_
        exact kk f3 H _ ls hw3 hP hD hS (lv_sub hl [0, 1, 2, 3] rfl)
      · have hlt : z.natAbs < U := by have := mt (nI_leI (a := U) (b := z.natAbs) (by omega) (by omega)).mpr hq2; omega
        refine lv_iload_n hx hb d_Te_putWhole_29 rfl (lv_at hl 0 rfl) ?_
        refine lv_iconst (v := 1) hx hb d_Te_putWhole_30 (by decide) ?_
        refine lv_icmp_ne (tgt := 48) hx hb d_Te_putWhole_31 (by decide) (fun hq3 => ?_) (fun hq3 => ?_)
        · have hne : U ≠ 1 := fun e => hq3 (by rw [e]; rfl)
          have hd : dws z.natAbs U = [] := if_neg (by omega)
          rw [hd, List.append_nil] at kk
          refine lv_iload_n hx hb d_Te_putWhole_48 rfl (lv_at hl 0 rfl) ?_
          refine lv_bipush (v := 10) hx hb d_Te_putWhole_49 (by decide) ?_
          refine lv_idiv hx hb d_Te_putWhole_51 (by decide) ?_
          refine lv_topi (fun x_9 e_10 => ?_)
          obtain rfl : x_9 = nI U2 := e_10.trans ((pk_div (d := 10) (by omega) (by omega) (by omega)).trans (by rw [hU2]))
          refine lv_istore_n (lv' := [(3, .int (nI U2)), (2, .int (nI z.natAbs)), (0, .ref h), (1, .int (iZ z))]) hx hb d_Te_putWhole_52 rfl hl (by decide) rfl (fun ls hl => ?_)
          refine lv_goto (tgt := 19) hx hb d_Te_putWhole_53 (by decide) ?_
          exact kk f H _ ls hf hP hD hS (lv_sub hl [0, 1, 2, 3] rfl)
        · have h1 : U = 1 := (nI_eq (a := U) (b := 1) (by omega) (by omega)).mp hq3
          have hd : dws z.natAbs U = [48 + z.natAbs / U % 10] := if_pos (Or.inr h1)
          rw [hd] at kk
          refine lv_aload_n hx hb d_Te_putWhole_34 rfl (lv_at hl 2 rfl) ?_
          refine lv_bipush (v := 48) hx hb d_Te_putWhole_35 (by decide) ?_
          refine lv_iload_n hx hb d_Te_putWhole_37 rfl (lv_at hl 1 rfl) ?_
          refine lv_iload_n hx hb d_Te_putWhole_38 rfl (lv_at hl 0 rfl) ?_
          have hne : ¬ nI U = 0 := nI_ne0 hU (by omega)
          refine lv_idiv hx hb d_Te_putWhole_39 hne ?_
          refine lv_topi (fun x_11 e_12 => ?_)
          obtain rfl : x_11 = nI (z.natAbs / U) := e_12.trans (pk_div (by omega) hU (by omega))
          refine lv_bipush (v := 10) hx hb d_Te_putWhole_40 (by decide) ?_
          refine lv_irem hx hb d_Te_putWhole_42 (by decide) ?_
          refine lv_topi (fun x_13 e_14 => ?_)
          obtain rfl : x_13 = nI (z.natAbs / U % 10) := e_14.trans (pk_rem (d := 10) (by have := Nat.div_le_self z.natAbs U; omega) (by omega) (by omega))
          refine lv_iadd hx hb d_Te_putWhole_43 ?_
          refine lv_topi (fun x_15 e_16 => ?_)
          obtain rfl : x_15 = nI (48 + z.natAbs / U % 10) := e_16.trans (nI_add 48 _)
          refine lv_i2c (v := nI (48 + z.natAbs / U % 10)) hx hb d_Te_putWhole_44 ((pk_char _).trans (by rw [pk_tn (by omega), Nat.mod_eq_of_lt (by omega)])) ?_
          refine pw_callv (wc := [(h, .inr (3, [.ref w, .int (nI tt.length)])), (w, .inl (cC, 64, .inl (f)))]) (wr := []) [0, 1] [] rfl rfl rfl (by decide) (by decide) (by decide) hP hD hS hA (fun hPc hDc hF => va_runV (As := [.int (nI (48 + z.natAbs / U % 10))]) (rest := []) ⟨hx, hb, hml, hown, hts⟩ (c_Te_put l dC dI H.size h w cC f tt (48 + z.natAbs / U % 10) hf ht (by omega)) (cwV 1 hts (gw_V (gw_self cod_Te_put) ml_Te_27 im_Te_put sel_Te_put ini_Te) rfl rfl rfl (by decide +kernel) ⟨Nat.le_of_ble_eq_true rfl, Nat.le_of_ble_eq_true rfl⟩) (pw_preV pw_0_ok (trivial : pw_0 A s s.heap) hS hF hPc hDc (hK.sub [0] rfl) (va_recv hK hPc (ci := 3) (q0 := 0) rfl rfl)) rfl rfl hl.1 rfl (lv_room (Nat.le_of_ble_eq_true rfl)) d_Te_putWhole_45 ⟨Nat.le_of_ble_eq_true rfl, Nat.le_of_ble_eq_true rfl⟩) (fun f3 H locs hw3 hK1 hP hD hS => ?_)
          have hP : va_P (dC, dI) cls [(h, .inr (3, [.ref w, .int (nI (tt ++ [48 + z.natAbs / U % 10]).length)])), (w, .inl (cC, 64, .inl (f3)))] H := hP
          have hD : va_D A [(h, .inr (3, [.ref w, .int (nI (tt ++ [48 + z.natAbs / U % 10]).length)])), (w, .inl (cC, 64, .inl (f3)))] := hD
          refine lv_iload_n hx hb d_Te_putWhole_48 rfl (lv_at hl 0 rfl) ?_
          refine lv_bipush (v := 10) hx hb d_Te_putWhole_49 (by decide) ?_
          refine lv_idiv hx hb d_Te_putWhole_51 (by decide) ?_
          refine lv_topi (fun x_17 e_18 => ?_)
          obtain rfl : x_17 = nI U2 := e_18.trans ((pk_div (d := 10) (by omega) (by omega) (by omega)).trans (by rw [hU2]))
          refine lv_istore_n (lv' := [(3, .int (nI U2)), (2, .int (nI z.natAbs)), (0, .ref h), (1, .int (iZ z))]) hx hb d_Te_putWhole_52 rfl hl (by decide) rfl (fun ls hl => ?_)
          refine lv_goto (tgt := 19) hx hb d_Te_putWhole_53 (by decide) ?_
          exact kk f3 H _ ls hw3 hP hD hS (lv_sub hl [0, 1, 2, 3] rfl)
  have k10 : ∀ (f : Nat → Int32) (t1 : List Nat) (H : Heap) (locs : List Loc) (ls : Array Slot), tx f t1 → t1.length + 4 ≤ 64 → t1 ++ dw z.natAbs = t ++ dwz z → va_P (dC, dI) cls [(h, .inr (3, [.ref w, .int (nI t1.length)])), (w, .inl (cC, 64, .inl (f)))] H → va_D A [(h, .inr (3, [.ref w, .int (nI t1.length)])), (w, .inl (cC, 64, .inl (f)))] → va_S A s.heap H locs → lv_has ls 4 [(0, .ref h), (1, .int (iZ z))] → W p l e { frames := 1, cells := 0, slots := 0, locals := 21 } s m args below meth c H locs 0 0 Q (F0 m 10 ls []) := by
    intro f t1 H locs ls hf ht1 he hP hD hS hl
    refine lv_iload_n hx hb d_Te_putWhole_10 rfl (lv_at hl 1 rfl) ?_
    refine va_mabs hx hb (hml.trans hl.1.symm) hown (hts _ ml_Te_31) (hts _ sta_Ma_abs) (hts _ ini_Ma) (hts _ cod_Ma_abs) (Nat.le_of_ble_eq_true rfl) (Nat.le_of_ble_eq_true rfl) (Nat.zero_le _) (Nat.zero_le _) d_Te_putWhole_11 ?_
    refine lv_topi (fun x_19 e_20 => ?_)
    obtain rfl : x_19 = nI z.natAbs := e_20.trans (iZ_abs (by omega) (by omega))
    refine lv_istore_n (lv' := [(2, .int (nI z.natAbs)), (0, .ref h), (1, .int (iZ z))]) hx hb d_Te_putWhole_14 rfl hl (by decide) rfl (fun ls hl => ?_)
    refine lv_sipush (v := 1000) hx hb d_Te_putWhole_15 (by decide) ?_
    refine lv_istore_n (lv' := [(3, .int 1000), (2, .int (nI z.natAbs)), (0, .ref h), (1, .int (iZ z))]) hx hb d_Te_putWhole_18 rfl hl (by decide) rfl (fun ls hl => ?_)
    have g1 := dws_len z.natAbs 1000
    have g2 := dws_len z.natAbs 100
    have g3 := dws_len z.natAbs 10
    have g4 := dws_len z.natAbs 1
    refine un 1000 100 f t1 H _ ls (by omega) (by omega) rfl hf (by omega) ?_ hP hD hS (lv_sub hl [0, 1, 2, 3] rfl)
    intro f H locs ls hf hP hD hS hl
    refine un 100 10 f _ H _ ls (by omega) (by omega) rfl hf (by simp only [List.length_append]; omega) ?_ hP hD hS hl
    intro f H locs ls hf hP hD hS hl
    refine un 10 1 f _ H _ ls (by omega) (by omega) rfl hf (by simp only [List.length_append]; omega) ?_ hP hD hS hl
    intro f H locs ls hf hP hD hS hl
    refine un 1 0 f _ H _ ls (by omega) (by omega) rfl hf (by simp only [List.length_append]; omega) ?_ hP hD hS hl
    intro f H locs ls hf hP hD hS hl
    have he2 : t1 ++ dws z.natAbs 1000 ++ dws z.natAbs 100 ++ dws z.natAbs 10 ++ dws z.natAbs 1 = t ++ dwz z := by rw [← he]; simp [dw, List.append_assoc]
    rw [he2] at hf hP hD
    refine lv_iload_n hx hb d_Te_putWhole_19 rfl (lv_at hl 0 rfl) ?_
    refine lv_iconst (v := 1) hx hb d_Te_putWhole_20 (by decide) ?_
    refine lv_icmp_lt (tgt := 56) hx hb d_Te_putWhole_21 (by decide) (fun hq => ?_) (fun hq => ?_)
    · exact hret _ _ _ _ f d_Te_putWhole_56 hf hP hK hD hS
    · exact absurd ((nI_ltI (a := 0) (b := 1) (by omega) (by omega)).mpr (by omega)) hq
  refine lv_iload_n hx hb d_Te_putWhole_0 rfl (lv_at hl 1 rfl) ?_
  refine lv_if_ge (tgt := 10) hx hb d_Te_putWhole_1 (by decide) (fun hq => ?_) (fun hq => ?_)
  · have hz : ¬ z < 0 := by have := (iZ_le (a := 0) (b := z) (by omega) (by omega) (by omega) (by omega)).mp hq; omega
    exact k10 f t H [] ls hf (by omega) (by rw [dwz, if_neg hz, List.nil_append]) hP hD hS (lv_sub hl [0, 1] rfl)
  · have hz : z < 0 := by have := mt (iZ_le (a := 0) (b := z) (by omega) (by omega) (by omega) (by omega)).mpr hq; omega
    refine lv_aload_n hx hb d_Te_putWhole_4 rfl (lv_at hl 0 rfl) ?_
    refine lv_bipush (v := 45) hx hb d_Te_putWhole_5 (by decide) ?_
    refine pw_callv (wc := [(h, .inr (3, [.ref w, .int (nI t.length)])), (w, .inl (cC, 64, .inl (f)))]) (wr := []) [0, 1] [] rfl rfl rfl (by decide) (by decide) (by decide) hP hD hS hA (fun hPc hDc hF => va_runV (As := [.int 45]) (rest := []) ⟨hx, hb, hml, hown, hts⟩ (c_Te_put l dC dI H.size h w cC f t 45 hf (by omega) (by omega)) (cwV 1 hts (gw_V (gw_self cod_Te_put) ml_Te_27 im_Te_put sel_Te_put ini_Te) rfl rfl rfl (by decide +kernel) ⟨Nat.le_of_ble_eq_true rfl, Nat.le_of_ble_eq_true rfl⟩) (pw_preV pw_0_ok (trivial : pw_0 A s s.heap) hS hF hPc hDc (hK.sub [0] rfl) (va_recv hK hPc (ci := 3) (q0 := 0) rfl rfl)) rfl rfl hl.1 rfl (lv_room (Nat.le_of_ble_eq_true rfl)) d_Te_putWhole_7 ⟨Nat.le_of_ble_eq_true rfl, Nat.le_of_ble_eq_true rfl⟩) (fun f3 H locs hw3 hK1 hP hD hS => ?_)
    have hP : va_P (dC, dI) cls [(h, .inr (3, [.ref w, .int (nI (t ++ [45]).length)])), (w, .inl (cC, 64, .inl (f3)))] H := hP
    have hD : va_D A [(h, .inr (3, [.ref w, .int (nI (t ++ [45]).length)])), (w, .inl (cC, 64, .inl (f3)))] := hD
    exact k10 f3 (t ++ [45]) H locs ls hw3 (by rw [List.length_append, List.length_singleton]; omega) (by rw [dwz, if_pos hz, List.append_assoc]) hP hD hS (lv_sub hl [0, 1] rfl)
set_option maxHeartbeats 4000000 in
set_option maxRecDepth 100000 in
/-- putHexPlaces -/
theorem c_Te_putHexPlaces (l : Launch) (dC : Nat → ClassId) (dI : Nat → Nat → Nat) (sz : Nat) (h w : Nat) (cC : ClassId) (f : Nat → Int32) (t : List Nat) (fr q : Nat) (hf : tx f t) (ht : t.length + q ≤ 64) (hq0 : 0 < q) (hq1 : q ≤ 13) (hfr : fr < 2 ^ 63) : Met l y_Te_putHexPlaces (Cond.code y_Te_putHexPlaces b_Te_putHexPlaces 6 none :: gT) ({ frames := 1, cells := 0, slots := 0, locals := 25 }) (va_Pc [.ref h, .long (lN fr), .int (nI q)] (pw_P (dC, dI) cls [(cC, .char)] pw_0 [(h, .inr (3, [.ref w, .int (nI t.length)])), (w, .inl (cC, 64, .inl (f)))] sz)) (va_Qv (fun (f2 : Nat → Int32) => tx f2 (t ++ hxl fr q q)) (fun (f2 : Nat → Int32) => pw_B (dC, dI) cls [(cC, .char)] (va_A [(h, .inr (3, [.ref w, .int (nI t.length)])), (w, .inl (cC, 64, .inl (f)))] sz) [(h, .inr (3, [.ref w, .int (nI (t ++ hxl fr q q).length)])), (w, .inl (cC, 64, .inl (f2)))]) (va_A [(h, .inr (3, [.ref w, .int (nI t.length)])), (w, .inl (cC, 64, .inl (f)))] sz)) 0 0 (va_A [(h, .inr (3, [.ref w, .int (nI t.length)])), (w, .inl (cC, 64, .inl (f)))] sz) := by
  refine pw_metv (tn := fun (f2 : Nat → Int32) => [(cC, .char)]) (wn := fun (f2 : Nat → Int32) => [(h, .inr (3, [.ref w, .int (nI (t ++ hxl fr q q).length)])), (w, .inl (cC, 64, .inl (f2)))]) (by decide) (Nat.le_of_ble_eq_true rfl) ?_
  intro p e s m args below meth c A Q H ls hx hb hml hown hts hnm hA hE hP hK hD hS hret hl
  have hown : s.vm.findClass R_Te = some m.cls := hown
  have hl : lv_has ls 6 [(0, .ref h), (1, .long (lN fr)), (3, .int (nI q))] := hl
  have lp2 : ∀ (n k a : Nat) (f : Nat → Int32) (tt : List Nat) (H : Heap) (locs : List Loc) (ls : Array Slot), (k < n) → (a ≤ k) → (k ≤ q) → (a < q) → (fr % 16 ^ a = 0) → (a + 1 < q → fr % 16 ^ (a + 1) ≠ 0) → (tx f tt) → (tt ++ hxl fr q k = t ++ hxl fr q q) → (tt.length + k ≤ 64) → va_P (dC, dI) cls [(h, .inr (3, [.ref w, .int (nI tt.length)])), (w, .inl (cC, 64, .inl (f)))] H → va_D A [(h, .inr (3, [.ref w, .int (nI tt.length)])), (w, .inl (cC, 64, .inl (f)))] → va_S A s.heap H locs → lv_has ls 6 [(5, .int (iZ ((k : Int) - 1))), (4, .int (nI a)), (0, .ref h), (1, .long (lN fr)), (3, .int (nI q))] → W p l e { frames := 1, cells := 0, slots := 0, locals := 25 } s m args below meth c H locs 0 0 Q (F0 m 37 ls []) := by
    intro n
    induction n with
    | zero => intro k a f tt H locs ls hn hak hkq haq ha0 ha1 hf he htt hP hD hS hl; exact absurd hn (by omega)
    | succ n ih =>
      intro k a f tt H locs ls hn hak hkq haq ha0 ha1 hf he htt hP hD hS hl
      refine lv_iload hx hb d_Te_putHexPlaces_37 (lv_at hl 0 rfl) ?_
      refine lv_iload hx hb d_Te_putHexPlaces_39 (lv_at hl 1 rfl) ?_
      refine lv_icmp_lt (tgt := 67) hx hb d_Te_putHexPlaces_41 (by decide) (fun hc => ?_) (fun hc => ?_)
      · have hka : k = a := by rw [iZ_N] at hc; have := (iZ_lt (by omega) (by omega) (by omega) (by omega)).mp hc; omega
        rw [hka, hxl_end a haq ha0, List.append_nil] at he
        rw [he] at hf hP hD
        exact hret _ _ _ _ f d_Te_putHexPlaces_67 hf hP hK hD hS
      · have hka : a < k := by rw [iZ_N] at hc; have := mt (iZ_lt (a := (k : Int) - 1) (b := (a : Int)) (by omega) (by omega) (by omega) (by omega)).mpr hc; omega
        obtain ⟨j, rfl⟩ : ∃ j, k = j + 1 := ⟨k - 1, by omega⟩
        rw [iZ_succ'] at hl
        rw [hxl_go (fun g g2 => ha1 (by omega) (hx_dvd (by omega) g2))] at he
        refine lv_aload_n hx hb d_Te_putHexPlaces_44 rfl (lv_at hl 2 rfl) ?_
        refine lv_lload_n hx hb d_Te_putHexPlaces_45 rfl (lv_at hl 3 rfl) ?_
        refine lv_iconst (v := 4) hx hb d_Te_putHexPlaces_46 (by decide) ?_
        refine lv_iload hx hb d_Te_putHexPlaces_47 (lv_at hl 0 rfl) ?_
        refine lv_imul hx hb d_Te_putHexPlaces_49 ?_
        refine lv_lushr (v := lN (fr / 16 ^ j)) hx hb d_Te_putHexPlaces_50 (hx_sh (by omega) (by omega)) ?_
        refine lv_l2i (v := nI (fr / 16 ^ j)) hx hb d_Te_putHexPlaces_51 (lN_i _) ?_
        refine lv_bipush (v := 15) hx hb d_Te_putHexPlaces_52 (by decide) ?_
        refine lv_iand hx hb d_Te_putHexPlaces_54 ?_
        refine lv_topi (fun x_1 e_2 => ?_)
        obtain rfl : x_1 = nI (fr / 16 ^ j % 16) := e_2.trans (hx_lo _)
        have hd16 : fr / 16 ^ j % 16 < 16 := Nat.mod_lt _ (by decide)
        refine pw_calli (wc := []) (wr := [(h, .inr (3, [.ref w, .int (nI tt.length)])), (w, .inl (cC, 64, .inl (f)))]) [] [0, 1] rfl rfl rfl (by decide) (by decide) (by decide) hP hD hS hA (fun hPc hDc hF => va_runS (As := [.int (nI (fr / 16 ^ j % 16))]) (rest := [.ref h]) ⟨hx, hb, hml, hown, hts⟩ (c_Te_hexDigit l dC dI H.size (fr / 16 ^ j % 16) hd16) (va_cwS 1 hts (gw_S (gw_self cod_Te_hexDigit) ml_Te_39 sta_Te_hexDigit ini_Te) rfl rfl rfl (by decide +kernel) ⟨Nat.le_of_ble_eq_true rfl, Nat.le_of_ble_eq_true rfl⟩) (pw_preS pw_0_ok (trivial : pw_0 A s s.heap) hS hF hPc hDc (hK.sub [] rfl)) rfl rfl hl.1 rfl (lv_room (Nat.le_of_ble_eq_true rfl)) d_Te_putHexPlaces_55 ⟨Nat.le_of_ble_eq_true rfl, Nat.le_of_ble_eq_true rfl⟩) (fun r5 u5 H locs hw5 hK1 hP hD hS => ?_)
        have hP : va_P (dC, dI) cls [(h, .inr (3, [.ref w, .int (nI tt.length)])), (w, .inl (cC, 64, .inl (f)))] H := hP
        have hD : va_D A [(h, .inr (3, [.ref w, .int (nI tt.length)])), (w, .inl (cC, 64, .inl (f)))] := hD
        subst hw5
        refine pw_callv (wc := [(h, .inr (3, [.ref w, .int (nI tt.length)])), (w, .inl (cC, 64, .inl (f)))]) (wr := []) [0, 1] [] rfl rfl rfl (by decide) (by decide) (by decide) hP hD hS hA (fun hPc hDc hF => va_runV (As := [.int (nI (hxc (fr / 16 ^ j % 16)))]) (rest := []) ⟨hx, hb, hml, hown, hts⟩ (c_Te_put l dC dI H.size h w cC f tt (hxc (fr / 16 ^ j % 16)) hf (by omega) (by have := hxc_lt hd16; omega)) (cwV 1 hts (gw_V (gw_self cod_Te_put) ml_Te_27 im_Te_put sel_Te_put ini_Te) rfl rfl rfl (by decide +kernel) ⟨Nat.le_of_ble_eq_true rfl, Nat.le_of_ble_eq_true rfl⟩) (pw_preV pw_0_ok (trivial : pw_0 A s s.heap) hS hF hPc hDc (hK.sub [0] rfl) (va_recv hK hPc (ci := 3) (q0 := 0) rfl rfl)) rfl rfl hl.1 rfl (lv_room (Nat.le_of_ble_eq_true rfl)) d_Te_putHexPlaces_58 ⟨Nat.le_of_ble_eq_true rfl, Nat.le_of_ble_eq_true rfl⟩) (fun f3 H locs hw3 hK1 hP hD hS => ?_)
        have hP : va_P (dC, dI) cls [(h, .inr (3, [.ref w, .int (nI (tt ++ [hxc (fr / 16 ^ j % 16)]).length)])), (w, .inl (cC, 64, .inl (f3)))] H := hP
        have hD : va_D A [(h, .inr (3, [.ref w, .int (nI (tt ++ [hxc (fr / 16 ^ j % 16)]).length)])), (w, .inl (cC, 64, .inl (f3)))] := hD
        refine lv_iinc (v := iZ ((j : Int) - 1)) (lv' := [(5, .int (iZ ((j : Int) - 1))), (4, .int (nI a)), (0, .ref h), (1, .long (lN fr)), (3, .int (nI q))]) hx hb d_Te_putHexPlaces_61 hl (k := 0) rfl (by rw [iZ_N]; exact iZ_add _ (-1)) (by decide) rfl (fun ls hl => ?_)
        refine lv_goto (tgt := 37) hx hb d_Te_putHexPlaces_64 (by decide) ?_
        exact ih j a f3 (tt ++ [hxc (fr / 16 ^ j % 16)]) H locs ls (by omega) (by omega) (by omega) haq ha0 ha1 hw3 (by rw [← he]; simp) (by rw [List.length_append, List.length_singleton]; omega) hP hD hS (lv_sub hl [0, 1, 2, 3, 4] rfl)
  have k32 : ∀ (a : Nat) (H : Heap) (locs : List Loc) (ls : Array Slot), a < q → fr % 16 ^ a = 0 → (a + 1 < q → fr % 16 ^ (a + 1) ≠ 0) → va_P (dC, dI) cls [(h, .inr (3, [.ref w, .int (nI t.length)])), (w, .inl (cC, 64, .inl (f)))] H → va_D A [(h, .inr (3, [.ref w, .int (nI t.length)])), (w, .inl (cC, 64, .inl (f)))] → va_S A s.heap H locs → lv_has ls 6 [(4, .int (nI a)), (0, .ref h), (1, .long (lN fr)), (3, .int (nI q))] → W p l e { frames := 1, cells := 0, slots := 0, locals := 25 } s m args below meth c H locs 0 0 Q (F0 m 32 ls []) := by
    intro a H locs ls haq ha0 ha1 hP hD hS hl
    refine lv_iload_n hx hb d_Te_putHexPlaces_32 rfl (lv_at hl 3 rfl) ?_
    refine lv_iconst (v := 1) hx hb d_Te_putHexPlaces_33 (by decide) ?_
    refine lv_isub hx hb d_Te_putHexPlaces_34 ?_
    refine lv_topi (fun x_3 e_4 => ?_)
    obtain rfl : x_3 = iZ ((q : Int) - 1) := e_4.trans (iZ_pred _)
    refine lv_istore (lv' := [(5, .int (iZ ((q : Int) - 1))), (4, .int (nI a)), (0, .ref h), (1, .long (lN fr)), (3, .int (nI q))]) hx hb d_Te_putHexPlaces_35 hl (by decide) rfl (fun ls hl => ?_)
    exact lp2 (q + 1) q a f t H locs ls (by omega) (by omega) (by omega) haq ha0 ha1 hf rfl (by omega) hP hD hS (lv_sub hl [0, 1, 2, 3, 4] rfl)
  refine lv_iconst (v := 0) hx hb d_Te_putHexPlaces_0 (by decide) ?_
  refine lv_istore (lv' := [(4, .int 0), (0, .ref h), (1, .long (lN fr)), (3, .int (nI q))]) hx hb d_Te_putHexPlaces_1 hl (by decide) rfl (fun ls hl => ?_)
  have lp : ∀ (n a : Nat) (H : Heap) (locs : List Loc) (ls : Array Slot), (q ≤ a + n) → (a < q) → (fr % 16 ^ a = 0) → va_P (dC, dI) cls [(h, .inr (3, [.ref w, .int (nI t.length)])), (w, .inl (cC, 64, .inl (f)))] H → va_D A [(h, .inr (3, [.ref w, .int (nI t.length)])), (w, .inl (cC, 64, .inl (f)))] → va_S A s.heap H locs → lv_has ls 6 [(4, .int (nI a)), (0, .ref h), (1, .long (lN fr)), (3, .int (nI q))] → W p l e { frames := 1, cells := 0, slots := 0, locals := 25 } s m args below meth c H locs 0 0 Q (F0 m 3 ls []) := by
    intro n
    induction n with
    | zero => intro a H locs ls hn haq ha0 hP hD hS hl; exact absurd hn (by omega)
    | succ n ih =>
      intro a H locs ls hn haq ha0 hP hD hS hl
      refine lv_iload hx hb d_Te_putHexPlaces_3 (lv_at hl 0 rfl) ?_
      refine lv_iload_n hx hb d_Te_putHexPlaces_5 rfl (lv_at hl 3 rfl) ?_
      refine lv_iconst (v := 1) hx hb d_Te_putHexPlaces_6 (by decide) ?_
      refine lv_isub hx hb d_Te_putHexPlaces_7 ?_
      refine lv_topi (fun x_5 e_6 => ?_)
      obtain rfl : x_5 = nI (q - 1) := e_6.trans (pk_sub (a := q) (b := 1) (by omega))
      refine lv_icmp_ge (tgt := 32) hx hb d_Te_putHexPlaces_8 (by decide) (fun hc => ?_) (fun hc => ?_)
      · have hge : q - 1 ≤ a := (nI_leI (by omega) (by omega)).mp hc
        exact k32 a H locs ls haq ha0 (fun g => absurd g (by omega)) hP hD hS (lv_sub hl [0, 1, 2, 3] rfl)
      · have hlt : a < q - 1 := by have := mt (nI_leI (a := q - 1) (b := a) (by omega) (by omega)).mpr hc; omega
        refine lv_lload_n hx hb d_Te_putHexPlaces_11 rfl (lv_at hl 2 rfl) ?_
        refine lv_iconst (v := 4) hx hb d_Te_putHexPlaces_12 (by decide) ?_
        refine lv_iload hx hb d_Te_putHexPlaces_13 (lv_at hl 0 rfl) ?_
        refine lv_imul hx hb d_Te_putHexPlaces_15 ?_
        refine lv_lushr (v := lN (fr / 16 ^ a)) hx hb d_Te_putHexPlaces_16 (hx_sh (by omega) (by omega)) ?_
        refine lv_ldc2 (v := 15) hx hb hown (hts _ kl_Te_37) d_Te_putHexPlaces_17 ?_
        refine lv_land hx hb d_Te_putHexPlaces_20 ?_
        refine lv_topl (fun x_7 e_8 => ?_)
        obtain rfl : x_7 = lN (fr / 16 ^ a % 16) := e_8.trans (wb_mask (k := 4) (Nat.lt_of_le_of_lt (Nat.div_le_self _ _) (by omega)) (by omega))
        refine lv_lconst (v := 0) hx hb d_Te_putHexPlaces_21 (by decide) ?_
        have hm := hx_mod fr a
        have hd16 : fr / 16 ^ a % 16 < 16 := Nat.mod_lt _ (by decide)
        have hpw : 0 < 16 ^ a := Nat.pow_pos (by decide)
        refine lx_ne (tgt := 32) hx hb d_Te_putHexPlaces_22 d_Te_putHexPlaces_23 (by decide) (fun hz => ?_) (fun hz => ?_)
        · have hz0 : fr / 16 ^ a % 16 ≠ 0 := fun g => hz (by rw [g]; rfl)
          have hm2 : 0 < 16 ^ a * (fr / 16 ^ a % 16) := Nat.mul_pos hpw (by omega)
          exact k32 a H locs ls haq ha0 (fun _ g => by omega) hP hD hS (lv_sub hl [0, 1, 2, 3] rfl)
        · have hz0 : fr / 16 ^ a % 16 = 0 := (pk_lEQ (b := 0) (by omega) (by omega)).mp hz
          rw [hz0, Nat.mul_zero] at hm
          refine lv_iinc (v := nI (a + 1)) (lv' := [(4, .int (nI (a + 1))), (0, .ref h), (1, .long (lN fr)), (3, .int (nI q))]) hx hb d_Te_putHexPlaces_26 hl (k := 0) rfl (nI_1 _) (by decide) rfl (fun ls hl => ?_)
          refine lv_goto (tgt := 3) hx hb d_Te_putHexPlaces_29 (by decide) ?_
          exact ih (a + 1) H locs ls (by omega) (by omega) (by omega) hP hD hS (lv_sub hl [0, 1, 2, 3] rfl)
  exact lp (q + 1) 0 H [] ls (by omega) (by omega) (by simp [Nat.mod_one]) hP hD hS (lv_sub hl [0, 1, 2, 3] rfl)

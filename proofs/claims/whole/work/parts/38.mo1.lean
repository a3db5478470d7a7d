set_option maxHeartbeats 4000000 in
set_option maxRecDepth 100000 in
theorem c_Mo_exponent (l : Launch) (dC : Nat → ClassId) (dI : Nat → Nat → Nat) (sz : Nat) (hm tx9 un ro nu be ab tr bs fa bf : Nat) (th lo9 hi8 pr le bh ev : Int32) (i b : Nat)  (hi : i < 2) (hbb : b < 2 ^ 64)  : Met l y_Mo_exponent (Cond.code y_Mo_exponent b_Mo_exponent 1 (some .int) :: gT) ({ frames := 0, cells := 0, slots := 0, locals := 0 }) (va_Pc [.ref hm] (pw_P (dC, dI) cls [] pw_0 [(hm, .inr (5, [.int th, .int lo9, .int hi8, .int pr, .int (nI (iw i)), .long (lN b), .int le, .ref tx9, .ref un, .ref ro, .ref nu, .ref be, .ref ab, .ref tr, .ref bs, .ref fa, .ref bf, .int bh, .int ev]))] sz)) (va_Qi (fun (r : Int32) (uu : Unit) => r = nI (b / 2 ^ FB i % 2 ^ EB i)) (fun (uu : Unit) => pw_B (dC, dI) cls [] (va_A [(hm, .inr (5, [.int th, .int lo9, .int hi8, .int pr, .int (nI (iw i)), .long (lN b), .int le, .ref tx9, .ref un, .ref ro, .ref nu, .ref be, .ref ab, .ref tr, .ref bs, .ref fa, .ref bf, .int bh, .int ev]))] sz) [(hm, .inr (5, [.int th, .int lo9, .int hi8, .int pr, .int (nI (iw i)), .long (lN b), .int le, .ref tx9, .ref un, .ref ro, .ref nu, .ref be, .ref ab, .ref tr, .ref bs, .ref fa, .ref bf, .int bh, .int ev]))]) (va_A [(hm, .inr (5, [.int th, .int lo9, .int hi8, .int pr, .int (nI (iw i)), .long (lN b), .int le, .ref tx9, .ref un, .ref ro, .ref nu, .ref be, .ref ab, .ref tr, .ref bs, .ref fa, .ref bf, .int bh, .int ev]))] sz)) 0 0 (va_A [(hm, .inr (5, [.int th, .int lo9, .int hi8, .int pr, .int (nI (iw i)), .long (lN b), .int le, .ref tx9, .ref un, .ref ro, .ref nu, .ref be, .ref ab, .ref tr, .ref bs, .ref fa, .ref bf, .int bh, .int ev]))] sz) := by
  refine pw_meti (tn := fun (uu : Unit) => []) (wn := fun (uu : Unit) => [(hm, .inr (5, [.int th, .int lo9, .int hi8, .int pr, .int (nI (iw i)), .long (lN b), .int le, .ref tx9, .ref un, .ref ro, .ref nu, .ref be, .ref ab, .ref tr, .ref bs, .ref fa, .ref bf, .int bh, .int ev]))]) (by decide) (Nat.le_of_ble_eq_true rfl) ?_
  intro p e s m args below meth c A Q H ls hx hb hml hown hts hA hE hP hK hD hS hret hl
  have hown : s.vm.findClass R_Mo = some m.cls := hown
  have hl : lv_has ls 1 [(0, .ref hm)] := hl
  refine lv_aload_n hx hb d_Mo_exponent_0 rfl (lv_at hl 0 rfl) ?_
  refine va_get (D := (dC, dI)) (ci := 5) (v := .int (nI (iw i))) (C := R_Mo) (T := F_Mo) (N := 19) hx hb hts i_Mo hown hK hP 0 rfl rfl 4 (by decide) (hts _ fl_Mo_51) (fun _ h9 => h9) rfl d_Mo_exponent_1 ?_
  refine lv_if_eq (tgt := 22) hx hb d_Mo_exponent_4 (by decide) (fun hw9 => ?_) (fun hw9 => ?_)
  · have hi1 : i = 1 := by have := (nI_b0 (iw_le i)).mp hw9; unfold iw at this; split at this <;> omega
    have hF9 : FB i = 23 := by rw [hi1]; rfl
    have hE9 : EB i = 8 := by rw [hi1]; rfl
    refine lv_aload_n hx hb d_Mo_exponent_22 rfl (lv_at hl 0 rfl) ?_
    refine va_get (D := (dC, dI)) (ci := 5) (v := .long (lN b)) (C := R_Mo) (T := F_Mo) (N := 19) hx hb hts i_Mo hown hK hP 0 rfl rfl 5 (by decide) (hts _ fl_Mo_55) (fun _ h9 => h9) rfl d_Mo_exponent_23 ?_
    refine lv_bipush (v := 23) hx hb d_Mo_exponent_26 (by decide) ?_
    refine lv_lshr (v := (lN b) >>> ((23 : Int32).toInt64 &&& 63)) hx hb d_Mo_exponent_28 (rfl) ?_
    refine lv_l2i (v := ((lN b) >>> ((23 : Int32).toInt64 &&& 63)).toInt32) hx hb d_Mo_exponent_29 (rfl) ?_
    refine lv_sipush (v := 255) hx hb d_Mo_exponent_30 (by decide) ?_
    refine lv_iand hx hb d_Mo_exponent_33 ?_
    refine lv_topi (fun x_1 e_2 => ?_)
    obtain rfl : x_1 = nI (b / 2 ^ FB i % 2 ^ EB i) := e_2.trans ((lN_sarl (n := b) (s := 23) 8 hbb (by decide) (by decide)).trans (by rw [hF9, hE9]))
    exact hret _ _ _ _ _ () d_Mo_exponent_34 (vp_nar_int _) rfl hP hK hD hS
  · have hi1 : i = 0 := by have := mt (nI_b0 (iw_le i)).mpr hw9; unfold iw at this; split at this <;> omega
    have hF9 : FB i = 52 := by rw [hi1]; rfl
    have hE9 : EB i = 11 := by rw [hi1]; rfl
    refine lv_aload_n hx hb d_Mo_exponent_7 rfl (lv_at hl 0 rfl) ?_
    refine va_get (D := (dC, dI)) (ci := 5) (v := .long (lN b)) (C := R_Mo) (T := F_Mo) (N := 19) hx hb hts i_Mo hown hK hP 0 rfl rfl 5 (by decide) (hts _ fl_Mo_55) (fun _ h9 => h9) rfl d_Mo_exponent_8 ?_
    refine lv_bipush (v := 52) hx hb d_Mo_exponent_11 (by decide) ?_
    refine lv_lshr (v := (lN b) >>> ((52 : Int32).toInt64 &&& 63)) hx hb d_Mo_exponent_13 (rfl) ?_
    refine lv_l2i (v := ((lN b) >>> ((52 : Int32).toInt64 &&& 63)).toInt32) hx hb d_Mo_exponent_14 (rfl) ?_
    refine lv_sipush (v := 2047) hx hb d_Mo_exponent_15 (by decide) ?_
    refine lv_iand hx hb d_Mo_exponent_18 ?_
    refine lv_topi (fun x_3 e_4 => ?_)
    obtain rfl : x_3 = nI (b / 2 ^ FB i % 2 ^ EB i) := e_4.trans ((lN_sarl (n := b) (s := 52) 11 hbb (by decide) (by decide)).trans (by rw [hF9, hE9]))
    refine lv_goto (tgt := 34) hx hb d_Mo_exponent_19 (by decide) ?_
    exact hret _ _ _ _ _ () d_Mo_exponent_34 (vp_nar_int _) rfl hP hK hD hS
set_option maxHeartbeats 4000000 in
set_option maxRecDepth 100000 in
theorem c_Mo_fraction (l : Launch) (dC : Nat → ClassId) (dI : Nat → Nat → Nat) (sz : Nat) (hm tx9 un ro nu be ab tr bs fa bf : Nat) (th lo9 hi8 pr le bh ev : Int32) (i b : Nat)  (hi : i < 2) (hbb : b < 2 ^ 64)  : Met l y_Mo_fraction (Cond.code y_Mo_fraction b_Mo_fraction 1 (some .long) :: gT) ({ frames := 0, cells := 0, slots := 0, locals := 0 }) (va_Pc [.ref hm] (pw_P (dC, dI) cls [] pw_0 [(hm, .inr (5, [.int th, .int lo9, .int hi8, .int pr, .int (nI (iw i)), .long (lN b), .int le, .ref tx9, .ref un, .ref ro, .ref nu, .ref be, .ref ab, .ref tr, .ref bs, .ref fa, .ref bf, .int bh, .int ev]))] sz)) (va_Ql (fun (r : Int64) (uu : Unit) => r = lN (b % 2 ^ FB i)) (fun (uu : Unit) => pw_B (dC, dI) cls [] (va_A [(hm, .inr (5, [.int th, .int lo9, .int hi8, .int pr, .int (nI (iw i)), .long (lN b), .int le, .ref tx9, .ref un, .ref ro, .ref nu, .ref be, .ref ab, .ref tr, .ref bs, .ref fa, .ref bf, .int bh, .int ev]))] sz) [(hm, .inr (5, [.int th, .int lo9, .int hi8, .int pr, .int (nI (iw i)), .long (lN b), .int le, .ref tx9, .ref un, .ref ro, .ref nu, .ref be, .ref ab, .ref tr, .ref bs, .ref fa, .ref bf, .int bh, .int ev]))]) (va_A [(hm, .inr (5, [.int th, .int lo9, .int hi8, .int pr, .int (nI (iw i)), .long (lN b), .int le, .ref tx9, .ref un, .ref ro, .ref nu, .ref be, .ref ab, .ref tr, .ref bs, .ref fa, .ref bf, .int bh, .int ev]))] sz)) 0 0 (va_A [(hm, .inr (5, [.int th, .int lo9, .int hi8, .int pr, .int (nI (iw i)), .long (lN b), .int le, .ref tx9, .ref un, .ref ro, .ref nu, .ref be, .ref ab, .ref tr, .ref bs, .ref fa, .ref bf, .int bh, .int ev]))] sz) := by
  refine pw_metl (tn := fun (uu : Unit) => []) (wn := fun (uu : Unit) => [(hm, .inr (5, [.int th, .int lo9, .int hi8, .int pr, .int (nI (iw i)), .long (lN b), .int le, .ref tx9, .ref un, .ref ro, .ref nu, .ref be, .ref ab, .ref tr, .ref bs, .ref fa, .ref bf, .int bh, .int ev]))]) (by decide) (Nat.le_of_ble_eq_true rfl) ?_
  intro p e s m args below meth c A Q H ls hx hb hml hown hts hA hE hP hK hD hS hret hl
  have hown : s.vm.findClass R_Mo = some m.cls := hown
  have hl : lv_has ls 1 [(0, .ref hm)] := hl
  refine lv_aload_n hx hb d_Mo_fraction_0 rfl (lv_at hl 0 rfl) ?_
  refine va_get (D := (dC, dI)) (ci := 5) (v := .int (nI (iw i))) (C := R_Mo) (T := F_Mo) (N := 19) hx hb hts i_Mo hown hK hP 0 rfl rfl 4 (by decide) (hts _ fl_Mo_51) (fun _ h9 => h9) rfl d_Mo_fraction_1 ?_
  refine lv_if_eq (tgt := 18) hx hb d_Mo_fraction_4 (by decide) (fun hw9 => ?_) (fun hw9 => ?_)
  · have hi1 : i = 1 := by have := (nI_b0 (iw_le i)).mp hw9; unfold iw at this; split at this <;> omega
    have hF9 : FB i = 23 := by rw [hi1]; rfl
    have hE9 : EB i = 8 := by rw [hi1]; rfl
    refine lv_aload_n hx hb d_Mo_fraction_18 rfl (lv_at hl 0 rfl) ?_
    refine va_get (D := (dC, dI)) (ci := 5) (v := .long (lN b)) (C := R_Mo) (T := F_Mo) (N := 19) hx hb hts i_Mo hown hK hP 0 rfl rfl 5 (by decide) (hts _ fl_Mo_55) (fun _ h9 => h9) rfl d_Mo_fraction_19 ?_
    refine lv_ldc2 (v := 8388607) hx hb hown (hts _ kl_Mo_61) d_Mo_fraction_22 ?_
    refine lv_land hx hb d_Mo_fraction_25 ?_
    refine lv_topl (fun x_1 e_2 => ?_)
    obtain rfl : x_1 = lN (b % 2 ^ FB i) := e_2.trans ((wb_mask (n := b) (k := 23) hbb (by decide)).trans (by rw [hF9]))
    exact hret _ _ _ _ _ () d_Mo_fraction_26 rfl hP hK hD hS
  · have hi1 : i = 0 := by have := mt (nI_b0 (iw_le i)).mpr hw9; unfold iw at this; split at this <;> omega
    have hF9 : FB i = 52 := by rw [hi1]; rfl
    have hE9 : EB i = 11 := by rw [hi1]; rfl
    refine lv_aload_n hx hb d_Mo_fraction_7 rfl (lv_at hl 0 rfl) ?_
    refine va_get (D := (dC, dI)) (ci := 5) (v := .long (lN b)) (C := R_Mo) (T := F_Mo) (N := 19) hx hb hts i_Mo hown hK hP 0 rfl rfl 5 (by decide) (hts _ fl_Mo_55) (fun _ h9 => h9) rfl d_Mo_fraction_8 ?_
    refine lv_ldc2 (v := 4503599627370495) hx hb hown (hts _ kl_Mo_59) d_Mo_fraction_11 ?_
    refine lv_land hx hb d_Mo_fraction_14 ?_
    refine lv_topl (fun x_3 e_4 => ?_)
    obtain rfl : x_3 = lN (b % 2 ^ FB i) := e_4.trans ((wb_mask (n := b) (k := 52) hbb (by decide)).trans (by rw [hF9]))
    refine lv_goto (tgt := 26) hx hb d_Mo_fraction_15 (by decide) ?_
    exact hret _ _ _ _ _ () d_Mo_fraction_26 rfl hP hK hD hS
set_option maxHeartbeats 4000000 in
set_option maxRecDepth 100000 in
theorem c_Mo_isLast (l : Launch) (dC : Nat → ClassId) (dI : Nat → Nat → Nat) (sz : Nat) (hm tx9 un ro nu be ab tr bs fa bf : Nat) (th lo9 hi8 pr le bh ev : Int32) (i b : Nat)  (hi : i < 2) (hbb : b < 2 ^ 64)  : Met l y_Mo_isLast (Cond.code y_Mo_isLast b_Mo_isLast 1 (some .boolean) :: gT) ({ frames := 1, cells := 0, slots := 0, locals := 20 }) (va_Pc [.ref hm] (pw_P (dC, dI) cls [] pw_0 [(hm, .inr (5, [.int th, .int lo9, .int hi8, .int pr, .int (nI (iw i)), .long (lN b), .int le, .ref tx9, .ref un, .ref ro, .ref nu, .ref be, .ref ab, .ref tr, .ref bs, .ref fa, .ref bf, .int bh, .int ev]))] sz)) (va_Qi (fun (r : Int32) (uu : Unit) => r = nI (if (b / 2 ^ FB i % 2 ^ EB i) = 2 ^ EB i - 1 then 1 else 0)) (fun (uu : Unit) => pw_B (dC, dI) cls [] (va_A [(hm, .inr (5, [.int th, .int lo9, .int hi8, .int pr, .int (nI (iw i)), .long (lN b), .int le, .ref tx9, .ref un, .ref ro, .ref nu, .ref be, .ref ab, .ref tr, .ref bs, .ref fa, .ref bf, .int bh, .int ev]))] sz) [(hm, .inr (5, [.int th, .int lo9, .int hi8, .int pr, .int (nI (iw i)), .long (lN b), .int le, .ref tx9, .ref un, .ref ro, .ref nu, .ref be, .ref ab, .ref tr, .ref bs, .ref fa, .ref bf, .int bh, .int ev]))]) (va_A [(hm, .inr (5, [.int th, .int lo9, .int hi8, .int pr, .int (nI (iw i)), .long (lN b), .int le, .ref tx9, .ref un, .ref ro, .ref nu, .ref be, .ref ab, .ref tr, .ref bs, .ref fa, .ref bf, .int bh, .int ev]))] sz)) 0 0 (va_A [(hm, .inr (5, [.int th, .int lo9, .int hi8, .int pr, .int (nI (iw i)), .long (lN b), .int le, .ref tx9, .ref un, .ref ro, .ref nu, .ref be, .ref ab, .ref tr, .ref bs, .ref fa, .ref bf, .int bh, .int ev]))] sz) := by
  refine pw_meti (tn := fun (uu : Unit) => []) (wn := fun (uu : Unit) => [(hm, .inr (5, [.int th, .int lo9, .int hi8, .int pr, .int (nI (iw i)), .long (lN b), .int le, .ref tx9, .ref un, .ref ro, .ref nu, .ref be, .ref ab, .ref tr, .ref bs, .ref fa, .ref bf, .int bh, .int ev]))]) (by decide) (Nat.le_of_ble_eq_true rfl) ?_
  intro p e s m args below meth c A Q H ls hx hb hml hown hts hA hE hP hK hD hS hret hl
  have hown : s.vm.findClass R_Mo = some m.cls := hown
  have hl : lv_has ls 1 [(0, .ref hm)] := hl
  have hb9 := la_b i
  have he11 : 2 ^ EB i ≤ 2 ^ 11 := Nat.pow_le_pow_right (by decide) (by omega)
  have he9 : (b / 2 ^ FB i % 2 ^ EB i) < 2 ^ EB i := Nat.mod_lt _ (Nat.two_pow_pos _)
  refine lv_aload_n hx hb d_Mo_isLast_0 rfl (lv_at hl 0 rfl) ?_
  refine pw_calli (wc := [(hm, .inr (5, [.int th, .int lo9, .int hi8, .int pr, .int (nI (iw i)), .long (lN b), .int le, .ref tx9, .ref un, .ref ro, .ref nu, .ref be, .ref ab, .ref tr, .ref bs, .ref fa, .ref bf, .int bh, .int ev]))]) (wr := []) [0] [] rfl rfl rfl (by decide) (by decide) (by decide) hP hD hS hA (fun hPc hDc hF => va_runV (As := []) (rest := []) ⟨hx, hb, hml, hown, hts⟩ (c_Mo_exponent l dC dI H.size hm tx9 un ro nu be ab tr bs fa bf th lo9 hi8 pr le bh ev i b hi hbb) (cwV 0 hts (gw_V (gw_self cod_Mo_exponent) ml_Mo_63 im_Mo_exponent sel_Mo_exponent ini_Mo) rfl rfl rfl (by decide +kernel) ⟨Nat.le_of_ble_eq_true rfl, Nat.le_of_ble_eq_true rfl⟩) (pw_preV pw_0_ok (trivial : pw_0 A s s.heap) hS hF hPc hDc (hK.sub [] rfl) (va_recv hK hPc (ci := 5) (q0 := 0) rfl rfl)) rfl rfl hl.1 rfl (lv_room (Nat.le_of_ble_eq_true rfl)) d_Mo_isLast_1 ⟨Nat.le_of_ble_eq_true rfl, Nat.le_of_ble_eq_true rfl⟩) (fun r5 u5 H locs hw5 hK1 hP hD hS => ?_)
  have hP : va_P (dC, dI) cls [(hm, .inr (5, [.int th, .int lo9, .int hi8, .int pr, .int (nI (iw i)), .long (lN b), .int le, .ref tx9, .ref un, .ref ro, .ref nu, .ref be, .ref ab, .ref tr, .ref bs, .ref fa, .ref bf, .int bh, .int ev]))] H := hP
  have hD : va_D A [(hm, .inr (5, [.int th, .int lo9, .int hi8, .int pr, .int (nI (iw i)), .long (lN b), .int le, .ref tx9, .ref un, .ref ro, .ref nu, .ref be, .ref ab, .ref tr, .ref bs, .ref fa, .ref bf, .int bh, .int ev]))] := hD
  subst hw5
  refine lv_aload_n hx hb d_Mo_isLast_4 rfl (lv_at hl 0 rfl) ?_
  refine va_get (D := (dC, dI)) (ci := 5) (v := .int (nI (iw i))) (C := R_Mo) (T := F_Mo) (N := 19) hx hb hts i_Mo hown hK hP 0 rfl rfl 4 (by decide) (hts _ fl_Mo_51) (fun _ h9 => h9) rfl d_Mo_isLast_5 ?_
  refine lv_if_eq (tgt := 17) hx hb d_Mo_isLast_8 (by decide) (fun hw9 => ?_) (fun hw9 => ?_)
  · have hi1 : i = 1 := by have := (nI_b0 (iw_le i)).mp hw9; unfold iw at this; split at this <;> omega
    have hF9 : FB i = 23 := by rw [hi1]; rfl
    have hE9 : EB i = 8 := by rw [hi1]; rfl
    refine lv_sipush (v := 255) hx hb d_Mo_isLast_17 (by decide) ?_
    refine lv_topi (fun x_1 e_2 => ?_)
    obtain rfl : x_1 = nI (2 ^ EB i - 1) := e_2.trans (by rw [hE9]; rfl)
    refine lv_icmp_ne (tgt := 27) hx hb d_Mo_isLast_20 (by decide) (fun hq => ?_) (fun hq => ?_)
    · have hne : (b / 2 ^ FB i % 2 ^ EB i) ≠ 2 ^ EB i - 1 := fun q => hq (by rw [q])
      refine lv_iconst (v := 0) hx hb d_Mo_isLast_27 (by decide) ?_
      exact hret _ _ _ _ _ () d_Mo_isLast_28 rfl (by rw [if_neg hne]; rfl) hP hK hD hS
    · have he : (b / 2 ^ FB i % 2 ^ EB i) = 2 ^ EB i - 1 := (nI_eq (by omega) (by omega)).mp hq
      refine lv_iconst (v := 1) hx hb d_Mo_isLast_23 (by decide) ?_
      refine lv_goto (tgt := 28) hx hb d_Mo_isLast_24 (by decide) ?_
      exact hret _ _ _ _ _ () d_Mo_isLast_28 rfl (by rw [if_pos he]; rfl) hP hK hD hS
  · have hi1 : i = 0 := by have := mt (nI_b0 (iw_le i)).mpr hw9; unfold iw at this; split at this <;> omega
    have hF9 : FB i = 52 := by rw [hi1]; rfl
    have hE9 : EB i = 11 := by rw [hi1]; rfl
    refine lv_sipush (v := 2047) hx hb d_Mo_isLast_11 (by decide) ?_
    refine lv_topi (fun x_3 e_4 => ?_)
    obtain rfl : x_3 = nI (2 ^ EB i - 1) := e_4.trans (by rw [hE9]; rfl)
    refine lv_goto (tgt := 20) hx hb d_Mo_isLast_14 (by decide) ?_
    refine lv_icmp_ne (tgt := 27) hx hb d_Mo_isLast_20 (by decide) (fun hq => ?_) (fun hq => ?_)
    · have hne : (b / 2 ^ FB i % 2 ^ EB i) ≠ 2 ^ EB i - 1 := fun q => hq (by rw [q])
      refine lv_iconst (v := 0) hx hb d_Mo_isLast_27 (by decide) ?_
      exact hret _ _ _ _ _ () d_Mo_isLast_28 rfl (by rw [if_neg hne]; rfl) hP hK hD hS
    · have he : (b / 2 ^ FB i % 2 ^ EB i) = 2 ^ EB i - 1 := (nI_eq (by omega) (by omega)).mp hq
      refine lv_iconst (v := 1) hx hb d_Mo_isLast_23 (by decide) ?_
      refine lv_goto (tgt := 28) hx hb d_Mo_isLast_24 (by decide) ?_
      exact hret _ _ _ _ _ () d_Mo_isLast_28 rfl (by rw [if_pos he]; rfl) hP hK hD hS
set_option maxHeartbeats 4000000 in
set_option maxRecDepth 100000 in
theorem c_Mo_minus (l : Launch) (dC : Nat → ClassId) (dI : Nat → Nat → Nat) (sz : Nat) (hm tx9 un ro nu be ab tr bs fa bf : Nat) (th lo9 hi8 le bh ev : Int32) (i b : Nat) (p9 : Nat)  (hi : i < 2) (hbb : b < 2 ^ 64) (hp9 : p9 ≤ 1)  : Met l y_Mo_minus (Cond.code y_Mo_minus b_Mo_minus 1 (some .boolean) :: gT) ({ frames := 0, cells := 0, slots := 0, locals := 0 }) (va_Pc [.ref hm] (pw_P (dC, dI) cls [] pw_0 [(hm, .inr (5, [.int th, .int lo9, .int hi8, .int (nI p9), .int (nI (iw i)), .long (lN b), .int le, .ref tx9, .ref un, .ref ro, .ref nu, .ref be, .ref ab, .ref tr, .ref bs, .ref fa, .ref bf, .int bh, .int ev]))] sz)) (va_Qi (fun (r : Int32) (uu : Unit) => r = nI (if p9 = 1 then (b / 2 ^ (FB i + EB i) % 2) else 0)) (fun (uu : Unit) => pw_B (dC, dI) cls [] (va_A [(hm, .inr (5, [.int th, .int lo9, .int hi8, .int (nI p9), .int (nI (iw i)), .long (lN b), .int le, .ref tx9, .ref un, .ref ro, .ref nu, .ref be, .ref ab, .ref tr, .ref bs, .ref fa, .ref bf, .int bh, .int ev]))] sz) [(hm, .inr (5, [.int 0, .int lo9, .int hi8, .int (nI p9), .int (nI (iw i)), .long (lN b), .int le, .ref tx9, .ref un, .ref ro, .ref nu, .ref be, .ref ab, .ref tr, .ref bs, .ref fa, .ref bf, .int bh, .int ev]))]) (va_A [(hm, .inr (5, [.int th, .int lo9, .int hi8, .int (nI p9), .int (nI (iw i)), .long (lN b), .int le, .ref tx9, .ref un, .ref ro, .ref nu, .ref be, .ref ab, .ref tr, .ref bs, .ref fa, .ref bf, .int bh, .int ev]))] sz)) 0 0 (va_A [(hm, .inr (5, [.int th, .int lo9, .int hi8, .int (nI p9), .int (nI (iw i)), .long (lN b), .int le, .ref tx9, .ref un, .ref ro, .ref nu, .ref be, .ref ab, .ref tr, .ref bs, .ref fa, .ref bf, .int bh, .int ev]))] sz) := by
  refine pw_meti (tn := fun (uu : Unit) => []) (wn := fun (uu : Unit) => [(hm, .inr (5, [.int 0, .int lo9, .int hi8, .int (nI p9), .int (nI (iw i)), .long (lN b), .int le, .ref tx9, .ref un, .ref ro, .ref nu, .ref be, .ref ab, .ref tr, .ref bs, .ref fa, .ref bf, .int bh, .int ev]))]) (by decide) (Nat.le_of_ble_eq_true rfl) ?_
  intro p e s m args below meth c A Q H ls hx hb hml hown hts hA hE hP hK hD hS hret hl
  have hown : s.vm.findClass R_Mo = some m.cls := hown
  have hl : lv_has ls 1 [(0, .ref hm)] := hl
  refine lv_aload_n hx hb d_Mo_minus_0 rfl (lv_at hl 0 rfl) ?_
  refine lv_iconst (v := 0) hx hb d_Mo_minus_1 (by decide) ?_
  refine va_put (D := (dC, dI)) (ci := 5) (v := .int 0) (ty := .int) (C := R_Mo) (T := F_Mo) (N := 19) hx hb hts i_Mo t_Mo t_Mo_ok n_Mo hown hK hP hD hS 0 rfl rfl 0 (by decide) (hts _ fl_Mo_48) (fun _ h9 => h9) rfl (by decide +kernel) rfl rfl (Nat.le_of_ble_eq_true rfl) d_Mo_minus_2 (fun H locs hP hD hS => ?_)
  have hP : va_P (dC, dI) cls [(hm, .inr (5, [.int 0, .int lo9, .int hi8, .int (nI p9), .int (nI (iw i)), .long (lN b), .int le, .ref tx9, .ref un, .ref ro, .ref nu, .ref be, .ref ab, .ref tr, .ref bs, .ref fa, .ref bf, .int bh, .int ev]))] H := hP
  have hD : va_D A [(hm, .inr (5, [.int 0, .int lo9, .int hi8, .int (nI p9), .int (nI (iw i)), .long (lN b), .int le, .ref tx9, .ref un, .ref ro, .ref nu, .ref be, .ref ab, .ref tr, .ref bs, .ref fa, .ref bf, .int bh, .int ev]))] := hD
  refine lv_aload_n hx hb d_Mo_minus_5 rfl (lv_at hl 0 rfl) ?_
  refine va_get (D := (dC, dI)) (ci := 5) (v := .int (nI p9)) (C := R_Mo) (T := F_Mo) (N := 19) hx hb hts i_Mo hown hK hP 0 rfl rfl 3 (by decide) (hts _ fl_Mo_67) (fun _ h9 => h9) rfl d_Mo_minus_6 ?_
  refine lv_if_eq (tgt := 49) hx hb d_Mo_minus_9 (by decide) (fun hc => ?_) (fun hc => ?_)
  · have h0 : p9 = 0 := (nI_b0 hp9).mp hc
    have hr9 : (if p9 = 1 then (b / 2 ^ (FB i + EB i) % 2) else 0) = 0 := by rw [if_neg (by omega)]
    refine lv_iconst (v := 0) hx hb d_Mo_minus_49 (by decide) ?_
    exact hret _ _ _ _ _ () d_Mo_minus_50 rfl (by rw [hr9]; rfl) hP hK hD hS
  · have h0 : p9 = 1 := by have := mt (nI_b0 hp9).mpr hc; omega
    refine lv_aload_n hx hb d_Mo_minus_12 rfl (lv_at hl 0 rfl) ?_
    refine va_get (D := (dC, dI)) (ci := 5) (v := .int (nI (iw i))) (C := R_Mo) (T := F_Mo) (N := 19) hx hb hts i_Mo hown hK hP 0 rfl rfl 4 (by decide) (hts _ fl_Mo_51) (fun _ h9 => h9) rfl d_Mo_minus_13 ?_
    refine lv_if_eq (tgt := 31) hx hb d_Mo_minus_16 (by decide) (fun hw9 => ?_) (fun hw9 => ?_)
    · have hi1 : i = 1 := by have := (nI_b0 (iw_le i)).mp hw9; unfold iw at this; split at this <;> omega
      have hF9 : FB i = 23 := by rw [hi1]; rfl
      have hE9 : EB i = 8 := by rw [hi1]; rfl
      refine lv_aload_n hx hb d_Mo_minus_31 rfl (lv_at hl 0 rfl) ?_
      refine va_get (D := (dC, dI)) (ci := 5) (v := .long (lN b)) (C := R_Mo) (T := F_Mo) (N := 19) hx hb hts i_Mo hown hK hP 0 rfl rfl 5 (by decide) (hts _ fl_Mo_55) (fun _ h9 => h9) rfl d_Mo_minus_32 ?_
      refine lv_bipush (v := 31) hx hb d_Mo_minus_35 (by decide) ?_
      refine lv_lshr (v := (lN b) >>> ((31 : Int32).toInt64 &&& 63)) hx hb d_Mo_minus_37 (rfl) ?_
      refine lv_lconst (v := 1) hx hb d_Mo_minus_38 (by decide) ?_
      refine lv_land hx hb d_Mo_minus_39 ?_
      refine lv_topl (fun x_1 e_2 => ?_)
      obtain rfl : x_1 = lN (b / 2 ^ 31 % 2) := e_2.trans (lN_sar1 (n := b) (s := 31) hbb (by decide))
      refine lv_lconst (v := 1) hx hb d_Mo_minus_40 (by decide) ?_
      refine lx_ne (tgt := 49) hx hb d_Mo_minus_41 d_Mo_minus_42 (by decide) (fun hz => ?_) (fun hz => ?_)
      · have h1 : b / 2 ^ 31 % 2 ≠ 1 := fun q => hz (by rw [q]; rfl)
        have hr9 : (if p9 = 1 then (b / 2 ^ (FB i + EB i) % 2) else 0) = 0 := by rw [if_pos h0, hF9, hE9]; omega
        refine lv_iconst (v := 0) hx hb d_Mo_minus_49 (by decide) ?_
        exact hret _ _ _ _ _ () d_Mo_minus_50 rfl (by rw [hr9]; rfl) hP hK hD hS
      · have h1 : b / 2 ^ 31 % 2 = 1 := (pk_lEQ (b := 1) (by omega) (by omega)).mp hz
        have hr9 : (if p9 = 1 then (b / 2 ^ (FB i + EB i) % 2) else 0) = 1 := by rw [if_pos h0, hF9, hE9]; exact h1
        refine lv_iconst (v := 1) hx hb d_Mo_minus_45 (by decide) ?_
        refine lv_goto (tgt := 50) hx hb d_Mo_minus_46 (by decide) ?_
        exact hret _ _ _ _ _ () d_Mo_minus_50 rfl (by rw [hr9]; rfl) hP hK hD hS
    · have hi1 : i = 0 := by have := mt (nI_b0 (iw_le i)).mpr hw9; unfold iw at this; split at this <;> omega
      have hF9 : FB i = 52 := by rw [hi1]; rfl
      have hE9 : EB i = 11 := by rw [hi1]; rfl
      refine lv_aload_n hx hb d_Mo_minus_19 rfl (lv_at hl 0 rfl) ?_
      refine va_get (D := (dC, dI)) (ci := 5) (v := .long (lN b)) (C := R_Mo) (T := F_Mo) (N := 19) hx hb hts i_Mo hown hK hP 0 rfl rfl 5 (by decide) (hts _ fl_Mo_55) (fun _ h9 => h9) rfl d_Mo_minus_20 ?_
      refine lv_lconst (v := 0) hx hb d_Mo_minus_23 (by decide) ?_
      refine lx_ge (tgt := 49) hx hb d_Mo_minus_24 d_Mo_minus_25 (by decide) (fun hz => ?_) (fun hz => ?_)
      · have h1 : ¬ b / 2 ^ 63 % 2 = 1 := fun q => absurd ((lN_neg hbb).mpr q) (Int64.not_lt.mpr hz)
        have hr9 : (if p9 = 1 then (b / 2 ^ (FB i + EB i) % 2) else 0) = 0 := by rw [if_pos h0, hF9, hE9]; omega
        refine lv_iconst (v := 0) hx hb d_Mo_minus_49 (by decide) ?_
        exact hret _ _ _ _ _ () d_Mo_minus_50 rfl (by rw [hr9]; rfl) hP hK hD hS
      · have h1 : b / 2 ^ 63 % 2 = 1 := (lN_neg hbb).mp (Int64.not_le.mp hz)
        refine lv_goto (tgt := 45) hx hb d_Mo_minus_28 (by decide) ?_
        have hr9 : (if p9 = 1 then (b / 2 ^ (FB i + EB i) % 2) else 0) = 1 := by rw [if_pos h0, hF9, hE9]; exact h1
        refine lv_iconst (v := 1) hx hb d_Mo_minus_45 (by decide) ?_
        refine lv_goto (tgt := 50) hx hb d_Mo_minus_46 (by decide) ?_
        exact hret _ _ _ _ _ () d_Mo_minus_50 rfl (by rw [hr9]; rfl) hP hK hD hS
set_option maxHeartbeats 4000000 in
set_option maxRecDepth 100000 in
theorem c_Mo_kind (l : Launch) (dC : Nat → ClassId) (dI : Nat → Nat → Nat) (sz : Nat) (hm tx9 un ro nu be ab tr bs fa bf : Nat) (th lo9 hi8 le bh ev : Int32) (i b : Nat) (p9 : Nat)  (hi : i < 2) (hbb : b < 2 ^ 64) (hp9 : p9 ≤ 1)  : Met l y_Mo_kind (Cond.code y_Mo_kind b_Mo_kind 1 (some .int) :: gT) ({ frames := 2, cells := 0, slots := 0, locals := 40 }) (va_Pc [.ref hm] (pw_P (dC, dI) cls [] pw_0 [(hm, .inr (5, [.int th, .int lo9, .int hi8, .int (nI p9), .int (nI (iw i)), .long (lN b), .int le, .ref tx9, .ref un, .ref ro, .ref nu, .ref be, .ref ab, .ref tr, .ref bs, .ref fa, .ref bf, .int bh, .int ev]))] sz)) (va_Qi (fun (r : Int32) (uu : Unit) => r = nI (if p9 = 1 then (kdo i (b / 2 ^ FB i % 2 ^ EB i) (b % 2 ^ FB i)) else 0)) (fun (uu : Unit) => pw_B (dC, dI) cls [] (va_A [(hm, .inr (5, [.int th, .int lo9, .int hi8, .int (nI p9), .int (nI (iw i)), .long (lN b), .int le, .ref tx9, .ref un, .ref ro, .ref nu, .ref be, .ref ab, .ref tr, .ref bs, .ref fa, .ref bf, .int bh, .int ev]))] sz) [(hm, .inr (5, [.int 0, .int lo9, .int hi8, .int (nI p9), .int (nI (iw i)), .long (lN b), .int le, .ref tx9, .ref un, .ref ro, .ref nu, .ref be, .ref ab, .ref tr, .ref bs, .ref fa, .ref bf, .int bh, .int ev]))]) (va_A [(hm, .inr (5, [.int th, .int lo9, .int hi8, .int (nI p9), .int (nI (iw i)), .long (lN b), .int le, .ref tx9, .ref un, .ref ro, .ref nu, .ref be, .ref ab, .ref tr, .ref bs, .ref fa, .ref bf, .int bh, .int ev]))] sz)) 0 0 (va_A [(hm, .inr (5, [.int th, .int lo9, .int hi8, .int (nI p9), .int (nI (iw i)), .long (lN b), .int le, .ref tx9, .ref un, .ref ro, .ref nu, .ref be, .ref ab, .ref tr, .ref bs, .ref fa, .ref bf, .int bh, .int ev]))] sz) := by
  refine pw_meti (tn := fun (uu : Unit) => []) (wn := fun (uu : Unit) => [(hm, .inr (5, [.int 0, .int lo9, .int hi8, .int (nI p9), .int (nI (iw i)), .long (lN b), .int le, .ref tx9, .ref un, .ref ro, .ref nu, .ref be, .ref ab, .ref tr, .ref bs, .ref fa, .ref bf, .int bh, .int ev]))]) (by decide) (Nat.le_of_ble_eq_true rfl) ?_
  intro p e s m args below meth c A Q H ls hx hb hml hown hts hA hE hP hK hD hS hret hl
  have hown : s.vm.findClass R_Mo = some m.cls := hown
  have hl : lv_has ls 1 [(0, .ref hm)] := hl
  have he9 : (b / 2 ^ FB i % 2 ^ EB i) < 2 ^ EB i := Nat.mod_lt _ (Nat.two_pow_pos _)
  have hb9 := la_b i
  have he11 : 2 ^ EB i ≤ 2 ^ 11 := Nat.pow_le_pow_right (by decide) (by omega)
  have hf52 : 2 ^ FB i ≤ 2 ^ 52 := Nat.pow_le_pow_right (by decide) (by omega)
  have hfr : (b % 2 ^ FB i) < 2 ^ FB i := Nat.mod_lt _ (Nat.two_pow_pos _)
  refine lv_aload_n hx hb d_Mo_kind_0 rfl (lv_at hl 0 rfl) ?_
  refine lv_iconst (v := 0) hx hb d_Mo_kind_1 (by decide) ?_
  refine va_put (D := (dC, dI)) (ci := 5) (v := .int 0) (ty := .int) (C := R_Mo) (T := F_Mo) (N := 19) hx hb hts i_Mo t_Mo t_Mo_ok n_Mo hown hK hP hD hS 0 rfl rfl 0 (by decide) (hts _ fl_Mo_48) (fun _ h9 => h9) rfl (by decide +kernel) rfl rfl (Nat.le_of_ble_eq_true rfl) d_Mo_kind_2 (fun H locs hP hD hS => ?_)
  have hP : va_P (dC, dI) cls [(hm, .inr (5, [.int 0, .int lo9, .int hi8, .int (nI p9), .int (nI (iw i)), .long (lN b), .int le, .ref tx9, .ref un, .ref ro, .ref nu, .ref be, .ref ab, .ref tr, .ref bs, .ref fa, .ref bf, .int bh, .int ev]))] H := hP
  have hD : va_D A [(hm, .inr (5, [.int 0, .int lo9, .int hi8, .int (nI p9), .int (nI (iw i)), .long (lN b), .int le, .ref tx9, .ref un, .ref ro, .ref nu, .ref be, .ref ab, .ref tr, .ref bs, .ref fa, .ref bf, .int bh, .int ev]))] := hD
  refine lv_aload_n hx hb d_Mo_kind_5 rfl (lv_at hl 0 rfl) ?_
  refine va_get (D := (dC, dI)) (ci := 5) (v := .int (nI p9)) (C := R_Mo) (T := F_Mo) (N := 19) hx hb hts i_Mo hown hK hP 0 rfl rfl 3 (by decide) (hts _ fl_Mo_67) (fun _ h9 => h9) rfl d_Mo_kind_6 ?_
  refine lv_if_ne (tgt := 14) hx hb d_Mo_kind_9 (by decide) (fun hc => ?_) (fun hc => ?_)
  · have h0 : p9 = 1 := by have := mt (nI_b0 hp9).mpr hc; omega
    refine lv_aload_n hx hb d_Mo_kind_14 rfl (lv_at hl 0 rfl) ?_
    refine pw_calli (wc := [(hm, .inr (5, [.int 0, .int lo9, .int hi8, .int (nI p9), .int (nI (iw i)), .long (lN b), .int le, .ref tx9, .ref un, .ref ro, .ref nu, .ref be, .ref ab, .ref tr, .ref bs, .ref fa, .ref bf, .int bh, .int ev]))]) (wr := []) [0] [] rfl rfl rfl (by decide) (by decide) (by decide) hP hD hS hA (fun hPc hDc hF => va_runV (As := []) (rest := []) ⟨hx, hb, hml, hown, hts⟩ (c_Mo_isLast l dC dI H.size hm tx9 un ro nu be ab tr bs fa bf 0 lo9 hi8 (nI p9) le bh ev i b hi hbb) (cwV 0 hts (gw_V (gw_self cod_Mo_isLast) ml_Mo_70 im_Mo_isLast sel_Mo_isLast ini_Mo) rfl rfl rfl (by decide +kernel) ⟨Nat.le_of_ble_eq_true rfl, Nat.le_of_ble_eq_true rfl⟩) (pw_preV pw_0_ok (trivial : pw_0 A s s.heap) hS hF hPc hDc (hK.sub [] rfl) (va_recv hK hPc (ci := 5) (q0 := 0) rfl rfl)) rfl rfl hl.1 rfl (lv_room (Nat.le_of_ble_eq_true rfl)) d_Mo_kind_15 ⟨Nat.le_of_ble_eq_true rfl, Nat.le_of_ble_eq_true rfl⟩) (fun r5 u5 H locs hw5 hK1 hP hD hS => ?_)
    have hP : va_P (dC, dI) cls [(hm, .inr (5, [.int 0, .int lo9, .int hi8, .int (nI p9), .int (nI (iw i)), .long (lN b), .int le, .ref tx9, .ref un, .ref ro, .ref nu, .ref be, .ref ab, .ref tr, .ref bs, .ref fa, .ref bf, .int bh, .int ev]))] H := hP
    have hD : va_D A [(hm, .inr (5, [.int 0, .int lo9, .int hi8, .int (nI p9), .int (nI (iw i)), .long (lN b), .int le, .ref tx9, .ref un, .ref ro, .ref nu, .ref be, .ref ab, .ref tr, .ref bs, .ref fa, .ref bf, .int bh, .int ev]))] := hD
    subst hw5
    refine lv_if_eq (tgt := 36) hx hb d_Mo_kind_18 (by decide) (fun hl9 => ?_) (fun hl9 => ?_)
    · have hne : (b / 2 ^ FB i % 2 ^ EB i) ≠ 2 ^ EB i - 1 := fun q => by rw [if_pos q] at hl9; exact absurd hl9 (by decide)
      refine lv_aload_n hx hb d_Mo_kind_36 rfl (lv_at hl 0 rfl) ?_
      refine pw_calli (wc := [(hm, .inr (5, [.int 0, .int lo9, .int hi8, .int (nI p9), .int (nI (iw i)), .long (lN b), .int le, .ref tx9, .ref un, .ref ro, .ref nu, .ref be, .ref ab, .ref tr, .ref bs, .ref fa, .ref bf, .int bh, .int ev]))]) (wr := []) [0] [] rfl rfl rfl (by decide) (by decide) (by decide) hP hD hS hA (fun hPc hDc hF => va_runV (As := []) (rest := []) ⟨hx, hb, hml, hown, hts⟩ (c_Mo_exponent l dC dI H.size hm tx9 un ro nu be ab tr bs fa bf 0 lo9 hi8 (nI p9) le bh ev i b hi hbb) (cwV 0 hts (gw_V (gw_self cod_Mo_exponent) ml_Mo_63 im_Mo_exponent sel_Mo_exponent ini_Mo) rfl rfl rfl (by decide +kernel) ⟨Nat.le_of_ble_eq_true rfl, Nat.le_of_ble_eq_true rfl⟩) (pw_preV pw_0_ok (trivial : pw_0 A s s.heap) hS hF hPc hDc (hK.sub [] rfl) (va_recv hK hPc (ci := 5) (q0 := 0) rfl rfl)) rfl rfl hl.1 rfl (lv_room (Nat.le_of_ble_eq_true rfl)) d_Mo_kind_37 ⟨Nat.le_of_ble_eq_true rfl, Nat.le_of_ble_eq_true rfl⟩) (fun r6 u6 H locs hw6 hK1 hP hD hS => ?_)
      have hP : va_P (dC, dI) cls [(hm, .inr (5, [.int 0, .int lo9, .int hi8, .int (nI p9), .int (nI (iw i)), .long (lN b), .int le, .ref tx9, .ref un, .ref ro, .ref nu, .ref be, .ref ab, .ref tr, .ref bs, .ref fa, .ref bf, .int bh, .int ev]))] H := hP
      have hD : va_D A [(hm, .inr (5, [.int 0, .int lo9, .int hi8, .int (nI p9), .int (nI (iw i)), .long (lN b), .int le, .ref tx9, .ref un, .ref ro, .ref nu, .ref be, .ref ab, .ref tr, .ref bs, .ref fa, .ref bf, .int bh, .int ev]))] := hD
      subst hw6
      refine lv_if_ne (tgt := 56) hx hb d_Mo_kind_40 (by decide) (fun he => ?_) (fun he => ?_)
      · have h1 : (b / 2 ^ FB i % 2 ^ EB i) ≠ 0 := fun q => he (by rw [q]; rfl)
        have hr9 : (if p9 = 1 then (kdo i (b / 2 ^ FB i % 2 ^ EB i) (b % 2 ^ FB i)) else 0) = 4 := by unfold kdo; rw [if_pos h0, if_neg hne, if_neg (fun g => h1 g.1)]
        refine lv_iconst (v := 4) hx hb d_Mo_kind_56 (by decide) ?_
        exact hret _ _ _ _ _ () d_Mo_kind_57 (vp_nar_int _) (by rw [hr9]; rfl) hP hK hD hS
      · have h1 : (b / 2 ^ FB i % 2 ^ EB i) = 0 := (nI_eq (b := 0) (by omega) (by omega)).mp he
        refine lv_aload_n hx hb d_Mo_kind_43 rfl (lv_at hl 0 rfl) ?_
        refine pw_calll (wc := [(hm, .inr (5, [.int 0, .int lo9, .int hi8, .int (nI p9), .int (nI (iw i)), .long (lN b), .int le, .ref tx9, .ref un, .ref ro, .ref nu, .ref be, .ref ab, .ref tr, .ref bs, .ref fa, .ref bf, .int bh, .int ev]))]) (wr := []) [0] [] rfl rfl rfl (by decide) (by decide) (by decide) hP hD hS hA (fun hPc hDc hF => va_runV (As := []) (rest := []) ⟨hx, hb, hml, hown, hts⟩ (c_Mo_fraction l dC dI H.size hm tx9 un ro nu be ab tr bs fa bf 0 lo9 hi8 (nI p9) le bh ev i b hi hbb) (cwV 0 hts (gw_V (gw_self cod_Mo_fraction) ml_Mo_74 im_Mo_fraction sel_Mo_fraction ini_Mo) rfl rfl rfl (by decide +kernel) ⟨Nat.le_of_ble_eq_true rfl, Nat.le_of_ble_eq_true rfl⟩) (pw_preV pw_0_ok (trivial : pw_0 A s s.heap) hS hF hPc hDc (hK.sub [] rfl) (va_recv hK hPc (ci := 5) (q0 := 0) rfl rfl)) rfl rfl hl.1 rfl (lv_room (Nat.le_of_ble_eq_true rfl)) d_Mo_kind_44 ⟨Nat.le_of_ble_eq_true rfl, Nat.le_of_ble_eq_true rfl⟩) (fun r7 u7 H locs hw7 hK1 hP hD hS => ?_)
        have hP : va_P (dC, dI) cls [(hm, .inr (5, [.int 0, .int lo9, .int hi8, .int (nI p9), .int (nI (iw i)), .long (lN b), .int le, .ref tx9, .ref un, .ref ro, .ref nu, .ref be, .ref ab, .ref tr, .ref bs, .ref fa, .ref bf, .int bh, .int ev]))] H := hP
        have hD : va_D A [(hm, .inr (5, [.int 0, .int lo9, .int hi8, .int (nI p9), .int (nI (iw i)), .long (lN b), .int le, .ref tx9, .ref un, .ref ro, .ref nu, .ref be, .ref ab, .ref tr, .ref bs, .ref fa, .ref bf, .int bh, .int ev]))] := hD
        subst hw7
        refine lv_lconst (v := 0) hx hb d_Mo_kind_47 (by decide) ?_
        refine lx_ne (tgt := 56) hx hb d_Mo_kind_48 d_Mo_kind_49 (by decide) (fun hz => ?_) (fun hz => ?_)
        · have h2 : (b % 2 ^ FB i) ≠ 0 := fun q => hz (by rw [q]; rfl)
          have hr9 : (if p9 = 1 then (kdo i (b / 2 ^ FB i % 2 ^ EB i) (b % 2 ^ FB i)) else 0) = 4 := by unfold kdo; rw [if_pos h0, if_neg hne, if_neg (fun g => h2 g.2)]
          refine lv_iconst (v := 4) hx hb d_Mo_kind_56 (by decide) ?_
          exact hret _ _ _ _ _ () d_Mo_kind_57 (vp_nar_int _) (by rw [hr9]; rfl) hP hK hD hS
        · have h2 : (b % 2 ^ FB i) = 0 := (pk_lEQ (b := 0) (by omega) (by omega)).mp hz
          have hr9 : (if p9 = 1 then (kdo i (b / 2 ^ FB i % 2 ^ EB i) (b % 2 ^ FB i)) else 0) = 3 := by unfold kdo; rw [if_pos h0, if_neg hne, if_pos ⟨h1, h2⟩]
          refine lv_iconst (v := 3) hx hb d_Mo_kind_52 (by decide) ?_
          refine lv_goto (tgt := 57) hx hb d_Mo_kind_53 (by decide) ?_
          exact hret _ _ _ _ _ () d_Mo_kind_57 (vp_nar_int _) (by rw [hr9]; rfl) hP hK hD hS
    · have he : (b / 2 ^ FB i % 2 ^ EB i) = 2 ^ EB i - 1 := Decidable.byContradiction (fun q => hl9 (by rw [if_neg q]; rfl))
      refine lv_aload_n hx hb d_Mo_kind_21 rfl (lv_at hl 0 rfl) ?_
      refine pw_calll (wc := [(hm, .inr (5, [.int 0, .int lo9, .int hi8, .int (nI p9), .int (nI (iw i)), .long (lN b), .int le, .ref tx9, .ref un, .ref ro, .ref nu, .ref be, .ref ab, .ref tr, .ref bs, .ref fa, .ref bf, .int bh, .int ev]))]) (wr := []) [0] [] rfl rfl rfl (by decide) (by decide) (by decide) hP hD hS hA (fun hPc hDc hF => va_runV (As := []) (rest := []) ⟨hx, hb, hml, hown, hts⟩ (c_Mo_fraction l dC dI H.size hm tx9 un ro nu be ab tr bs fa bf 0 lo9 hi8 (nI p9) le bh ev i b hi hbb) (cwV 0 hts (gw_V (gw_self cod_Mo_fraction) ml_Mo_74 im_Mo_fraction sel_Mo_fraction ini_Mo) rfl rfl rfl (by decide +kernel) ⟨Nat.le_of_ble_eq_true rfl, Nat.le_of_ble_eq_true rfl⟩) (pw_preV pw_0_ok (trivial : pw_0 A s s.heap) hS hF hPc hDc (hK.sub [] rfl) (va_recv hK hPc (ci := 5) (q0 := 0) rfl rfl)) rfl rfl hl.1 rfl (lv_room (Nat.le_of_ble_eq_true rfl)) d_Mo_kind_22 ⟨Nat.le_of_ble_eq_true rfl, Nat.le_of_ble_eq_true rfl⟩) (fun r7 u7 H locs hw7 hK1 hP hD hS => ?_)
      have hP : va_P (dC, dI) cls [(hm, .inr (5, [.int 0, .int lo9, .int hi8, .int (nI p9), .int (nI (iw i)), .long (lN b), .int le, .ref tx9, .ref un, .ref ro, .ref nu, .ref be, .ref ab, .ref tr, .ref bs, .ref fa, .ref bf, .int bh, .int ev]))] H := hP
      have hD : va_D A [(hm, .inr (5, [.int 0, .int lo9, .int hi8, .int (nI p9), .int (nI (iw i)), .long (lN b), .int le, .ref tx9, .ref un, .ref ro, .ref nu, .ref be, .ref ab, .ref tr, .ref bs, .ref fa, .ref bf, .int bh, .int ev]))] := hD
      subst hw7
      refine lv_lconst (v := 0) hx hb d_Mo_kind_25 (by decide) ?_
      refine lx_eq (tgt := 34) hx hb d_Mo_kind_26 d_Mo_kind_27 (by decide) (fun hz => ?_) (fun hz => ?_)
      · have h2 : (b % 2 ^ FB i) = 0 := (pk_lEQ (b := 0) (by omega) (by omega)).mp hz
        have hr9 : (if p9 = 1 then (kdo i (b / 2 ^ FB i % 2 ^ EB i) (b % 2 ^ FB i)) else 0) = 2 := by unfold kdo; rw [if_pos h0, if_pos he, if_pos h2]
        refine lv_iconst (v := 2) hx hb d_Mo_kind_34 (by decide) ?_
        exact hret _ _ _ _ _ () d_Mo_kind_35 (vp_nar_int _) (by rw [hr9]; rfl) hP hK hD hS
      · have h2 : (b % 2 ^ FB i) ≠ 0 := fun q => hz (by rw [q]; rfl)
        have hr9 : (if p9 = 1 then (kdo i (b / 2 ^ FB i % 2 ^ EB i) (b % 2 ^ FB i)) else 0) = 1 := by unfold kdo; rw [if_pos h0, if_pos he, if_neg h2]
        refine lv_iconst (v := 1) hx hb d_Mo_kind_30 (by decide) ?_
        refine lv_goto (tgt := 35) hx hb d_Mo_kind_31 (by decide) ?_
        exact hret _ _ _ _ _ () d_Mo_kind_35 (vp_nar_int _) (by rw [hr9]; rfl) hP hK hD hS
  · have h0 : p9 = 0 := (nI_b0 hp9).mp hc
    have hr9 : (if p9 = 1 then (kdo i (b / 2 ^ FB i % 2 ^ EB i) (b % 2 ^ FB i)) else 0) = 0 := by rw [if_neg (by omega)]
    refine lv_iconst (v := 0) hx hb d_Mo_kind_12 (by decide) ?_
    exact hret _ _ _ _ _ () d_Mo_kind_13 (vp_nar_int _) (by rw [hr9]; rfl) hP hK hD hS
set_option maxHeartbeats 4000000 in
set_option maxRecDepth 100000 in
/-- bounds -/
theorem c_Mo_bounds (l : Launch) (dC : Nat → ClassId) (dI : Nat → Nat → Nat) (sz : Nat) (hm tx9 un ro nu be ab tr bs fa bf : Nat) (th pr wd le bh ev : Int32) (la : Int64) (lo hi9 a c9 : Int)  (ha1 : -2 ^ 31 ≤ a) (ha2 : a < 2 ^ 31) (hc1 : -2 ^ 31 ≤ c9) (hc2 : c9 < 2 ^ 31) : Met l y_Mo_bounds (Cond.code y_Mo_bounds b_Mo_bounds 3 (some .boolean) :: gT) ({ frames := 0, cells := 0, slots := 0, locals := 0 }) (va_Pc [.ref hm, .int (iZ a), .int (iZ c9)] (pw_P (dC, dI) cls [] pw_0 [(hm, .inr (5, [.int th, .int (iZ lo), .int (iZ hi9), .int pr, .int wd, .long la, .int le, .ref tx9, .ref un, .ref ro, .ref nu, .ref be, .ref ab, .ref tr, .ref bs, .ref fa, .ref bf, .int bh, .int ev]))] sz)) (va_Qi (fun (r : Int32) (uu : Unit) => r = nI (if (-30 ≤ a ∧ a ≤ 0 ∧ 1 ≤ c9 ∧ c9 ≤ 30) then 1 else 0)) (fun (uu : Unit) => pw_B (dC, dI) cls [] (va_A [(hm, .inr (5, [.int th, .int (iZ lo), .int (iZ hi9), .int pr, .int wd, .long la, .int le, .ref tx9, .ref un, .ref ro, .ref nu, .ref be, .ref ab, .ref tr, .ref bs, .ref fa, .ref bf, .int bh, .int ev]))] sz) [(hm, .inr (5, [.int 0, .int (iZ (if (-30 ≤ a ∧ a ≤ 0 ∧ 1 ≤ c9 ∧ c9 ≤ 30) then a else lo)), .int (iZ (if (-30 ≤ a ∧ a ≤ 0 ∧ 1 ≤ c9 ∧ c9 ≤ 30) then c9 else hi9)), .int pr, .int wd, .long la, .int le, .ref tx9, .ref un, .ref ro, .ref nu, .ref be, .ref ab, .ref tr, .ref bs, .ref fa, .ref bf, .int bh, .int ev]))]) (va_A [(hm, .inr (5, [.int th, .int (iZ lo), .int (iZ hi9), .int pr, .int wd, .long la, .int le, .ref tx9, .ref un, .ref ro, .ref nu, .ref be, .ref ab, .ref tr, .ref bs, .ref fa, .ref bf, .int bh, .int ev]))] sz)) 0 0 (va_A [(hm, .inr (5, [.int th, .int (iZ lo), .int (iZ hi9), .int pr, .int wd, .long la, .int le, .ref tx9, .ref un, .ref ro, .ref nu, .ref be, .ref ab, .ref tr, .ref bs, .ref fa, .ref bf, .int bh, .int ev]))] sz) := by
  refine pw_meti (tn := fun (uu : Unit) => []) (wn := fun (uu : Unit) => [(hm, .inr (5, [.int 0, .int (iZ (if (-30 ≤ a ∧ a ≤ 0 ∧ 1 ≤ c9 ∧ c9 ≤ 30) then a else lo)), .int (iZ (if (-30 ≤ a ∧ a ≤ 0 ∧ 1 ≤ c9 ∧ c9 ≤ 30) then c9 else hi9)), .int pr, .int wd, .long la, .int le, .ref tx9, .ref un, .ref ro, .ref nu, .ref be, .ref ab, .ref tr, .ref bs, .ref fa, .ref bf, .int bh, .int ev]))]) (by decide) (Nat.le_of_ble_eq_true rfl) ?_
  intro p e s m args below meth c A Q H ls hx hb hml hown hts hA hE hP hK hD hS hret hl
  have hown : s.vm.findClass R_Mo = some m.cls := hown
  have hl : lv_has ls 3 [(0, .ref hm), (1, .int (iZ a)), (2, .int (iZ c9))] := hl
  refine lv_aload_n hx hb d_Mo_bounds_0 rfl (lv_at hl 0 rfl) ?_
  refine lv_iconst (v := 0) hx hb d_Mo_bounds_1 (by decide) ?_
  refine va_put (D := (dC, dI)) (ci := 5) (v := .int 0) (ty := .int) (C := R_Mo) (T := F_Mo) (N := 19) hx hb hts i_Mo t_Mo t_Mo_ok n_Mo hown hK hP hD hS 0 rfl rfl 0 (by decide) (hts _ fl_Mo_48) (fun _ h9 => h9) rfl (by decide +kernel) rfl rfl (Nat.le_of_ble_eq_true rfl) d_Mo_bounds_2 (fun H locs hP hD hS => ?_)
  have hP : va_P (dC, dI) cls [(hm, .inr (5, [.int 0, .int (iZ lo), .int (iZ hi9), .int pr, .int wd, .long la, .int le, .ref tx9, .ref un, .ref ro, .ref nu, .ref be, .ref ab, .ref tr, .ref bs, .ref fa, .ref bf, .int bh, .int ev]))] H := hP
  have hD : va_D A [(hm, .inr (5, [.int 0, .int (iZ lo), .int (iZ hi9), .int pr, .int wd, .long la, .int le, .ref tx9, .ref un, .ref ro, .ref nu, .ref be, .ref ab, .ref tr, .ref bs, .ref fa, .ref bf, .int bh, .int ev]))] := hD
  refine lv_iload_n hx hb d_Mo_bounds_5 rfl (lv_at hl 1 rfl) ?_
  refine lv_bipush (v := (-30)) hx hb d_Mo_bounds_6 (by decide) ?_
  refine lv_topi (fun x_1 e_2 => ?_)
  obtain rfl : x_1 = iZ (-30) := e_2.trans (by decide)
  refine lv_icmp_lt (tgt := 26) hx hb d_Mo_bounds_8 (by decide) (fun g1 => ?_) (fun g1 => ?_)
  · have h1 : a < -30 := (iZ_lt (by omega) (by omega) (by omega) (by omega)).mp g1
    have hno : ¬ (-30 ≤ a ∧ a ≤ 0 ∧ 1 ≤ c9 ∧ c9 ≤ 30) := by omega
    refine lv_iconst (v := 0) hx hb d_Mo_bounds_26 (by decide) ?_
    exact hret _ _ _ _ _ () d_Mo_bounds_27 rfl (by rw [if_neg hno]; rfl) (by rw [if_neg hno, if_neg hno]; exact hP) hK (by rw [if_neg hno, if_neg hno]; exact hD) hS
  · have h1 : -30 ≤ a := by have := mt (iZ_lt (a := a) (b := -30) (by omega) (by omega) (by omega) (by omega)).mpr g1; omega
    refine lv_iload_n hx hb d_Mo_bounds_11 rfl (lv_at hl 1 rfl) ?_
    refine lv_if_gt (tgt := 26) hx hb d_Mo_bounds_12 (by decide) (fun g2 => ?_) (fun g2 => ?_)
    · have h2 : 0 < a := (iZ_lt (a := 0) (b := a) (by omega) (by omega) (by omega) (by omega)).mp g2
      have hno : ¬ (-30 ≤ a ∧ a ≤ 0 ∧ 1 ≤ c9 ∧ c9 ≤ 30) := by omega
      refine lv_iconst (v := 0) hx hb d_Mo_bounds_26 (by decide) ?_
      exact hret _ _ _ _ _ () d_Mo_bounds_27 rfl (by rw [if_neg hno]; rfl) (by rw [if_neg hno, if_neg hno]; exact hP) hK (by rw [if_neg hno, if_neg hno]; exact hD) hS
    · have h2 : a ≤ 0 := by have := mt (iZ_lt (a := 0) (b := a) (by omega) (by omega) (by omega) (by omega)).mpr g2; omega
      refine lv_iload_n hx hb d_Mo_bounds_15 rfl (lv_at hl 2 rfl) ?_
      refine lv_iconst (v := 1) hx hb d_Mo_bounds_16 (by decide) ?_
      refine lv_icmp_lt (tgt := 26) hx hb d_Mo_bounds_17 (by decide) (fun g3 => ?_) (fun g3 => ?_)
      · have h3 : c9 < 1 := (iZ_lt (a := c9) (b := 1) (by omega) (by omega) (by omega) (by omega)).mp g3
        have hno : ¬ (-30 ≤ a ∧ a ≤ 0 ∧ 1 ≤ c9 ∧ c9 ≤ 30) := by omega
        refine lv_iconst (v := 0) hx hb d_Mo_bounds_26 (by decide) ?_
        exact hret _ _ _ _ _ () d_Mo_bounds_27 rfl (by rw [if_neg hno]; rfl) (by rw [if_neg hno, if_neg hno]; exact hP) hK (by rw [if_neg hno, if_neg hno]; exact hD) hS
      · have h3 : 1 ≤ c9 := by have := mt (iZ_lt (a := c9) (b := 1) (by omega) (by omega) (by omega) (by omega)).mpr g3; omega
        refine lv_iload_n hx hb d_Mo_bounds_20 rfl (lv_at hl 2 rfl) ?_
        refine lv_bipush (v := 30) hx hb d_Mo_bounds_21 (by decide) ?_
        refine lv_icmp_le (tgt := 28) hx hb d_Mo_bounds_23 (by decide) (fun g4 => ?_) (fun g4 => ?_)
        · have h4 : c9 ≤ 30 := (iZ_le (a := c9) (b := 30) (by omega) (by omega) (by omega) (by omega)).mp g4
          have hok : (-30 ≤ a ∧ a ≤ 0 ∧ 1 ≤ c9 ∧ c9 ≤ 30) := ⟨h1, h2, h3, h4⟩
          refine lv_aload_n hx hb d_Mo_bounds_28 rfl (lv_at hl 0 rfl) ?_
          refine lv_iload_n hx hb d_Mo_bounds_29 rfl (lv_at hl 1 rfl) ?_
          refine va_put (D := (dC, dI)) (ci := 5) (v := .int (iZ a)) (ty := .int) (C := R_Mo) (T := F_Mo) (N := 19) hx hb hts i_Mo t_Mo t_Mo_ok n_Mo hown hK hP hD hS 0 rfl rfl 1 (by decide) (hts _ fl_Mo_7) (fun _ h9 => h9) rfl (by decide +kernel) rfl rfl (Nat.le_of_ble_eq_true rfl) d_Mo_bounds_30 (fun H locs hP hD hS => ?_)
          have hP : va_P (dC, dI) cls [(hm, .inr (5, [.int 0, .int (iZ a), .int (iZ hi9), .int pr, .int wd, .long la, .int le, .ref tx9, .ref un, .ref ro, .ref nu, .ref be, .ref ab, .ref tr, .ref bs, .ref fa, .ref bf, .int bh, .int ev]))] H := hP
          have hD : va_D A [(hm, .inr (5, [.int 0, .int (iZ a), .int (iZ hi9), .int pr, .int wd, .long la, .int le, .ref tx9, .ref un, .ref ro, .ref nu, .ref be, .ref ab, .ref tr, .ref bs, .ref fa, .ref bf, .int bh, .int ev]))] := hD
          refine lv_aload_n hx hb d_Mo_bounds_33 rfl (lv_at hl 0 rfl) ?_
          refine lv_iload_n hx hb d_Mo_bounds_34 rfl (lv_at hl 2 rfl) ?_
          refine va_put (D := (dC, dI)) (ci := 5) (v := .int (iZ c9)) (ty := .int) (C := R_Mo) (T := F_Mo) (N := 19) hx hb hts i_Mo t_Mo t_Mo_ok n_Mo hown hK hP hD hS 0 rfl rfl 2 (by decide) (hts _ fl_Mo_13) (fun _ h9 => h9) rfl (by decide +kernel) rfl rfl (Nat.le_of_ble_eq_true rfl) d_Mo_bounds_35 (fun H locs hP hD hS => ?_)
          have hP : va_P (dC, dI) cls [(hm, .inr (5, [.int 0, .int (iZ a), .int (iZ c9), .int pr, .int wd, .long la, .int le, .ref tx9, .ref un, .ref ro, .ref nu, .ref be, .ref ab, .ref tr, .ref bs, .ref fa, .ref bf, .int bh, .int ev]))] H := hP
          have hD : va_D A [(hm, .inr (5, [.int 0, .int (iZ a), .int (iZ c9), .int pr, .int wd, .long la, .int le, .ref tx9, .ref un, .ref ro, .ref nu, .ref be, .ref ab, .ref tr, .ref bs, .ref fa, .ref bf, .int bh, .int ev]))] := hD
          refine lv_iconst (v := 1) hx hb d_Mo_bounds_38 (by decide) ?_
          exact hret _ _ _ _ _ () d_Mo_bounds_39 rfl (by rw [if_pos hok]; rfl) (by rw [if_pos hok, if_pos hok]; exact hP) hK (by rw [if_pos hok, if_pos hok]; exact hD) hS
        · have h4 : 30 < c9 := by have := mt (iZ_le (a := c9) (b := 30) (by omega) (by omega) (by omega) (by omega)).mpr g4; omega
          have hno : ¬ (-30 ≤ a ∧ a ≤ 0 ∧ 1 ≤ c9 ∧ c9 ≤ 30) := by omega
          refine lv_iconst (v := 0) hx hb d_Mo_bounds_26 (by decide) ?_
          exact hret _ _ _ _ _ () d_Mo_bounds_27 rfl (by rw [if_neg hno]; rfl) (by rw [if_neg hno, if_neg hno]; exact hP) hK (by rw [if_neg hno, if_neg hno]; exact hD) hS

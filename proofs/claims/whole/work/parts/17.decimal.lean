set_option maxHeartbeats 4000000 in
set_option maxRecDepth 100000 in
/-- clear -/
theorem c_De_clear (l : Launch) (dC : Nat → ClassId) (dI : Nat → Nat → Nat) (sz : Nat) (h w : Nat) (cC : ClassId) (g : Nat → Int32) (n t : Int32) (d : Int64)  : Met l y_De_clear (Cond.code y_De_clear b_De_clear 1 none :: gT) ({ frames := 0, cells := 0, slots := 0, locals := 0 }) (va_Pc [.ref h] (pw_P (dC, dI) cls [(cC, .char)] pw_0 [(h, .inr (0, [.ref w, .int n, .long d, .int t])), (w, .inl (cC, 19, .inl (g)))] sz)) (va_Qv (fun (uu : Unit) => True) (fun (uu : Unit) => pw_B (dC, dI) cls [(cC, .char)] (va_A [(h, .inr (0, [.ref w, .int n, .long d, .int t])), (w, .inl (cC, 19, .inl (g)))] sz) [(h, .inr (0, [.ref w, .int (nI 0), .long (lN 0), .int (iZ 0)])), (w, .inl (cC, 19, .inl (g)))]) (va_A [(h, .inr (0, [.ref w, .int n, .long d, .int t])), (w, .inl (cC, 19, .inl (g)))] sz)) 0 0 (va_A [(h, .inr (0, [.ref w, .int n, .long d, .int t])), (w, .inl (cC, 19, .inl (g)))] sz) := by
  refine pw_metv (tn := fun (uu : Unit) => [(cC, .char)]) (wn := fun (uu : Unit) => [(h, .inr (0, [.ref w, .int (nI 0), .long (lN 0), .int (iZ 0)])), (w, .inl (cC, 19, .inl (g)))]) (by decide) (Nat.le_of_ble_eq_true rfl) ?_
  intro p e s m args below meth c A Q H ls hx hb hml hown hts hnm hA hE hP hK hD hS hret hl
  have hown : s.vm.findClass R_De = some m.cls := hown
  have hl : lv_has ls 1 [(0, .ref h)] := hl
  refine lv_aload_n hx hb d_De_clear_0 rfl (lv_at hl 0 rfl) ?_
  refine lv_iconst (v := 0) hx hb d_De_clear_1 (by decide) ?_
  refine va_put (D := (dC, dI)) (ci := 0) (v := .int 0) (ty := .int) (C := R_De) (T := F_De) (N := 4) hx hb hts i_De t_De t_De_ok n_De hown hK hP hD hS 0 rfl rfl 1 (by decide) (hts _ fl_De_13) (fun _ h9 => h9) rfl (by decide +kernel) rfl rfl (Nat.le_of_ble_eq_true rfl) d_De_clear_2 (fun H locs hP hD hS => ?_)
  have hP : va_P (dC, dI) cls [(h, .inr (0, [.ref w, .int 0, .long d, .int t])), (w, .inl (cC, 19, .inl (g)))] H := hP
  have hD : va_D A [(h, .inr (0, [.ref w, .int 0, .long d, .int t])), (w, .inl (cC, 19, .inl (g)))] := hD
  refine lv_aload_n hx hb d_De_clear_5 rfl (lv_at hl 0 rfl) ?_
  refine lv_lconst (v := 0) hx hb d_De_clear_6 (by decide) ?_
  refine va_put (D := (dC, dI)) (ci := 0) (v := .long 0) (ty := .long) (C := R_De) (T := F_De) (N := 4) hx hb hts i_De t_De t_De_ok n_De hown hK hP hD hS 0 rfl rfl 2 (by decide) (hts _ fl_De_17) (fun _ h9 => h9) rfl (by decide +kernel) rfl rfl (Nat.le_of_ble_eq_true rfl) d_De_clear_7 (fun H locs hP hD hS => ?_)
  have hP : va_P (dC, dI) cls [(h, .inr (0, [.ref w, .int 0, .long 0, .int t])), (w, .inl (cC, 19, .inl (g)))] H := hP
  have hD : va_D A [(h, .inr (0, [.ref w, .int 0, .long 0, .int t])), (w, .inl (cC, 19, .inl (g)))] := hD
  refine lv_aload_n hx hb d_De_clear_10 rfl (lv_at hl 0 rfl) ?_
  refine lv_iconst (v := 0) hx hb d_De_clear_11 (by decide) ?_
  refine va_put (D := (dC, dI)) (ci := 0) (v := .int 0) (ty := .int) (C := R_De) (T := F_De) (N := 4) hx hb hts i_De t_De t_De_ok n_De hown hK hP hD hS 0 rfl rfl 3 (by decide) (hts _ fl_De_21) (fun _ h9 => h9) rfl (by decide +kernel) rfl rfl (Nat.le_of_ble_eq_true rfl) d_De_clear_12 (fun H locs hP hD hS => ?_)
  have hP : va_P (dC, dI) cls [(h, .inr (0, [.ref w, .int 0, .long 0, .int 0])), (w, .inl (cC, 19, .inl (g)))] H := hP
  have hD : va_D A [(h, .inr (0, [.ref w, .int 0, .long 0, .int 0])), (w, .inl (cC, 19, .inl (g)))] := hD
  exact hret _ _ _ _ () d_De_clear_15 trivial hP hK hD hS
set_option maxHeartbeats 4000000 in
set_option maxRecDepth 100000 in
/-- spread -/
theorem c_De_spread (l : Launch) (dC : Nat → ClassId) (dI : Nat → Nat → Nat) (sz : Nat) (h w : Nat) (cC : ClassId) (g : Nat → Int32) (n0 t : Int32) (D : Nat) (hD : D < 2 ^ 63) : Met l y_De_spread (Cond.code y_De_spread b_De_spread 3 none :: gT) ({ frames := 0, cells := 0, slots := 0, locals := 0 }) (va_Pc [.ref h] (pw_P (dC, dI) cls [(cC, .char)] pw_0 [(h, .inr (0, [.ref w, .int n0, .long (lN D), .int t])), (w, .inl (cC, 19, .inl (g)))] sz)) (va_Qv (fun (uu : Nat × (Nat → Int32)) => isnd D uu.1 ∧ dgs uu.2 D uu.1) (fun (uu : Nat × (Nat → Int32)) => pw_B (dC, dI) cls [(cC, .char)] (va_A [(h, .inr (0, [.ref w, .int n0, .long (lN D), .int t])), (w, .inl (cC, 19, .inl (g)))] sz) [(h, .inr (0, [.ref w, .int (nI uu.1), .long (lN D), .int t])), (w, .inl (cC, 19, .inl (uu.2)))]) (va_A [(h, .inr (0, [.ref w, .int n0, .long (lN D), .int t])), (w, .inl (cC, 19, .inl (g)))] sz)) 0 0 (va_A [(h, .inr (0, [.ref w, .int n0, .long (lN D), .int t])), (w, .inl (cC, 19, .inl (g)))] sz) := by
  refine pw_metv (tn := fun (uu : Nat × (Nat → Int32)) => [(cC, .char)]) (wn := fun (uu : Nat × (Nat → Int32)) => [(h, .inr (0, [.ref w, .int (nI uu.1), .long (lN D), .int t])), (w, .inl (cC, 19, .inl (uu.2)))]) (by decide) (Nat.le_of_ble_eq_true rfl) ?_
  intro p e s m args below meth c A Q H ls hx hb hml hown hts hnm hA hE hP hK hD hS hret hl
  have hown : s.vm.findClass R_De = some m.cls := hown
  have hl : lv_has ls 3 [(0, .ref h)] := hl
  refine lv_aload_n hx hb d_De_spread_0 rfl (lv_at hl 0 rfl) ?_
  refine va_get (D := (dC, dI)) (ci := 0) (v := .long (lN D)) (C := R_De) (T := F_De) (N := 4) hx hb hts i_De hown hK hP 0 rfl rfl 2 (by decide) (hts _ fl_De_17) (fun _ h9 => h9) rfl d_De_spread_1 ?_
  refine lv_lstore_n (lv' := [(1, .long (lN D)), (0, .ref h)]) hx hb d_De_spread_4 rfl hl (by decide) rfl (fun ls hl => ?_)
  refine lv_aload_n hx hb d_De_spread_5 rfl (lv_at hl 1 rfl) ?_
  refine lv_iconst (v := 0) hx hb d_De_spread_6 (by decide) ?_
  refine va_put (D := (dC, dI)) (ci := 0) (v := .int 0) (ty := .int) (C := R_De) (T := F_De) (N := 4) hx hb hts i_De t_De t_De_ok n_De hown hK hP hD hS 0 rfl rfl 1 (by decide) (hts _ fl_De_13) (fun _ h9 => h9) rfl (by decide +kernel) rfl rfl (Nat.le_of_ble_eq_true rfl) d_De_spread_7 (fun H locs hP hD hS => ?_)
  have hP : va_P (dC, dI) cls [(h, .inr (0, [.ref w, .int 0, .long (lN D), .int t])), (w, .inl (cC, 19, .inl (g)))] H := hP
  have hD : va_D A [(h, .inr (0, [.ref w, .int 0, .long (lN D), .int t])), (w, .inl (cC, 19, .inl (g)))] := hD
  have lp : ∀ (n i : Nat) (g : Nat → Int32) (H : Heap) (locs : List Loc) (ls : Array Slot), (19 < i + n) → (i ≤ 19) → (∀ j, j < i → 10 ^ j ≤ D) → (dgs g D i) → va_P (dC, dI) cls [(h, .inr (0, [.ref w, .int (nI i), .long (lN D), .int t])), (w, .inl (cC, 19, .inl (g)))] H → va_D A [(h, .inr (0, [.ref w, .int (nI i), .long (lN D), .int t])), (w, .inl (cC, 19, .inl (g)))] → va_S A s.heap H locs → lv_has ls 3 [(1, .long (lN (D / 10 ^ i))), (0, .ref h)] → W p l e { frames := 0, cells := 0, slots := 0, locals := 0 } s m args below meth c H locs 0 0 Q (F0 m 10 ls []) := by
    intro n
    induction n with
    | zero => intro i g H locs ls hn hi hj hg hP hD hS hl; exact absurd hn (by omega)
    | succ n ih =>
      intro i g H locs ls hn hi hj hg hP hD hS hl
      have hq : D / 10 ^ i ≤ D := Nat.div_le_self _ _
      refine lv_lload_n hx hb d_De_spread_10 rfl (lv_at hl 0 rfl) ?_
      refine lv_lconst (v := 0) hx hb d_De_spread_11 (by decide) ?_
      refine lx_le (tgt := 67) hx hb d_De_spread_12 d_De_spread_13 (by decide) (fun hc => ?_) (fun hc => ?_)
      · have h0 : D / 10 ^ i ≤ 0 := (pk_lLE (b := 0) (by omega) (by omega)).mp hc
        have hlt : D < 10 ^ i := by
          rcases Nat.lt_or_ge D (10 ^ i) with g9 | g9
          · exact g9
          · have := Nat.div_pos g9 (Nat.pow_pos (n := i) (show 0 < 10 by decide)); omega
        exact hret _ _ _ _ (i, g) d_De_spread_67 ⟨⟨hlt, hj⟩, hg⟩ hP hK hD hS
      · have h0 : 0 < D / 10 ^ i := by have := mt (pk_lLE (a := D / 10 ^ i) (b := 0) (by omega) (by omega)).mpr hc; omega
        have hge : 10 ^ i ≤ D := by
          rcases Nat.lt_or_ge D (10 ^ i) with g9 | g9
          · rw [Nat.div_eq_of_lt g9] at h0; omega
          · exact g9
        refine lv_aload_n hx hb d_De_spread_16 rfl (lv_at hl 1 rfl) ?_
        refine va_get (D := (dC, dI)) (ci := 0) (v := .int (nI i)) (C := R_De) (T := F_De) (N := 4) hx hb hts i_De hown hK hP 0 rfl rfl 1 (by decide) (hts _ fl_De_13) (fun _ h9 => h9) rfl d_De_spread_17 ?_
        refine lv_aload_n hx hb d_De_spread_20 rfl (lv_at hl 1 rfl) ?_
        refine va_get (D := (dC, dI)) (ci := 0) (v := .ref w) (C := R_De) (T := F_De) (N := 4) hx hb hts i_De hown hK hP 0 rfl rfl 0 (by decide) (hts _ fl_De_9) (fun _ h9 => h9) rfl d_De_spread_21 ?_
        refine va_alen (v := nI 19) hx hb hK hP 1 0 rfl rfl rfl d_De_spread_24 ?_
        refine lv_icmp_ge (tgt := 67) hx hb d_De_spread_25 (by decide) (fun hc2 => ?_) (fun hc2 => ?_)
        · have h19 : 19 ≤ i := (nI_leI (a := 19) (b := i) (by omega) (by omega)).mp hc2
          have : i = 19 := by omega
          subst this
          exact absurd hge (by omega)
        · have h19 : i < 19 := by have := mt (nI_leI (a := 19) (b := i) (by omega) (by omega)).mpr hc2; omega
          refine lv_aload_n hx hb d_De_spread_28 rfl (lv_at hl 1 rfl) ?_
          refine va_get (D := (dC, dI)) (ci := 0) (v := .ref w) (C := R_De) (T := F_De) (N := 4) hx hb hts i_De hown hK hP 0 rfl rfl 0 (by decide) (hts _ fl_De_9) (fun _ h9 => h9) rfl d_De_spread_29 ?_
          refine lv_aload_n hx hb d_De_spread_32 rfl (lv_at hl 1 rfl) ?_
          refine va_get (D := (dC, dI)) (ci := 0) (v := .int (nI i)) (C := R_De) (T := F_De) (N := 4) hx hb hts i_De hown hK hP 0 rfl rfl 1 (by decide) (hts _ fl_De_13) (fun _ h9 => h9) rfl d_De_spread_33 ?_
          refine lv_ldc2 (v := 48) hx hb hown (hts _ kl_De_29) d_De_spread_36 ?_
          refine lv_lload_n hx hb d_De_spread_39 rfl (lv_at hl 0 rfl) ?_
          refine lv_ldc2 (v := 10) hx hb hown (hts _ kl_De_24) d_De_spread_40 ?_
          refine lv_lrem hx hb d_De_spread_43 (by decide) ?_
          refine lv_topl (fun x_1 e_2 => ?_)
          obtain rfl : x_1 = lN (D / 10 ^ i % 10) := e_2.trans (pk_lRem (b := 10) (by omega) (by omega) (by omega))
          refine lv_ladd hx hb d_De_spread_44 ?_
          refine lv_topl (fun x_3 e_4 => ?_)
          obtain rfl : x_3 = lN (48 + D / 10 ^ i % 10) := e_4.trans (lN_add 48 _)
          refine lv_l2i (v := nI (48 + D / 10 ^ i % 10)) hx hb d_De_spread_45 (lN_i _) ?_
          refine lv_i2c (v := nI (48 + D / 10 ^ i % 10)) hx hb d_De_spread_46 ((pk_char _).trans (by rw [pk_tn (by omega), Nat.mod_eq_of_lt (by omega)])) ?_
          refine va_cast hx hb hK hP hD hS 1 0 rfl rfl (vp_in_nI h19 (by omega)) d_De_spread_47 (fun H locs hP hD hS => ?_)
          have e_5 : upd g (nI i).toNatClampNeg (vp_nar .char (nI (48 + D / 10 ^ i % 10))) = upd g i (nI (48 + D / 10 ^ i % 10)) := by rw [nI_clamp (by omega), tx_nar (by omega)]
          have hP : va_P (dC, dI) cls [(h, .inr (0, [.ref w, .int (nI i), .long (lN D), .int t])), (w, .inl (cC, 19, .inl (upd g i (nI (48 + D / 10 ^ i % 10)))))] H := by rw [← e_5]; exact hP
          have hD : va_D A [(h, .inr (0, [.ref w, .int (nI i), .long (lN D), .int t])), (w, .inl (cC, 19, .inl (upd g i (nI (48 + D / 10 ^ i % 10)))))] := by rw [← e_5]; exact hD
          refine lv_lload_n hx hb d_De_spread_48 rfl (lv_at hl 0 rfl) ?_
          refine lv_ldc2 (v := 10) hx hb hown (hts _ kl_De_24) d_De_spread_49 ?_
          refine lv_ldiv hx hb d_De_spread_52 (by decide) ?_
          refine lv_topl (fun x_6 e_7 => ?_)
          obtain rfl : x_6 = lN (D / 10 ^ (i + 1)) := e_7.trans ((pk_lDiv (b := 10) (by omega) (by omega) (by omega)).trans (by rw [dec_div]))
          refine lv_lstore_n (lv' := [(1, .long (lN (D / 10 ^ (i + 1)))), (0, .ref h)]) hx hb d_De_spread_53 rfl hl (by decide) rfl (fun ls hl => ?_)
          refine lv_aload_n hx hb d_De_spread_54 rfl (lv_at hl 1 rfl) ?_
          refine lv_dup hx hb d_De_spread_55 rfl ?_
          refine va_get (D := (dC, dI)) (ci := 0) (v := .int (nI i)) (C := R_De) (T := F_De) (N := 4) hx hb hts i_De hown hK hP 0 rfl rfl 1 (by decide) (hts _ fl_De_13) (fun _ h9 => h9) rfl d_De_spread_56 ?_
          refine lv_iconst (v := 1) hx hb d_De_spread_59 (by decide) ?_
          refine lv_iadd hx hb d_De_spread_60 ?_
          refine lv_topi (fun x_8 e_9 => ?_)
          obtain rfl : x_8 = nI (i + 1) := e_9.trans (nI_1 _)
          refine va_put (D := (dC, dI)) (ci := 0) (v := .int (nI (i + 1))) (ty := .int) (C := R_De) (T := F_De) (N := 4) hx hb hts i_De t_De t_De_ok n_De hown hK hP hD hS 0 rfl rfl 1 (by decide) (hts _ fl_De_13) (fun _ h9 => h9) rfl (by decide +kernel) rfl rfl (Nat.le_of_ble_eq_true rfl) d_De_spread_61 (fun H locs hP hD hS => ?_)
          have hP : va_P (dC, dI) cls [(h, .inr (0, [.ref w, .int (nI (i + 1)), .long (lN D), .int t])), (w, .inl (cC, 19, .inl (upd g i (nI (48 + D / 10 ^ i % 10)))))] H := hP
          have hD : va_D A [(h, .inr (0, [.ref w, .int (nI (i + 1)), .long (lN D), .int t])), (w, .inl (cC, 19, .inl (upd g i (nI (48 + D / 10 ^ i % 10)))))] := hD
          refine lv_goto (tgt := 10) hx hb d_De_spread_64 (by decide) ?_
          exact ih (i + 1) (upd g i (nI (48 + D / 10 ^ i % 10))) H locs ls (by omega) (by omega) (fun j h9 => by rcases Nat.lt_or_ge j i with q | q; exact hj j q; rw [show j = i from by omega]; exact hge) (dgs_put hg) hP hD hS (lv_sub hl [0, 1] rfl)
  exact lp 20 0 g H _ ls (by omega) (by omega) (fun j h9 => absurd h9 (Nat.not_lt_zero j)) (fun j h9 => absurd h9 (Nat.not_lt_zero j)) hP hD hS (by rw [Nat.pow_zero, Nat.div_one]; exact lv_sub hl [0, 1] rfl)
set_option maxHeartbeats 4000000 in
set_option maxRecDepth 100000 in
/-- become -/
theorem c_De_become (l : Launch) (dC : Nat → ClassId) (dI : Nat → Nat → Nat) (sz : Nat) (h w : Nat) (cC : ClassId) (g : Nat → Int32) (n0 t0 : Int32) (d0 : Int64) (N : Nat) (P : Int) (hN0 : 0 < N) (hN : N < 2 ^ 63) (hP1 : -2 ^ 20 < P) (hP2 : P < 2 ^ 20) : Met l y_De_become (Cond.code y_De_become b_De_become 5 none :: gT) ({ frames := 1, cells := 0, slots := 0, locals := 22 }) (va_Pc [.ref h, .long (lN N), .int (iZ P)] (pw_P (dC, dI) cls [(cC, .char)] pw_0 [(h, .inr (0, [.ref w, .int n0, .long d0, .int t0])), (w, .inl (cC, 19, .inl (g)))] sz)) (va_Qv (fun (uu : Nat × Nat × Nat × (Nat → Int32)) => uu.1 * 10 ^ uu.2.1 = N ∧ uu.1 % 10 ≠ 0 ∧ isnd uu.1 uu.2.2.1 ∧ dgs uu.2.2.2 uu.1 uu.2.2.1 ∧ uu.2.1 < 19) (fun (uu : Nat × Nat × Nat × (Nat → Int32)) => pw_B (dC, dI) cls [(cC, .char)] (va_A [(h, .inr (0, [.ref w, .int n0, .long d0, .int t0])), (w, .inl (cC, 19, .inl (g)))] sz) [(h, .inr (0, [.ref w, .int (nI uu.2.2.1), .long (lN uu.1), .int (iZ (P + uu.2.1))])), (w, .inl (cC, 19, .inl (uu.2.2.2)))]) (va_A [(h, .inr (0, [.ref w, .int n0, .long d0, .int t0])), (w, .inl (cC, 19, .inl (g)))] sz)) 0 0 (va_A [(h, .inr (0, [.ref w, .int n0, .long d0, .int t0])), (w, .inl (cC, 19, .inl (g)))] sz) := by
  refine pw_metv (tn := fun (uu : Nat × Nat × Nat × (Nat → Int32)) => [(cC, .char)]) (wn := fun (uu : Nat × Nat × Nat × (Nat → Int32)) => [(h, .inr (0, [.ref w, .int (nI uu.2.2.1), .long (lN uu.1), .int (iZ (P + uu.2.1))])), (w, .inl (cC, 19, .inl (uu.2.2.2)))]) (by decide) (Nat.le_of_ble_eq_true rfl) ?_
  intro p e s m args below meth c A Q H ls hx hb hml hown hts hnm hA hE hP hK hD hS hret hl
  have hown : s.vm.findClass R_De = some m.cls := hown
  have hl : lv_has ls 5 [(0, .ref h), (1, .long (lN N)), (3, .int (iZ P))] := hl
  refine lv_aload_n hx hb d_De_become_0 rfl (lv_at hl 0 rfl) ?_
  refine lv_lload_n hx hb d_De_become_1 rfl (lv_at hl 1 rfl) ?_
  refine va_put (D := (dC, dI)) (ci := 0) (v := .long (lN N)) (ty := .long) (C := R_De) (T := F_De) (N := 4) hx hb hts i_De t_De t_De_ok n_De hown hK hP hD hS 0 rfl rfl 2 (by decide) (hts _ fl_De_17) (fun _ h9 => h9) rfl (by decide +kernel) rfl rfl (Nat.le_of_ble_eq_true rfl) d_De_become_2 (fun H locs hP hD hS => ?_)
  have hP : va_P (dC, dI) cls [(h, .inr (0, [.ref w, .int n0, .long (lN N), .int t0])), (w, .inl (cC, 19, .inl (g)))] H := hP
  have hD : va_D A [(h, .inr (0, [.ref w, .int n0, .long (lN N), .int t0])), (w, .inl (cC, 19, .inl (g)))] := hD
  refine lv_aload_n hx hb d_De_become_5 rfl (lv_at hl 0 rfl) ?_
  refine lv_iload_n hx hb d_De_become_6 rfl (lv_at hl 2 rfl) ?_
  refine va_put (D := (dC, dI)) (ci := 0) (v := .int (iZ P)) (ty := .int) (C := R_De) (T := F_De) (N := 4) hx hb hts i_De t_De t_De_ok n_De hown hK hP hD hS 0 rfl rfl 3 (by decide) (hts _ fl_De_21) (fun _ h9 => h9) rfl (by decide +kernel) rfl rfl (Nat.le_of_ble_eq_true rfl) d_De_become_7 (fun H locs hP hD hS => ?_)
  have hP : va_P (dC, dI) cls [(h, .inr (0, [.ref w, .int n0, .long (lN N), .int (iZ P)])), (w, .inl (cC, 19, .inl (g)))] H := hP
  have hD : va_D A [(h, .inr (0, [.ref w, .int n0, .long (lN N), .int (iZ P)])), (w, .inl (cC, 19, .inl (g)))] := hD
  refine lv_iconst (v := 0) hx hb d_De_become_10 (by decide) ?_
  refine lv_istore (lv' := [(4, .int 0), (0, .ref h), (1, .long (lN N)), (3, .int (iZ P))]) hx hb d_De_become_11 hl (by decide) rfl (fun ls hl => ?_)
  have lp : ∀ (n k D : Nat) (H : Heap) (locs : List Loc) (ls : Array Slot), (19 < k + n) → (k ≤ 19) → (D * 10 ^ k = N) → va_P (dC, dI) cls [(h, .inr (0, [.ref w, .int n0, .long (lN D), .int (iZ (P + k))])), (w, .inl (cC, 19, .inl (g)))] H → va_D A [(h, .inr (0, [.ref w, .int n0, .long (lN D), .int (iZ (P + k))])), (w, .inl (cC, 19, .inl (g)))] → va_S A s.heap H locs → lv_has ls 5 [(4, .int (nI k)), (0, .ref h), (1, .long (lN N)), (3, .int (iZ P))] → W p l e { frames := 1, cells := 0, slots := 0, locals := 22 } s m args below meth c H locs 0 0 Q (F0 m 13 ls []) := by
    intro n
    induction n with
    | zero => intro k D H locs ls hn hk he hP hD hS hl; exact absurd hn (by omega)
    | succ n ih =>
      intro k D H locs ls hn hk he hP hD hS hl
      have hp : 0 < 10 ^ k := Nat.pow_pos (by decide)
      have hDN : D ≤ N := by rw [← he]; exact Nat.le_mul_of_pos_right _ hp
      have hD0 : 0 < D := by rcases Nat.eq_zero_or_pos D with q | q; rw [q, Nat.zero_mul] at he; omega; exact q
      have hkN : 10 ^ k ≤ N := by rw [← he]; exact Nat.le_mul_of_pos_left _ hD0
      refine lv_iload hx hb d_De_become_13 (lv_at hl 0 rfl) ?_
      refine lv_bipush (v := 19) hx hb d_De_become_15 (by decide) ?_
      refine lv_icmp_ge (tgt := 61) hx hb d_De_become_17 (by decide) (fun hc => ?_) (fun hc => ?_)
      · have h19 : 19 ≤ k := (nI_leI (a := 19) (b := k) (by omega) (by omega)).mp hc
        have : k = 19 := by omega
        subst this
        exact absurd hkN (by omega)
      · have h19 : k < 19 := by have := mt (nI_leI (a := 19) (b := k) (by omega) (by omega)).mpr hc; omega
        refine lv_aload_n hx hb d_De_become_20 rfl (lv_at hl 1 rfl) ?_
        refine va_get (D := (dC, dI)) (ci := 0) (v := .long (lN D)) (C := R_De) (T := F_De) (N := 4) hx hb hts i_De hown hK hP 0 rfl rfl 2 (by decide) (hts _ fl_De_17) (fun _ h9 => h9) rfl d_De_become_21 ?_
        refine lv_ldc2 (v := 10) hx hb hown (hts _ kl_De_24) d_De_become_24 ?_
        refine lv_lrem hx hb d_De_become_27 (by decide) ?_
        refine lv_topl (fun x_1 e_2 => ?_)
        obtain rfl : x_1 = lN (D % 10) := e_2.trans (pk_lRem (b := 10) (by omega) (by omega) (by omega))
        refine lv_lconst (v := 0) hx hb d_De_become_28 (by decide) ?_
        refine lx_ne (tgt := 61) hx hb d_De_become_29 d_De_become_30 (by decide) (fun hz => ?_) (fun hz => ?_)
        · have hz0 : D % 10 ≠ 0 := fun q => hz (by rw [q]; rfl)
          refine lv_aload_n hx hb d_De_become_61 rfl (lv_at hl 1 rfl) ?_
          refine pw_callv (wc := [(h, .inr (0, [.ref w, .int n0, .long (lN D), .int (iZ (P + k))])), (w, .inl (cC, 19, .inl (g)))]) (wr := []) [0, 1] [] rfl rfl rfl (by decide) (by decide) (by decide) hP hD hS hA (fun hPc hDc hF => va_runV (As := []) (rest := []) ⟨hx, hb, hml, hown, hts⟩ (c_De_spread l dC dI H.size h w cC g n0 (iZ (P + k)) D (by omega)) (cwV 0 hts (gw_V (gw_self cod_De_spread) ml_De_26 im_De_spread sel_De_spread ini_De) rfl rfl rfl (by decide +kernel) ⟨Nat.le_of_ble_eq_true rfl, Nat.le_of_ble_eq_true rfl⟩) (pw_preV pw_0_ok (trivial : pw_0 A s s.heap) hS hF hPc hDc (hK.sub [0] rfl) (va_recv hK hPc (ci := 0) (q0 := 0) rfl rfl)) rfl rfl hl.1 rfl (lv_room (Nat.le_of_ble_eq_true rfl)) d_De_become_62 ⟨Nat.le_of_ble_eq_true rfl, Nat.le_of_ble_eq_true rfl⟩) (fun uu H locs hw hK1 hP hD hS => ?_)
          have hP : va_P (dC, dI) cls [(h, .inr (0, [.ref w, .int (nI uu.1), .long (lN D), .int (iZ (P + k))])), (w, .inl (cC, 19, .inl (uu.2)))] H := hP
          have hD : va_D A [(h, .inr (0, [.ref w, .int (nI uu.1), .long (lN D), .int (iZ (P + k))])), (w, .inl (cC, 19, .inl (uu.2)))] := hD
          exact hret _ _ _ _ (D, k, uu.1, uu.2) d_De_become_65 ⟨he, hz0, hw.1, hw.2, h19⟩ hP hK hD hS
        · have hz0 : D % 10 = 0 := (pk_lEQ (b := 0) (by omega) (by omega)).mp hz
          refine lv_aload_n hx hb d_De_become_33 rfl (lv_at hl 1 rfl) ?_
          refine lv_dup hx hb d_De_become_34 rfl ?_
          refine va_get (D := (dC, dI)) (ci := 0) (v := .long (lN D)) (C := R_De) (T := F_De) (N := 4) hx hb hts i_De hown hK hP 0 rfl rfl 2 (by decide) (hts _ fl_De_17) (fun _ h9 => h9) rfl d_De_become_35 ?_
          refine lv_ldc2 (v := 10) hx hb hown (hts _ kl_De_24) d_De_become_38 ?_
          refine lv_ldiv hx hb d_De_become_41 (by decide) ?_
          refine lv_topl (fun x_3 e_4 => ?_)
          obtain rfl : x_3 = lN (D / 10) := e_4.trans (pk_lDiv (b := 10) (by omega) (by omega) (by omega))
          refine va_put (D := (dC, dI)) (ci := 0) (v := .long (lN (D / 10))) (ty := .long) (C := R_De) (T := F_De) (N := 4) hx hb hts i_De t_De t_De_ok n_De hown hK hP hD hS 0 rfl rfl 2 (by decide) (hts _ fl_De_17) (fun _ h9 => h9) rfl (by decide +kernel) rfl rfl (Nat.le_of_ble_eq_true rfl) d_De_become_42 (fun H locs hP hD hS => ?_)
          have hP : va_P (dC, dI) cls [(h, .inr (0, [.ref w, .int n0, .long (lN (D / 10)), .int (iZ (P + k))])), (w, .inl (cC, 19, .inl (g)))] H := hP
          have hD : va_D A [(h, .inr (0, [.ref w, .int n0, .long (lN (D / 10)), .int (iZ (P + k))])), (w, .inl (cC, 19, .inl (g)))] := hD
          refine lv_aload_n hx hb d_De_become_45 rfl (lv_at hl 1 rfl) ?_
          refine lv_dup hx hb d_De_become_46 rfl ?_
          refine va_get (D := (dC, dI)) (ci := 0) (v := .int (iZ (P + k))) (C := R_De) (T := F_De) (N := 4) hx hb hts i_De hown hK hP 0 rfl rfl 3 (by decide) (hts _ fl_De_21) (fun _ h9 => h9) rfl d_De_become_47 ?_
          refine lv_iconst (v := 1) hx hb d_De_become_50 (by decide) ?_
          refine lv_iadd hx hb d_De_become_51 ?_
          refine lv_topi (fun x_5 e_6 => ?_)
          obtain rfl : x_5 = iZ (P + ((k + 1 : Nat) : Int)) := e_6.trans ((iZ_add _ 1).trans (by congr 1; omega))
          refine va_put (D := (dC, dI)) (ci := 0) (v := .int (iZ (P + ((k + 1 : Nat) : Int)))) (ty := .int) (C := R_De) (T := F_De) (N := 4) hx hb hts i_De t_De t_De_ok n_De hown hK hP hD hS 0 rfl rfl 3 (by decide) (hts _ fl_De_21) (fun _ h9 => h9) rfl (by decide +kernel) rfl rfl (Nat.le_of_ble_eq_true rfl) d_De_become_52 (fun H locs hP hD hS => ?_)
          have hP : va_P (dC, dI) cls [(h, .inr (0, [.ref w, .int n0, .long (lN (D / 10)), .int (iZ (P + ((k + 1 : Nat) : Int)))])), (w, .inl (cC, 19, .inl (g)))] H := hP
          have hD : va_D A [(h, .inr (0, [.ref w, .int n0, .long (lN (D / 10)), .int (iZ (P + ((k + 1 : Nat) : Int)))])), (w, .inl (cC, 19, .inl (g)))] := hD
          refine lv_iinc (v := nI (k + 1)) (lv' := [(4, .int (nI (k + 1))), (0, .ref h), (1, .long (lN N)), (3, .int (iZ P))]) hx hb d_De_become_55 hl (k := 0) rfl (nI_1 _) (by decide) rfl (fun ls hl => ?_)
          refine lv_goto (tgt := 13) hx hb d_De_become_58 (by decide) ?_
          exact ih (k + 1) (D / 10) H locs ls (by omega) (by omega) (by rw [← he, Nat.pow_succ, Nat.mul_comm (10 ^ k), ← Nat.mul_assoc]; congr 1; omega) hP hD hS (lv_sub hl [0, 1, 2, 3] rfl)
  exact lp 20 0 N H _ ls (by omega) (by omega) (by rw [Nat.pow_zero, Nat.mul_one]) (by rw [show P + ((0 : Nat) : Int) = P from by omega]; exact hP) (by rw [show P + ((0 : Nat) : Int) = P from by omega]; exact hD) hS (lv_sub hl [0, 1, 2, 3] rfl)
set_option maxHeartbeats 4000000 in
set_option maxRecDepth 100000 in
/-- firstPlace -/
theorem c_De_firstPlace (l : Launch) (dC : Nat → ClassId) (dI : Nat → Nat → Nat) (sz : Nat) (h w : Nat) (cC : ClassId) (g : Nat → Int32) (n : Nat) (d : Int64) (T : Int)  : Met l y_De_firstPlace (Cond.code y_De_firstPlace b_De_firstPlace 1 (some .int) :: gT) ({ frames := 0, cells := 0, slots := 0, locals := 0 }) (va_Pc [.ref h] (pw_P (dC, dI) cls [(cC, .char)] pw_0 [(h, .inr (0, [.ref w, .int (nI n), .long d, .int (iZ T)])), (w, .inl (cC, 19, .inl (g)))] sz)) (va_Qi (fun (r : Int32) (uu : Unit) => r = iZ (T + n - 1)) (fun (uu : Unit) => pw_B (dC, dI) cls [(cC, .char)] (va_A [(h, .inr (0, [.ref w, .int (nI n), .long d, .int (iZ T)])), (w, .inl (cC, 19, .inl (g)))] sz) [(h, .inr (0, [.ref w, .int (nI n), .long d, .int (iZ T)])), (w, .inl (cC, 19, .inl (g)))]) (va_A [(h, .inr (0, [.ref w, .int (nI n), .long d, .int (iZ T)])), (w, .inl (cC, 19, .inl (g)))] sz)) 0 0 (va_A [(h, .inr (0, [.ref w, .int (nI n), .long d, .int (iZ T)])), (w, .inl (cC, 19, .inl (g)))] sz) := by
  refine pw_meti (tn := fun (uu : Unit) => [(cC, .char)]) (wn := fun (uu : Unit) => [(h, .inr (0, [.ref w, .int (nI n), .long d, .int (iZ T)])), (w, .inl (cC, 19, .inl (g)))]) (by decide) (Nat.le_of_ble_eq_true rfl) ?_
  intro p e s m args below meth c A Q H ls hx hb hml hown hts hA hE hP hK hD hS hret hl
  have hown : s.vm.findClass R_De = some m.cls := hown
  have hl : lv_has ls 1 [(0, .ref h)] := hl
  refine lv_aload_n hx hb d_De_firstPlace_0 rfl (lv_at hl 0 rfl) ?_
  refine va_get (D := (dC, dI)) (ci := 0) (v := .int (iZ T)) (C := R_De) (T := F_De) (N := 4) hx hb hts i_De hown hK hP 0 rfl rfl 3 (by decide) (hts _ fl_De_21) (fun _ h9 => h9) rfl d_De_firstPlace_1 ?_
  refine lv_aload_n hx hb d_De_firstPlace_4 rfl (lv_at hl 0 rfl) ?_
  refine va_get (D := (dC, dI)) (ci := 0) (v := .int (nI n)) (C := R_De) (T := F_De) (N := 4) hx hb hts i_De hown hK hP 0 rfl rfl 1 (by decide) (hts _ fl_De_13) (fun _ h9 => h9) rfl d_De_firstPlace_5 ?_
  refine lv_iadd hx hb d_De_firstPlace_8 ?_
  refine lv_topi (fun x_1 e_2 => ?_)
  obtain rfl : x_1 = iZ (T + n) := e_2.trans (by rw [iZ_N]; exact iZ_add _ _)
  refine lv_iconst (v := 1) hx hb d_De_firstPlace_9 (by decide) ?_
  refine lv_isub hx hb d_De_firstPlace_10 ?_
  refine lv_topi (fun x_3 e_4 => ?_)
  obtain rfl : x_3 = iZ (T + n - 1) := e_4.trans (iZ_sub _ 1)
  exact hret _ _ _ _ _ () d_De_firstPlace_11 (vp_nar_int _) rfl hP hK hD hS
set_option maxHeartbeats 4000000 in
set_option maxRecDepth 100000 in
/-- digitAt -/
theorem c_De_digitAt (l : Launch) (dC : Nat → ClassId) (dI : Nat → Nat → Nat) (sz : Nat) (h w : Nat) (cC : ClassId) (g : Nat → Int32) (D n : Nat) (T P : Int) (hn : isnd D n) (hg : dgs g D n) (hD : D < 2 ^ 63) (h1 : -2 ^ 20 < T) (h2 : T < 2 ^ 20) (h3 : -2 ^ 20 < P) (h4 : P < 2 ^ 20) : Met l y_De_digitAt (Cond.code y_De_digitAt b_De_digitAt 3 (some .char) :: gT) ({ frames := 0, cells := 0, slots := 0, locals := 0 }) (va_Pc [.ref h, .int (iZ P)] (pw_P (dC, dI) cls [(cC, .char)] pw_0 [(h, .inr (0, [.ref w, .int (nI n), .long (lN D), .int (iZ T)])), (w, .inl (cC, 19, .inl (g)))] sz)) (va_Qi (fun (r : Int32) (uu : Unit) => r = nI (dga D (P - T))) (fun (uu : Unit) => pw_B (dC, dI) cls [(cC, .char)] (va_A [(h, .inr (0, [.ref w, .int (nI n), .long (lN D), .int (iZ T)])), (w, .inl (cC, 19, .inl (g)))] sz) [(h, .inr (0, [.ref w, .int (nI n), .long (lN D), .int (iZ T)])), (w, .inl (cC, 19, .inl (g)))]) (va_A [(h, .inr (0, [.ref w, .int (nI n), .long (lN D), .int (iZ T)])), (w, .inl (cC, 19, .inl (g)))] sz)) 0 0 (va_A [(h, .inr (0, [.ref w, .int (nI n), .long (lN D), .int (iZ T)])), (w, .inl (cC, 19, .inl (g)))] sz) := by
  refine pw_meti (tn := fun (uu : Unit) => [(cC, .char)]) (wn := fun (uu : Unit) => [(h, .inr (0, [.ref w, .int (nI n), .long (lN D), .int (iZ T)])), (w, .inl (cC, 19, .inl (g)))]) (by decide) (Nat.le_of_ble_eq_true rfl) ?_
  intro p e s m args below meth c A Q H ls hx hb hml hown hts hA hE hP hK hD hS hret hl
  have hown : s.vm.findClass R_De = some m.cls := hown
  have hl : lv_has ls 3 [(0, .ref h), (1, .int (iZ P))] := hl
  have hn19 : n ≤ 19 := isnd_le hn (by omega)
  have hD7 := hD
  refine lv_iload_n hx hb d_De_digitAt_0 rfl (lv_at hl 1 rfl) ?_
  refine lv_aload_n hx hb d_De_digitAt_1 rfl (lv_at hl 0 rfl) ?_
  refine va_get (D := (dC, dI)) (ci := 0) (v := .int (iZ T)) (C := R_De) (T := F_De) (N := 4) hx hb hts i_De hown hK hP 0 rfl rfl 3 (by decide) (hts _ fl_De_21) (fun _ h9 => h9) rfl d_De_digitAt_2 ?_
  refine lv_isub hx hb d_De_digitAt_5 ?_
  refine lv_topi (fun x_1 e_2 => ?_)
  obtain rfl : x_1 = iZ (P - T) := e_2.trans (iZ_sub _ _)
  refine lv_istore_n (lv' := [(2, .int (iZ (P - T))), (0, .ref h), (1, .int (iZ P))]) hx hb d_De_digitAt_6 rfl hl (by decide) rfl (fun ls hl => ?_)
  refine lv_iload_n hx hb d_De_digitAt_7 rfl (lv_at hl 0 rfl) ?_
  refine lv_if_lt (tgt := 37) hx hb d_De_digitAt_8 (by decide) (fun hc => ?_) (fun hc => ?_)
  · have hz : P - T < 0 := (iZ_lt (b := 0) (by omega) (by omega) (by omega) (by omega)).mp hc
    have e0 : dga D (P - T) = 48 := if_neg (by omega)
    refine lv_bipush (v := 48) hx hb d_De_digitAt_37 (by decide) ?_
    exact hret _ _ _ _ _ () d_De_digitAt_39 rfl (by rw [e0]; rfl) hP hK hD hS
  · have hz : 0 ≤ P - T := by have := mt (iZ_lt (a := P - T) (b := 0) (by omega) (by omega) (by omega) (by omega)).mpr hc; omega
    obtain ⟨j, hj⟩ : ∃ j : Nat, P - T = j := ⟨(P - T).toNat, by omega⟩
    rw [hj, ← iZ_N] at hl
    have hda : dga D (P - T) = 48 + D / 10 ^ j % 10 := by rw [hj]; exact if_pos (by omega)
    refine lv_iload_n hx hb d_De_digitAt_11 rfl (lv_at hl 0 rfl) ?_
    refine lv_aload_n hx hb d_De_digitAt_12 rfl (lv_at hl 1 rfl) ?_
    refine va_get (D := (dC, dI)) (ci := 0) (v := .int (nI n)) (C := R_De) (T := F_De) (N := 4) hx hb hts i_De hown hK hP 0 rfl rfl 1 (by decide) (hts _ fl_De_13) (fun _ h9 => h9) rfl d_De_digitAt_13 ?_
    refine lv_icmp_ge (tgt := 37) hx hb d_De_digitAt_16 (by decide) (fun hc2 => ?_) (fun hc2 => ?_)
    · have hge : n ≤ j := (nI_leI (by omega) (by omega)).mp hc2
      have e0 : dga D (P - T) = 48 := by rw [hda, Nat.div_eq_of_lt (Nat.lt_of_lt_of_le hn.1 (Nat.pow_le_pow_right (by decide) hge))]
      refine lv_bipush (v := 48) hx hb d_De_digitAt_37 (by decide) ?_
      exact hret _ _ _ _ _ () d_De_digitAt_39 rfl (by rw [e0]; rfl) hP hK hD hS
    · have hlt : j < n := by have := mt (nI_leI (a := n) (b := j) (by omega) (by omega)).mpr hc2; omega
      refine lv_iload_n hx hb d_De_digitAt_19 rfl (lv_at hl 0 rfl) ?_
      refine lv_aload_n hx hb d_De_digitAt_20 rfl (lv_at hl 1 rfl) ?_
      refine va_get (D := (dC, dI)) (ci := 0) (v := .ref w) (C := R_De) (T := F_De) (N := 4) hx hb hts i_De hown hK hP 0 rfl rfl 0 (by decide) (hts _ fl_De_9) (fun _ h9 => h9) rfl d_De_digitAt_21 ?_
      refine va_alen (v := nI 19) hx hb hK hP 1 0 rfl rfl rfl d_De_digitAt_24 ?_
      refine lv_icmp_ge (tgt := 37) hx hb d_De_digitAt_25 (by decide) (fun hc3 => ?_) (fun hc3 => ?_)
      · exact absurd ((nI_leI (a := 19) (b := j) (by omega) (by omega)).mp hc3) (by omega)
      · refine lv_aload_n hx hb d_De_digitAt_28 rfl (lv_at hl 1 rfl) ?_
        refine va_get (D := (dC, dI)) (ci := 0) (v := .ref w) (C := R_De) (T := F_De) (N := 4) hx hb hts i_De hown hK hP 0 rfl rfl 0 (by decide) (hts _ fl_De_9) (fun _ h9 => h9) rfl d_De_digitAt_29 ?_
        refine lv_iload_n hx hb d_De_digitAt_32 rfl (lv_at hl 0 rfl) ?_
        refine va_cald hx hb hK hP 1 0 rfl rfl (vp_in_nI (by omega) (by omega)) d_De_digitAt_33 ?_
        refine lv_topi (fun x_3 e_4 => ?_)
        obtain rfl : x_3 = nI (48 + D / 10 ^ j % 10) := e_4.trans (by rw [nI_clamp (by omega)]; exact hg j hlt)
        refine lv_goto (tgt := 39) hx hb d_De_digitAt_34 (by decide) ?_
        exact hret _ _ _ _ _ () d_De_digitAt_39 (pk_charN (by omega)).1 (by rw [hda]) hP hK hD hS

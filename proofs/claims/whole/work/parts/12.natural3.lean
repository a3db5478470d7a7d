set_option maxHeartbeats 4000000 in
set_option maxRecDepth 100000 in
/-- compareWith -/
theorem c_Na_compareWith (l : Launch) (dC : Nat → ClassId) (dI : Nat → Nat → Nat) (sz : Nat) (h w h2 w2 : Nat) (cJ : ClassId) (V u U v : Nat) (hV : V < 2 ^ (32 * u)) (hu : u ≤ 26) (hU : U < 2 ^ (32 * v)) (hv : v ≤ 26) : Met l y_Na_compareWith (Cond.code y_Na_compareWith b_Na_compareWith 4 (some .int) :: gT) ({ frames := 1, cells := 0, slots := 0, locals := 21 }) (va_Pc [.ref h, .ref h2] (pw_P (dC, dI) cls [(cJ, .long)] pw_0 [(h, .inr (2, [.ref w, .int (nI u)])), (w, .inl (cJ, 26, .inr (.inl (bn_f V)))), (h2, .inr (2, [.ref w2, .int (nI v)])), (w2, .inl (cJ, 26, .inr (.inl (bn_f U))))] sz)) (va_Qi (fun (r : Int32) (uu : Unit) => r = bn_cmp V U) (fun (uu : Unit) => pw_B (dC, dI) cls [(cJ, .long)] (va_A [(h, .inr (2, [.ref w, .int (nI u)])), (w, .inl (cJ, 26, .inr (.inl (bn_f V)))), (h2, .inr (2, [.ref w2, .int (nI v)])), (w2, .inl (cJ, 26, .inr (.inl (bn_f U))))] sz) [(h, .inr (2, [.ref w, .int (nI u)])), (w, .inl (cJ, 26, .inr (.inl (bn_f V)))), (h2, .inr (2, [.ref w2, .int (nI v)])), (w2, .inl (cJ, 26, .inr (.inl (bn_f U))))]) (va_A [(h, .inr (2, [.ref w, .int (nI u)])), (w, .inl (cJ, 26, .inr (.inl (bn_f V)))), (h2, .inr (2, [.ref w2, .int (nI v)])), (w2, .inl (cJ, 26, .inr (.inl (bn_f U))))] sz)) 0 0 (va_A [(h, .inr (2, [.ref w, .int (nI u)])), (w, .inl (cJ, 26, .inr (.inl (bn_f V)))), (h2, .inr (2, [.ref w2, .int (nI v)])), (w2, .inl (cJ, 26, .inr (.inl (bn_f U))))] sz) := by
  refine pw_meti (tn := fun (uu : Unit) => [(cJ, .long)]) (wn := fun (uu : Unit) => [(h, .inr (2, [.ref w, .int (nI u)])), (w, .inl (cJ, 26, .inr (.inl (bn_f V)))), (h2, .inr (2, [.ref w2, .int (nI v)])), (w2, .inl (cJ, 26, .inr (.inl (bn_f U))))]) (by decide) (Nat.le_of_ble_eq_true rfl) ?_
  intro p e s m args below meth c A Q H ls hx hb hml hown hts hA hE hP hK hD hS hret hl
  have hown : s.vm.findClass R_Na = some m.cls := hown
  have hl : lv_has ls 4 [(0, .ref h), (1, .ref h2)] := hl
  have hm1 : max u v ≤ 26 := Nat.max_le.mpr ⟨hu, hv⟩
  refine lv_aload_n hx hb d_Na_compareWith_0 rfl (lv_at hl 0 rfl) ?_
  refine va_get (D := (dC, dI)) (ci := 2) (v := .int (nI u)) (C := R_Na) (T := F_Na) (N := 2) hx hb hts i_Na hown hK hP 0 rfl rfl 1 (by decide) (hts _ fl_Na_13) (fun _ h9 => h9) rfl d_Na_compareWith_1 ?_
  refine lv_aload_n hx hb d_Na_compareWith_4 rfl (lv_at hl 1 rfl) ?_
  refine va_get (D := (dC, dI)) (ci := 2) (v := .int (nI v)) (C := R_Na) (T := F_Na) (N := 2) hx hb hts i_Na hown hK hP 2 rfl rfl 1 (by decide) (hts _ fl_Na_13) (fun _ h9 => h9) rfl d_Na_compareWith_5 ?_
  refine va_mmax hx hb (hml.trans hl.1.symm) hown (hts _ ml_Na_35) (hts _ sta_Ma_max) (hts _ ini_Ma) (hts _ cod_Ma_max) (Nat.le_of_ble_eq_true rfl) (Nat.le_of_ble_eq_true rfl) (Nat.zero_le _) (Nat.zero_le _) d_Na_compareWith_8 ?_
  refine lv_topi (fun x_1 e_2 => ?_)
  obtain rfl : x_1 = nI (max u v) := e_2.trans (iZ_max u v (by omega) (by omega))
  refine lv_aload_n hx hb d_Na_compareWith_11 rfl (lv_at hl 0 rfl) ?_
  refine va_get (D := (dC, dI)) (ci := 2) (v := .ref w) (C := R_Na) (T := F_Na) (N := 2) hx hb hts i_Na hown hK hP 0 rfl rfl 0 (by decide) (hts _ fl_Na_9) (fun _ h9 => h9) rfl d_Na_compareWith_12 ?_
  refine va_alen (v := nI 26) hx hb hK hP 1 0 rfl rfl rfl d_Na_compareWith_15 ?_
  refine va_mmin hx hb (hml.trans hl.1.symm) hown (hts _ ml_Na_19) (hts _ sta_Ma_min) (hts _ ini_Ma) (hts _ cod_Ma_min) (Nat.le_of_ble_eq_true rfl) (Nat.le_of_ble_eq_true rfl) (Nat.zero_le _) (Nat.zero_le _) d_Na_compareWith_16 ?_
  refine lv_topi (fun x_3 e_4 => ?_)
  obtain rfl : x_3 = nI (max u v) := e_4.trans ((iZ_min (max u v) 26 (by omega) (by omega)).trans (by rw [Nat.min_eq_left hm1]))
  refine lv_istore_n (lv' := [(2, .int (nI (max u v))), (0, .ref h), (1, .ref h2)]) hx hb d_Na_compareWith_19 rfl hl (by decide) rfl (fun ls hl => ?_)
  refine lv_iload_n hx hb d_Na_compareWith_20 rfl (lv_at hl 0 rfl) ?_
  refine lv_iconst (v := 1) hx hb d_Na_compareWith_21 (by decide) ?_
  refine lv_isub hx hb d_Na_compareWith_22 ?_
  refine lv_topi (fun x_5 e_6 => ?_)
  obtain rfl : x_5 = iZ (((max u v : Nat) : Int) - 1) := e_6.trans (iZ_pred _)
  refine lv_istore_n (lv' := [(3, .int (iZ (((max u v : Nat) : Int) - 1))), (2, .int (nI (max u v))), (0, .ref h), (1, .ref h2)]) hx hb d_Na_compareWith_23 rfl hl (by decide) rfl (fun ls hl => ?_)
  have lp : ∀ (n j : Nat) (H : Heap) (locs : List Loc) (ls : Array Slot), (j < n) → (j ≤ 26) → (V / 2 ^ (32 * j) = U / 2 ^ (32 * j)) → va_P (dC, dI) cls [(h, .inr (2, [.ref w, .int (nI u)])), (w, .inl (cJ, 26, .inr (.inl (bn_f V)))), (h2, .inr (2, [.ref w2, .int (nI v)])), (w2, .inl (cJ, 26, .inr (.inl (bn_f U))))] H → va_D A [(h, .inr (2, [.ref w, .int (nI u)])), (w, .inl (cJ, 26, .inr (.inl (bn_f V)))), (h2, .inr (2, [.ref w2, .int (nI v)])), (w2, .inl (cJ, 26, .inr (.inl (bn_f U))))] → va_S A s.heap H locs → lv_has ls 4 [(3, .int (iZ ((j : Int) - 1))), (0, .ref h), (1, .ref h2)] → W p l e { frames := 1, cells := 0, slots := 0, locals := 21 } s m args below meth c H locs 0 0 Q (F0 m 24 ls []) := by
    intro n
    induction n with
    | zero => intro j H locs ls hn hj hq hP hD hS hl; exact absurd hn (by omega)
    | succ n ih =>
      intro j H locs ls hn hj hq hP hD hS hl
      refine lv_iload_n hx hb d_Na_compareWith_24 rfl (lv_at hl 0 rfl) ?_
      refine lv_if_lt (tgt := 72) hx hb d_Na_compareWith_25 (by decide) (fun hc => ?_) (fun hc => ?_)
      · have hj0 : j = 0 := by have := (iZ_lt (a := (j : Int) - 1) (b := 0) (by omega) (by omega) (by omega) (by omega)).mp hc; omega
        subst hj0
        have hVU : V = U := by simpa using hq
        refine lv_iconst (v := 0) hx hb d_Na_compareWith_72 (by decide) ?_
        exact hret _ _ _ _ _ () d_Na_compareWith_73 (vp_nar_int _) (by rw [hVU, bn_cmp_e]) hP hK hD hS
      · have hj0 : 0 < j := by have := mt (iZ_lt (a := (j : Int) - 1) (b := 0) (by omega) (by omega) (by omega) (by omega)).mpr hc; omega
        obtain ⟨i, rfl⟩ : ∃ i, j = i + 1 := ⟨j - 1, by omega⟩
        rw [iZ_succ'] at hl
        have hw1 := bn_w_lt V i
        have hw2 := bn_w_lt U i
        refine lv_aload_n hx hb d_Na_compareWith_28 rfl (lv_at hl 1 rfl) ?_
        refine va_get (D := (dC, dI)) (ci := 2) (v := .ref w) (C := R_Na) (T := F_Na) (N := 2) hx hb hts i_Na hown hK hP 0 rfl rfl 0 (by decide) (hts _ fl_Na_9) (fun _ h9 => h9) rfl d_Na_compareWith_29 ?_
        refine lv_iload_n hx hb d_Na_compareWith_32 rfl (lv_at hl 0 rfl) ?_
        refine va_lald hx hb hK hP 1 0 rfl rfl (vp_in_nI (by omega) (by omega)) d_Na_compareWith_33 ?_
        refine lv_topl (fun x_7 e_8 => ?_)
        obtain rfl : x_7 = lN (bn_w V i) := e_8.trans (by rw [nI_clamp (by omega)]; rfl)
        refine lv_aload_n hx hb d_Na_compareWith_34 rfl (lv_at hl 2 rfl) ?_
        refine va_get (D := (dC, dI)) (ci := 2) (v := .ref w2) (C := R_Na) (T := F_Na) (N := 2) hx hb hts i_Na hown hK hP 2 rfl rfl 0 (by decide) (hts _ fl_Na_9) (fun _ h9 => h9) rfl d_Na_compareWith_35 ?_
        refine lv_iload_n hx hb d_Na_compareWith_38 rfl (lv_at hl 0 rfl) ?_
        refine va_lald hx hb hK hP 3 0 rfl rfl (vp_in_nI (by omega) (by omega)) d_Na_compareWith_39 ?_
        refine lv_topl (fun x_9 e_10 => ?_)
        obtain rfl : x_9 = lN (bn_w U i) := e_10.trans (by rw [nI_clamp (by omega)]; rfl)
        refine lx_eq (tgt := 66) hx hb d_Na_compareWith_40 d_Na_compareWith_41 (by decide) (fun hz => ?_) (fun hz => ?_)
        · have hz0 : bn_w V i = bn_w U i := (pk_lEQ (by omega) (by omega)).mp hz
          refine lv_iinc (v := iZ ((i : Int) - 1)) (lv' := [(3, .int (iZ ((i : Int) - 1))), (0, .ref h), (1, .ref h2)]) hx hb d_Na_compareWith_66 hl (k := 0) rfl (by rw [iZ_N]; exact iZ_add _ (-1)) (by decide) rfl (fun ls hl => ?_)
          refine lv_goto (tgt := 24) hx hb d_Na_compareWith_69 (by decide) ?_
          exact ih i H locs ls (by omega) (by omega) (bn_cmp_eq hq hz0) hP hD hS (lv_sub hl [0, 1, 2] rfl)
        · refine lv_aload_n hx hb d_Na_compareWith_44 rfl (lv_at hl 1 rfl) ?_
          refine va_get (D := (dC, dI)) (ci := 2) (v := .ref w) (C := R_Na) (T := F_Na) (N := 2) hx hb hts i_Na hown hK hP 0 rfl rfl 0 (by decide) (hts _ fl_Na_9) (fun _ h9 => h9) rfl d_Na_compareWith_45 ?_
          refine lv_iload_n hx hb d_Na_compareWith_48 rfl (lv_at hl 0 rfl) ?_
          refine va_lald hx hb hK hP 1 0 rfl rfl (vp_in_nI (by omega) (by omega)) d_Na_compareWith_49 ?_
          refine lv_topl (fun x_11 e_12 => ?_)
          obtain rfl : x_11 = lN (bn_w V i) := e_12.trans (by rw [nI_clamp (by omega)]; rfl)
          refine lv_aload_n hx hb d_Na_compareWith_50 rfl (lv_at hl 2 rfl) ?_
          refine va_get (D := (dC, dI)) (ci := 2) (v := .ref w2) (C := R_Na) (T := F_Na) (N := 2) hx hb hts i_Na hown hK hP 2 rfl rfl 0 (by decide) (hts _ fl_Na_9) (fun _ h9 => h9) rfl d_Na_compareWith_51 ?_
          refine lv_iload_n hx hb d_Na_compareWith_54 rfl (lv_at hl 0 rfl) ?_
          refine va_lald hx hb hK hP 3 0 rfl rfl (vp_in_nI (by omega) (by omega)) d_Na_compareWith_55 ?_
          refine lv_topl (fun x_13 e_14 => ?_)
          obtain rfl : x_13 = lN (bn_w U i) := e_14.trans (by rw [nI_clamp (by omega)]; rfl)
          refine lx_ge (tgt := 64) hx hb d_Na_compareWith_56 d_Na_compareWith_57 (by decide) (fun hy => ?_) (fun hy => ?_)
          · have hle : bn_w U i ≤ bn_w V i := (pk_lLE (by omega) (by omega)).mp hy
            have hne : bn_w V i ≠ bn_w U i := fun q => hz (by rw [q])
            refine lv_iconst (v := 1) hx hb d_Na_compareWith_64 (by decide) ?_
            exact hret _ _ _ _ _ () d_Na_compareWith_65 (vp_nar_int _) (bn_cmp_g (bn_cmp_lt hq.symm (by omega))).symm hP hK hD hS
          · have hlt : bn_w V i < bn_w U i := by have := mt (pk_lLE (a := bn_w U i) (b := bn_w V i) (by omega) (by omega)).mpr hy; omega
            refine lv_iconst (v := (-1)) hx hb d_Na_compareWith_60 (by decide) ?_
            refine lv_goto (tgt := 65) hx hb d_Na_compareWith_61 (by decide) ?_
            exact hret _ _ _ _ _ () d_Na_compareWith_65 (vp_nar_int _) (bn_cmp_l (bn_cmp_lt hq hlt)).symm hP hK hD hS
  have h1 : V < 2 ^ (32 * max u v) := Nat.lt_of_lt_of_le hV (bn_ple (Nat.le_max_left _ _))
  have h2 : U < 2 ^ (32 * max u v) := Nat.lt_of_lt_of_le hU (bn_ple (Nat.le_max_right _ _))
  exact lp (max u v + 1) (max u v) H [] ls (by omega) hm1 (by rw [bn_div_0 h1, bn_div_0 h2]) hP hD hS (lv_sub hl [0, 2, 3] rfl)
set_option maxHeartbeats 4000000 in
set_option maxRecDepth 100000 in
/-- compareSum -/
theorem c_Na_compareSum (l : Launch) (dC : Nat → ClassId) (dI : Nat → Nat → Nat) (sz : Nat) (h w h2 w2 h3 w3 : Nat) (cJ : ClassId) (X u Y v Z q : Nat) (hX : X < 2 ^ (32 * u)) (hu : u ≤ 26) (hY : Y < 2 ^ (32 * v)) (hv : v ≤ 26) (hZ : Z < 2 ^ (32 * q)) (hq : q ≤ 26) : Met l y_Na_compareSum (Cond.code y_Na_compareSum b_Na_compareSum 11 (some .int) :: gT) ({ frames := 1, cells := 0, slots := 0, locals := 21 }) (va_Pc [.ref h, .ref h2, .ref h3] (pw_P (dC, dI) cls [(cJ, .long)] pw_0 [(h, .inr (2, [.ref w, .int (nI u)])), (w, .inl (cJ, 26, .inr (.inl (bn_f X)))), (h2, .inr (2, [.ref w2, .int (nI v)])), (w2, .inl (cJ, 26, .inr (.inl (bn_f Y)))), (h3, .inr (2, [.ref w3, .int (nI q)])), (w3, .inl (cJ, 26, .inr (.inl (bn_f Z))))] sz)) (va_Qi (fun (r : Int32) (uu : Unit) => r = bn_cmp (X + Y) Z) (fun (uu : Unit) => pw_B (dC, dI) cls [(cJ, .long)] (va_A [(h, .inr (2, [.ref w, .int (nI u)])), (w, .inl (cJ, 26, .inr (.inl (bn_f X)))), (h2, .inr (2, [.ref w2, .int (nI v)])), (w2, .inl (cJ, 26, .inr (.inl (bn_f Y)))), (h3, .inr (2, [.ref w3, .int (nI q)])), (w3, .inl (cJ, 26, .inr (.inl (bn_f Z))))] sz) [(h, .inr (2, [.ref w, .int (nI u)])), (w, .inl (cJ, 26, .inr (.inl (bn_f X)))), (h2, .inr (2, [.ref w2, .int (nI v)])), (w2, .inl (cJ, 26, .inr (.inl (bn_f Y)))), (h3, .inr (2, [.ref w3, .int (nI q)])), (w3, .inl (cJ, 26, .inr (.inl (bn_f Z))))]) (va_A [(h, .inr (2, [.ref w, .int (nI u)])), (w, .inl (cJ, 26, .inr (.inl (bn_f X)))), (h2, .inr (2, [.ref w2, .int (nI v)])), (w2, .inl (cJ, 26, .inr (.inl (bn_f Y)))), (h3, .inr (2, [.ref w3, .int (nI q)])), (w3, .inl (cJ, 26, .inr (.inl (bn_f Z))))] sz)) 0 0 (va_A [(h, .inr (2, [.ref w, .int (nI u)])), (w, .inl (cJ, 26, .inr (.inl (bn_f X)))), (h2, .inr (2, [.ref w2, .int (nI v)])), (w2, .inl (cJ, 26, .inr (.inl (bn_f Y)))), (h3, .inr (2, [.ref w3, .int (nI q)])), (w3, .inl (cJ, 26, .inr (.inl (bn_f Z))))] sz) := by
  refine pw_meti (tn := fun (uu : Unit) => [(cJ, .long)]) (wn := fun (uu : Unit) => [(h, .inr (2, [.ref w, .int (nI u)])), (w, .inl (cJ, 26, .inr (.inl (bn_f X)))), (h2, .inr (2, [.ref w2, .int (nI v)])), (w2, .inl (cJ, 26, .inr (.inl (bn_f Y)))), (h3, .inr (2, [.ref w3, .int (nI q)])), (w3, .inl (cJ, 26, .inr (.inl (bn_f Z))))]) (by decide) (Nat.le_of_ble_eq_true rfl) ?_
  intro p e s m args below meth c A Q H ls hx hb hml hown hts hA hE hP hK hD hS hret hl
  have hown : s.vm.findClass R_Na = some m.cls := hown
  have hl : lv_has ls 11 [(0, .ref h), (1, .ref h2), (2, .ref h3)] := hl
  have hm1 : max (max u v) q ≤ 26 := Nat.max_le.mpr ⟨Nat.max_le.mpr ⟨hu, hv⟩, hq⟩
  have hm0 : max u v ≤ 26 := Nat.max_le.mpr ⟨hu, hv⟩
  refine lv_aload_n hx hb d_Na_compareSum_0 rfl (lv_at hl 0 rfl) ?_
  refine va_get (D := (dC, dI)) (ci := 2) (v := .int (nI u)) (C := R_Na) (T := F_Na) (N := 2) hx hb hts i_Na hown hK hP 0 rfl rfl 1 (by decide) (hts _ fl_Na_13) (fun _ h9 => h9) rfl d_Na_compareSum_1 ?_
  refine lv_aload_n hx hb d_Na_compareSum_4 rfl (lv_at hl 1 rfl) ?_
  refine va_get (D := (dC, dI)) (ci := 2) (v := .int (nI v)) (C := R_Na) (T := F_Na) (N := 2) hx hb hts i_Na hown hK hP 2 rfl rfl 1 (by decide) (hts _ fl_Na_13) (fun _ h9 => h9) rfl d_Na_compareSum_5 ?_
  refine va_mmax hx hb (hml.trans hl.1.symm) hown (hts _ ml_Na_35) (hts _ sta_Ma_max) (hts _ ini_Ma) (hts _ cod_Ma_max) (Nat.le_of_ble_eq_true rfl) (Nat.le_of_ble_eq_true rfl) (Nat.zero_le _) (Nat.zero_le _) d_Na_compareSum_8 ?_
  refine lv_topi (fun x_1 e_2 => ?_)
  obtain rfl : x_1 = nI (max u v) := e_2.trans (iZ_max u v (by omega) (by omega))
  refine lv_aload_n hx hb d_Na_compareSum_11 rfl (lv_at hl 2 rfl) ?_
  refine va_get (D := (dC, dI)) (ci := 2) (v := .int (nI q)) (C := R_Na) (T := F_Na) (N := 2) hx hb hts i_Na hown hK hP 4 rfl rfl 1 (by decide) (hts _ fl_Na_13) (fun _ h9 => h9) rfl d_Na_compareSum_12 ?_
  refine va_mmax hx hb (hml.trans hl.1.symm) hown (hts _ ml_Na_35) (hts _ sta_Ma_max) (hts _ ini_Ma) (hts _ cod_Ma_max) (Nat.le_of_ble_eq_true rfl) (Nat.le_of_ble_eq_true rfl) (Nat.zero_le _) (Nat.zero_le _) d_Na_compareSum_15 ?_
  refine lv_topi (fun x_3 e_4 => ?_)
  obtain rfl : x_3 = nI (max (max u v) q) := e_4.trans (iZ_max (max u v) q (by omega) (by omega))
  generalize hE0 : max (max u v) q = M at *
  refine lv_bipush (v := 26) hx hb d_Na_compareSum_18 (by decide) ?_
  refine va_mmin hx hb (hml.trans hl.1.symm) hown (hts _ ml_Na_19) (hts _ sta_Ma_min) (hts _ ini_Ma) (hts _ cod_Ma_min) (Nat.le_of_ble_eq_true rfl) (Nat.le_of_ble_eq_true rfl) (Nat.zero_le _) (Nat.zero_le _) d_Na_compareSum_20 ?_
  refine lv_topi (fun x_5 e_6 => ?_)
  obtain rfl : x_5 = nI M := e_6.trans ((iZ_min M 26 (by omega) (by omega)).trans (by rw [Nat.min_eq_left hm1]))
  refine lv_istore_n (lv' := [(3, .int (nI M)), (0, .ref h), (1, .ref h2), (2, .ref h3)]) hx hb d_Na_compareSum_23 rfl hl (by decide) rfl (fun ls hl => ?_)
  refine lv_lconst (v := 0) hx hb d_Na_compareSum_24 (by decide) ?_
  refine lv_lstore (lv' := [(4, .long 0), (3, .int (nI M)), (0, .ref h), (1, .ref h2), (2, .ref h3)]) hx hb d_Na_compareSum_25 hl (by decide) rfl (fun ls hl => ?_)
  refine lv_lconst (v := 0) hx hb d_Na_compareSum_27 (by decide) ?_
  refine lv_lstore (lv' := [(6, .long 0), (4, .long 0), (3, .int (nI M)), (0, .ref h), (1, .ref h2), (2, .ref h3)]) hx hb d_Na_compareSum_28 hl (by decide) rfl (fun ls hl => ?_)
  refine lv_iconst (v := 0) hx hb d_Na_compareSum_30 (by decide) ?_
  refine lv_istore (lv' := [(8, .int 0), (6, .long 0), (4, .long 0), (3, .int (nI M)), (0, .ref h), (1, .ref h2), (2, .ref h3)]) hx hb d_Na_compareSum_31 hl (by decide) rfl (fun ls hl => ?_)
  have lp : ∀ (n i : Nat) (sn : Int64) (H : Heap) (locs : List Loc) (ls : Array Slot), (i ≤ M) → (M + 1 ≤ i + n) → (sn = 0 ↔ bn_d X Y Z i % (2 ^ (32 * i) : Nat) = 0) → va_P (dC, dI) cls [(h, .inr (2, [.ref w, .int (nI u)])), (w, .inl (cJ, 26, .inr (.inl (bn_f X)))), (h2, .inr (2, [.ref w2, .int (nI v)])), (w2, .inl (cJ, 26, .inr (.inl (bn_f Y)))), (h3, .inr (2, [.ref w3, .int (nI q)])), (w3, .inl (cJ, 26, .inr (.inl (bn_f Z))))] H → va_D A [(h, .inr (2, [.ref w, .int (nI u)])), (w, .inl (cJ, 26, .inr (.inl (bn_f X)))), (h2, .inr (2, [.ref w2, .int (nI v)])), (w2, .inl (cJ, 26, .inr (.inl (bn_f Y)))), (h3, .inr (2, [.ref w3, .int (nI q)])), (w3, .inl (cJ, 26, .inr (.inl (bn_f Z))))] → va_S A s.heap H locs → lv_has ls 11 [(8, .int (nI i)), (6, .long sn), (4, .long (lZ (bn_e X Y Z i))), (3, .int (nI M)), (0, .ref h), (1, .ref h2), (2, .ref h3)] → W p l e { frames := 1, cells := 0, slots := 0, locals := 21 } s m args below meth c H locs 0 0 Q (F0 m 33 ls []) := by
    intro n
    induction n with
    | zero => intro i sn H locs ls hi hn hs hP hD hS hl; exact absurd hn (by omega)
    | succ n ih =>
      intro i sn H locs ls hi hn hs hP hD hS hl
      refine lv_iload hx hb d_Na_compareSum_33 (lv_at hl 0 rfl) ?_
      refine lv_iload_n hx hb d_Na_compareSum_35 rfl (lv_at hl 3 rfl) ?_
      refine lv_icmp_ge (tgt := 91) hx hb d_Na_compareSum_36 (by decide) (fun hc => ?_) (fun hc => ?_)
      · obtain rfl : i = M := by have := (nI_leI (by omega) (by omega)).mp hc; omega
        have hX1 : X < 2 ^ (32 * i) := Nat.lt_of_lt_of_le hX (bn_ple (by have := Nat.le_max_left u v; have := Nat.le_max_left (max u v) q; omega))
        have hY1 : Y < 2 ^ (32 * i) := Nat.lt_of_lt_of_le hY (bn_ple (by have := Nat.le_max_right u v; have := Nat.le_max_left (max u v) q; omega))
        have hZ1 : Z < 2 ^ (32 * i) := Nat.lt_of_lt_of_le hZ (bn_ple (by have := Nat.le_max_right (max u v) q; omega))
        have h9 := bn_d_end hX1 hY1 hZ1
        have hr := bn_e_rng X Y Z i
        refine lv_lload hx hb d_Na_compareSum_91 (lv_at hl 2 rfl) ?_
        refine lv_lconst (v := 0) hx hb d_Na_compareSum_93 (by decide) ?_
        refine lx_ge (tgt := 100) hx hb d_Na_compareSum_94 d_Na_compareSum_95 (by decide) (fun hz => ?_) (fun hz => ?_)
        · have hge : ¬ Z < X + Y := fun g => by have := h9.1.mpr g; exact absurd ((lZ_cmp0 (by omega) (by omega)).mpr this) (Int64.not_lt.mpr hz)
          refine lv_lload hx hb d_Na_compareSum_100 (lv_at hl 1 rfl) ?_
          refine lv_lconst (v := 0) hx hb d_Na_compareSum_102 (by decide) ?_
          refine lx_ne (tgt := 111) hx hb d_Na_compareSum_103 d_Na_compareSum_104 (by decide) (fun hy => ?_) (fun hy => ?_)
          · have he : Z ≠ X + Y := fun g => hy (hs.mpr ((h9.2 hge).mpr g))
            refine lv_iconst (v := (-1)) hx hb d_Na_compareSum_111 (by decide) ?_
            exact hret _ _ _ _ _ () d_Na_compareSum_112 (vp_nar_int _) (bn_cmp_l (by omega)).symm hP hK hD hS
          · have he : Z = X + Y := (h9.2 hge).mp (hs.mp hy)
            refine lv_iconst (v := 0) hx hb d_Na_compareSum_107 (by decide) ?_
            refine lv_goto (tgt := 112) hx hb d_Na_compareSum_108 (by decide) ?_
            exact hret _ _ _ _ _ () d_Na_compareSum_112 (vp_nar_int _) (by rw [he, bn_cmp_e]) hP hK hD hS
        · have hlt : Z < X + Y := h9.1.mp (by rcases Int.lt_or_le (bn_e X Y Z i) 0 with g | g; exact g; exact absurd (by rw [show bn_e X Y Z i = 0 from by omega]; exact Int64.le_refl _) hz)
          refine lv_iconst (v := 1) hx hb d_Na_compareSum_98 (by decide) ?_
          exact hret _ _ _ _ _ () d_Na_compareSum_99 (vp_nar_int _) (bn_cmp_g hlt).symm hP hK hD hS
      · have hlt : i < M := by have := mt (nI_leI (a := M) (b := i) (by omega) (by omega)).mpr hc; omega
        have hw1 := bn_w_lt X i
        have hw2 := bn_w_lt Y i
        have hw3 := bn_w_lt Z i
        have hr := bn_e_rng X Y Z i
        refine lv_aload_n hx hb d_Na_compareSum_39 rfl (lv_at hl 6 rfl) ?_
        refine va_get (D := (dC, dI)) (ci := 2) (v := .ref w3) (C := R_Na) (T := F_Na) (N := 2) hx hb hts i_Na hown hK hP 4 rfl rfl 0 (by decide) (hts _ fl_Na_9) (fun _ h9 => h9) rfl d_Na_compareSum_40 ?_
        refine lv_iload hx hb d_Na_compareSum_43 (lv_at hl 0 rfl) ?_
        refine va_lald hx hb hK hP 5 0 rfl rfl (vp_in_nI (by omega) (by omega)) d_Na_compareSum_45 ?_
        refine lv_topl (fun x_7 e_8 => ?_)
        obtain rfl : x_7 = lN (bn_w Z i) := e_8.trans (by rw [nI_clamp (by omega)]; rfl)
        refine lv_aload_n hx hb d_Na_compareSum_46 rfl (lv_at hl 4 rfl) ?_
        refine va_get (D := (dC, dI)) (ci := 2) (v := .ref w) (C := R_Na) (T := F_Na) (N := 2) hx hb hts i_Na hown hK hP 0 rfl rfl 0 (by decide) (hts _ fl_Na_9) (fun _ h9 => h9) rfl d_Na_compareSum_47 ?_
        refine lv_iload hx hb d_Na_compareSum_50 (lv_at hl 0 rfl) ?_
        refine va_lald hx hb hK hP 1 0 rfl rfl (vp_in_nI (by omega) (by omega)) d_Na_compareSum_52 ?_
        refine lv_topl (fun x_9 e_10 => ?_)
        obtain rfl : x_9 = lN (bn_w X i) := e_10.trans (by rw [nI_clamp (by omega)]; rfl)
        refine lv_lsub hx hb d_Na_compareSum_53 ?_
        refine lv_topl (fun x_11 e_12 => ?_)
        obtain rfl : x_11 = lZ ((bn_w Z i : Int) - bn_w X i) := e_12.trans (lZ_nsub _ _)
        refine lv_aload_n hx hb d_Na_compareSum_54 rfl (lv_at hl 5 rfl) ?_
        refine va_get (D := (dC, dI)) (ci := 2) (v := .ref w2) (C := R_Na) (T := F_Na) (N := 2) hx hb hts i_Na hown hK hP 2 rfl rfl 0 (by decide) (hts _ fl_Na_9) (fun _ h9 => h9) rfl d_Na_compareSum_55 ?_
        refine lv_iload hx hb d_Na_compareSum_58 (lv_at hl 0 rfl) ?_
        refine va_lald hx hb hK hP 3 0 rfl rfl (vp_in_nI (by omega) (by omega)) d_Na_compareSum_60 ?_
        refine lv_topl (fun x_13 e_14 => ?_)
        obtain rfl : x_13 = lN (bn_w Y i) := e_14.trans (by rw [nI_clamp (by omega)]; rfl)
        refine lv_lsub hx hb d_Na_compareSum_61 ?_
        refine lv_topl (fun x_15 e_16 => ?_)
        obtain rfl : x_15 = lZ ((bn_w Z i : Int) - bn_w X i - bn_w Y i) := e_16.trans (by rw [lZ_N]; exact lZ_sub _ _)
        refine lv_lload hx hb d_Na_compareSum_62 (lv_at hl 2 rfl) ?_
        refine lv_ladd hx hb d_Na_compareSum_64 ?_
        refine lv_topl (fun x_17 e_18 => ?_)
        obtain rfl : x_17 = lZ ((bn_w Z i : Int) - bn_w X i - bn_w Y i + bn_e X Y Z i) := e_18.trans (lZ_add _ _)
        refine lv_lstore (lv' := [(9, .long (lZ ((bn_w Z i : Int) - bn_w X i - bn_w Y i + bn_e X Y Z i))), (8, .int (nI i)), (6, .long sn), (4, .long (lZ (bn_e X Y Z i))), (3, .int (nI M)), (0, .ref h), (1, .ref h2), (2, .ref h3)]) hx hb d_Na_compareSum_65 hl (by decide) rfl (fun ls hl => ?_)
        refine lv_lload hx hb d_Na_compareSum_67 (lv_at hl 2 rfl) ?_
        refine lv_lload hx hb d_Na_compareSum_69 (lv_at hl 0 rfl) ?_
        refine lv_ldc2 (v := 4294967295) hx hb hown (hts _ kl_Na_17) d_Na_compareSum_71 ?_
        refine lv_land hx hb d_Na_compareSum_74 ?_
        refine lv_topl (fun x_19 e_20 => ?_)
        obtain rfl : x_19 = lN (((bn_w Z i : Int) - bn_w X i - bn_w Y i + bn_e X Y Z i) % 4294967296).toNat := e_20.trans (lZ_lo _)
        refine lv_lor hx hb d_Na_compareSum_75 ?_
        refine lv_topl (fun sn2 hsn2 => ?_)
        refine lv_lstore (lv' := [(6, .long sn2), (9, .long (lZ ((bn_w Z i : Int) - bn_w X i - bn_w Y i + bn_e X Y Z i))), (8, .int (nI i)), (4, .long (lZ (bn_e X Y Z i))), (3, .int (nI M)), (0, .ref h), (1, .ref h2), (2, .ref h3)]) hx hb d_Na_compareSum_76 hl (by decide) rfl (fun ls hl => ?_)
        refine lv_lload hx hb d_Na_compareSum_78 (lv_at hl 1 rfl) ?_
        refine lv_bipush (v := 32) hx hb d_Na_compareSum_80 (by decide) ?_
        refine lv_lshr (v := lZ (bn_e X Y Z (i + 1))) hx hb d_Na_compareSum_82 ((lZ_shr (by decide) (by omega) (by omega)).trans (by rw [bn_e_succ])) ?_
        refine lv_lstore (lv' := [(4, .long (lZ (bn_e X Y Z (i + 1)))), (6, .long sn2), (9, .long (lZ ((bn_w Z i : Int) - bn_w X i - bn_w Y i + bn_e X Y Z i))), (8, .int (nI i)), (3, .int (nI M)), (0, .ref h), (1, .ref h2), (2, .ref h3)]) hx hb d_Na_compareSum_83 hl (by decide) rfl (fun ls hl => ?_)
        refine lv_iinc (v := nI (i + 1)) (lv' := [(8, .int (nI (i + 1))), (4, .long (lZ (bn_e X Y Z (i + 1)))), (6, .long sn2), (9, .long (lZ ((bn_w Z i : Int) - bn_w X i - bn_w Y i + bn_e X Y Z i))), (3, .int (nI M)), (0, .ref h), (1, .ref h2), (2, .ref h3)]) hx hb d_Na_compareSum_85 hl (k := 3) rfl (nI_1 i) (by decide) rfl (fun ls hl => ?_)
        refine lv_goto (tgt := 33) hx hb d_Na_compareSum_88 (by decide) ?_
        have hs2 : sn2 = 0 ↔ bn_d X Y Z (i + 1) % (2 ^ (32 * (i + 1)) : Nat) = 0 := by
          rw [bn_z_succ, ← hs, hsn2, lZ_or]
          have hb : ∀ g : Int, (lN (g % 4294967296).toNat = 0) ↔ g % 4294967296 = 0 := fun g => by
            have := pk_lEQ (a := (g % 4294967296).toNat) (b := 0) (by omega) (by omega)
            exact this.trans (by omega)
          rw [hb]
        exact ih (i + 1) sn2 H locs ls (by omega) (by omega) hs2 hP hD hS (lv_sub hl [0, 2, 1, 4, 5, 6, 7] rfl)
  exact lp (M + 1) 0 0 H [] ls (by omega) (by omega) (by simp [Int.emod_one]) hP hD hS (by rw [bn_e_0]; exact lv_sub hl [0, 1, 2, 3, 4, 5, 6] rfl)
set_option maxHeartbeats 4000000 in
set_option maxRecDepth 100000 in
/-- compareSum of a number and itself -/
theorem c_Na_compareSumS (l : Launch) (dC : Nat → ClassId) (dI : Nat → Nat → Nat) (sz : Nat) (h w h3 w3 : Nat) (cJ : ClassId) (X u Z q : Nat) (hX : X < 2 ^ (32 * u)) (hu : u ≤ 26) (hZ : Z < 2 ^ (32 * q)) (hq : q ≤ 26) : Met l y_Na_compareSum (Cond.code y_Na_compareSum b_Na_compareSum 11 (some .int) :: gT) ({ frames := 1, cells := 0, slots := 0, locals := 21 }) (va_Pc [.ref h, .ref h, .ref h3] (pw_P (dC, dI) cls [(cJ, .long)] pw_0 [(h, .inr (2, [.ref w, .int (nI u)])), (w, .inl (cJ, 26, .inr (.inl (bn_f X)))), (h3, .inr (2, [.ref w3, .int (nI q)])), (w3, .inl (cJ, 26, .inr (.inl (bn_f Z))))] sz)) (va_Qi (fun (r : Int32) (uu : Unit) => r = bn_cmp (X + X) Z) (fun (uu : Unit) => pw_B (dC, dI) cls [(cJ, .long)] (va_A [(h, .inr (2, [.ref w, .int (nI u)])), (w, .inl (cJ, 26, .inr (.inl (bn_f X)))), (h3, .inr (2, [.ref w3, .int (nI q)])), (w3, .inl (cJ, 26, .inr (.inl (bn_f Z))))] sz) [(h, .inr (2, [.ref w, .int (nI u)])), (w, .inl (cJ, 26, .inr (.inl (bn_f X)))), (h3, .inr (2, [.ref w3, .int (nI q)])), (w3, .inl (cJ, 26, .inr (.inl (bn_f Z))))]) (va_A [(h, .inr (2, [.ref w, .int (nI u)])), (w, .inl (cJ, 26, .inr (.inl (bn_f X)))), (h3, .inr (2, [.ref w3, .int (nI q)])), (w3, .inl (cJ, 26, .inr (.inl (bn_f Z))))] sz)) 0 0 (va_A [(h, .inr (2, [.ref w, .int (nI u)])), (w, .inl (cJ, 26, .inr (.inl (bn_f X)))), (h3, .inr (2, [.ref w3, .int (nI q)])), (w3, .inl (cJ, 26, .inr (.inl (bn_f Z))))] sz) := by
  refine pw_meti (tn := fun (uu : Unit) => [(cJ, .long)]) (wn := fun (uu : Unit) => [(h, .inr (2, [.ref w, .int (nI u)])), (w, .inl (cJ, 26, .inr (.inl (bn_f X)))), (h3, .inr (2, [.ref w3, .int (nI q)])), (w3, .inl (cJ, 26, .inr (.inl (bn_f Z))))]) (by decide) (Nat.le_of_ble_eq_true rfl) ?_
  intro p e s m args below meth c A Q H ls hx hb hml hown hts hA hE hP hK hD hS hret hl
  have hown : s.vm.findClass R_Na = some m.cls := hown
  have hl : lv_has ls 11 [(0, .ref h), (1, .ref h), (2, .ref h3)] := hl
  have hm1 : max (max u u) q ≤ 26 := Nat.max_le.mpr ⟨Nat.max_le.mpr ⟨hu, hu⟩, hq⟩
  have hm0 : max u u ≤ 26 := Nat.max_le.mpr ⟨hu, hu⟩
  refine lv_aload_n hx hb d_Na_compareSum_0 rfl (lv_at hl 0 rfl) ?_
  refine va_get (D := (dC, dI)) (ci := 2) (v := .int (nI u)) (C := R_Na) (T := F_Na) (N := 2) hx hb hts i_Na hown hK hP 0 rfl rfl 1 (by decide) (hts _ fl_Na_13) (fun _ h9 => h9) rfl d_Na_compareSum_1 ?_
  refine lv_aload_n hx hb d_Na_compareSum_4 rfl (lv_at hl 1 rfl) ?_
  refine va_get (D := (dC, dI)) (ci := 2) (v := .int (nI u)) (C := R_Na) (T := F_Na) (N := 2) hx hb hts i_Na hown hK hP 0 rfl rfl 1 (by decide) (hts _ fl_Na_13) (fun _ h9 => h9) rfl d_Na_compareSum_5 ?_
  refine va_mmax hx hb (hml.trans hl.1.symm) hown (hts _ ml_Na_35) (hts _ sta_Ma_max) (hts _ ini_Ma) (hts _ cod_Ma_max) (Nat.le_of_ble_eq_true rfl) (Nat.le_of_ble_eq_true rfl) (Nat.zero_le _) (Nat.zero_le _) d_Na_compareSum_8 ?_
  refine lv_topi (fun x_1 e_2 => ?_)
  obtain rfl : x_1 = nI (max u u) := e_2.trans (iZ_max u u (by omega) (by omega))
  refine lv_aload_n hx hb d_Na_compareSum_11 rfl (lv_at hl 2 rfl) ?_
  refine va_get (D := (dC, dI)) (ci := 2) (v := .int (nI q)) (C := R_Na) (T := F_Na) (N := 2) hx hb hts i_Na hown hK hP 2 rfl rfl 1 (by decide) (hts _ fl_Na_13) (fun _ h9 => h9) rfl d_Na_compareSum_12 ?_
  refine va_mmax hx hb (hml.trans hl.1.symm) hown (hts _ ml_Na_35) (hts _ sta_Ma_max) (hts _ ini_Ma) (hts _ cod_Ma_max) (Nat.le_of_ble_eq_true rfl) (Nat.le_of_ble_eq_true rfl) (Nat.zero_le _) (Nat.zero_le _) d_Na_compareSum_15 ?_
  refine lv_topi (fun x_3 e_4 => ?_)
  obtain rfl : x_3 = nI (max (max u u) q) := e_4.trans (iZ_max (max u u) q (by omega) (by omega))
  generalize hE0 : max (max u u) q = M at *
  refine lv_bipush (v := 26) hx hb d_Na_compareSum_18 (by decide) ?_
  refine va_mmin hx hb (hml.trans hl.1.symm) hown (hts _ ml_Na_19) (hts _ sta_Ma_min) (hts _ ini_Ma) (hts _ cod_Ma_min) (Nat.le_of_ble_eq_true rfl) (Nat.le_of_ble_eq_true rfl) (Nat.zero_le _) (Nat.zero_le _) d_Na_compareSum_20 ?_
  refine lv_topi (fun x_5 e_6 => ?_)
  obtain rfl : x_5 = nI M := e_6.trans ((iZ_min M 26 (by omega) (by omega)).trans (by rw [Nat.min_eq_left hm1]))
  refine lv_istore_n (lv' := [(3, .int (nI M)), (0, .ref h), (1, .ref h), (2, .ref h3)]) hx hb d_Na_compareSum_23 rfl hl (by decide) rfl (fun ls hl => ?_)
  refine lv_lconst (v := 0) hx hb d_Na_compareSum_24 (by decide) ?_
  refine lv_lstore (lv' := [(4, .long 0), (3, .int (nI M)), (0, .ref h), (1, .ref h), (2, .ref h3)]) hx hb d_Na_compareSum_25 hl (by decide) rfl (fun ls hl => ?_)
  refine lv_lconst (v := 0) hx hb d_Na_compareSum_27 (by decide) ?_
  refine lv_lstore (lv' := [(6, .long 0), (4, .long 0), (3, .int (nI M)), (0, .ref h), (1, .ref h), (2, .ref h3)]) hx hb d_Na_compareSum_28 hl (by decide) rfl (fun ls hl => ?_)
  refine lv_iconst (v := 0) hx hb d_Na_compareSum_30 (by decide) ?_
  refine lv_istore (lv' := [(8, .int 0), (6, .long 0), (4, .long 0), (3, .int (nI M)), (0, .ref h), (1, .ref h), (2, .ref h3)]) hx hb d_Na_compareSum_31 hl (by decide) rfl (fun ls hl => ?_)
  have lp : ∀ (n i : Nat) (sn : Int64) (H : Heap) (locs : List Loc) (ls : Array Slot), (i ≤ M) → (M + 1 ≤ i + n) → (sn = 0 ↔ bn_d X X Z i % (2 ^ (32 * i) : Nat) = 0) → va_P (dC, dI) cls [(h, .inr (2, [.ref w, .int (nI u)])), (w, .inl (cJ, 26, .inr (.inl (bn_f X)))), (h3, .inr (2, [.ref w3, .int (nI q)])), (w3, .inl (cJ, 26, .inr (.inl (bn_f Z))))] H → va_D A [(h, .inr (2, [.ref w, .int (nI u)])), (w, .inl (cJ, 26, .inr (.inl (bn_f X)))), (h3, .inr (2, [.ref w3, .int (nI q)])), (w3, .inl (cJ, 26, .inr (.inl (bn_f Z))))] → va_S A s.heap H locs → lv_has ls 11 [(8, .int (nI i)), (6, .long sn), (4, .long (lZ (bn_e X X Z i))), (3, .int (nI M)), (0, .ref h), (1, .ref h), (2, .ref h3)] → W p l e { frames := 1, cells := 0, slots := 0, locals := 21 } s m args below meth c H locs 0 0 Q (F0 m 33 ls []) := by
    intro n
    induction n with
    | zero => intro i sn H locs ls hi hn hs hP hD hS hl; exact absurd hn (by omega)
    | succ n ih =>
      intro i sn H locs ls hi hn hs hP hD hS hl
      refine lv_iload hx hb d_Na_compareSum_33 (lv_at hl 0 rfl) ?_
      refine lv_iload_n hx hb d_Na_compareSum_35 rfl (lv_at hl 3 rfl) ?_
      refine lv_icmp_ge (tgt := 91) hx hb d_Na_compareSum_36 (by decide) (fun hc => ?_) (fun hc => ?_)
      · obtain rfl : i = M := by have := (nI_leI (by omega) (by omega)).mp hc; omega
        have hX1 : X < 2 ^ (32 * i) := Nat.lt_of_lt_of_le hX (bn_ple (by have := Nat.le_max_left u u; have := Nat.le_max_left (max u u) q; omega))
        have hY1 : X < 2 ^ (32 * i) := hX1
        have hZ1 : Z < 2 ^ (32 * i) := Nat.lt_of_lt_of_le hZ (bn_ple (by have := Nat.le_max_right (max u u) q; omega))
        have h9 := bn_d_end hX1 hY1 hZ1
        have hr := bn_e_rng X X Z i
        refine lv_lload hx hb d_Na_compareSum_91 (lv_at hl 2 rfl) ?_
        refine lv_lconst (v := 0) hx hb d_Na_compareSum_93 (by decide) ?_
        refine lx_ge (tgt := 100) hx hb d_Na_compareSum_94 d_Na_compareSum_95 (by decide) (fun hz => ?_) (fun hz => ?_)
        · have hge : ¬ Z < X + X := fun g => by have := h9.1.mpr g; exact absurd ((lZ_cmp0 (by omega) (by omega)).mpr this) (Int64.not_lt.mpr hz)
          refine lv_lload hx hb d_Na_compareSum_100 (lv_at hl 1 rfl) ?_
          refine lv_lconst (v := 0) hx hb d_Na_compareSum_102 (by decide) ?_
          refine lx_ne (tgt := 111) hx hb d_Na_compareSum_103 d_Na_compareSum_104 (by decide) (fun hy => ?_) (fun hy => ?_)
          · have he : Z ≠ X + X := fun g => hy (hs.mpr ((h9.2 hge).mpr g))
            refine lv_iconst (v := (-1)) hx hb d_Na_compareSum_111 (by decide) ?_
            exact hret _ _ _ _ _ () d_Na_compareSum_112 (vp_nar_int _) (bn_cmp_l (by omega)).symm hP hK hD hS
          · have he : Z = X + X := (h9.2 hge).mp (hs.mp hy)
            refine lv_iconst (v := 0) hx hb d_Na_compareSum_107 (by decide) ?_
            refine lv_goto (tgt := 112) hx hb d_Na_compareSum_108 (by decide) ?_
            exact hret _ _ _ _ _ () d_Na_compareSum_112 (vp_nar_int _) (by rw [he, bn_cmp_e]) hP hK hD hS
        · have hlt : Z < X + X := h9.1.mp (by rcases Int.lt_or_le (bn_e X X Z i) 0 with g | g; exact g; exact absurd (by rw [show bn_e X X Z i = 0 from by omega]; exact Int64.le_refl _) hz)
          refine lv_iconst (v := 1) hx hb d_Na_compareSum_98 (by decide) ?_
          exact hret _ _ _ _ _ () d_Na_compareSum_99 (vp_nar_int _) (bn_cmp_g hlt).symm hP hK hD hS
      · have hlt : i < M := by have := mt (nI_leI (a := M) (b := i) (by omega) (by omega)).mpr hc; omega
        have hw1 := bn_w_lt X i
        have hw2 := bn_w_lt X i
        have hw3 := bn_w_lt Z i
        have hr := bn_e_rng X X Z i
        refine lv_aload_n hx hb d_Na_compareSum_39 rfl (lv_at hl 6 rfl) ?_
        refine va_get (D := (dC, dI)) (ci := 2) (v := .ref w3) (C := R_Na) (T := F_Na) (N := 2) hx hb hts i_Na hown hK hP 2 rfl rfl 0 (by decide) (hts _ fl_Na_9) (fun _ h9 => h9) rfl d_Na_compareSum_40 ?_
        refine lv_iload hx hb d_Na_compareSum_43 (lv_at hl 0 rfl) ?_
        refine va_lald hx hb hK hP 3 0 rfl rfl (vp_in_nI (by omega) (by omega)) d_Na_compareSum_45 ?_
        refine lv_topl (fun x_7 e_8 => ?_)
        obtain rfl : x_7 = lN (bn_w Z i) := e_8.trans (by rw [nI_clamp (by omega)]; rfl)
        refine lv_aload_n hx hb d_Na_compareSum_46 rfl (lv_at hl 4 rfl) ?_
        refine va_get (D := (dC, dI)) (ci := 2) (v := .ref w) (C := R_Na) (T := F_Na) (N := 2) hx hb hts i_Na hown hK hP 0 rfl rfl 0 (by decide) (hts _ fl_Na_9) (fun _ h9 => h9) rfl d_Na_compareSum_47 ?_
        refine lv_iload hx hb d_Na_compareSum_50 (lv_at hl 0 rfl) ?_
        refine va_lald hx hb hK hP 1 0 rfl rfl (vp_in_nI (by omega) (by omega)) d_Na_compareSum_52 ?_
        refine lv_topl (fun x_9 e_10 => ?_)
        obtain rfl : x_9 = lN (bn_w X i) := e_10.trans (by rw [nI_clamp (by omega)]; rfl)
        refine lv_lsub hx hb d_Na_compareSum_53 ?_
        refine lv_topl (fun x_11 e_12 => ?_)
        obtain rfl : x_11 = lZ ((bn_w Z i : Int) - bn_w X i) := e_12.trans (lZ_nsub _ _)
        refine lv_aload_n hx hb d_Na_compareSum_54 rfl (lv_at hl 5 rfl) ?_
        refine va_get (D := (dC, dI)) (ci := 2) (v := .ref w) (C := R_Na) (T := F_Na) (N := 2) hx hb hts i_Na hown hK hP 0 rfl rfl 0 (by decide) (hts _ fl_Na_9) (fun _ h9 => h9) rfl d_Na_compareSum_55 ?_
        refine lv_iload hx hb d_Na_compareSum_58 (lv_at hl 0 rfl) ?_
        refine va_lald hx hb hK hP 1 0 rfl rfl (vp_in_nI (by omega) (by omega)) d_Na_compareSum_60 ?_
        refine lv_topl (fun x_13 e_14 => ?_)
        obtain rfl : x_13 = lN (bn_w X i) := e_14.trans (by rw [nI_clamp (by omega)]; rfl)
        refine lv_lsub hx hb d_Na_compareSum_61 ?_
        refine lv_topl (fun x_15 e_16 => ?_)
        obtain rfl : x_15 = lZ ((bn_w Z i : Int) - bn_w X i - bn_w X i) := e_16.trans (by rw [lZ_N]; exact lZ_sub _ _)
        refine lv_lload hx hb d_Na_compareSum_62 (lv_at hl 2 rfl) ?_
        refine lv_ladd hx hb d_Na_compareSum_64 ?_
        refine lv_topl (fun x_17 e_18 => ?_)
        obtain rfl : x_17 = lZ ((bn_w Z i : Int) - bn_w X i - bn_w X i + bn_e X X Z i) := e_18.trans (lZ_add _ _)
        refine lv_lstore (lv' := [(9, .long (lZ ((bn_w Z i : Int) - bn_w X i - bn_w X i + bn_e X X Z i))), (8, .int (nI i)), (6, .long sn), (4, .long (lZ (bn_e X X Z i))), (3, .int (nI M)), (0, .ref h), (1, .ref h), (2, .ref h3)]) hx hb d_Na_compareSum_65 hl (by decide) rfl (fun ls hl => ?_)
        refine lv_lload hx hb d_Na_compareSum_67 (lv_at hl 2 rfl) ?_
        refine lv_lload hx hb d_Na_compareSum_69 (lv_at hl 0 rfl) ?_
        refine lv_ldc2 (v := 4294967295) hx hb hown (hts _ kl_Na_17) d_Na_compareSum_71 ?_
        refine lv_land hx hb d_Na_compareSum_74 ?_
        refine lv_topl (fun x_19 e_20 => ?_)
        obtain rfl : x_19 = lN (((bn_w Z i : Int) - bn_w X i - bn_w X i + bn_e X X Z i) % 4294967296).toNat := e_20.trans (lZ_lo _)
        refine lv_lor hx hb d_Na_compareSum_75 ?_
        refine lv_topl (fun sn2 hsn2 => ?_)
        refine lv_lstore (lv' := [(6, .long sn2), (9, .long (lZ ((bn_w Z i : Int) - bn_w X i - bn_w X i + bn_e X X Z i))), (8, .int (nI i)), (4, .long (lZ (bn_e X X Z i))), (3, .int (nI M)), (0, .ref h), (1, .ref h), (2, .ref h3)]) hx hb d_Na_compareSum_76 hl (by decide) rfl (fun ls hl => ?_)
        refine lv_lload hx hb d_Na_compareSum_78 (lv_at hl 1 rfl) ?_
        refine lv_bipush (v := 32) hx hb d_Na_compareSum_80 (by decide) ?_
        refine lv_lshr (v := lZ (bn_e X X Z (i + 1))) hx hb d_Na_compareSum_82 ((lZ_shr (by decide) (by omega) (by omega)).trans (by rw [bn_e_succ])) ?_
        refine lv_lstore (lv' := [(4, .long (lZ (bn_e X X Z (i + 1)))), (6, .long sn2), (9, .long (lZ ((bn_w Z i : Int) - bn_w X i - bn_w X i + bn_e X X Z i))), (8, .int (nI i)), (3, .int (nI M)), (0, .ref h), (1, .ref h), (2, .ref h3)]) hx hb d_Na_compareSum_83 hl (by decide) rfl (fun ls hl => ?_)
        refine lv_iinc (v := nI (i + 1)) (lv' := [(8, .int (nI (i + 1))), (4, .long (lZ (bn_e X X Z (i + 1)))), (6, .long sn2), (9, .long (lZ ((bn_w Z i : Int) - bn_w X i - bn_w X i + bn_e X X Z i))), (3, .int (nI M)), (0, .ref h), (1, .ref h), (2, .ref h3)]) hx hb d_Na_compareSum_85 hl (k := 3) rfl (nI_1 i) (by decide) rfl (fun ls hl => ?_)
        refine lv_goto (tgt := 33) hx hb d_Na_compareSum_88 (by decide) ?_
        have hs2 : sn2 = 0 ↔ bn_d X X Z (i + 1) % (2 ^ (32 * (i + 1)) : Nat) = 0 := by
          rw [bn_z_succ, ← hs, hsn2, lZ_or]
          have hb : ∀ g : Int, (lN (g % 4294967296).toNat = 0) ↔ g % 4294967296 = 0 := fun g => by
            have := pk_lEQ (a := (g % 4294967296).toNat) (b := 0) (by omega) (by omega)
            exact this.trans (by omega)
          rw [hb]
        exact ih (i + 1) sn2 H locs ls (by omega) (by omega) hs2 hP hD hS (lv_sub hl [0, 2, 1, 4, 5, 6, 7] rfl)
  exact lp (M + 1) 0 0 H [] ls (by omega) (by omega) (by simp [Int.emod_one]) hP hD hS (by rw [bn_e_0]; exact lv_sub hl [0, 1, 2, 3, 4, 5, 6] rfl)

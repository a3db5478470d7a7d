set_option maxHeartbeats 4000000 in
set_option maxRecDepth 100000 in
/-- timesFives(z): times 5 to the z; nothing for z below 1 -/
theorem c_Na_timesFives (l : Launch) (dC : Nat → ClassId) (dI : Nat → Nat → Nat) (sz : Nat) (h w : Nat) (cJ : ClassId) (V u : Nat) (z : Int) (hV : V < 2 ^ (32 * u)) (hu : u ≤ 26) (hz1 : -2 ^ 29 < z) (hz2 : z < 2 ^ 29) (hB : V * 5 ^ z.toNat < 2 ^ (32 * 26)) : Met l y_Na_timesFives (Cond.code y_Na_timesFives b_Na_timesFives 3 none :: gT) ({ frames := 1, cells := 0, slots := 0, locals := 27 }) (va_Pc [.ref h, .int (iZ z)] (pw_P (dC, dI) cls [(cJ, .long)] pw_0 [(h, .inr (2, [.ref w, .int (nI u)])), (w, .inl (cJ, 26, .inr (.inl (bn_f V))))] sz)) (va_Qv (fun (u' : Nat) => u' ≤ 26 ∧ V * 5 ^ z.toNat < 2 ^ (32 * u')) (fun (u' : Nat) => pw_B (dC, dI) cls [(cJ, .long)] (va_A [(h, .inr (2, [.ref w, .int (nI u)])), (w, .inl (cJ, 26, .inr (.inl (bn_f V))))] sz) [(h, .inr (2, [.ref w, .int (nI u')])), (w, .inl (cJ, 26, .inr (.inl (bn_f (V * 5 ^ z.toNat)))))]) (va_A [(h, .inr (2, [.ref w, .int (nI u)])), (w, .inl (cJ, 26, .inr (.inl (bn_f V))))] sz)) 0 0 (va_A [(h, .inr (2, [.ref w, .int (nI u)])), (w, .inl (cJ, 26, .inr (.inl (bn_f V))))] sz) := by
  refine pw_metv (tn := fun (u' : Nat) => [(cJ, .long)]) (wn := fun (u' : Nat) => [(h, .inr (2, [.ref w, .int (nI u')])), (w, .inl (cJ, 26, .inr (.inl (bn_f (V * 5 ^ z.toNat)))))]) (by decide) (Nat.le_of_ble_eq_true rfl) ?_
  intro p e s m args below meth c A Q H ls hx hb hml hown hts hnm hA hE hP hK hD hS hret hl
  have hown : s.vm.findClass R_Na = some m.cls := hown
  have hl : lv_has ls 3 [(0, .ref h), (1, .int (iZ z))] := hl
  refine lv_iload_n hx hb d_Na_timesFives_0 rfl (lv_at hl 1 rfl) ?_
  refine lv_istore_n (lv' := [(2, .int (iZ z)), (0, .ref h), (1, .int (iZ z))]) hx hb d_Na_timesFives_1 rfl hl (by decide) rfl (fun ls hl => ?_)
  have lp : ∀ (n : Nat) (y : Int) (X v : Nat) (H : Heap) (locs : List Loc) (ls : Array Slot), (y.toNat < n) → (-2 ^ 30 < y) → (y < 2 ^ 29) → (X < 2 ^ (32 * v)) → (v ≤ 26) → (X * 5 ^ y.toNat = V * 5 ^ z.toNat) → va_P (dC, dI) cls [(h, .inr (2, [.ref w, .int (nI v)])), (w, .inl (cJ, 26, .inr (.inl (bn_f X))))] H → va_D A [(h, .inr (2, [.ref w, .int (nI v)])), (w, .inl (cJ, 26, .inr (.inl (bn_f X))))] → va_S A s.heap H locs → lv_has ls 3 [(2, .int (iZ y)), (0, .ref h), (1, .int (iZ z))] → W p l e { frames := 1, cells := 0, slots := 0, locals := 27 } s m args below meth c H locs 0 0 Q (F0 m 2 ls []) := by
    intro n
    induction n with
    | zero => intro y X v H locs ls hn hy1 hy2 hX hv he hP hD hS hl; exact absurd hn (by omega)
    | succ n ih =>
      intro y X v H locs ls hn hy1 hy2 hX hv he hP hD hS hl
      refine lv_iload_n hx hb d_Na_timesFives_2 rfl (lv_at hl 0 rfl) ?_
      refine lv_if_le (tgt := 25) hx hb d_Na_timesFives_3 (by decide) (fun hc => ?_) (fun hc => ?_)
      · have hle : y ≤ 0 := (iZ_le (a := y) (b := 0) (by omega) (by omega) (by omega) (by omega)).mp hc
        have hX2 : X = V * 5 ^ z.toNat := by rw [← he, show y.toNat = 0 from by omega, Nat.pow_zero, Nat.mul_one]
        exact hret _ _ _ _ v d_Na_timesFives_25 ⟨hv, by rw [← hX2]; exact hX⟩ (by rw [← hX2]; exact hP) hK (by rw [← hX2]; exact hD) hS
      · have hgt : 0 < y := by have := mt (iZ_le (a := y) (b := 0) (by omega) (by omega) (by omega) (by omega)).mpr hc; omega
        have hpt := bn_part (V := X) (b := 5) (K := 13) (z := y) (by decide)
        have hk : min y.toNat 13 ≤ 13 := Nat.min_le_right _ _
        refine lv_aload_n hx hb d_Na_timesFives_6 rfl (lv_at hl 1 rfl) ?_
        refine lv_iload_n hx hb d_Na_timesFives_7 rfl (lv_at hl 0 rfl) ?_
        refine lv_bipush (v := 13) hx hb d_Na_timesFives_8 (by decide) ?_
        refine va_mmin hx hb (hml.trans hl.1.symm) hown (hts _ ml_Na_19) (hts _ sta_Ma_min) (hts _ ini_Ma) (hts _ cod_Ma_min) (Nat.le_of_ble_eq_true rfl) (Nat.le_of_ble_eq_true rfl) (Nat.zero_le _) (Nat.zero_le _) d_Na_timesFives_10 ?_
        refine lv_topi (fun x_1 e_2 => ?_)
        obtain rfl : x_1 = nI (min y.toNat 13) := e_2.trans (iZ_minc 13 (by omega) (by omega) (by omega))
        refine pw_calll (wc := []) (wr := [(h, .inr (2, [.ref w, .int (nI v)])), (w, .inl (cJ, 26, .inr (.inl (bn_f X))))]) [] [0, 1] rfl rfl rfl (by decide) (by decide) (by decide) hP hD hS hA (fun hPc hDc hF => va_runS (As := [.int (nI (min y.toNat 13))]) (rest := [.ref h]) ⟨hx, hb, hml, hown, hts⟩ (c_Na_smallPowerOfFive l dC dI H.size (min y.toNat 13) hk) (va_cwS 1 hts (gw_S (gw_self cod_Na_smallPowerOfFive) ml_Na_25 sta_Na_smallPowerOfFive ini_Na) rfl rfl rfl (by decide +kernel) ⟨Nat.le_of_ble_eq_true rfl, Nat.le_of_ble_eq_true rfl⟩) (pw_preS pw_0_ok (trivial : pw_0 A s s.heap) hS hF hPc hDc (hK.sub [] rfl)) rfl rfl hl.1 rfl (lv_room (Nat.le_of_ble_eq_true rfl)) d_Na_timesFives_13 ⟨Nat.le_of_ble_eq_true rfl, Nat.le_of_ble_eq_true rfl⟩) (fun r5 u5 H locs hw5 hK1 hP hD hS => ?_)
        have hP : va_P (dC, dI) cls [(h, .inr (2, [.ref w, .int (nI v)])), (w, .inl (cJ, 26, .inr (.inl (bn_f X))))] H := hP
        have hD : va_D A [(h, .inr (2, [.ref w, .int (nI v)])), (w, .inl (cJ, 26, .inr (.inl (bn_f X))))] := hD
        subst hw5
        have hF2 : 5 ^ min y.toNat 13 ≤ 2 ^ 31 := Nat.le_trans (Nat.pow_le_pow_right (by decide) hk) (by decide)
        refine pw_callv (wc := [(h, .inr (2, [.ref w, .int (nI v)])), (w, .inl (cJ, 26, .inr (.inl (bn_f X))))]) (wr := []) [0, 1] [] rfl rfl rfl (by decide) (by decide) (by decide) hP hD hS hA (fun hPc hDc hF => va_runV (As := [.long (lN (5 ^ min y.toNat 13))]) (rest := []) ⟨hx, hb, hml, hown, hts⟩ (c_Na_times l dC dI H.size h w cJ X v (5 ^ min y.toNat 13) hX hv (Nat.pow_pos (by decide)) hF2 (by omega)) (cwV 1 hts (gw_V (gw_self cod_Na_times) ml_Na_29 im_Na_times sel_Na_times ini_Na) rfl rfl rfl (by decide +kernel) ⟨Nat.le_of_ble_eq_true rfl, Nat.le_of_ble_eq_true rfl⟩) (pw_preV pw_0_ok (trivial : pw_0 A s s.heap) hS hF hPc hDc (hK.sub [0] rfl) (va_recv hK hPc (ci := 2) (q0 := 0) rfl rfl)) rfl rfl hl.1 rfl (lv_room (Nat.le_of_ble_eq_true rfl)) d_Na_timesFives_16 ⟨Nat.le_of_ble_eq_true rfl, Nat.le_of_ble_eq_true rfl⟩) (fun v2 H locs hw2 hK1 hP hD hS => ?_)
        have hP : va_P (dC, dI) cls [(h, .inr (2, [.ref w, .int (nI v2)])), (w, .inl (cJ, 26, .inr (.inl (bn_f (X * 5 ^ min y.toNat 13)))))] H := hP
        have hD : va_D A [(h, .inr (2, [.ref w, .int (nI v2)])), (w, .inl (cJ, 26, .inr (.inl (bn_f (X * 5 ^ min y.toNat 13)))))] := hD
        refine lv_iinc (v := iZ (y + -13)) (lv' := [(2, .int (iZ (y + -13))), (0, .ref h), (1, .int (iZ z))]) hx hb d_Na_timesFives_19 hl (k := 0) rfl (iZ_add y (-13)) (by decide) rfl (fun ls hl => ?_)
        refine lv_goto (tgt := 2) hx hb d_Na_timesFives_22 (by decide) ?_
        exact ih (y + -13) (X * 5 ^ min y.toNat 13) v2 H locs ls (by omega) (by omega) (by omega) hw2.2 hw2.1 (by rw [← he]; exact bn_chunk X 5 13 y hgt) hP hD hS (lv_sub hl [0, 1, 2] rfl)
  exact lp (z.toNat + 1) z V u H [] ls (by omega) (by omega) hz2 hV hu rfl hP hD hS (lv_sub hl [0, 1, 2] rfl)
set_option maxHeartbeats 4000000 in
set_option maxRecDepth 100000 in
/-- timesTwos(z): times 2 to the z; nothing for z below 1 -/
theorem c_Na_timesTwos (l : Launch) (dC : Nat → ClassId) (dI : Nat → Nat → Nat) (sz : Nat) (h w : Nat) (cJ : ClassId) (V u : Nat) (z : Int) (hV : V < 2 ^ (32 * u)) (hu : u ≤ 26) (hz1 : -2 ^ 29 < z) (hz2 : z < 2 ^ 29) (hB : V * 2 ^ z.toNat < 2 ^ (32 * 26)) : Met l y_Na_timesTwos (Cond.code y_Na_timesTwos b_Na_timesTwos 3 none :: gT) ({ frames := 1, cells := 0, slots := 0, locals := 27 }) (va_Pc [.ref h, .int (iZ z)] (pw_P (dC, dI) cls [(cJ, .long)] pw_0 [(h, .inr (2, [.ref w, .int (nI u)])), (w, .inl (cJ, 26, .inr (.inl (bn_f V))))] sz)) (va_Qv (fun (u' : Nat) => u' ≤ 26 ∧ V * 2 ^ z.toNat < 2 ^ (32 * u')) (fun (u' : Nat) => pw_B (dC, dI) cls [(cJ, .long)] (va_A [(h, .inr (2, [.ref w, .int (nI u)])), (w, .inl (cJ, 26, .inr (.inl (bn_f V))))] sz) [(h, .inr (2, [.ref w, .int (nI u')])), (w, .inl (cJ, 26, .inr (.inl (bn_f (V * 2 ^ z.toNat)))))]) (va_A [(h, .inr (2, [.ref w, .int (nI u)])), (w, .inl (cJ, 26, .inr (.inl (bn_f V))))] sz)) 0 0 (va_A [(h, .inr (2, [.ref w, .int (nI u)])), (w, .inl (cJ, 26, .inr (.inl (bn_f V))))] sz) := by
  refine pw_metv (tn := fun (u' : Nat) => [(cJ, .long)]) (wn := fun (u' : Nat) => [(h, .inr (2, [.ref w, .int (nI u')])), (w, .inl (cJ, 26, .inr (.inl (bn_f (V * 2 ^ z.toNat)))))]) (by decide) (Nat.le_of_ble_eq_true rfl) ?_
  intro p e s m args below meth c A Q H ls hx hb hml hown hts hnm hA hE hP hK hD hS hret hl
  have hown : s.vm.findClass R_Na = some m.cls := hown
  have hl : lv_has ls 3 [(0, .ref h), (1, .int (iZ z))] := hl
  refine lv_iload_n hx hb d_Na_timesTwos_0 rfl (lv_at hl 1 rfl) ?_
  refine lv_istore_n (lv' := [(2, .int (iZ z)), (0, .ref h), (1, .int (iZ z))]) hx hb d_Na_timesTwos_1 rfl hl (by decide) rfl (fun ls hl => ?_)
  have lp : ∀ (n : Nat) (y : Int) (X v : Nat) (H : Heap) (locs : List Loc) (ls : Array Slot), (y.toNat < n) → (-2 ^ 30 < y) → (y < 2 ^ 29) → (X < 2 ^ (32 * v)) → (v ≤ 26) → (X * 2 ^ y.toNat = V * 2 ^ z.toNat) → va_P (dC, dI) cls [(h, .inr (2, [.ref w, .int (nI v)])), (w, .inl (cJ, 26, .inr (.inl (bn_f X))))] H → va_D A [(h, .inr (2, [.ref w, .int (nI v)])), (w, .inl (cJ, 26, .inr (.inl (bn_f X))))] → va_S A s.heap H locs → lv_has ls 3 [(2, .int (iZ y)), (0, .ref h), (1, .int (iZ z))] → W p l e { frames := 1, cells := 0, slots := 0, locals := 27 } s m args below meth c H locs 0 0 Q (F0 m 2 ls []) := by
    intro n
    induction n with
    | zero => intro y X v H locs ls hn hy1 hy2 hX hv he hP hD hS hl; exact absurd hn (by omega)
    | succ n ih =>
      intro y X v H locs ls hn hy1 hy2 hX hv he hP hD hS hl
      refine lv_iload_n hx hb d_Na_timesTwos_2 rfl (lv_at hl 0 rfl) ?_
      refine lv_if_le (tgt := 24) hx hb d_Na_timesTwos_3 (by decide) (fun hc => ?_) (fun hc => ?_)
      · have hle : y ≤ 0 := (iZ_le (a := y) (b := 0) (by omega) (by omega) (by omega) (by omega)).mp hc
        have hX2 : X = V * 2 ^ z.toNat := by rw [← he, show y.toNat = 0 from by omega, Nat.pow_zero, Nat.mul_one]
        exact hret _ _ _ _ v d_Na_timesTwos_24 ⟨hv, by rw [← hX2]; exact hX⟩ (by rw [← hX2]; exact hP) hK (by rw [← hX2]; exact hD) hS
      · have hgt : 0 < y := by have := mt (iZ_le (a := y) (b := 0) (by omega) (by omega) (by omega) (by omega)).mpr hc; omega
        have hpt := bn_part (V := X) (b := 2) (K := 31) (z := y) (by decide)
        have hk : min y.toNat 31 ≤ 31 := Nat.min_le_right _ _
        refine lv_aload_n hx hb d_Na_timesTwos_6 rfl (lv_at hl 1 rfl) ?_
        refine lv_lconst (v := 1) hx hb d_Na_timesTwos_7 (by decide) ?_
        refine lv_iload_n hx hb d_Na_timesTwos_8 rfl (lv_at hl 0 rfl) ?_
        refine lv_bipush (v := 31) hx hb d_Na_timesTwos_9 (by decide) ?_
        refine va_mmin hx hb (hml.trans hl.1.symm) hown (hts _ ml_Na_19) (hts _ sta_Ma_min) (hts _ ini_Ma) (hts _ cod_Ma_min) (Nat.le_of_ble_eq_true rfl) (Nat.le_of_ble_eq_true rfl) (Nat.zero_le _) (Nat.zero_le _) d_Na_timesTwos_11 ?_
        refine lv_topi (fun x_1 e_2 => ?_)
        obtain rfl : x_1 = nI (min y.toNat 31) := e_2.trans (iZ_minc 31 (by omega) (by omega) (by omega))
        refine lv_lshl (v := lN (2 ^ min y.toNat 31)) hx hb d_Na_timesTwos_14 (bn_shl1 (by omega)) ?_
        have hF2 : 2 ^ min y.toNat 31 ≤ 2 ^ 31 := Nat.pow_le_pow_right (by decide) hk
        refine pw_callv (wc := [(h, .inr (2, [.ref w, .int (nI v)])), (w, .inl (cJ, 26, .inr (.inl (bn_f X))))]) (wr := []) [0, 1] [] rfl rfl rfl (by decide) (by decide) (by decide) hP hD hS hA (fun hPc hDc hF => va_runV (As := [.long (lN (2 ^ min y.toNat 31))]) (rest := []) ⟨hx, hb, hml, hown, hts⟩ (c_Na_times l dC dI H.size h w cJ X v (2 ^ min y.toNat 31) hX hv (Nat.pow_pos (by decide)) hF2 (by omega)) (cwV 1 hts (gw_V (gw_self cod_Na_times) ml_Na_29 im_Na_times sel_Na_times ini_Na) rfl rfl rfl (by decide +kernel) ⟨Nat.le_of_ble_eq_true rfl, Nat.le_of_ble_eq_true rfl⟩) (pw_preV pw_0_ok (trivial : pw_0 A s s.heap) hS hF hPc hDc (hK.sub [0] rfl) (va_recv hK hPc (ci := 2) (q0 := 0) rfl rfl)) rfl rfl hl.1 rfl (lv_room (Nat.le_of_ble_eq_true rfl)) d_Na_timesTwos_15 ⟨Nat.le_of_ble_eq_true rfl, Nat.le_of_ble_eq_true rfl⟩) (fun v2 H locs hw2 hK1 hP hD hS => ?_)
        have hP : va_P (dC, dI) cls [(h, .inr (2, [.ref w, .int (nI v2)])), (w, .inl (cJ, 26, .inr (.inl (bn_f (X * 2 ^ min y.toNat 31)))))] H := hP
        have hD : va_D A [(h, .inr (2, [.ref w, .int (nI v2)])), (w, .inl (cJ, 26, .inr (.inl (bn_f (X * 2 ^ min y.toNat 31)))))] := hD
        refine lv_iinc (v := iZ (y + -31)) (lv' := [(2, .int (iZ (y + -31))), (0, .ref h), (1, .int (iZ z))]) hx hb d_Na_timesTwos_18 hl (k := 0) rfl (iZ_add y (-31)) (by decide) rfl (fun ls hl => ?_)
        refine lv_goto (tgt := 2) hx hb d_Na_timesTwos_21 (by decide) ?_
        exact ih (y + -31) (X * 2 ^ min y.toNat 31) v2 H locs ls (by omega) (by omega) (by omega) hw2.2 hw2.1 (by rw [← he]; exact bn_chunk X 2 31 y hgt) hP hD hS (lv_sub hl [0, 1, 2] rfl)
  exact lp (z.toNat + 1) z V u H [] ls (by omega) (by omega) hz2 hV hu rfl hP hD hS (lv_sub hl [0, 1, 2] rfl)
set_option maxHeartbeats 4000000 in
set_option maxRecDepth 100000 in
/-- subtract -/
theorem c_Na_subtract (l : Launch) (dC : Nat → ClassId) (dI : Nat → Nat → Nat) (sz : Nat) (h w h2 w2 : Nat) (cJ : ClassId) (V u U : Nat) (ux : Int32) (hV : V < 2 ^ (32 * u)) (hu : u ≤ 26) (hUV : U ≤ V) : Met l y_Na_subtract (Cond.code y_Na_subtract b_Na_subtract 7 none :: gT) ({ frames := 0, cells := 0, slots := 0, locals := 0 }) (va_Pc [.ref h, .ref h2] (pw_P (dC, dI) cls [(cJ, .long)] pw_0 [(h, .inr (2, [.ref w, .int (nI u)])), (w, .inl (cJ, 26, .inr (.inl (bn_f V)))), (h2, .inr (2, [.ref w2, .int ux])), (w2, .inl (cJ, 26, .inr (.inl (bn_f U))))] sz)) (va_Qv (fun (uu : Unit) => True) (fun (uu : Unit) => pw_B (dC, dI) cls [(cJ, .long)] (va_A [(h, .inr (2, [.ref w, .int (nI u)])), (w, .inl (cJ, 26, .inr (.inl (bn_f V)))), (h2, .inr (2, [.ref w2, .int ux])), (w2, .inl (cJ, 26, .inr (.inl (bn_f U))))] sz) [(h, .inr (2, [.ref w, .int (nI u)])), (w, .inl (cJ, 26, .inr (.inl (bn_f (V - U))))), (h2, .inr (2, [.ref w2, .int ux])), (w2, .inl (cJ, 26, .inr (.inl (bn_f U))))]) (va_A [(h, .inr (2, [.ref w, .int (nI u)])), (w, .inl (cJ, 26, .inr (.inl (bn_f V)))), (h2, .inr (2, [.ref w2, .int ux])), (w2, .inl (cJ, 26, .inr (.inl (bn_f U))))] sz)) 0 0 (va_A [(h, .inr (2, [.ref w, .int (nI u)])), (w, .inl (cJ, 26, .inr (.inl (bn_f V)))), (h2, .inr (2, [.ref w2, .int ux])), (w2, .inl (cJ, 26, .inr (.inl (bn_f U))))] sz) := by
  refine pw_metv (tn := fun (uu : Unit) => [(cJ, .long)]) (wn := fun (uu : Unit) => [(h, .inr (2, [.ref w, .int (nI u)])), (w, .inl (cJ, 26, .inr (.inl (bn_f (V - U))))), (h2, .inr (2, [.ref w2, .int ux])), (w2, .inl (cJ, 26, .inr (.inl (bn_f U))))]) (by decide) (Nat.le_of_ble_eq_true rfl) ?_
  intro p e s m args below meth c A Q H ls hx hb hml hown hts hnm hA hE hP hK hD hS hret hl
  have hown : s.vm.findClass R_Na = some m.cls := hown
  have hl : lv_has ls 7 [(0, .ref h), (1, .ref h2)] := hl
  refine lv_lconst (v := 0) hx hb d_Na_subtract_0 (by decide) ?_
  refine lv_lstore_n (lv' := [(2, .long 0), (0, .ref h), (1, .ref h2)]) hx hb d_Na_subtract_1 rfl hl (by decide) rfl (fun ls hl => ?_)
  refine lv_iconst (v := 0) hx hb d_Na_subtract_2 (by decide) ?_
  refine lv_istore (lv' := [(4, .int 0), (2, .long 0), (0, .ref h), (1, .ref h2)]) hx hb d_Na_subtract_3 hl (by decide) rfl (fun ls hl => ?_)
  have lp : ∀ (n i : Nat) (H : Heap) (locs : List Loc) (ls : Array Slot), (i ≤ u) → (u + 1 ≤ i + n) → va_P (dC, dI) cls [(h, .inr (2, [.ref w, .int (nI u)])), (w, .inl (cJ, 26, .inr (.inl (bn_m (V - U) V i)))), (h2, .inr (2, [.ref w2, .int ux])), (w2, .inl (cJ, 26, .inr (.inl (bn_f U))))] H → va_D A [(h, .inr (2, [.ref w, .int (nI u)])), (w, .inl (cJ, 26, .inr (.inl (bn_m (V - U) V i)))), (h2, .inr (2, [.ref w2, .int ux])), (w2, .inl (cJ, 26, .inr (.inl (bn_f U))))] → va_S A s.heap H locs → lv_has ls 7 [(4, .int (nI i)), (2, .long (lZ (-(bn_b V U i : Int)))), (0, .ref h), (1, .ref h2)] → W p l e { frames := 0, cells := 0, slots := 0, locals := 0 } s m args below meth c H locs 0 0 Q (F0 m 5 ls []) := by
    intro n
    induction n with
    | zero => intro i H locs ls hi hn hP hD hS hl; exact absurd hn (by omega)
    | succ n ih =>
      intro i H locs ls hi hn hP hD hS hl
      refine lv_iload hx hb d_Na_subtract_5 (lv_at hl 0 rfl) ?_
      refine lv_aload_n hx hb d_Na_subtract_7 rfl (lv_at hl 2 rfl) ?_
      refine va_get (D := (dC, dI)) (ci := 2) (v := .int (nI u)) (C := R_Na) (T := F_Na) (N := 2) hx hb hts i_Na hown hK hP 0 rfl rfl 1 (by decide) (hts _ fl_Na_13) (fun _ h9 => h9) rfl d_Na_subtract_8 ?_
      refine lv_icmp_ge (tgt := 68) hx hb d_Na_subtract_11 (by decide) (fun hc => ?_) (fun hc => ?_)
      · obtain rfl : i = u := by have := (nI_leI (by omega) (by omega)).mp hc; omega
        have h9 : V - U < 2 ^ (32 * i) := Nat.lt_of_le_of_lt (Nat.sub_le _ _) hV
        exact hret _ _ _ _ () d_Na_subtract_68 trivial (by rw [← bn_m_all h9 hV]; exact hP) hK (by rw [← bn_m_all h9 hV]; exact hD) hS
      · have hlt : i < u := by have := mt (nI_leI (a := u) (b := i) (by omega) (by omega)).mpr hc; omega
        refine lv_iload hx hb d_Na_subtract_14 (lv_at hl 0 rfl) ?_
        refine lv_aload_n hx hb d_Na_subtract_16 rfl (lv_at hl 2 rfl) ?_
        refine va_get (D := (dC, dI)) (ci := 2) (v := .ref w) (C := R_Na) (T := F_Na) (N := 2) hx hb hts i_Na hown hK hP 0 rfl rfl 0 (by decide) (hts _ fl_Na_9) (fun _ h9 => h9) rfl d_Na_subtract_17 ?_
        refine va_alen (v := nI 26) hx hb hK hP 1 0 rfl rfl rfl d_Na_subtract_20 ?_
        refine lv_icmp_ge (tgt := 68) hx hb d_Na_subtract_21 (by decide) (fun hq => ?_) (fun hq => ?_)
        · exact absurd ((nI_leI (a := 26) (b := i) (by omega) (by omega)).mp hq) (by omega)
        · have hw1 := bn_w_lt V i
          have hw2 := bn_w_lt U i
          have hb1 := bn_b_le V U i
          refine lv_aload_n hx hb d_Na_subtract_24 rfl (lv_at hl 2 rfl) ?_
          refine va_get (D := (dC, dI)) (ci := 2) (v := .ref w) (C := R_Na) (T := F_Na) (N := 2) hx hb hts i_Na hown hK hP 0 rfl rfl 0 (by decide) (hts _ fl_Na_9) (fun _ h9 => h9) rfl d_Na_subtract_25 ?_
          refine lv_iload hx hb d_Na_subtract_28 (lv_at hl 0 rfl) ?_
          refine va_lald hx hb hK hP 1 0 rfl rfl (vp_in_nI (by omega) (by omega)) d_Na_subtract_30 ?_
          refine lv_topl (fun x_1 e_2 => ?_)
          obtain rfl : x_1 = lN (bn_w V i) := e_2.trans (by rw [nI_clamp (by omega)]; exact bn_m_at (V - U) V i)
          refine lv_aload_n hx hb d_Na_subtract_31 rfl (lv_at hl 3 rfl) ?_
          refine va_get (D := (dC, dI)) (ci := 2) (v := .ref w2) (C := R_Na) (T := F_Na) (N := 2) hx hb hts i_Na hown hK hP 2 rfl rfl 0 (by decide) (hts _ fl_Na_9) (fun _ h9 => h9) rfl d_Na_subtract_32 ?_
          refine lv_iload hx hb d_Na_subtract_35 (lv_at hl 0 rfl) ?_
          refine va_lald hx hb hK hP 3 0 rfl rfl (vp_in_nI (by omega) (by omega)) d_Na_subtract_37 ?_
          refine lv_topl (fun x_3 e_4 => ?_)
          obtain rfl : x_3 = lN (bn_w U i) := e_4.trans (by rw [nI_clamp (by omega)]; rfl)
          refine lv_lsub hx hb d_Na_subtract_38 ?_
          refine lv_topl (fun x_5 e_6 => ?_)
          obtain rfl : x_5 = lZ ((bn_w V i : Int) - bn_w U i) := e_6.trans (lZ_nsub _ _)
          refine lv_lload_n hx hb d_Na_subtract_39 rfl (lv_at hl 1 rfl) ?_
          refine lv_ladd hx hb d_Na_subtract_40 ?_
          refine lv_topl (fun x_7 e_8 => ?_)
          obtain rfl : x_7 = lZ ((bn_w V i : Int) - bn_w U i - bn_b V U i) := e_8.trans (lZ_add _ _)
          refine lv_lstore (lv' := [(5, .long (lZ ((bn_w V i : Int) - bn_w U i - bn_b V U i))), (4, .int (nI i)), (2, .long (lZ (-(bn_b V U i : Int)))), (0, .ref h), (1, .ref h2)]) hx hb d_Na_subtract_41 hl (by decide) rfl (fun ls hl => ?_)
          refine lv_aload_n hx hb d_Na_subtract_43 rfl (lv_at hl 3 rfl) ?_
          refine va_get (D := (dC, dI)) (ci := 2) (v := .ref w) (C := R_Na) (T := F_Na) (N := 2) hx hb hts i_Na hown hK hP 0 rfl rfl 0 (by decide) (hts _ fl_Na_9) (fun _ h9 => h9) rfl d_Na_subtract_44 ?_
          refine lv_iload hx hb d_Na_subtract_47 (lv_at hl 1 rfl) ?_
          refine lv_lload hx hb d_Na_subtract_49 (lv_at hl 0 rfl) ?_
          refine lv_ldc2 (v := 4294967295) hx hb hown (hts _ kl_Na_17) d_Na_subtract_51 ?_
          refine lv_land hx hb d_Na_subtract_54 ?_
          refine lv_topl (fun x_9 e_10 => ?_)
          obtain rfl : x_9 = lN (bn_w (V - U) i) := e_10.trans ((lZ_lo _).trans (by rw [bn_s_lo i hUV]; rfl))
          refine va_last hx hb hK hP hD hS 1 0 rfl rfl (vp_in_nI (by omega) (by omega)) d_Na_subtract_55 (fun H locs hP hD hS => ?_)
          have e_11 : vp_updL (bn_m (V - U) V i) (nI i).toNatClampNeg (lN (bn_w (V - U) i)) = bn_m (V - U) V (i + 1) := by rw [nI_clamp (by omega)]; exact bn_m_up (V - U) V i
          have hP : va_P (dC, dI) cls [(h, .inr (2, [.ref w, .int (nI u)])), (w, .inl (cJ, 26, .inr (.inl (bn_m (V - U) V (i + 1))))), (h2, .inr (2, [.ref w2, .int ux])), (w2, .inl (cJ, 26, .inr (.inl (bn_f U))))] H := by rw [← e_11]; exact hP
          have hD : va_D A [(h, .inr (2, [.ref w, .int (nI u)])), (w, .inl (cJ, 26, .inr (.inl (bn_m (V - U) V (i + 1))))), (h2, .inr (2, [.ref w2, .int ux])), (w2, .inl (cJ, 26, .inr (.inl (bn_f U))))] := by rw [← e_11]; exact hD
          refine lv_lload hx hb d_Na_subtract_56 (lv_at hl 0 rfl) ?_
          refine lv_bipush (v := 32) hx hb d_Na_subtract_58 (by decide) ?_
          refine lv_lshr (v := lZ (-(bn_b V U (i + 1) : Int))) hx hb d_Na_subtract_60 ((lZ_shr (by decide) (by omega) (by omega)).trans (by rw [bn_s_hi])) ?_
          refine lv_lstore_n (lv' := [(2, .long (lZ (-(bn_b V U (i + 1) : Int)))), (5, .long (lZ ((bn_w V i : Int) - bn_w U i - bn_b V U i))), (4, .int (nI i)), (0, .ref h), (1, .ref h2)]) hx hb d_Na_subtract_61 rfl hl (by decide) rfl (fun ls hl => ?_)
          refine lv_iinc (v := nI (i + 1)) (lv' := [(4, .int (nI (i + 1))), (2, .long (lZ (-(bn_b V U (i + 1) : Int)))), (5, .long (lZ ((bn_w V i : Int) - bn_w U i - bn_b V U i))), (0, .ref h), (1, .ref h2)]) hx hb d_Na_subtract_62 hl (k := 2) rfl (nI_1 i) (by decide) rfl (fun ls hl => ?_)
          refine lv_goto (tgt := 5) hx hb d_Na_subtract_65 (by decide) ?_
          exact ih (i + 1) H locs ls (by omega) (by omega) hP hD hS (lv_sub hl [0, 1, 3, 4] rfl)
  exact lp (u + 1) 0 H [] ls (by omega) (by omega) (by rw [bn_m_0]; exact hP) (by rw [bn_m_0]; exact hD) hS (by rw [bn_b_0]; exact lv_sub hl [0, 1, 2, 3] rfl)

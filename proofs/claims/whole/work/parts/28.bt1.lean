set_option maxHeartbeats 4000000 in
set_option maxRecDepth 100000 in
/-- kindOf -/
theorem c_Bt_kindOf (l : Launch) (dC : Nat → ClassId) (dI : Nat → Nat → Nat) (sz : Nat) (ad adK adV : Nat → Nat) (i e9 fr : Nat) (hi : i < 2) (he9 : e9 < 2 ^ 31) (hfr : fr < 2 ^ 63) : Met l y_Bt_kindOf (Cond.code y_Bt_kindOf b_Bt_kindOf 4 (some .int) :: gT) ({ frames := 0, cells := 0, slots := 0, locals := 0 }) (va_Pc [.ref (ad i), .int (nI e9), .long (lN fr)] (pw_P (dC, dI) cls [] (cb_E ad adK adV) [] sz)) (va_Qi (fun (r : Int32) (uu : Unit) => r = nI (kdo i e9 fr)) (fun (uu : Unit) => pw_B (dC, dI) cls [] (va_A [] sz) []) (va_A [] sz)) 0 0 (va_A [] sz) := by
  refine pw_meti (tn := fun (uu : Unit) => []) (wn := fun (uu : Unit) => []) (by decide) (Nat.le_of_ble_eq_true rfl) ?_
  intro p e s m args below meth c A Q H ls hx hb hml hown hts hA hE hP hK hD hS hret hl
  have hown : s.vm.findClass R_Bt = some m.cls := hown
  have hl : lv_has ls 4 [(0, .ref (ad i)), (1, .int (nI e9)), (2, .long (lN fr))] := hl
  have hb9 := la_b i
  have hp11 : 2 ^ EB i ≤ 2 ^ 11 := Nat.pow_le_pow_right (by decide) (by omega)
  refine lv_iload_n hx hb d_Bt_kindOf_0 rfl (lv_at hl 1 rfl) ?_
  refine lv_aload_n hx hb d_Bt_kindOf_1 rfl (lv_at hl 0 rfl) ?_
  refine va_getE (q := (R_La, "topExponent", "I", cb_te)) hx hb hE.2.1 hi hS hown (List.mem_of_getElem? (i := 1) rfl) (hts _ fl_Bt_127) (fun _ h9 => h9) d_Bt_kindOf_2 ?_
  refine lv_topi (fun x_1 e_2 => ?_)
  obtain rfl : x_1 = nI (2 ^ EB i - 1) := e_2.trans (la_te i hi)
  refine lv_icmp_ne (tgt := 20) hx hb d_Bt_kindOf_5 (by decide) (fun hc => ?_) (fun hc => ?_)
  · have hne : e9 ≠ 2 ^ EB i - 1 := fun q => hc (by rw [q])
    refine lv_iload_n hx hb d_Bt_kindOf_20 rfl (lv_at hl 1 rfl) ?_
    refine lv_if_ne (tgt := 34) hx hb d_Bt_kindOf_21 (by decide) (fun hc2 => ?_) (fun hc2 => ?_)
    · have h0 : e9 ≠ 0 := fun q => hc2 (by rw [q]; rfl)
      have hk : kdo i e9 fr = 4 := by unfold kdo; rw [if_neg hne, if_neg (by omega)]
      refine lv_iconst (v := 4) hx hb d_Bt_kindOf_34 (by decide) ?_
      exact hret _ _ _ _ _ () d_Bt_kindOf_35 (vp_nar_int _) (by rw [hk]; rfl) hP hK hD hS
    · have h0 : e9 = 0 := (nI_eq (b := 0) he9 (by omega)).mp hc2
      refine lv_lload_n hx hb d_Bt_kindOf_24 rfl (lv_at hl 2 rfl) ?_
      refine lv_lconst (v := 0) hx hb d_Bt_kindOf_25 (by decide) ?_
      refine lx_ne (tgt := 34) hx hb d_Bt_kindOf_26 d_Bt_kindOf_27 (by decide) (fun hc3 => ?_) (fun hc3 => ?_)
      · have h1 : fr ≠ 0 := fun q => hc3 (by rw [q]; rfl)
        have hk : kdo i e9 fr = 4 := by unfold kdo; rw [if_neg hne, if_neg (by omega)]
        refine lv_iconst (v := 4) hx hb d_Bt_kindOf_34 (by decide) ?_
        exact hret _ _ _ _ _ () d_Bt_kindOf_35 (vp_nar_int _) (by rw [hk]; rfl) hP hK hD hS
      · have h1 : fr = 0 := (pk_lEQ (a := fr) (b := 0) hfr (by omega)).mp hc3
        have hk : kdo i e9 fr = 3 := by unfold kdo; rw [if_neg hne, if_pos ⟨h0, h1⟩]
        refine lv_iconst (v := 3) hx hb d_Bt_kindOf_30 (by decide) ?_
        refine lv_goto (tgt := 35) hx hb d_Bt_kindOf_31 (by decide) ?_
        exact hret _ _ _ _ _ () d_Bt_kindOf_35 (vp_nar_int _) (by rw [hk]; rfl) hP hK hD hS
  · have he : e9 = 2 ^ EB i - 1 := (nI_eq he9 (by omega)).mp hc
    refine lv_lload_n hx hb d_Bt_kindOf_8 rfl (lv_at hl 2 rfl) ?_
    refine lv_lconst (v := 0) hx hb d_Bt_kindOf_9 (by decide) ?_
    refine lx_ne (tgt := 18) hx hb d_Bt_kindOf_10 d_Bt_kindOf_11 (by decide) (fun hc3 => ?_) (fun hc3 => ?_)
    · have h1 : fr ≠ 0 := fun q => hc3 (by rw [q]; rfl)
      have hk : kdo i e9 fr = 1 := by unfold kdo; rw [if_pos he, if_neg h1]
      refine lv_iconst (v := 1) hx hb d_Bt_kindOf_18 (by decide) ?_
      exact hret _ _ _ _ _ () d_Bt_kindOf_19 (vp_nar_int _) (by rw [hk]; rfl) hP hK hD hS
    · have h1 : fr = 0 := (pk_lEQ (a := fr) (b := 0) hfr (by omega)).mp hc3
      have hk : kdo i e9 fr = 2 := by unfold kdo; rw [if_pos he, if_pos h1]
      refine lv_iconst (v := 2) hx hb d_Bt_kindOf_14 (by decide) ?_
      refine lv_goto (tgt := 19) hx hb d_Bt_kindOf_15 (by decide) ?_
      exact hret _ _ _ _ _ () d_Bt_kindOf_19 (vp_nar_int _) (by rw [hk]; rfl) hP hK hD hS
set_option maxHeartbeats 4000000 in
set_option maxRecDepth 100000 in
/-- putPlaces -/
theorem c_Bt_putPlaces (l : Launch) (dC : Nat → ClassId) (dI : Nat → Nat → Nat) (sz : Nat) (hB hf q1 w1 q2 w2 q3 w3 hd wd ht wt : Nat) (cJ cC : ClassId) (lo hi9 : Int) (kd mi : Nat) (X U O : Nat) (xu xa xo : Int32) (g : Nat → Int32) (n D : Nat) (T : Int) (f : Nat → Int32) (t : List Nat) (a b : Int)  (hn : isnd D n) (hg : dgs g D n) (hD9 : D < 2 ^ 63) (hT1 : -2 ^ 19 < T) (hT2 : T < 2 ^ 19) (htx : tx f t) (ha1 : -2 ^ 19 < a) (ha2 : a < 2 ^ 19) (hb1 : -2 ^ 19 < b) (hb2 : b < 2 ^ 19) (hlen : t.length + (a - b + 1).toNat ≤ 64) : Met l y_Bt_putPlaces (Cond.code y_Bt_putPlaces b_Bt_putPlaces 4 none :: gT) ({ frames := 1, cells := 0, slots := 0, locals := 22 }) (va_Pc [.ref hB, .int (iZ a), .int (iZ b)] (pw_P (dC, dI) cls [(cJ, .long), (cC, .char)] pw_0 [(hB, .inr (4, [.ref hf, .ref hd, .ref ht, .int (iZ lo), .int (iZ hi9), .int (nI kd), .int (nI mi)])), (hf, .inr (1, [.ref q1, .ref q2, .ref q3])), (q1, .inr (2, [.ref w1, .int xu])), (w1, .inl (cJ, 26, .inr (.inl (bn_f X)))), (q2, .inr (2, [.ref w2, .int xa])), (w2, .inl (cJ, 26, .inr (.inl (bn_f U)))), (q3, .inr (2, [.ref w3, .int xo])), (w3, .inl (cJ, 26, .inr (.inl (bn_f O)))), (hd, .inr (0, [.ref wd, .int (nI n), .long (lN D), .int (iZ T)])), (wd, .inl (cC, 19, .inl (g))), (ht, .inr (3, [.ref wt, .int (nI t.length)])), (wt, .inl (cC, 64, .inl (f)))] sz)) (va_Qv (fun (f2 : Nat → Int32) => tx f2 (t ++ pls D T a b)) (fun (f2 : Nat → Int32) => pw_B (dC, dI) cls [(cJ, .long), (cC, .char)] (va_A [(hB, .inr (4, [.ref hf, .ref hd, .ref ht, .int (iZ lo), .int (iZ hi9), .int (nI kd), .int (nI mi)])), (hf, .inr (1, [.ref q1, .ref q2, .ref q3])), (q1, .inr (2, [.ref w1, .int xu])), (w1, .inl (cJ, 26, .inr (.inl (bn_f X)))), (q2, .inr (2, [.ref w2, .int xa])), (w2, .inl (cJ, 26, .inr (.inl (bn_f U)))), (q3, .inr (2, [.ref w3, .int xo])), (w3, .inl (cJ, 26, .inr (.inl (bn_f O)))), (hd, .inr (0, [.ref wd, .int (nI n), .long (lN D), .int (iZ T)])), (wd, .inl (cC, 19, .inl (g))), (ht, .inr (3, [.ref wt, .int (nI t.length)])), (wt, .inl (cC, 64, .inl (f)))] sz) [(hB, .inr (4, [.ref hf, .ref hd, .ref ht, .int (iZ lo), .int (iZ hi9), .int (nI kd), .int (nI mi)])), (hf, .inr (1, [.ref q1, .ref q2, .ref q3])), (q1, .inr (2, [.ref w1, .int xu])), (w1, .inl (cJ, 26, .inr (.inl (bn_f X)))), (q2, .inr (2, [.ref w2, .int xa])), (w2, .inl (cJ, 26, .inr (.inl (bn_f U)))), (q3, .inr (2, [.ref w3, .int xo])), (w3, .inl (cJ, 26, .inr (.inl (bn_f O)))), (hd, .inr (0, [.ref wd, .int (nI n), .long (lN D), .int (iZ T)])), (wd, .inl (cC, 19, .inl (g))), (ht, .inr (3, [.ref wt, .int (nI (t ++ pls D T a b).length)])), (wt, .inl (cC, 64, .inl (f2)))]) (va_A [(hB, .inr (4, [.ref hf, .ref hd, .ref ht, .int (iZ lo), .int (iZ hi9), .int (nI kd), .int (nI mi)])), (hf, .inr (1, [.ref q1, .ref q2, .ref q3])), (q1, .inr (2, [.ref w1, .int xu])), (w1, .inl (cJ, 26, .inr (.inl (bn_f X)))), (q2, .inr (2, [.ref w2, .int xa])), (w2, .inl (cJ, 26, .inr (.inl (bn_f U)))), (q3, .inr (2, [.ref w3, .int xo])), (w3, .inl (cJ, 26, .inr (.inl (bn_f O)))), (hd, .inr (0, [.ref wd, .int (nI n), .long (lN D), .int (iZ T)])), (wd, .inl (cC, 19, .inl (g))), (ht, .inr (3, [.ref wt, .int (nI t.length)])), (wt, .inl (cC, 64, .inl (f)))] sz)) 0 0 (va_A [(hB, .inr (4, [.ref hf, .ref hd, .ref ht, .int (iZ lo), .int (iZ hi9), .int (nI kd), .int (nI mi)])), (hf, .inr (1, [.ref q1, .ref q2, .ref q3])), (q1, .inr (2, [.ref w1, .int xu])), (w1, .inl (cJ, 26, .inr (.inl (bn_f X)))), (q2, .inr (2, [.ref w2, .int xa])), (w2, .inl (cJ, 26, .inr (.inl (bn_f U)))), (q3, .inr (2, [.ref w3, .int xo])), (w3, .inl (cJ, 26, .inr (.inl (bn_f O)))), (hd, .inr (0, [.ref wd, .int (nI n), .long (lN D), .int (iZ T)])), (wd, .inl (cC, 19, .inl (g))), (ht, .inr (3, [.ref wt, .int (nI t.length)])), (wt, .inl (cC, 64, .inl (f)))] sz) := by
  refine pw_metv (tn := fun (f2 : Nat → Int32) => [(cJ, .long), (cC, .char)]) (wn := fun (f2 : Nat → Int32) => [(hB, .inr (4, [.ref hf, .ref hd, .ref ht, .int (iZ lo), .int (iZ hi9), .int (nI kd), .int (nI mi)])), (hf, .inr (1, [.ref q1, .ref q2, .ref q3])), (q1, .inr (2, [.ref w1, .int xu])), (w1, .inl (cJ, 26, .inr (.inl (bn_f X)))), (q2, .inr (2, [.ref w2, .int xa])), (w2, .inl (cJ, 26, .inr (.inl (bn_f U)))), (q3, .inr (2, [.ref w3, .int xo])), (w3, .inl (cJ, 26, .inr (.inl (bn_f O)))), (hd, .inr (0, [.ref wd, .int (nI n), .long (lN D), .int (iZ T)])), (wd, .inl (cC, 19, .inl (g))), (ht, .inr (3, [.ref wt, .int (nI (t ++ pls D T a b).length)])), (wt, .inl (cC, 64, .inl (f2)))]) (by decide) (Nat.le_of_ble_eq_true rfl) ?_
  intro p e s m args below meth c A Q H ls hx hb hml hown hts hnm hA hE hP hK hD hS hret hl
  have hown : s.vm.findClass R_Bt = some m.cls := hown
  have hl : lv_has ls 4 [(0, .ref hB), (1, .int (iZ a)), (2, .int (iZ b))] := hl
  refine lv_iload_n hx hb d_Bt_putPlaces_0 rfl (lv_at hl 1 rfl) ?_
  refine lv_istore_n (lv' := [(3, .int (iZ a)), (0, .ref hB), (1, .int (iZ a)), (2, .int (iZ b))]) hx hb d_Bt_putPlaces_1 rfl hl (by decide) rfl (fun ls hl => ?_)
  have lp : ∀ (k : Nat) (y : Int) (f : Nat → Int32) (tt : List Nat) (H : Heap) (locs : List Loc) (ls : Array Slot), ((y - b + 1).toNat < k) → (-2 ^ 20 < y) → (y < 2 ^ 19) → (tx f tt) → (tt ++ plc D T y (y - b + 1).toNat = t ++ pls D T a b) → (tt.length + (y - b + 1).toNat ≤ 64) → va_P (dC, dI) cls [(hB, .inr (4, [.ref hf, .ref hd, .ref ht, .int (iZ lo), .int (iZ hi9), .int (nI kd), .int (nI mi)])), (hf, .inr (1, [.ref q1, .ref q2, .ref q3])), (q1, .inr (2, [.ref w1, .int xu])), (w1, .inl (cJ, 26, .inr (.inl (bn_f X)))), (q2, .inr (2, [.ref w2, .int xa])), (w2, .inl (cJ, 26, .inr (.inl (bn_f U)))), (q3, .inr (2, [.ref w3, .int xo])), (w3, .inl (cJ, 26, .inr (.inl (bn_f O)))), (hd, .inr (0, [.ref wd, .int (nI n), .long (lN D), .int (iZ T)])), (wd, .inl (cC, 19, .inl (g))), (ht, .inr (3, [.ref wt, .int (nI tt.length)])), (wt, .inl (cC, 64, .inl (f)))] H → va_D A [(hB, .inr (4, [.ref hf, .ref hd, .ref ht, .int (iZ lo), .int (iZ hi9), .int (nI kd), .int (nI mi)])), (hf, .inr (1, [.ref q1, .ref q2, .ref q3])), (q1, .inr (2, [.ref w1, .int xu])), (w1, .inl (cJ, 26, .inr (.inl (bn_f X)))), (q2, .inr (2, [.ref w2, .int xa])), (w2, .inl (cJ, 26, .inr (.inl (bn_f U)))), (q3, .inr (2, [.ref w3, .int xo])), (w3, .inl (cJ, 26, .inr (.inl (bn_f O)))), (hd, .inr (0, [.ref wd, .int (nI n), .long (lN D), .int (iZ T)])), (wd, .inl (cC, 19, .inl (g))), (ht, .inr (3, [.ref wt, .int (nI tt.length)])), (wt, .inl (cC, 64, .inl (f)))] → va_S A s.heap H locs → lv_has ls 4 [(3, .int (iZ y)), (0, .ref hB), (1, .int (iZ a)), (2, .int (iZ b))] → W p l e { frames := 1, cells := 0, slots := 0, locals := 22 } s m args below meth c H locs 0 0 Q (F0 m 2 ls []) := by
    intro k
    induction k with
    | zero => intro y f tt H locs ls hk hy1 hy2 htx he hl9 hP hD hS hl; exact absurd hk (by omega)
    | succ k ih =>
      intro y f tt H locs ls hk hy1 hy2 htx he hl9 hP hD hS hl
      refine lv_iload_n hx hb d_Bt_putPlaces_2 rfl (lv_at hl 0 rfl) ?_
      refine lv_iload_n hx hb d_Bt_putPlaces_3 rfl (lv_at hl 3 rfl) ?_
      refine lv_icmp_lt (tgt := 28) hx hb d_Bt_putPlaces_4 (by decide) (fun hc => ?_) (fun hc => ?_)
      · have hlt : y < b := (iZ_lt (by omega) (by omega) (by omega) (by omega)).mp hc
        rw [show (y - b + 1).toNat = 0 from by omega, plc, List.append_nil] at he
        rw [he] at htx hP hD
        exact hret _ _ _ _ f d_Bt_putPlaces_28 htx hP hK hD hS
      · have hge : b ≤ y := by have := mt (iZ_lt (a := y) (b := b) (by omega) (by omega) (by omega) (by omega)).mpr hc; omega
        have hk2 : (y - b + 1).toNat = (y + -1 - b + 1).toNat + 1 := by omega
        rw [hk2, plc] at he
        refine lv_aload_n hx hb d_Bt_putPlaces_7 rfl (lv_at hl 1 rfl) ?_
        refine va_get (D := (dC, dI)) (ci := 4) (v := .ref ht) (C := R_Bt) (T := F_Bt) (N := 7) hx hb hts i_Bt hown hK hP 0 rfl rfl 2 (by decide) (hts _ fl_Bt_26) (fun _ h9 => h9) rfl d_Bt_putPlaces_8 ?_
        refine lv_aload_n hx hb d_Bt_putPlaces_11 rfl (lv_at hl 1 rfl) ?_
        refine va_get (D := (dC, dI)) (ci := 4) (v := .ref hd) (C := R_Bt) (T := F_Bt) (N := 7) hx hb hts i_Bt hown hK hP 0 rfl rfl 1 (by decide) (hts _ fl_Bt_19) (fun _ h9 => h9) rfl d_Bt_putPlaces_12 ?_
        refine lv_iload_n hx hb d_Bt_putPlaces_15 rfl (lv_at hl 0 rfl) ?_
        have hdl := dga_lt D (y - T)
        refine pw_calli (wc := [(hd, .inr (0, [.ref wd, .int (nI n), .long (lN D), .int (iZ T)])), (wd, .inl (cC, 19, .inl (g)))]) (wr := [(hB, .inr (4, [.ref hf, .ref hd, .ref ht, .int (iZ lo), .int (iZ hi9), .int (nI kd), .int (nI mi)])), (hf, .inr (1, [.ref q1, .ref q2, .ref q3])), (q1, .inr (2, [.ref w1, .int xu])), (w1, .inl (cJ, 26, .inr (.inl (bn_f X)))), (q2, .inr (2, [.ref w2, .int xa])), (w2, .inl (cJ, 26, .inr (.inl (bn_f U)))), (q3, .inr (2, [.ref w3, .int xo])), (w3, .inl (cJ, 26, .inr (.inl (bn_f O)))), (ht, .inr (3, [.ref wt, .int (nI tt.length)])), (wt, .inl (cC, 64, .inl (f)))]) [8, 9] [0, 1, 2, 3, 4, 5, 6, 7, 10, 11] rfl rfl rfl (by decide) (by decide) (by decide) hP hD hS hA (fun hPc hDc hF => va_runV (As := [.int (iZ y)]) (rest := [.ref ht]) ⟨hx, hb, hml, hown, hts⟩ (c_De_digitAt l dC dI H.size hd wd cC g D n T y hn hg hD9 (by omega) (by omega) (by omega) (by omega)) (cwV 1 hts (gw_V (gw_self cod_De_digitAt) ml_Bt_158 im_De_digitAt sel_De_digitAt ini_De) rfl rfl rfl (by decide +kernel) ⟨Nat.le_of_ble_eq_true rfl, Nat.le_of_ble_eq_true rfl⟩) (pw_preV pw_0_ok (trivial : pw_0 A s s.heap) hS hF hPc hDc (hK.sub [1] rfl) (va_recv hK hPc (ci := 0) (q0 := 0) rfl rfl)) rfl rfl hl.1 rfl (lv_room (Nat.le_of_ble_eq_true rfl)) d_Bt_putPlaces_16 ⟨Nat.le_of_ble_eq_true rfl, Nat.le_of_ble_eq_true rfl⟩) (fun r5 u5 H locs hw5 hK1 hP hD hS => ?_)
        have hP : va_P (dC, dI) cls [(hB, .inr (4, [.ref hf, .ref hd, .ref ht, .int (iZ lo), .int (iZ hi9), .int (nI kd), .int (nI mi)])), (hf, .inr (1, [.ref q1, .ref q2, .ref q3])), (q1, .inr (2, [.ref w1, .int xu])), (w1, .inl (cJ, 26, .inr (.inl (bn_f X)))), (q2, .inr (2, [.ref w2, .int xa])), (w2, .inl (cJ, 26, .inr (.inl (bn_f U)))), (q3, .inr (2, [.ref w3, .int xo])), (w3, .inl (cJ, 26, .inr (.inl (bn_f O)))), (hd, .inr (0, [.ref wd, .int (nI n), .long (lN D), .int (iZ T)])), (wd, .inl (cC, 19, .inl (g))), (ht, .inr (3, [.ref wt, .int (nI tt.length)])), (wt, .inl (cC, 64, .inl (f)))] H := hP.sub [0, 1, 2, 3, 4, 5, 6, 7, 10, 11, 8, 9] rfl
        have hD : va_D A [(hB, .inr (4, [.ref hf, .ref hd, .ref ht, .int (iZ lo), .int (iZ hi9), .int (nI kd), .int (nI mi)])), (hf, .inr (1, [.ref q1, .ref q2, .ref q3])), (q1, .inr (2, [.ref w1, .int xu])), (w1, .inl (cJ, 26, .inr (.inl (bn_f X)))), (q2, .inr (2, [.ref w2, .int xa])), (w2, .inl (cJ, 26, .inr (.inl (bn_f U)))), (q3, .inr (2, [.ref w3, .int xo])), (w3, .inl (cJ, 26, .inr (.inl (bn_f O)))), (hd, .inr (0, [.ref wd, .int (nI n), .long (lN D), .int (iZ T)])), (wd, .inl (cC, 19, .inl (g))), (ht, .inr (3, [.ref wt, .int (nI tt.length)])), (wt, .inl (cC, 64, .inl (f)))] := hD.sub [0, 1, 2, 3, 4, 5, 6, 7, 10, 11, 8, 9] (by decide) rfl
        subst hw5
        refine pw_callv (wc := [(ht, .inr (3, [.ref wt, .int (nI tt.length)])), (wt, .inl (cC, 64, .inl (f)))]) (wr := [(hB, .inr (4, [.ref hf, .ref hd, .ref ht, .int (iZ lo), .int (iZ hi9), .int (nI kd), .int (nI mi)])), (hf, .inr (1, [.ref q1, .ref q2, .ref q3])), (q1, .inr (2, [.ref w1, .int xu])), (w1, .inl (cJ, 26, .inr (.inl (bn_f X)))), (q2, .inr (2, [.ref w2, .int xa])), (w2, .inl (cJ, 26, .inr (.inl (bn_f U)))), (q3, .inr (2, [.ref w3, .int xo])), (w3, .inl (cJ, 26, .inr (.inl (bn_f O)))), (hd, .inr (0, [.ref wd, .int (nI n), .long (lN D), .int (iZ T)])), (wd, .inl (cC, 19, .inl (g)))]) [10, 11] [0, 1, 2, 3, 4, 5, 6, 7, 8, 9] rfl rfl rfl (by decide) (by decide) (by decide) hP hD hS hA (fun hPc hDc hF => va_runV (As := [.int (nI (dga D (y - T)))]) (rest := []) ⟨hx, hb, hml, hown, hts⟩ (c_Te_put l dC dI H.size ht wt cC f tt (dga D (y - T)) htx (by omega) (by omega)) (cwV 1 hts (gw_V (gw_self cod_Te_put) ml_Bt_123 im_Te_put sel_Te_put ini_Te) rfl rfl rfl (by decide +kernel) ⟨Nat.le_of_ble_eq_true rfl, Nat.le_of_ble_eq_true rfl⟩) (pw_preV pw_0_ok (trivial : pw_0 A s s.heap) hS hF hPc hDc (hK.sub [1] rfl) (va_recv hK hPc (ci := 3) (q0 := 0) rfl rfl)) rfl rfl hl.1 rfl (lv_room (Nat.le_of_ble_eq_true rfl)) d_Bt_putPlaces_19 ⟨Nat.le_of_ble_eq_true rfl, Nat.le_of_ble_eq_true rfl⟩) (fun f3 H locs hw3 hK1 hP hD hS => ?_)
        have hP : va_P (dC, dI) cls [(hB, .inr (4, [.ref hf, .ref hd, .ref ht, .int (iZ lo), .int (iZ hi9), .int (nI kd), .int (nI mi)])), (hf, .inr (1, [.ref q1, .ref q2, .ref q3])), (q1, .inr (2, [.ref w1, .int xu])), (w1, .inl (cJ, 26, .inr (.inl (bn_f X)))), (q2, .inr (2, [.ref w2, .int xa])), (w2, .inl (cJ, 26, .inr (.inl (bn_f U)))), (q3, .inr (2, [.ref w3, .int xo])), (w3, .inl (cJ, 26, .inr (.inl (bn_f O)))), (hd, .inr (0, [.ref wd, .int (nI n), .long (lN D), .int (iZ T)])), (wd, .inl (cC, 19, .inl (g))), (ht, .inr (3, [.ref wt, .int (nI (tt ++ [dga D (y - T)]).length)])), (wt, .inl (cC, 64, .inl (f3)))] H := hP
        have hD : va_D A [(hB, .inr (4, [.ref hf, .ref hd, .ref ht, .int (iZ lo), .int (iZ hi9), .int (nI kd), .int (nI mi)])), (hf, .inr (1, [.ref q1, .ref q2, .ref q3])), (q1, .inr (2, [.ref w1, .int xu])), (w1, .inl (cJ, 26, .inr (.inl (bn_f X)))), (q2, .inr (2, [.ref w2, .int xa])), (w2, .inl (cJ, 26, .inr (.inl (bn_f U)))), (q3, .inr (2, [.ref w3, .int xo])), (w3, .inl (cJ, 26, .inr (.inl (bn_f O)))), (hd, .inr (0, [.ref wd, .int (nI n), .long (lN D), .int (iZ T)])), (wd, .inl (cC, 19, .inl (g))), (ht, .inr (3, [.ref wt, .int (nI (tt ++ [dga D (y - T)]).length)])), (wt, .inl (cC, 64, .inl (f3)))] := hD
        refine lv_iinc (v := iZ (y + -1)) (lv' := [(3, .int (iZ (y + -1))), (0, .ref hB), (1, .int (iZ a)), (2, .int (iZ b))]) hx hb d_Bt_putPlaces_22 hl (k := 0) rfl (iZ_add y (-1)) (by decide) rfl (fun ls hl => ?_)
        refine lv_goto (tgt := 2) hx hb d_Bt_putPlaces_25 (by decide) ?_
        exact ih (y + -1) f3 (tt ++ [dga D (y - T)]) H _ ls (by omega) (by omega) (by omega) hw3 (by rw [List.append_assoc, ← he]; rfl) (by rw [List.length_append, List.length_singleton]; omega) hP hD hS (lv_sub hl [0, 1, 2, 3] rfl)
  exact lp ((a - b + 1).toNat + 1) a f t H _ ls (by omega) (by omega) (by omega) htx rfl hlen hP hD hS (lv_sub hl [0, 1, 2, 3] rfl)

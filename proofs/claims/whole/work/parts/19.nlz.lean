set_option maxHeartbeats 4000000 in
set_option maxRecDepth 100000 in
/-- Integer.numberOfLeadingZeros -/
theorem c_JI_nlz (l : Launch) (dC : Nat → ClassId) (dI : Nat → Nat → Nat) (sz : Nat) (v b : Nat) (hv : isbl v b) (hb2 : b ≤ 32) : Met l y_JI_numberOfLeadingZeros (Cond.code y_JI_numberOfLeadingZeros b_JI_numberOfLeadingZeros 2 (some .int) :: gT) ({ frames := 0, cells := 0, slots := 0, locals := 0 }) (va_Pc [.int (nI v)] (pw_P (dC, dI) cls [] pw_0 [] sz)) (va_Qi (fun (r : Int32) (uu : Unit) => r = nI (32 - b)) (fun (uu : Unit) => pw_B (dC, dI) cls [] (va_A [] sz) []) (va_A [] sz)) 0 0 (va_A [] sz) := by
  refine pw_meti (tn := fun (uu : Unit) => []) (wn := fun (uu : Unit) => []) (by decide) (Nat.le_of_ble_eq_true rfl) ?_
  intro p e s m args below meth c A Q H ls hx hb hml hown hts hA hE hP hK hD hS hret hl
  have hown : s.vm.findClass R_JI = some m.cls := hown
  have hl : lv_has ls 2 [(0, .int (nI v))] := hl
  have hv32 : v < 2 ^ 32 := Nat.lt_of_lt_of_le hv.1 (Nat.pow_le_pow_right (by decide) hb2)
  have k73 : ∀ (i n d : Nat) (H : Heap) (locs : List Loc) (ls : Array Slot), isbl i d → 0 < d → d ≤ 2 → n + b = 31 + d → n ≤ 31 → va_P (dC, dI) cls [] H → va_D A [] → va_S A s.heap H locs → lv_has ls 2 [(1, .int (nI n)), (0, .int (nI i))] → W p l e { frames := 0, cells := 0, slots := 0, locals := 0 } s m args below meth c H locs 0 0 Q (F0 m 73 ls []) := by
    intro i n d H locs ls hi hd0 hd hn hn31 hP hD hS hl
    have hi4 : i < 2 ^ 2 := Nat.lt_of_lt_of_le hi.1 (Nat.pow_le_pow_right (by decide) hd)
    have hdi : i / 2 = d - 1 := by
      rcases (show d = 1 ∨ d = 2 by omega) with rfl | rfl
      · have h1 := hi.1; omega
      · rcases hi.2 with g | g; omega; have h1 := hi.1; simp at g; omega
    refine lv_iload_n hx hb d_JI_numberOfLeadingZeros_73 rfl (lv_at hl 0 rfl) ?_
    refine lv_iload_n hx hb d_JI_numberOfLeadingZeros_74 rfl (lv_at hl 1 rfl) ?_
    refine lv_iconst (v := 1) hx hb d_JI_numberOfLeadingZeros_75 (by decide) ?_
    refine lv_iushr (v := nI (d - 1)) hx hb d_JI_numberOfLeadingZeros_76 ((pk_ushrN (n := i) (by omega) 1 1 (by decide)).trans (by rw [Nat.pow_one, hdi])) ?_
    refine lv_isub hx hb d_JI_numberOfLeadingZeros_77 ?_
    refine lv_topi (fun x_1 e_2 => ?_)
    obtain rfl : x_1 = nI (32 - b) := e_2.trans ((pk_sub (by omega)).trans (by congr 1; omega))
    exact hret _ _ _ _ _ () d_JI_numberOfLeadingZeros_78 (vp_nar_int _) rfl hP hK hD hS
  have k61 : ∀ (i n d : Nat) (H : Heap) (locs : List Loc) (ls : Array Slot), isbl i d → 0 < d → d ≤ 4 → n + b = 31 + d → n ≤ 31 → va_P (dC, dI) cls [] H → va_D A [] → va_S A s.heap H locs → lv_has ls 2 [(1, .int (nI n)), (0, .int (nI i))] → W p l e { frames := 0, cells := 0, slots := 0, locals := 0 } s m args below meth c H locs 0 0 Q (F0 m 61 ls []) := by
    intro i n d H locs ls hi hd0 hd hn hn31 hP hD hS hl
    have hi31 : i < 2 ^ 31 := Nat.lt_of_lt_of_le hi.1 (Nat.pow_le_pow_right (by decide) (by omega))
    refine lv_iload_n hx hb d_JI_numberOfLeadingZeros_61 rfl (lv_at hl 1 rfl) ?_
    refine lv_iconst (v := 4) hx hb d_JI_numberOfLeadingZeros_62 (by decide) ?_
    refine lv_icmp_lt (tgt := 73) hx hb d_JI_numberOfLeadingZeros_63 (by decide) (fun hc => ?_) (fun hc => ?_)
    · have hlt : i < 2 ^ 2 := (nI_ltI (a := i) (b := 4) (by omega) (by omega)).mp hc
      exact k73 i n d H locs ls hi hd0 (isbl_lt hi hlt) hn hn31 hP hD hS hl
    · have hge : 2 ^ 2 ≤ i := by have := mt (nI_ltI (a := i) (b := 4) (by omega) (by omega)).mpr hc; omega
      have hkd := isbl_ge hi hge
      refine lv_iinc (v := nI (n - 2)) (lv' := [(1, .int (nI (n - 2))), (0, .int (nI i))]) hx hb d_JI_numberOfLeadingZeros_66 hl (k := 0) rfl (nI_m (k := 2) (by omega)) (by decide) rfl (fun ls hl => ?_)
      refine lv_iload_n hx hb d_JI_numberOfLeadingZeros_69 rfl (lv_at hl 1 rfl) ?_
      refine lv_iconst (v := 2) hx hb d_JI_numberOfLeadingZeros_70 (by decide) ?_
      refine lv_iushr (v := nI (i / 2 ^ 2)) hx hb d_JI_numberOfLeadingZeros_71 (pk_ushrN (n := i) (by omega) 2 2 (by decide)) ?_
      refine lv_istore_n (lv' := [(0, .int (nI (i / 2 ^ 2))), (1, .int (nI (n - 2)))]) hx hb d_JI_numberOfLeadingZeros_72 rfl hl (by decide) rfl (fun ls hl => ?_)
      exact k73 (i / 2 ^ 2) (n - 2) (d - 2) H locs ls (isbl_shr hi hkd) (by omega) (by omega) (by omega) (by omega) hP hD hS (lv_sub hl [1, 0] rfl)
  have k48 : ∀ (i n d : Nat) (H : Heap) (locs : List Loc) (ls : Array Slot), isbl i d → 0 < d → d ≤ 8 → n + b = 31 + d → n ≤ 31 → va_P (dC, dI) cls [] H → va_D A [] → va_S A s.heap H locs → lv_has ls 2 [(1, .int (nI n)), (0, .int (nI i))] → W p l e { frames := 0, cells := 0, slots := 0, locals := 0 } s m args below meth c H locs 0 0 Q (F0 m 48 ls []) := by
    intro i n d H locs ls hi hd0 hd hn hn31 hP hD hS hl
    have hi31 : i < 2 ^ 31 := Nat.lt_of_lt_of_le hi.1 (Nat.pow_le_pow_right (by decide) (by omega))
    refine lv_iload_n hx hb d_JI_numberOfLeadingZeros_48 rfl (lv_at hl 1 rfl) ?_
    refine lv_bipush (v := 16) hx hb d_JI_numberOfLeadingZeros_49 (by decide) ?_
    refine lv_icmp_lt (tgt := 61) hx hb d_JI_numberOfLeadingZeros_51 (by decide) (fun hc => ?_) (fun hc => ?_)
    · have hlt : i < 2 ^ 4 := (nI_ltI (a := i) (b := 16) (by omega) (by omega)).mp hc
      exact k61 i n d H locs ls hi hd0 (isbl_lt hi hlt) hn hn31 hP hD hS hl
    · have hge : 2 ^ 4 ≤ i := by have := mt (nI_ltI (a := i) (b := 16) (by omega) (by omega)).mpr hc; omega
      have hkd := isbl_ge hi hge
      refine lv_iinc (v := nI (n - 4)) (lv' := [(1, .int (nI (n - 4))), (0, .int (nI i))]) hx hb d_JI_numberOfLeadingZeros_54 hl (k := 0) rfl (nI_m (k := 4) (by omega)) (by decide) rfl (fun ls hl => ?_)
      refine lv_iload_n hx hb d_JI_numberOfLeadingZeros_57 rfl (lv_at hl 1 rfl) ?_
      refine lv_iconst (v := 4) hx hb d_JI_numberOfLeadingZeros_58 (by decide) ?_
      refine lv_iushr (v := nI (i / 2 ^ 4)) hx hb d_JI_numberOfLeadingZeros_59 (pk_ushrN (n := i) (by omega) 4 4 (by decide)) ?_
      refine lv_istore_n (lv' := [(0, .int (nI (i / 2 ^ 4))), (1, .int (nI (n - 4)))]) hx hb d_JI_numberOfLeadingZeros_60 rfl hl (by decide) rfl (fun ls hl => ?_)
      exact k61 (i / 2 ^ 4) (n - 4) (d - 4) H locs ls (isbl_shr hi hkd) (by omega) (by omega) (by omega) (by omega) hP hD hS (lv_sub hl [1, 0] rfl)
  have k33 : ∀ (i n d : Nat) (H : Heap) (locs : List Loc) (ls : Array Slot), isbl i d → 0 < d → d ≤ 16 → n + b = 31 + d → n ≤ 31 → va_P (dC, dI) cls [] H → va_D A [] → va_S A s.heap H locs → lv_has ls 2 [(1, .int (nI n)), (0, .int (nI i))] → W p l e { frames := 0, cells := 0, slots := 0, locals := 0 } s m args below meth c H locs 0 0 Q (F0 m 33 ls []) := by
    intro i n d H locs ls hi hd0 hd hn hn31 hP hD hS hl
    have hi31 : i < 2 ^ 31 := Nat.lt_of_lt_of_le hi.1 (Nat.pow_le_pow_right (by decide) (by omega))
    refine lv_iload_n hx hb d_JI_numberOfLeadingZeros_33 rfl (lv_at hl 1 rfl) ?_
    refine lv_sipush (v := 256) hx hb d_JI_numberOfLeadingZeros_34 (by decide) ?_
    refine lv_icmp_lt (tgt := 48) hx hb d_JI_numberOfLeadingZeros_37 (by decide) (fun hc => ?_) (fun hc => ?_)
    · have hlt : i < 2 ^ 8 := (nI_ltI (a := i) (b := 256) (by omega) (by omega)).mp hc
      exact k48 i n d H locs ls hi hd0 (isbl_lt hi hlt) hn hn31 hP hD hS hl
    · have hge : 2 ^ 8 ≤ i := by have := mt (nI_ltI (a := i) (b := 256) (by omega) (by omega)).mpr hc; omega
      have hkd := isbl_ge hi hge
      refine lv_iinc (v := nI (n - 8)) (lv' := [(1, .int (nI (n - 8))), (0, .int (nI i))]) hx hb d_JI_numberOfLeadingZeros_40 hl (k := 0) rfl (nI_m (k := 8) (by omega)) (by decide) rfl (fun ls hl => ?_)
      refine lv_iload_n hx hb d_JI_numberOfLeadingZeros_43 rfl (lv_at hl 1 rfl) ?_
      refine lv_bipush (v := 8) hx hb d_JI_numberOfLeadingZeros_44 (by decide) ?_
      refine lv_iushr (v := nI (i / 2 ^ 8)) hx hb d_JI_numberOfLeadingZeros_46 (pk_ushrN (n := i) (by omega) 8 8 (by decide)) ?_
      refine lv_istore_n (lv' := [(0, .int (nI (i / 2 ^ 8))), (1, .int (nI (n - 8)))]) hx hb d_JI_numberOfLeadingZeros_47 rfl hl (by decide) rfl (fun ls hl => ?_)
      exact k48 (i / 2 ^ 8) (n - 8) (d - 8) H locs ls (isbl_shr hi hkd) (by omega) (by omega) (by omega) (by omega) hP hD hS (lv_sub hl [1, 0] rfl)
  have k18 : ∀ (i n d : Nat) (H : Heap) (locs : List Loc) (ls : Array Slot), isbl i d → 0 < d → d ≤ 31 → n + b = 31 + d → n ≤ 31 → va_P (dC, dI) cls [] H → va_D A [] → va_S A s.heap H locs → lv_has ls 2 [(1, .int (nI n)), (0, .int (nI i))] → W p l e { frames := 0, cells := 0, slots := 0, locals := 0 } s m args below meth c H locs 0 0 Q (F0 m 18 ls []) := by
    intro i n d H locs ls hi hd0 hd hn hn31 hP hD hS hl
    have hi31 : i < 2 ^ 31 := Nat.lt_of_lt_of_le hi.1 (Nat.pow_le_pow_right (by decide) (by omega))
    refine lv_iload_n hx hb d_JI_numberOfLeadingZeros_18 rfl (lv_at hl 1 rfl) ?_
    refine lv_ldcw (v := 65536) hx hb hown (hts _ ko_JI_264) d_JI_numberOfLeadingZeros_19 ?_
    refine lv_icmp_lt (tgt := 33) hx hb d_JI_numberOfLeadingZeros_22 (by decide) (fun hc => ?_) (fun hc => ?_)
    · have hlt : i < 2 ^ 16 := (nI_ltI (a := i) (b := 65536) (by omega) (by omega)).mp hc
      exact k33 i n d H locs ls hi hd0 (isbl_lt hi hlt) hn hn31 hP hD hS hl
    · have hge : 2 ^ 16 ≤ i := by have := mt (nI_ltI (a := i) (b := 65536) (by omega) (by omega)).mpr hc; omega
      have hkd := isbl_ge hi hge
      refine lv_iinc (v := nI (n - 16)) (lv' := [(1, .int (nI (n - 16))), (0, .int (nI i))]) hx hb d_JI_numberOfLeadingZeros_25 hl (k := 0) rfl (nI_m (k := 16) (by omega)) (by decide) rfl (fun ls hl => ?_)
      refine lv_iload_n hx hb d_JI_numberOfLeadingZeros_28 rfl (lv_at hl 1 rfl) ?_
      refine lv_bipush (v := 16) hx hb d_JI_numberOfLeadingZeros_29 (by decide) ?_
      refine lv_iushr (v := nI (i / 2 ^ 16)) hx hb d_JI_numberOfLeadingZeros_31 (pk_ushrN (n := i) (by omega) 16 16 (by decide)) ?_
      refine lv_istore_n (lv' := [(0, .int (nI (i / 2 ^ 16))), (1, .int (nI (n - 16)))]) hx hb d_JI_numberOfLeadingZeros_32 rfl hl (by decide) rfl (fun ls hl => ?_)
      exact k33 (i / 2 ^ 16) (n - 16) (d - 16) H locs ls (isbl_shr hi hkd) (by omega) (by omega) (by omega) (by omega) hP hD hS (lv_sub hl [1, 0] rfl)
  refine lv_iload_n hx hb d_JI_numberOfLeadingZeros_0 rfl (lv_at hl 0 rfl) ?_
  refine lv_if_gt (tgt := 15) hx hb d_JI_numberOfLeadingZeros_1 (by decide) (fun hc => ?_) (fun hc => ?_)
  · have hpos : 0 < v ∧ v < 2 ^ 31 := by
      rcases Nat.lt_or_ge v (2 ^ 31) with q | q
      · exact ⟨(nI_ltI (a := 0) (b := v) (by omega) (by omega)).mp hc, q⟩
      · exact absurd hc (nI_big q hv32).1
    refine lv_bipush (v := 31) hx hb d_JI_numberOfLeadingZeros_15 (by decide) ?_
    refine lv_istore_n (lv' := [(1, .int 31), (0, .int (nI v))]) hx hb d_JI_numberOfLeadingZeros_17 rfl hl (by decide) rfl (fun ls hl => ?_)
    exact k18 v 31 b H _ ls hv (isbl_pos hv hpos.1) (isbl_lt hv hpos.2) (by omega) (by omega) hP hD hS (lv_sub hl [0, 1] rfl)
  · refine lv_iload_n hx hb d_JI_numberOfLeadingZeros_4 rfl (lv_at hl 0 rfl) ?_
    refine lv_if_ne (tgt := 13) hx hb d_JI_numberOfLeadingZeros_5 (by decide) (fun hz => ?_) (fun hz => ?_)
    · have hb32 : b = 32 := by
        rcases Nat.lt_or_ge v (2 ^ 31) with q | q
        · exfalso; rcases Nat.eq_zero_or_pos v with g | g
          · exact hz (by rw [g]; rfl)
          · exact hc ((nI_ltI (a := 0) (b := v) (by omega) (by omega)).mpr g)
        · have := isbl_ge hv q; omega
      refine lv_iconst (v := 0) hx hb d_JI_numberOfLeadingZeros_13 (by decide) ?_
      exact hret _ _ _ _ _ () d_JI_numberOfLeadingZeros_14 (vp_nar_int _) (by rw [hb32]; rfl) hP hK hD hS
    · have hv0 : v = 0 := by
        rcases Nat.lt_or_ge v (2 ^ 31) with q | q
        · exact (nI_eq (a := v) (b := 0) (by omega) (by omega)).mp hz
        · exact absurd hz (nI_big q hv32).2
      have hb0 : b = 0 := by have := isbl_lt (k := 0) hv (by rw [hv0]; decide); omega
      refine lv_bipush (v := 32) hx hb d_JI_numberOfLeadingZeros_8 (by decide) ?_
      refine lv_goto (tgt := 14) hx hb d_JI_numberOfLeadingZeros_10 (by decide) ?_
      exact hret _ _ _ _ _ () d_JI_numberOfLeadingZeros_14 (vp_nar_int _) (by rw [hb0]; rfl) hP hK hD hS
set_option maxHeartbeats 4000000 in
set_option maxRecDepth 100000 in
/-- Long.numberOfLeadingZeros -/
theorem c_JL_nlz (l : Launch) (dC : Nat → ClassId) (dI : Nat → Nat → Nat) (sz : Nat) (v b : Nat) (hv : isbl v b) (hb2 : b ≤ 63) : Met l y_JL_numberOfLeadingZeros (Cond.code y_JL_numberOfLeadingZeros b_JL_numberOfLeadingZeros 3 (some .int) :: gT) ({ frames := 1, cells := 0, slots := 0, locals := 21 }) (va_Pc [.long (lN v)] (pw_P (dC, dI) cls [] pw_0 [] sz)) (va_Qi (fun (r : Int32) (uu : Unit) => r = nI (64 - b)) (fun (uu : Unit) => pw_B (dC, dI) cls [] (va_A [] sz) []) (va_A [] sz)) 0 0 (va_A [] sz) := by
  refine pw_meti (tn := fun (uu : Unit) => []) (wn := fun (uu : Unit) => []) (by decide) (Nat.le_of_ble_eq_true rfl) ?_
  intro p e s m args below meth c A Q H ls hx hb hml hown hts hA hE hP hK hD hS hret hl
  have hown : s.vm.findClass R_JL = some m.cls := hown
  have hl : lv_has ls 3 [(0, .long (lN v))] := hl
  have hv63 : v < 2 ^ 63 := Nat.lt_of_lt_of_le hv.1 (Nat.pow_le_pow_right (by decide) hb2)
  refine lv_lload_n hx hb d_JL_numberOfLeadingZeros_0 rfl (lv_at hl 0 rfl) ?_
  refine lv_bipush (v := 32) hx hb d_JL_numberOfLeadingZeros_1 (by decide) ?_
  refine lv_lushr (v := lN (v / 2 ^ 32)) hx hb d_JL_numberOfLeadingZeros_3 (lZ_nhi (by omega)) ?_
  refine lv_l2i (v := nI (v / 2 ^ 32)) hx hb d_JL_numberOfLeadingZeros_4 (lN_i _) ?_
  refine lv_istore_n (lv' := [(2, .int (nI (v / 2 ^ 32))), (0, .long (lN v))]) hx hb d_JL_numberOfLeadingZeros_5 rfl hl (by decide) rfl (fun ls hl => ?_)
  refine lv_iload_n hx hb d_JL_numberOfLeadingZeros_6 rfl (lv_at hl 0 rfl) ?_
  refine lv_if_ne (tgt := 21) hx hb d_JL_numberOfLeadingZeros_7 (by decide) (fun hz => ?_) (fun hz => ?_)
  · have hz0 : v / 2 ^ 32 ≠ 0 := fun q => hz (by rw [q]; rfl)
    have hge : 2 ^ 32 ≤ v := by omega
    have hkb := isbl_ge hv hge
    refine lv_iload_n hx hb d_JL_numberOfLeadingZeros_21 rfl (lv_at hl 0 rfl) ?_
    refine pw_calli (wc := []) (wr := []) [] [] rfl rfl rfl (by decide) (by decide) (by decide) hP hD hS hA (fun hPc hDc hF => va_runS (As := [.int (nI (v / 2 ^ 32))]) (rest := []) ⟨hx, hb, hml, hown, hts⟩ (c_JI_nlz l dC dI H.size (v / 2 ^ 32) (b - 32) (isbl_shr hv hkb) (by omega)) (va_cwS 1 hts (gw_S (gw_self cod_JI_numberOfLeadingZeros) ml_JL_308 sta_JI_numberOfLeadingZeros ini_JI) rfl rfl rfl (by decide +kernel) ⟨Nat.le_of_ble_eq_true rfl, Nat.le_of_ble_eq_true rfl⟩) (pw_preS pw_0_ok (trivial : pw_0 A s s.heap) hS hF hPc hDc (hK.sub [] rfl)) rfl rfl hl.1 rfl (lv_room (Nat.le_of_ble_eq_true rfl)) d_JL_numberOfLeadingZeros_22 ⟨Nat.le_of_ble_eq_true rfl, Nat.le_of_ble_eq_true rfl⟩) (fun r5 u5 H locs hw5 hK1 hP hD hS => ?_)
    have hP : va_P (dC, dI) cls [] H := hP
    have hD : va_D A [] := hD
    exact hret _ _ _ _ _ () d_JL_numberOfLeadingZeros_25 (vp_nar_int _) (by rw [hw5]; congr 1; omega) hP hK hD hS
  · have hz0 : v / 2 ^ 32 = 0 := (nI_eq (a := v / 2 ^ 32) (b := 0) (by omega) (by omega)).mp hz
    have hlt : v < 2 ^ 32 := by omega
    refine lv_bipush (v := 32) hx hb d_JL_numberOfLeadingZeros_10 (by decide) ?_
    refine lv_lload_n hx hb d_JL_numberOfLeadingZeros_12 rfl (lv_at hl 1 rfl) ?_
    refine lv_l2i (v := nI v) hx hb d_JL_numberOfLeadingZeros_13 (lN_i _) ?_
    have hb32 := isbl_lt hv hlt
    refine pw_calli (wc := []) (wr := []) [] [] rfl rfl rfl (by decide) (by decide) (by decide) hP hD hS hA (fun hPc hDc hF => va_runS (As := [.int (nI v)]) (rest := [.int 32]) ⟨hx, hb, hml, hown, hts⟩ (c_JI_nlz l dC dI H.size v b hv hb32) (va_cwS 1 hts (gw_S (gw_self cod_JI_numberOfLeadingZeros) ml_JL_308 sta_JI_numberOfLeadingZeros ini_JI) rfl rfl rfl (by decide +kernel) ⟨Nat.le_of_ble_eq_true rfl, Nat.le_of_ble_eq_true rfl⟩) (pw_preS pw_0_ok (trivial : pw_0 A s s.heap) hS hF hPc hDc (hK.sub [] rfl)) rfl rfl hl.1 rfl (lv_room (Nat.le_of_ble_eq_true rfl)) d_JL_numberOfLeadingZeros_14 ⟨Nat.le_of_ble_eq_true rfl, Nat.le_of_ble_eq_true rfl⟩) (fun r5 u5 H locs hw5 hK1 hP hD hS => ?_)
    have hP : va_P (dC, dI) cls [] H := hP
    have hD : va_D A [] := hD
    refine lv_iadd hx hb d_JL_numberOfLeadingZeros_17 ?_
    refine lv_topi (fun x_1 e_2 => ?_)
    obtain rfl : x_1 = nI (64 - b) := e_2.trans (by rw [hw5]; exact (nI_add 32 _).trans (by congr 1; omega))
    refine lv_goto (tgt := 25) hx hb d_JL_numberOfLeadingZeros_18 (by decide) ?_
    exact hret _ _ _ _ _ () d_JL_numberOfLeadingZeros_25 (vp_nar_int _) rfl hP hK hD hS
set_option maxHeartbeats 4000000 in
set_option maxRecDepth 100000 in
/-- highestPlace -/
theorem c_Fi_highestPlace (l : Launch) (dC : Nat → ClassId) (dI : Nat → Nat → Nat) (sz : Nat) (v b : Nat) (q : Int) (hv : isbl v b) (hb2 : b ≤ 63) (hq1 : -2000 < q) (hq2 : q < 2000) : Met l y_Fi_highestPlace (Cond.code y_Fi_highestPlace b_Fi_highestPlace 4 (some .int) :: gT) ({ frames := 2, cells := 0, slots := 0, locals := 43 }) (va_Pc [.long (lN v), .int (iZ q)] (pw_P (dC, dI) cls [] pw_0 [] sz)) (va_Qi (fun (r : Int32) (uu : Unit) => r = iZ (fd_hp b q)) (fun (uu : Unit) => pw_B (dC, dI) cls [] (va_A [] sz) []) (va_A [] sz)) 0 0 (va_A [] sz) := by
  refine pw_meti (tn := fun (uu : Unit) => []) (wn := fun (uu : Unit) => []) (by decide) (Nat.le_of_ble_eq_true rfl) ?_
  intro p e s m args below meth c A Q H ls hx hb hml hown hts hA hE hP hK hD hS hret hl
  have hown : s.vm.findClass R_Fi = some m.cls := hown
  have hl : lv_has ls 4 [(0, .long (lN v)), (2, .int (iZ q))] := hl
  refine lv_bipush (v := 63) hx hb d_Fi_highestPlace_0 (by decide) ?_
  refine lv_lload_n hx hb d_Fi_highestPlace_2 rfl (lv_at hl 0 rfl) ?_
  refine pw_calli (wc := []) (wr := []) [] [] rfl rfl rfl (by decide) (by decide) (by decide) hP hD hS hA (fun hPc hDc hF => va_runS (As := [.long (lN v)]) (rest := [.int 63]) ⟨hx, hb, hml, hown, hts⟩ (c_JL_nlz l dC dI H.size v b hv hb2) (va_cwS 1 hts (gw_S (gw_self cod_JL_numberOfLeadingZeros) ml_Fi_64 sta_JL_numberOfLeadingZeros ini_JL) rfl rfl rfl (by decide +kernel) ⟨Nat.le_of_ble_eq_true rfl, Nat.le_of_ble_eq_true rfl⟩) (pw_preS pw_0_ok (trivial : pw_0 A s s.heap) hS hF hPc hDc (hK.sub [] rfl)) rfl rfl hl.1 rfl (lv_room (Nat.le_of_ble_eq_true rfl)) d_Fi_highestPlace_3 ⟨Nat.le_of_ble_eq_true rfl, Nat.le_of_ble_eq_true rfl⟩) (fun r5 u5 H locs hw5 hK1 hP hD hS => ?_)
  have hP : va_P (dC, dI) cls [] H := hP
  have hD : va_D A [] := hD
  refine lv_isub hx hb d_Fi_highestPlace_6 ?_
  refine lv_topi (fun x_1 e_2 => ?_)
  obtain rfl : x_1 = iZ ((b : Int) - 1) := e_2.trans (by rw [hw5, iZ_N]; exact (iZ_sub 63 _).trans (by congr 1; omega))
  refine lv_iload_n hx hb d_Fi_highestPlace_7 rfl (lv_at hl 1 rfl) ?_
  refine lv_iadd hx hb d_Fi_highestPlace_8 ?_
  refine lv_topi (fun x_3 e_4 => ?_)
  obtain rfl : x_3 = iZ ((b : Int) - 1 + q) := e_4.trans (iZ_add _ _)
  refine lv_istore_n (lv' := [(3, .int (iZ ((b : Int) - 1 + q))), (0, .long (lN v)), (2, .int (iZ q))]) hx hb d_Fi_highestPlace_9 rfl hl (by decide) rfl (fun ls hl => ?_)
  refine lv_iload_n hx hb d_Fi_highestPlace_10 rfl (lv_at hl 0 rfl) ?_
  refine lv_ldc (v := 315653) hx hb hown (hts _ ko_Fi_70) d_Fi_highestPlace_11 ?_
  refine lv_imul hx hb d_Fi_highestPlace_13 ?_
  refine lv_topi (fun x_5 e_6 => ?_)
  obtain rfl : x_5 = iZ (((b : Int) - 1 + q) * 315653) := e_6.trans (iZ_mul _ 315653)
  refine lv_bipush (v := 20) hx hb d_Fi_highestPlace_14 (by decide) ?_
  refine lv_ishr hx hb d_Fi_highestPlace_16 ?_
  refine lv_topi (fun x_7 e_8 => ?_)
  obtain rfl : x_7 = iZ (((b : Int) - 1 + q) * 315653 / 1048576) := e_8.trans (iZ_shr20 (by omega) (by omega))
  refine lv_iconst (v := 1) hx hb d_Fi_highestPlace_17 (by decide) ?_
  refine lv_iadd hx hb d_Fi_highestPlace_18 ?_
  refine lv_topi (fun x_9 e_10 => ?_)
  obtain rfl : x_9 = iZ (fd_hp b q) := e_10.trans (iZ_add _ 1)
  exact hret _ _ _ _ _ () d_Fi_highestPlace_19 (vp_nar_int _) rfl hP hK hD hS

set_option maxHeartbeats 4000000 in
set_option maxRecDepth 100000 in
/-- smallPowerOfFive(k): 5 to the k -/
theorem c_Na_smallPowerOfFive (l : Launch) (dC : Nat → ClassId) (dI : Nat → Nat → Nat) (sz : Nat) (k : Nat) (hk : k ≤ 13) : Met l y_Na_smallPowerOfFive (Cond.code y_Na_smallPowerOfFive b_Na_smallPowerOfFive 4 (some .long) :: gT) ({ frames := 0, cells := 0, slots := 0, locals := 0 }) (va_Pc [.int (nI k)] (pw_P (dC, dI) cls [] pw_0 [] sz)) (va_Ql (fun (r : Int64) (uu : Unit) => r = lN (5 ^ k)) (fun (uu : Unit) => pw_B (dC, dI) cls [] (va_A [] sz) []) (va_A [] sz)) 0 0 (va_A [] sz) := by
  refine pw_metl (tn := fun (uu : Unit) => []) (wn := fun (uu : Unit) => []) (by decide) (Nat.le_of_ble_eq_true rfl) ?_
  intro p e s m args below meth c A Q H ls hx hb hml hown hts hA hE hP hK hD hS hret hl
  have hown : s.vm.findClass R_Na = some m.cls := hown
  have hl : lv_has ls 4 [(0, .int (nI k))] := hl
  refine lv_lconst (v := 1) hx hb d_Na_smallPowerOfFive_0 (by decide) ?_
  refine lv_lstore_n (lv' := [(1, .long 1), (0, .int (nI k))]) hx hb d_Na_smallPowerOfFive_1 rfl hl (by decide) rfl (fun ls hl => ?_)
  refine lv_iconst (v := 0) hx hb d_Na_smallPowerOfFive_2 (by decide) ?_
  refine lv_istore_n (lv' := [(3, .int 0), (1, .long 1), (0, .int (nI k))]) hx hb d_Na_smallPowerOfFive_3 rfl hl (by decide) rfl (fun ls hl => ?_)
  have lp : ∀ (n i : Nat) (H : Heap) (locs : List Loc) (ls : Array Slot), i ≤ k → k + 1 ≤ i + n → va_P (dC, dI) cls [] H → va_D A [] → va_S A s.heap H locs → lv_has ls 4 [(3, .int (nI i)), (1, .long (lN (5 ^ i))), (0, .int (nI k))] → W p l e { frames := 0, cells := 0, slots := 0, locals := 0 } s m args below meth c H locs 0 0 Q (F0 m 4 ls []) := by
    intro n
    induction n with
    | zero => intro i H locs ls h1 h2; exact absurd h2 (by omega)
    | succ n ih =>
      intro i H locs ls hi hn hP hD hS hl
      refine lv_iload_n hx hb d_Na_smallPowerOfFive_4 rfl (lv_at hl 0 rfl) ?_
      refine lv_iload_n hx hb d_Na_smallPowerOfFive_5 rfl (lv_at hl 2 rfl) ?_
      refine lv_icmp_ge (tgt := 21) hx hb d_Na_smallPowerOfFive_6 (by decide) (fun hc => ?_) (fun hc => ?_)
      · obtain rfl : i = k := by have := (nI_leI (by omega) (by omega)).mp hc; omega
        refine lv_lload_n hx hb d_Na_smallPowerOfFive_21 rfl (lv_at hl 1 rfl) ?_
        exact hret _ _ _ _ _ () d_Na_smallPowerOfFive_22 rfl hP hK hD hS
      · have hlt : i < k := by have := mt (nI_leI (a := k) (b := i) (by omega) (by omega)).mpr hc; omega
        refine lv_lload_n hx hb d_Na_smallPowerOfFive_9 rfl (lv_at hl 1 rfl) ?_
        refine lv_ldc2 (v := 5) hx hb hown (hts _ kl_Na_33) d_Na_smallPowerOfFive_10 ?_
        refine lv_lmul hx hb d_Na_smallPowerOfFive_13 ?_
        refine lv_topl (fun x_1 e_2 => ?_)
        obtain rfl : x_1 = lN (5 ^ (i + 1)) := e_2.trans (lN_mul (5 ^ i) 5)
        refine lv_lstore_n (lv' := [(1, .long (lN (5 ^ (i + 1)))), (3, .int (nI i)), (0, .int (nI k))]) hx hb d_Na_smallPowerOfFive_14 rfl hl (by decide) rfl (fun ls hl => ?_)
        refine lv_iinc (v := nI (i + 1)) (lv' := [(3, .int (nI (i + 1))), (1, .long (lN (5 ^ (i + 1)))), (0, .int (nI k))]) hx hb d_Na_smallPowerOfFive_15 hl (k := 1) rfl (nI_1 i) (by decide) rfl (fun ls hl => ?_)
        refine lv_goto (tgt := 4) hx hb d_Na_smallPowerOfFive_18 (by decide) ?_
        exact ih (i + 1) H locs ls (by omega) (by omega) hP hD hS (lv_sub hl [0, 1, 2] rfl)
  exact lp (k + 1) 0 H [] ls (Nat.zero_le _) (by omega) hP hD hS (lv_sub hl [0, 1, 2] rfl)
set_option maxHeartbeats 4000000 in
set_option maxRecDepth 100000 in
/-- become(V) -/
theorem c_Na_become (l : Launch) (dC : Nat → ClassId) (dI : Nat → Nat → Nat) (sz : Nat) (h w : Nat) (cJ : ClassId) (ux : Int32) (Y V : Nat) (hY : Y < 2 ^ (32 * 26)) (hV : V < 2 ^ 63) : Met l y_Na_become (Cond.code y_Na_become b_Na_become 6 none :: gT) ({ frames := 0, cells := 0, slots := 0, locals := 0 }) (va_Pc [.ref h, .long (lN V)] (pw_P (dC, dI) cls [(cJ, .long)] pw_0 [(h, .inr (2, [.ref w, .int ux])), (w, .inl (cJ, 26, .inr (.inl (bn_f Y))))] sz)) (va_Qv (fun (uu : Unit) => True) (fun (uu : Unit) => pw_B (dC, dI) cls [(cJ, .long)] (va_A [(h, .inr (2, [.ref w, .int ux])), (w, .inl (cJ, 26, .inr (.inl (bn_f Y))))] sz) [(h, .inr (2, [.ref w, .int (nI 2)])), (w, .inl (cJ, 26, .inr (.inl (bn_f V))))]) (va_A [(h, .inr (2, [.ref w, .int ux])), (w, .inl (cJ, 26, .inr (.inl (bn_f Y))))] sz)) 0 0 (va_A [(h, .inr (2, [.ref w, .int ux])), (w, .inl (cJ, 26, .inr (.inl (bn_f Y))))] sz) := by
  refine pw_metv (tn := fun (uu : Unit) => [(cJ, .long)]) (wn := fun (uu : Unit) => [(h, .inr (2, [.ref w, .int (nI 2)])), (w, .inl (cJ, 26, .inr (.inl (bn_f V))))]) (by decide) (Nat.le_of_ble_eq_true rfl) ?_
  intro p e s m args below meth c A Q H ls hx hb hml hown hts hnm hA hE hP hK hD hS hret hl
  have hown : s.vm.findClass R_Na = some m.cls := hown
  have hl : lv_has ls 6 [(0, .ref h), (1, .long (lN V))] := hl
  refine lv_lload_n hx hb d_Na_become_0 rfl (lv_at hl 1 rfl) ?_
  refine lv_lstore_n (lv' := [(3, .long (lN V)), (0, .ref h), (1, .long (lN V))]) hx hb d_Na_become_1 rfl hl (by decide) rfl (fun ls hl => ?_)
  refine lv_iconst (v := 0) hx hb d_Na_become_2 (by decide) ?_
  refine lv_istore (lv' := [(5, .int 0), (3, .long (lN V)), (0, .ref h), (1, .long (lN V))]) hx hb d_Na_become_3 hl (by decide) rfl (fun ls hl => ?_)
  have lp : ∀ (n i : Nat) (H : Heap) (locs : List Loc) (ls : Array Slot), (i ≤ 26) → (27 ≤ i + n) → va_P (dC, dI) cls [(h, .inr (2, [.ref w, .int ux])), (w, .inl (cJ, 26, .inr (.inl (bn_m V Y i))))] H → va_D A [(h, .inr (2, [.ref w, .int ux])), (w, .inl (cJ, 26, .inr (.inl (bn_m V Y i))))] → va_S A s.heap H locs → lv_has ls 6 [(5, .int (nI i)), (3, .long (lN (V / 2 ^ (32 * i)))), (0, .ref h), (1, .long (lN V))] → W p l e { frames := 0, cells := 0, slots := 0, locals := 0 } s m args below meth c H locs 0 0 Q (F0 m 5 ls []) := by
    intro n
    induction n with
    | zero => intro i H locs ls hi hn hP hD hS hl; exact absurd hn (by omega)
    | succ n ih =>
      intro i H locs ls hi hn hP hD hS hl
      refine lv_iload hx hb d_Na_become_5 (lv_at hl 0 rfl) ?_
      refine lv_aload_n hx hb d_Na_become_7 rfl (lv_at hl 2 rfl) ?_
      refine va_get (D := (dC, dI)) (ci := 2) (v := .ref w) (C := R_Na) (T := F_Na) (N := 2) hx hb hts i_Na hown hK hP 0 rfl rfl 0 (by decide) (hts _ fl_Na_9) (fun _ h9 => h9) rfl d_Na_become_8 ?_
      refine va_alen (v := nI 26) hx hb hK hP 1 0 rfl rfl rfl d_Na_become_11 ?_
      refine lv_icmp_ge (tgt := 38) hx hb d_Na_become_12 (by decide) (fun hc => ?_) (fun hc => ?_)
      · obtain rfl : i = 26 := by have := (nI_leI (a := 26) (b := i) (by omega) (by omega)).mp hc; omega
        refine lv_aload_n hx hb d_Na_become_38 rfl (lv_at hl 2 rfl) ?_
        refine lv_iconst (v := 2) hx hb d_Na_become_39 (by decide) ?_
        refine va_put (D := (dC, dI)) (ci := 2) (v := .int 2) (ty := .int) (C := R_Na) (T := F_Na) (N := 2) hx hb hts i_Na t_Na t_Na_ok n_Na hown hK hP hD hS 0 rfl rfl 1 (by decide) (hts _ fl_Na_13) (fun _ h9 => h9) rfl (by decide +kernel) rfl rfl (Nat.le_of_ble_eq_true rfl) d_Na_become_40 (fun H locs hP hD hS => ?_)
        have hP : va_P (dC, dI) cls [(h, .inr (2, [.ref w, .int 2])), (w, .inl (cJ, 26, .inr (.inl (bn_m V Y 26))))] H := hP
        have hD : va_D A [(h, .inr (2, [.ref w, .int 2])), (w, .inl (cJ, 26, .inr (.inl (bn_m V Y 26))))] := hD
        exact hret _ _ _ _ () d_Na_become_43 trivial (by rw [← bn_m_all (X := V) (Y := Y) (n := 26) (by omega) hY]; exact hP) hK (by rw [← bn_m_all (X := V) (Y := Y) (n := 26) (by omega) hY]; exact hD) hS
      · have hlt : i < 26 := by have := mt (nI_leI (a := 26) (b := i) (by omega) (by omega)).mpr hc; omega
        have hq : V / 2 ^ (32 * i) < 2 ^ 64 := Nat.lt_of_le_of_lt (Nat.div_le_self _ _) (by omega)
        refine lv_aload_n hx hb d_Na_become_15 rfl (lv_at hl 2 rfl) ?_
        refine va_get (D := (dC, dI)) (ci := 2) (v := .ref w) (C := R_Na) (T := F_Na) (N := 2) hx hb hts i_Na hown hK hP 0 rfl rfl 0 (by decide) (hts _ fl_Na_9) (fun _ h9 => h9) rfl d_Na_become_16 ?_
        refine lv_iload hx hb d_Na_become_19 (lv_at hl 0 rfl) ?_
        refine lv_lload_n hx hb d_Na_become_21 rfl (lv_at hl 1 rfl) ?_
        refine lv_ldc2 (v := 4294967295) hx hb hown (hts _ kl_Na_17) d_Na_become_22 ?_
        refine lv_land hx hb d_Na_become_25 ?_
        refine lv_topl (fun x_1 e_2 => ?_)
        obtain rfl : x_1 = lN (bn_w V i) := e_2.trans (lZ_nlo hq)
        refine va_last hx hb hK hP hD hS 1 0 rfl rfl (vp_in_nI hlt (by omega)) d_Na_become_26 (fun H locs hP hD hS => ?_)
        have e_3 : vp_updL (bn_m V Y i) (nI i).toNatClampNeg (lN (bn_w V i)) = bn_m V Y (i + 1) := by rw [nI_clamp (by omega)]; exact bn_m_up V Y i
        have hP : va_P (dC, dI) cls [(h, .inr (2, [.ref w, .int ux])), (w, .inl (cJ, 26, .inr (.inl (bn_m V Y (i + 1)))))] H := by rw [← e_3]; exact hP
        have hD : va_D A [(h, .inr (2, [.ref w, .int ux])), (w, .inl (cJ, 26, .inr (.inl (bn_m V Y (i + 1)))))] := by rw [← e_3]; exact hD
        refine lv_lload_n hx hb d_Na_become_27 rfl (lv_at hl 1 rfl) ?_
        refine lv_bipush (v := 32) hx hb d_Na_become_28 (by decide) ?_
        refine lv_lushr (v := lN (V / 2 ^ (32 * (i + 1)))) hx hb d_Na_become_30 (by rw [lZ_nhi hq, Nat.div_div_eq_div_mul, bn_pow]) ?_
        refine lv_lstore_n (lv' := [(3, .long (lN (V / 2 ^ (32 * (i + 1))))), (5, .int (nI i)), (0, .ref h), (1, .long (lN V))]) hx hb d_Na_become_31 rfl hl (by decide) rfl (fun ls hl => ?_)
        refine lv_iinc (v := nI (i + 1)) (lv' := [(5, .int (nI (i + 1))), (3, .long (lN (V / 2 ^ (32 * (i + 1))))), (0, .ref h), (1, .long (lN V))]) hx hb d_Na_become_32 hl (k := 1) rfl (nI_1 i) (by decide) rfl (fun ls hl => ?_)
        refine lv_goto (tgt := 5) hx hb d_Na_become_35 (by decide) ?_
        exact ih (i + 1) H locs ls (by omega) (by omega) hP hD hS (lv_sub hl [0, 1, 2, 3] rfl)
  have e0 : V / 2 ^ (32 * 0) = V := by simp
  exact lp 27 0 H [] ls (by omega) (by omega) (by rw [bn_m_0]; exact hP) (by rw [bn_m_0]; exact hD) hS (by rw [e0]; exact lv_sub hl [0, 1, 2, 3] rfl)
set_option maxHeartbeats 4000000 in
set_option maxRecDepth 100000 in
/-- times(F) -/
theorem c_Na_times (l : Launch) (dC : Nat → ClassId) (dI : Nat → Nat → Nat) (sz : Nat) (h w : Nat) (cJ : ClassId) (V u F : Nat) (hV : V < 2 ^ (32 * u)) (hu : u ≤ 26) (hF : 0 < F) (hF2 : F ≤ 2 ^ 31) (hB : V * F < 2 ^ (32 * 26)) : Met l y_Na_times (Cond.code y_Na_times b_Na_times 8 none :: gT) ({ frames := 0, cells := 0, slots := 0, locals := 0 }) (va_Pc [.ref h, .long (lN F)] (pw_P (dC, dI) cls [(cJ, .long)] pw_0 [(h, .inr (2, [.ref w, .int (nI u)])), (w, .inl (cJ, 26, .inr (.inl (bn_f V))))] sz)) (va_Qv (fun (u' : Nat) => u' ≤ 26 ∧ V * F < 2 ^ (32 * u')) (fun (u' : Nat) => pw_B (dC, dI) cls [(cJ, .long)] (va_A [(h, .inr (2, [.ref w, .int (nI u)])), (w, .inl (cJ, 26, .inr (.inl (bn_f V))))] sz) [(h, .inr (2, [.ref w, .int (nI u')])), (w, .inl (cJ, 26, .inr (.inl (bn_f (V * F)))))]) (va_A [(h, .inr (2, [.ref w, .int (nI u)])), (w, .inl (cJ, 26, .inr (.inl (bn_f V))))] sz)) 0 0 (va_A [(h, .inr (2, [.ref w, .int (nI u)])), (w, .inl (cJ, 26, .inr (.inl (bn_f V))))] sz) := by
  refine pw_metv (tn := fun (u' : Nat) => [(cJ, .long)]) (wn := fun (u' : Nat) => [(h, .inr (2, [.ref w, .int (nI u')])), (w, .inl (cJ, 26, .inr (.inl (bn_f (V * F)))))]) (by decide) (Nat.le_of_ble_eq_true rfl) ?_
  intro p e s m args below meth c A Q H ls hx hb hml hown hts hnm hA hE hP hK hD hS hret hl
  have hown : s.vm.findClass R_Na = some m.cls := hown
  have hl : lv_has ls 8 [(0, .ref h), (1, .long (lN F))] := hl
  refine lv_lconst (v := 0) hx hb d_Na_times_0 (by decide) ?_
  refine lv_lstore_n (lv' := [(3, .long 0), (0, .ref h), (1, .long (lN F))]) hx hb d_Na_times_1 rfl hl (by decide) rfl (fun ls hl => ?_)
  refine lv_iconst (v := 0) hx hb d_Na_times_2 (by decide) ?_
  refine lv_istore (lv' := [(5, .int 0), (3, .long 0), (0, .ref h), (1, .long (lN F))]) hx hb d_Na_times_3 hl (by decide) rfl (fun ls hl => ?_)
  have lp : ∀ (n i : Nat) (H : Heap) (locs : List Loc) (ls : Array Slot), (i ≤ u) → (u + 1 ≤ i + n) → va_P (dC, dI) cls [(h, .inr (2, [.ref w, .int (nI u)])), (w, .inl (cJ, 26, .inr (.inl (bn_m (V * F) V i))))] H → va_D A [(h, .inr (2, [.ref w, .int (nI u)])), (w, .inl (cJ, 26, .inr (.inl (bn_m (V * F) V i))))] → va_S A s.heap H locs → lv_has ls 8 [(5, .int (nI i)), (3, .long (lN (bn_c V F i))), (0, .ref h), (1, .long (lN F))] → W p l e { frames := 0, cells := 0, slots := 0, locals := 0 } s m args below meth c H locs 0 0 Q (F0 m 5 ls []) := by
    intro n
    induction n with
    | zero => intro i H locs ls hi hn hP hD hS hl; exact absurd hn (by omega)
    | succ n ih =>
      intro i H locs ls hi hn hP hD hS hl
      refine lv_iload hx hb d_Na_times_5 (lv_at hl 0 rfl) ?_
      refine lv_aload_n hx hb d_Na_times_7 rfl (lv_at hl 2 rfl) ?_
      refine va_get (D := (dC, dI)) (ci := 2) (v := .int (nI u)) (C := R_Na) (T := F_Na) (N := 2) hx hb hts i_Na hown hK hP 0 rfl rfl 1 (by decide) (hts _ fl_Na_13) (fun _ h9 => h9) rfl d_Na_times_8 ?_
      refine lv_icmp_ge (tgt := 62) hx hb d_Na_times_11 (by decide) (fun hc => ?_) (fun hc => ?_)
      · obtain rfl : i = u := by have := (nI_leI (by omega) (by omega)).mp hc; omega
        have hcl := bn_c_lt (V := V) (i := i) hF
        refine lv_lload_n hx hb d_Na_times_62 rfl (lv_at hl 1 rfl) ?_
        refine lv_lconst (v := 0) hx hb d_Na_times_63 (by decide) ?_
        refine lx_eq (tgt := 107) hx hb d_Na_times_64 d_Na_times_65 (by decide) (fun hz => ?_) (fun hz => ?_)
        · have hz0 : bn_c V F i = 0 := (pk_lEQ (a := bn_c V F i) (b := 0) (by omega) (by omega)).mp hz
          have h9 := bn_c_end0 hV hz0
          exact hret _ _ _ _ i d_Na_times_107 ⟨hu, h9⟩ (by rw [← bn_m_all h9 hV]; exact hP) hK (by rw [← bn_m_all h9 hV]; exact hD) hS
        · have hz0 : bn_c V F i ≠ 0 := fun q => hz (by rw [q]; rfl)
          refine lv_aload_n hx hb d_Na_times_68 rfl (lv_at hl 2 rfl) ?_
          refine va_get (D := (dC, dI)) (ci := 2) (v := .int (nI i)) (C := R_Na) (T := F_Na) (N := 2) hx hb hts i_Na hown hK hP 0 rfl rfl 1 (by decide) (hts _ fl_Na_13) (fun _ h9 => h9) rfl d_Na_times_69 ?_
          refine lv_if_lt (tgt := 107) hx hb d_Na_times_72 (by decide) (fun hq => ?_) (fun hq => ?_)
          · exact absurd hq (nI_pos (by omega))
          · refine lv_aload_n hx hb d_Na_times_75 rfl (lv_at hl 2 rfl) ?_
            refine va_get (D := (dC, dI)) (ci := 2) (v := .int (nI i)) (C := R_Na) (T := F_Na) (N := 2) hx hb hts i_Na hown hK hP 0 rfl rfl 1 (by decide) (hts _ fl_Na_13) (fun _ h9 => h9) rfl d_Na_times_76 ?_
            refine lv_aload_n hx hb d_Na_times_79 rfl (lv_at hl 2 rfl) ?_
            refine va_get (D := (dC, dI)) (ci := 2) (v := .ref w) (C := R_Na) (T := F_Na) (N := 2) hx hb hts i_Na hown hK hP 0 rfl rfl 0 (by decide) (hts _ fl_Na_9) (fun _ h9 => h9) rfl d_Na_times_80 ?_
            refine va_alen (v := nI 26) hx hb hK hP 1 0 rfl rfl rfl d_Na_times_83 ?_
            refine lv_icmp_ge (tgt := 107) hx hb d_Na_times_84 (by decide) (fun hq2 => ?_) (fun hq2 => ?_)
            · have h26 : 26 ≤ i := (nI_leI (a := 26) (b := i) (by omega) (by omega)).mp hq2
              obtain rfl : i = 26 := by omega
              exact absurd (by rw [bn_c_end hV]; exact Nat.div_eq_of_lt hB) hz0
            · have hlt : i < 26 := by have := mt (nI_leI (a := 26) (b := i) (by omega) (by omega)).mpr hq2; omega
              have h9 := bn_c_end1 hV hF hF2
              refine lv_aload_n hx hb d_Na_times_87 rfl (lv_at hl 2 rfl) ?_
              refine va_get (D := (dC, dI)) (ci := 2) (v := .ref w) (C := R_Na) (T := F_Na) (N := 2) hx hb hts i_Na hown hK hP 0 rfl rfl 0 (by decide) (hts _ fl_Na_9) (fun _ h9 => h9) rfl d_Na_times_88 ?_
              refine lv_aload_n hx hb d_Na_times_91 rfl (lv_at hl 2 rfl) ?_
              refine va_get (D := (dC, dI)) (ci := 2) (v := .int (nI i)) (C := R_Na) (T := F_Na) (N := 2) hx hb hts i_Na hown hK hP 0 rfl rfl 1 (by decide) (hts _ fl_Na_13) (fun _ h9 => h9) rfl d_Na_times_92 ?_
              refine lv_lload_n hx hb d_Na_times_95 rfl (lv_at hl 1 rfl) ?_
              refine va_last hx hb hK hP hD hS 1 0 rfl rfl (vp_in_nI hlt (by omega)) d_Na_times_96 (fun H locs hP hD hS => ?_)
              have e_1 : vp_updL (bn_m (V * F) V i) (nI i).toNatClampNeg (lN (bn_c V F i)) = bn_m (V * F) V (i + 1) := by rw [nI_clamp (by omega), h9.1]; exact bn_m_up (V * F) V i
              have hP : va_P (dC, dI) cls [(h, .inr (2, [.ref w, .int (nI i)])), (w, .inl (cJ, 26, .inr (.inl (bn_m (V * F) V (i + 1)))))] H := by rw [← e_1]; exact hP
              have hD : va_D A [(h, .inr (2, [.ref w, .int (nI i)])), (w, .inl (cJ, 26, .inr (.inl (bn_m (V * F) V (i + 1)))))] := by rw [← e_1]; exact hD
              refine lv_aload_n hx hb d_Na_times_97 rfl (lv_at hl 2 rfl) ?_
              refine lv_dup hx hb d_Na_times_98 rfl ?_
              refine va_get (D := (dC, dI)) (ci := 2) (v := .int (nI i)) (C := R_Na) (T := F_Na) (N := 2) hx hb hts i_Na hown hK hP 0 rfl rfl 1 (by decide) (hts _ fl_Na_13) (fun _ h9 => h9) rfl d_Na_times_99 ?_
              refine lv_iconst (v := 1) hx hb d_Na_times_102 (by decide) ?_
              refine lv_iadd hx hb d_Na_times_103 ?_
              refine lv_topi (fun x_2 e_3 => ?_)
              obtain rfl : x_2 = nI (i + 1) := e_3.trans (nI_1 i)
              refine va_put (D := (dC, dI)) (ci := 2) (v := .int (nI (i + 1))) (ty := .int) (C := R_Na) (T := F_Na) (N := 2) hx hb hts i_Na t_Na t_Na_ok n_Na hown hK hP hD hS 0 rfl rfl 1 (by decide) (hts _ fl_Na_13) (fun _ h9 => h9) rfl (by decide +kernel) rfl rfl (Nat.le_of_ble_eq_true rfl) d_Na_times_104 (fun H locs hP hD hS => ?_)
              have hP : va_P (dC, dI) cls [(h, .inr (2, [.ref w, .int (nI (i + 1))])), (w, .inl (cJ, 26, .inr (.inl (bn_m (V * F) V (i + 1)))))] H := hP
              have hD : va_D A [(h, .inr (2, [.ref w, .int (nI (i + 1))])), (w, .inl (cJ, 26, .inr (.inl (bn_m (V * F) V (i + 1)))))] := hD
              have hV1 : V < 2 ^ (32 * (i + 1)) := Nat.lt_of_lt_of_le hV (bn_ple (by omega))
              exact hret _ _ _ _ (i + 1) d_Na_times_107 ⟨by omega, h9.2⟩ (by rw [← bn_m_all h9.2 hV1]; exact hP) hK (by rw [← bn_m_all h9.2 hV1]; exact hD) hS
      · have hlt : i < u := by have := mt (nI_leI (a := u) (b := i) (by omega) (by omega)).mpr hc; omega
        refine lv_iload hx hb d_Na_times_14 (lv_at hl 0 rfl) ?_
        refine lv_aload_n hx hb d_Na_times_16 rfl (lv_at hl 2 rfl) ?_
        refine va_get (D := (dC, dI)) (ci := 2) (v := .ref w) (C := R_Na) (T := F_Na) (N := 2) hx hb hts i_Na hown hK hP 0 rfl rfl 0 (by decide) (hts _ fl_Na_9) (fun _ h9 => h9) rfl d_Na_times_17 ?_
        refine va_alen (v := nI 26) hx hb hK hP 1 0 rfl rfl rfl d_Na_times_20 ?_
        refine lv_icmp_ge (tgt := 62) hx hb d_Na_times_21 (by decide) (fun hq => ?_) (fun hq => ?_)
        · exact absurd ((nI_leI (a := 26) (b := i) (by omega) (by omega)).mp hq) (by omega)
        · have hpr := bn_prod_lt (V := V) (i := i) hF hF2
          refine lv_aload_n hx hb d_Na_times_24 rfl (lv_at hl 2 rfl) ?_
          refine va_get (D := (dC, dI)) (ci := 2) (v := .ref w) (C := R_Na) (T := F_Na) (N := 2) hx hb hts i_Na hown hK hP 0 rfl rfl 0 (by decide) (hts _ fl_Na_9) (fun _ h9 => h9) rfl d_Na_times_25 ?_
          refine lv_iload hx hb d_Na_times_28 (lv_at hl 0 rfl) ?_
          refine va_lald hx hb hK hP 1 0 rfl rfl (vp_in_nI (by omega) (by omega)) d_Na_times_30 ?_
          refine lv_topl (fun x_4 e_5 => ?_)
          obtain rfl : x_4 = lN (bn_w V i) := e_5.trans (by rw [nI_clamp (by omega)]; exact bn_m_at (V * F) V i)
          refine lv_lload_n hx hb d_Na_times_31 rfl (lv_at hl 3 rfl) ?_
          refine lv_lmul hx hb d_Na_times_32 ?_
          refine lv_topl (fun x_6 e_7 => ?_)
          obtain rfl : x_6 = lN (bn_w V i * F) := e_7.trans (lN_mul _ _)
          refine lv_lload_n hx hb d_Na_times_33 rfl (lv_at hl 1 rfl) ?_
          refine lv_ladd hx hb d_Na_times_34 ?_
          refine lv_topl (fun x_8 e_9 => ?_)
          obtain rfl : x_8 = lN (bn_w V i * F + bn_c V F i) := e_9.trans (lN_add _ _)
          refine lv_lstore (lv' := [(6, .long (lN (bn_w V i * F + bn_c V F i))), (5, .int (nI i)), (3, .long (lN (bn_c V F i))), (0, .ref h), (1, .long (lN F))]) hx hb d_Na_times_35 hl (by decide) rfl (fun ls hl => ?_)
          refine lv_aload_n hx hb d_Na_times_37 rfl (lv_at hl 3 rfl) ?_
          refine va_get (D := (dC, dI)) (ci := 2) (v := .ref w) (C := R_Na) (T := F_Na) (N := 2) hx hb hts i_Na hown hK hP 0 rfl rfl 0 (by decide) (hts _ fl_Na_9) (fun _ h9 => h9) rfl d_Na_times_38 ?_
          refine lv_iload hx hb d_Na_times_41 (lv_at hl 1 rfl) ?_
          refine lv_lload hx hb d_Na_times_43 (lv_at hl 0 rfl) ?_
          refine lv_ldc2 (v := 4294967295) hx hb hown (hts _ kl_Na_17) d_Na_times_45 ?_
          refine lv_land hx hb d_Na_times_48 ?_
          refine lv_topl (fun x_10 e_11 => ?_)
          obtain rfl : x_10 = lN (bn_w (V * F) i) := e_11.trans ((lZ_nlo (by omega)).trans (by rw [bn_t_lo]))
          refine va_last hx hb hK hP hD hS 1 0 rfl rfl (vp_in_nI (by omega) (by omega)) d_Na_times_49 (fun H locs hP hD hS => ?_)
          have e_12 : vp_updL (bn_m (V * F) V i) (nI i).toNatClampNeg (lN (bn_w (V * F) i)) = bn_m (V * F) V (i + 1) := by rw [nI_clamp (by omega)]; exact bn_m_up (V * F) V i
          have hP : va_P (dC, dI) cls [(h, .inr (2, [.ref w, .int (nI u)])), (w, .inl (cJ, 26, .inr (.inl (bn_m (V * F) V (i + 1)))))] H := by rw [← e_12]; exact hP
          have hD : va_D A [(h, .inr (2, [.ref w, .int (nI u)])), (w, .inl (cJ, 26, .inr (.inl (bn_m (V * F) V (i + 1)))))] := by rw [← e_12]; exact hD
          refine lv_lload hx hb d_Na_times_50 (lv_at hl 0 rfl) ?_
          refine lv_bipush (v := 32) hx hb d_Na_times_52 (by decide) ?_
          refine lv_lushr (v := lN (bn_c V F (i + 1))) hx hb d_Na_times_54 ((lZ_nhi (by omega)).trans (by rw [bn_t_hi])) ?_
          refine lv_lstore_n (lv' := [(3, .long (lN (bn_c V F (i + 1)))), (6, .long (lN (bn_w V i * F + bn_c V F i))), (5, .int (nI i)), (0, .ref h), (1, .long (lN F))]) hx hb d_Na_times_55 rfl hl (by decide) rfl (fun ls hl => ?_)
          refine lv_iinc (v := nI (i + 1)) (lv' := [(5, .int (nI (i + 1))), (3, .long (lN (bn_c V F (i + 1)))), (6, .long (lN (bn_w V i * F + bn_c V F i))), (0, .ref h), (1, .long (lN F))]) hx hb d_Na_times_56 hl (k := 2) rfl (nI_1 i) (by decide) rfl (fun ls hl => ?_)
          refine lv_goto (tgt := 5) hx hb d_Na_times_59 (by decide) ?_
          exact ih (i + 1) H locs ls (by omega) (by omega) hP hD hS (lv_sub hl [0, 1, 3, 4] rfl)
  exact lp (u + 1) 0 H [] ls (by omega) (by omega) (by rw [bn_m_0]; exact hP) (by rw [bn_m_0]; exact hD) hS (by rw [bn_c_0]; exact lv_sub hl [0, 1, 2, 3] rfl)

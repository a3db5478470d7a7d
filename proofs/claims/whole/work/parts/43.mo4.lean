set_option maxHeartbeats 4000000 in
set_option maxRecDepth 100000 in
/-- pick -/
theorem c_Mo_pick (l : Launch) (dC : Nat → ClassId) (dI : Nat → Nat → Nat) (sz : Nat) (hm tx9 un ro nu be ab tr bs fa bf : Nat) (th lo9 hi8 pr wd le bh ev : Int32) (la : Int64) (cI : ClassId) (N T0 p7 up7 : Nat)  (hN : N < 10 ^ 864) (hT : T0 < 10 ^ 864) (hp : p7 ≤ 864) (hu : up7 ≤ 1) (hX : ((N / 10 ^ p7 * 10 ^ p7) + 10 ^ p7) < 10 ^ 864) : Met l y_Mo_pick (Cond.code y_Mo_pick b_Mo_pick 4 none :: gT) ({ frames := 0, cells := 0, slots := 0, locals := 0 }) (va_Pc [.ref hm, .int (nI p7), .int (nI up7)] (pw_P (dC, dI) cls [(cI, .int)] pw_0 [(hm, .inr (5, [.int th, .int lo9, .int hi8, .int pr, .int wd, .long la, .int le, .ref tx9, .ref un, .ref ro, .ref nu, .ref be, .ref ab, .ref tr, .ref bs, .ref fa, .ref bf, .int bh, .int ev])), (nu, .inl (cI, 864, .inl (gd N))), (tr, .inl (cI, 864, .inl (gd T0)))] sz)) (va_Qv (fun (uu : Unit) => True) (fun (uu : Unit) => pw_B (dC, dI) cls [(cI, .int)] (va_A [(hm, .inr (5, [.int th, .int lo9, .int hi8, .int pr, .int wd, .long la, .int le, .ref tx9, .ref un, .ref ro, .ref nu, .ref be, .ref ab, .ref tr, .ref bs, .ref fa, .ref bf, .int bh, .int ev])), (nu, .inl (cI, 864, .inl (gd N))), (tr, .inl (cI, 864, .inl (gd T0)))] sz) [(hm, .inr (5, [.int th, .int lo9, .int hi8, .int pr, .int wd, .long la, .int le, .ref tx9, .ref un, .ref ro, .ref nu, .ref be, .ref ab, .ref tr, .ref bs, .ref fa, .ref bf, .int bh, .int ev])), (nu, .inl (cI, 864, .inl (gd N))), (tr, .inl (cI, 864, .inl (gd ((N / 10 ^ p7 * 10 ^ p7) + up7 * 10 ^ p7))))]) (va_A [(hm, .inr (5, [.int th, .int lo9, .int hi8, .int pr, .int wd, .long la, .int le, .ref tx9, .ref un, .ref ro, .ref nu, .ref be, .ref ab, .ref tr, .ref bs, .ref fa, .ref bf, .int bh, .int ev])), (nu, .inl (cI, 864, .inl (gd N))), (tr, .inl (cI, 864, .inl (gd T0)))] sz)) 0 0 (va_A [(hm, .inr (5, [.int th, .int lo9, .int hi8, .int pr, .int wd, .long la, .int le, .ref tx9, .ref un, .ref ro, .ref nu, .ref be, .ref ab, .ref tr, .ref bs, .ref fa, .ref bf, .int bh, .int ev])), (nu, .inl (cI, 864, .inl (gd N))), (tr, .inl (cI, 864, .inl (gd T0)))] sz) := by
  refine pw_metv (tn := fun (uu : Unit) => [(cI, .int)]) (wn := fun (uu : Unit) => [(hm, .inr (5, [.int th, .int lo9, .int hi8, .int pr, .int wd, .long la, .int le, .ref tx9, .ref un, .ref ro, .ref nu, .ref be, .ref ab, .ref tr, .ref bs, .ref fa, .ref bf, .int bh, .int ev])), (nu, .inl (cI, 864, .inl (gd N))), (tr, .inl (cI, 864, .inl (gd ((N / 10 ^ p7 * 10 ^ p7) + up7 * 10 ^ p7))))]) (by decide) (Nat.le_of_ble_eq_true rfl) ?_
  intro p e s m args below meth c A Q H ls hx hb hml hown hts hnm hA hE hP hK hD hS hret hl
  have hown : s.vm.findClass R_Mo = some m.cls := hown
  have hl : lv_has ls 4 [(0, .ref hm), (1, .int (nI p7)), (2, .int (nI up7))] := hl
  have hX0 : (N / 10 ^ p7 * 10 ^ p7) < 10 ^ 864 := Nat.lt_of_le_of_lt (Nat.div_mul_le_self _ _) hN
  obtain ⟨Y0, hY0⟩ : ∃ y, y = (N / 10 ^ p7 * 10 ^ p7) := ⟨_, rfl⟩
  obtain ⟨Y1, hY1⟩ : ∃ y, y = Y0 + 10 ^ p7 := ⟨_, rfl⟩
  rw [← hY0] at hX hX0
  rw [← hY1] at hX
  have hr0 : up7 = 0 → ((N / 10 ^ p7 * 10 ^ p7) + up7 * 10 ^ p7) = Y0 := fun h => by rw [h, Nat.zero_mul, Nat.add_zero, hY0]
  have hr1 : up7 = 1 → ((N / 10 ^ p7 * 10 ^ p7) + up7 * 10 ^ p7) = Y1 := fun h => by rw [h, Nat.one_mul, hY1, hY0]
  have lp2 : ∀ (n q : Nat) (H : Heap) (locs : List Loc) (ls : Array Slot), (865 ≤ q + n) → (up7 = 1) → (Y1 / 10 ^ q = Y0 / 10 ^ q + 1) → va_P (dC, dI) cls [(hm, .inr (5, [.int th, .int lo9, .int hi8, .int pr, .int wd, .long la, .int le, .ref tx9, .ref un, .ref ro, .ref nu, .ref be, .ref ab, .ref tr, .ref bs, .ref fa, .ref bf, .int bh, .int ev])), (nu, .inl (cI, 864, .inl (gd N))), (tr, .inl (cI, 864, .inl (gmd Y1 Y0 q)))] H → va_D A [(hm, .inr (5, [.int th, .int lo9, .int hi8, .int pr, .int wd, .long la, .int le, .ref tx9, .ref un, .ref ro, .ref nu, .ref be, .ref ab, .ref tr, .ref bs, .ref fa, .ref bf, .int bh, .int ev])), (nu, .inl (cI, 864, .inl (gd N))), (tr, .inl (cI, 864, .inl (gmd Y1 Y0 q)))] → va_S A s.heap H locs → lv_has ls 4 [(3, .int (nI q)), (0, .ref hm), (1, .int (nI p7)), (2, .int (nI up7))] → W p l e { frames := 0, cells := 0, slots := 0, locals := 0 } s m args below meth c H locs 0 0 Q (F0 m 43 ls []) := by
    intro n
    induction n with
    | zero => intro q H locs ls hn hu1 hq hP hD hS hl; exact absurd hX (Nat.not_lt.mpr (Nat.le_trans (Nat.pow_le_pow_right (by decide) (show 864 ≤ q by omega)) (by rcases Nat.lt_or_ge Y1 (10 ^ q) with g | g; rw [Nat.div_eq_of_lt g] at hq; exact absurd hq.symm (Nat.succ_ne_zero _); exact g)))
    | succ n ih =>
      intro q H locs ls hn hu1 hq hP hD hS hl
      have hq864 : q < 864 := by
        rcases Nat.lt_or_ge q 864 with g | g
        · exact g
        · have g2 : Y1 < 10 ^ q := Nat.lt_of_lt_of_le hX (Nat.pow_le_pow_right (by decide) g)
          rw [Nat.div_eq_of_lt g2] at hq; exact absurd hq.symm (Nat.succ_ne_zero _)
      have hw1 := gw_lt (G := 10) (by decide) Y0 q
      have hdd := g_incd hq
      refine lv_aload_n hx hb d_Mo_pick_43 rfl (lv_at hl 1 rfl) ?_
      refine va_get (D := (dC, dI)) (ci := 5) (v := .ref tr) (C := R_Mo) (T := F_Mo) (N := 19) hx hb hts i_Mo hown hK hP 0 rfl rfl 13 (by decide) (hts _ fl_Mo_36) (fun _ h9 => h9) rfl d_Mo_pick_44 ?_
      refine lv_iload_n hx hb d_Mo_pick_47 rfl (lv_at hl 0 rfl) ?_
      refine va_iald hx hb hK hP 2 0 rfl rfl (vp_in_nI (by omega) (by omega)) d_Mo_pick_48 ?_
      refine lv_topi (fun x_1 e_2 => ?_)
      obtain rfl : x_1 = nI (gw 10 Y0 q) := e_2.trans (by rw [nI_clamp (by omega)]; exact gmd_at Y1 Y0 q)
      refine lv_bipush (v := 9) hx hb d_Mo_pick_49 (by decide) ?_
      refine lv_icmp_ne (tgt := 67) hx hb d_Mo_pick_51 (by decide) (fun hc => ?_) (fun hc => ?_)
      · have h9 : gw 10 Y0 q ≠ 9 := fun g => hc (by rw [g]; rfl)
        have hd9 := hdd.2 h9
        refine lv_aload_n hx hb d_Mo_pick_67 rfl (lv_at hl 1 rfl) ?_
        refine va_get (D := (dC, dI)) (ci := 5) (v := .ref tr) (C := R_Mo) (T := F_Mo) (N := 19) hx hb hts i_Mo hown hK hP 0 rfl rfl 13 (by decide) (hts _ fl_Mo_36) (fun _ h9 => h9) rfl d_Mo_pick_68 ?_
        refine lv_iload_n hx hb d_Mo_pick_71 rfl (lv_at hl 0 rfl) ?_
        refine lv_dup2_11 hx hb d_Mo_pick_72 rfl rfl ?_
        refine va_iald hx hb hK hP 2 0 rfl rfl (vp_in_nI (by omega) (by omega)) d_Mo_pick_73 ?_
        refine lv_topi (fun x_3 e_4 => ?_)
        obtain rfl : x_3 = nI (gw 10 Y0 q) := e_4.trans (by rw [nI_clamp (by omega)]; exact gmd_at Y1 Y0 q)
        refine lv_iconst (v := 1) hx hb d_Mo_pick_74 (by decide) ?_
        refine lv_iadd hx hb d_Mo_pick_75 ?_
        refine lv_topi (fun x_5 e_6 => ?_)
        obtain rfl : x_5 = nI (gw 10 Y1 q) := e_6.trans ((nI_1 _).trans (by rw [hd9.1]))
        refine va_iast hx hb hK hP hD hS 2 0 rfl rfl (vp_in_nI (by omega) (by omega)) d_Mo_pick_76 (fun H locs hP hD hS => ?_)
        have e_7 : upd (gmd Y1 Y0 q) (nI q).toNatClampNeg (nI (gw 10 Y1 q)) = gmd Y1 Y0 (q + 1) := by rw [nI_clamp (by omega)]; exact gmd_up Y1 Y0 q
        have hP : va_P (dC, dI) cls [(hm, .inr (5, [.int th, .int lo9, .int hi8, .int pr, .int wd, .long la, .int le, .ref tx9, .ref un, .ref ro, .ref nu, .ref be, .ref ab, .ref tr, .ref bs, .ref fa, .ref bf, .int bh, .int ev])), (nu, .inl (cI, 864, .inl (gd N))), (tr, .inl (cI, 864, .inl (gmd Y1 Y0 (q + 1))))] H := by rw [← e_7]; exact hP
        have hD : va_D A [(hm, .inr (5, [.int th, .int lo9, .int hi8, .int pr, .int wd, .long la, .int le, .ref tx9, .ref un, .ref ro, .ref nu, .ref be, .ref ab, .ref tr, .ref bs, .ref fa, .ref bf, .int bh, .int ev])), (nu, .inl (cI, 864, .inl (gd N))), (tr, .inl (cI, 864, .inl (gmd Y1 Y0 (q + 1))))] := by rw [← e_7]; exact hD
        exact hret _ _ _ _ () d_Mo_pick_77 trivial (by rw [hr1 hu1, ← gmd_hi hd9.2]; exact hP) hK (by rw [hr1 hu1, ← gmd_hi hd9.2]; exact hD) hS
      · have h9 : gw 10 Y0 q = 9 := (nI_eq (b := 9) (by omega) (by omega)).mp hc
        have hd9 := hdd.1 h9
        refine lv_aload_n hx hb d_Mo_pick_54 rfl (lv_at hl 1 rfl) ?_
        refine va_get (D := (dC, dI)) (ci := 5) (v := .ref tr) (C := R_Mo) (T := F_Mo) (N := 19) hx hb hts i_Mo hown hK hP 0 rfl rfl 13 (by decide) (hts _ fl_Mo_36) (fun _ h9 => h9) rfl d_Mo_pick_55 ?_
        refine lv_iload_n hx hb d_Mo_pick_58 rfl (lv_at hl 0 rfl) ?_
        refine lv_iconst (v := 0) hx hb d_Mo_pick_59 (by decide) ?_
        refine lv_topi (fun x_8 e_9 => ?_)
        obtain rfl : x_8 = nI (gw 10 Y1 q) := e_9.trans (by rw [hd9.1]; rfl)
        refine va_iast hx hb hK hP hD hS 2 0 rfl rfl (vp_in_nI (by omega) (by omega)) d_Mo_pick_60 (fun H locs hP hD hS => ?_)
        have e_10 : upd (gmd Y1 Y0 q) (nI q).toNatClampNeg (nI (gw 10 Y1 q)) = gmd Y1 Y0 (q + 1) := by rw [nI_clamp (by omega)]; exact gmd_up Y1 Y0 q
        have hP : va_P (dC, dI) cls [(hm, .inr (5, [.int th, .int lo9, .int hi8, .int pr, .int wd, .long la, .int le, .ref tx9, .ref un, .ref ro, .ref nu, .ref be, .ref ab, .ref tr, .ref bs, .ref fa, .ref bf, .int bh, .int ev])), (nu, .inl (cI, 864, .inl (gd N))), (tr, .inl (cI, 864, .inl (gmd Y1 Y0 (q + 1))))] H := by rw [← e_10]; exact hP
        have hD : va_D A [(hm, .inr (5, [.int th, .int lo9, .int hi8, .int pr, .int wd, .long la, .int le, .ref tx9, .ref un, .ref ro, .ref nu, .ref be, .ref ab, .ref tr, .ref bs, .ref fa, .ref bf, .int bh, .int ev])), (nu, .inl (cI, 864, .inl (gd N))), (tr, .inl (cI, 864, .inl (gmd Y1 Y0 (q + 1))))] := by rw [← e_10]; exact hD
        refine lv_iinc (v := nI (q + 1)) (lv' := [(3, .int (nI (q + 1))), (0, .ref hm), (1, .int (nI p7)), (2, .int (nI up7))]) hx hb d_Mo_pick_61 hl (k := 0) rfl (nI_1 _) (by decide) rfl (fun ls hl => ?_)
        refine lv_goto (tgt := 43) hx hb d_Mo_pick_64 (by decide) ?_
        exact ih (q + 1) H _ ls (by omega) hu1 hd9.2 hP hD hS (lv_sub hl [0, 1, 2, 3] rfl)
  refine lv_iconst (v := 0) hx hb d_Mo_pick_0 (by decide) ?_
  refine lv_istore_n (lv' := [(3, .int 0), (0, .ref hm), (1, .int (nI p7)), (2, .int (nI up7))]) hx hb d_Mo_pick_1 rfl hl (by decide) rfl (fun ls hl => ?_)
  have lp : ∀ (n k : Nat) (H : Heap) (locs : List Loc) (ls : Array Slot), (k ≤ 864) → (865 ≤ k + n) → va_P (dC, dI) cls [(hm, .inr (5, [.int th, .int lo9, .int hi8, .int pr, .int wd, .long la, .int le, .ref tx9, .ref un, .ref ro, .ref nu, .ref be, .ref ab, .ref tr, .ref bs, .ref fa, .ref bf, .int bh, .int ev])), (nu, .inl (cI, 864, .inl (gd N))), (tr, .inl (cI, 864, .inl (gmd Y0 T0 k)))] H → va_D A [(hm, .inr (5, [.int th, .int lo9, .int hi8, .int pr, .int wd, .long la, .int le, .ref tx9, .ref un, .ref ro, .ref nu, .ref be, .ref ab, .ref tr, .ref bs, .ref fa, .ref bf, .int bh, .int ev])), (nu, .inl (cI, 864, .inl (gd N))), (tr, .inl (cI, 864, .inl (gmd Y0 T0 k)))] → va_S A s.heap H locs → lv_has ls 4 [(3, .int (nI k)), (0, .ref hm), (1, .int (nI p7)), (2, .int (nI up7))] → W p l e { frames := 0, cells := 0, slots := 0, locals := 0 } s m args below meth c H locs 0 0 Q (F0 m 2 ls []) := by
    intro n
    induction n with
    | zero => intro k H locs ls hk hn hP hD hS hl; exact absurd hn (by omega)
    | succ n ih =>
      intro k H locs ls hk hn hP hD hS hl
      refine lv_iload_n hx hb d_Mo_pick_2 rfl (lv_at hl 0 rfl) ?_
      refine lv_sipush (v := 864) hx hb d_Mo_pick_3 (by decide) ?_
      refine lv_icmp_ge (tgt := 36) hx hb d_Mo_pick_6 (by decide) (fun hc => ?_) (fun hc => ?_)
      · obtain rfl : k = 864 := by have := (nI_leI (a := 864) (b := k) (by omega) (by omega)).mp hc; omega
        rw [gmd_all hX0 hT] at hP hD
        refine lv_iload_n hx hb d_Mo_pick_36 rfl (lv_at hl 3 rfl) ?_
        refine lv_if_ne (tgt := 41) hx hb d_Mo_pick_37 (by decide) (fun hc2 => ?_) (fun hc2 => ?_)
        · have hu1 : up7 = 1 := by have := mt (nI_b0 hu).mpr hc2; omega
          refine lv_iload_n hx hb d_Mo_pick_41 rfl (lv_at hl 2 rfl) ?_
          refine lv_istore_n (lv' := [(3, .int (nI p7)), (0, .ref hm), (1, .int (nI p7)), (2, .int (nI up7))]) hx hb d_Mo_pick_42 rfl hl (by decide) rfl (fun ls hl => ?_)
          have hlo9 : gmd Y1 Y0 p7 = gd Y0 := gmd_lo (fun j hj => by rw [hY1, hY0, isbt_lo (k := p7) (by rw [← Nat.add_one_mul]; exact Nat.mul_mod_left _ _) hj, isbt_lo (k := p7) (Nat.mul_mod_left _ _) hj])
          exact lp2 865 p7 H _ ls (by omega) hu1 (by rw [hY1]; exact g_inc0) (by rw [hlo9]; exact hP) (by rw [hlo9]; exact hD) hS (lv_sub hl [0, 1, 2, 3] rfl)
        · have hu0 : up7 = 0 := (nI_b0 hu).mp hc2
          exact hret _ _ _ _ () d_Mo_pick_40 trivial (by rw [hr0 hu0]; exact hP) hK (by rw [hr0 hu0]; exact hD) hS
      · have hlt : k < 864 := by have := mt (nI_leI (a := 864) (b := k) (by omega) (by omega)).mpr hc; omega
        have hfl := g_floor N p7 k
        rw [← hY0] at hfl
        have hw1 := gw_lt (G := 10) (by decide) N k
        refine lv_aload_n hx hb d_Mo_pick_9 rfl (lv_at hl 1 rfl) ?_
        refine va_get (D := (dC, dI)) (ci := 5) (v := .ref tr) (C := R_Mo) (T := F_Mo) (N := 19) hx hb hts i_Mo hown hK hP 0 rfl rfl 13 (by decide) (hts _ fl_Mo_36) (fun _ h9 => h9) rfl d_Mo_pick_10 ?_
        refine lv_iload_n hx hb d_Mo_pick_13 rfl (lv_at hl 0 rfl) ?_
        refine lv_iload_n hx hb d_Mo_pick_14 rfl (lv_at hl 0 rfl) ?_
        refine lv_iload_n hx hb d_Mo_pick_15 rfl (lv_at hl 2 rfl) ?_
        refine lv_icmp_ge (tgt := 23) hx hb d_Mo_pick_16 (by decide) (fun hc2 => ?_) (fun hc2 => ?_)
        · have hge : p7 ≤ k := (nI_leI (by omega) (by omega)).mp hc2
          refine lv_aload_n hx hb d_Mo_pick_23 rfl (lv_at hl 1 rfl) ?_
          refine va_get (D := (dC, dI)) (ci := 5) (v := .ref nu) (C := R_Mo) (T := F_Mo) (N := 19) hx hb hts i_Mo hown hK hP 0 rfl rfl 10 (by decide) (hts _ fl_Mo_27) (fun _ h9 => h9) rfl d_Mo_pick_24 ?_
          refine lv_iload_n hx hb d_Mo_pick_27 rfl (lv_at hl 0 rfl) ?_
          refine va_iald hx hb hK hP 1 0 rfl rfl (vp_in_nI (by omega) (by omega)) d_Mo_pick_28 ?_
          refine lv_topi (fun x_11 e_12 => ?_)
          obtain rfl : x_11 = nI (gw 10 Y0 k) := e_12.trans (by rw [nI_clamp (by omega), hfl, if_neg (by omega)]; rfl)
          refine va_iast hx hb hK hP hD hS 2 0 rfl rfl (vp_in_nI (by omega) (by omega)) d_Mo_pick_29 (fun H locs hP hD hS => ?_)
          have e_13 : upd (gmd Y0 T0 k) (nI k).toNatClampNeg (nI (gw 10 Y0 k)) = gmd Y0 T0 (k + 1) := by rw [nI_clamp (by omega)]; exact gmd_up Y0 T0 k
          have hP : va_P (dC, dI) cls [(hm, .inr (5, [.int th, .int lo9, .int hi8, .int pr, .int wd, .long la, .int le, .ref tx9, .ref un, .ref ro, .ref nu, .ref be, .ref ab, .ref tr, .ref bs, .ref fa, .ref bf, .int bh, .int ev])), (nu, .inl (cI, 864, .inl (gd N))), (tr, .inl (cI, 864, .inl (gmd Y0 T0 (k + 1))))] H := by rw [← e_13]; exact hP
          have hD : va_D A [(hm, .inr (5, [.int th, .int lo9, .int hi8, .int pr, .int wd, .long la, .int le, .ref tx9, .ref un, .ref ro, .ref nu, .ref be, .ref ab, .ref tr, .ref bs, .ref fa, .ref bf, .int bh, .int ev])), (nu, .inl (cI, 864, .inl (gd N))), (tr, .inl (cI, 864, .inl (gmd Y0 T0 (k + 1))))] := by rw [← e_13]; exact hD
          refine lv_iinc (v := nI (k + 1)) (lv' := [(3, .int (nI (k + 1))), (0, .ref hm), (1, .int (nI p7)), (2, .int (nI up7))]) hx hb d_Mo_pick_30 hl (k := 0) rfl (nI_1 _) (by decide) rfl (fun ls hl => ?_)
          refine lv_goto (tgt := 2) hx hb d_Mo_pick_33 (by decide) ?_
          exact ih (k + 1) H _ ls (by omega) (by omega) hP hD hS (lv_sub hl [0, 1, 2, 3] rfl)
        · have hlt2 : k < p7 := by have := mt (nI_leI (a := p7) (b := k) (by omega) (by omega)).mpr hc2; omega
          refine lv_iconst (v := 0) hx hb d_Mo_pick_19 (by decide) ?_
          refine lv_topi (fun x_14 e_15 => ?_)
          obtain rfl : x_14 = nI (gw 10 Y0 k) := e_15.trans (by rw [hfl, if_pos hlt2]; rfl)
          refine lv_goto (tgt := 29) hx hb d_Mo_pick_20 (by decide) ?_
          refine va_iast hx hb hK hP hD hS 2 0 rfl rfl (vp_in_nI (by omega) (by omega)) d_Mo_pick_29 (fun H locs hP hD hS => ?_)
          have e_16 : upd (gmd Y0 T0 k) (nI k).toNatClampNeg (nI (gw 10 Y0 k)) = gmd Y0 T0 (k + 1) := by rw [nI_clamp (by omega)]; exact gmd_up Y0 T0 k
          have hP : va_P (dC, dI) cls [(hm, .inr (5, [.int th, .int lo9, .int hi8, .int pr, .int wd, .long la, .int le, .ref tx9, .ref un, .ref ro, .ref nu, .ref be, .ref ab, .ref tr, .ref bs, .ref fa, .ref bf, .int bh, .int ev])), (nu, .inl (cI, 864, .inl (gd N))), (tr, .inl (cI, 864, .inl (gmd Y0 T0 (k + 1))))] H := by rw [← e_16]; exact hP
          have hD : va_D A [(hm, .inr (5, [.int th, .int lo9, .int hi8, .int pr, .int wd, .long la, .int le, .ref tx9, .ref un, .ref ro, .ref nu, .ref be, .ref ab, .ref tr, .ref bs, .ref fa, .ref bf, .int bh, .int ev])), (nu, .inl (cI, 864, .inl (gd N))), (tr, .inl (cI, 864, .inl (gmd Y0 T0 (k + 1))))] := by rw [← e_16]; exact hD
          refine lv_iinc (v := nI (k + 1)) (lv' := [(3, .int (nI (k + 1))), (0, .ref hm), (1, .int (nI p7)), (2, .int (nI up7))]) hx hb d_Mo_pick_30 hl (k := 0) rfl (nI_1 _) (by decide) rfl (fun ls hl => ?_)
          refine lv_goto (tgt := 2) hx hb d_Mo_pick_33 (by decide) ?_
          exact ih (k + 1) H _ ls (by omega) (by omega) hP hD hS (lv_sub hl [0, 1, 2, 3] rfl)
  exact lp 865 0 H _ ls (by omega) (by omega) (by rw [gmd_0]; exact hP) (by rw [gmd_0]; exact hD) hS (lv_sub hl [0, 1, 2, 3] rfl)
set_option maxHeartbeats 4000000 in
set_option maxRecDepth 100000 in
/-- readsBack -/
theorem c_Mo_readsBack (l : Launch) (dC : Nat → ClassId) (dI : Nat → Nat → Nat) (sz : Nat) (hm tx9 un ro nu be ab tr bs fa bf : Nat) (th lo9 hi8 pr wd le bh : Int32) (la : Int64) (cI : ClassId) (T L7 A7 e7 n7 : Nat)  (hT : T < 10 ^ 864) (hL : L7 < 10 ^ 864) (hA7 : A7 < 10 ^ 864) (he : e7 ≤ 1) (hn : isnd T n7) : Met l y_Mo_readsBack (Cond.code y_Mo_readsBack b_Mo_readsBack 3 (some .boolean) :: gT) ({ frames := 1, cells := 0, slots := 0, locals := 22 }) (va_Pc [.ref hm] (pw_P (dC, dI) cls [(cI, .int)] pw_0 [(hm, .inr (5, [.int th, .int lo9, .int hi8, .int pr, .int wd, .long la, .int le, .ref tx9, .ref un, .ref ro, .ref nu, .ref be, .ref ab, .ref tr, .ref bs, .ref fa, .ref bf, .int bh, .int (nI e7)])), (tr, .inl (cI, 864, .inl (gd T))), (be, .inl (cI, 864, .inl (gd L7))), (ab, .inl (cI, 864, .inl (gd A7)))] sz)) (va_Qi (fun (r : Int32) (uu : Unit) => r = nI (rb e7 L7 A7 T)) (fun (uu : Unit) => pw_B (dC, dI) cls [(cI, .int)] (va_A [(hm, .inr (5, [.int th, .int lo9, .int hi8, .int pr, .int wd, .long la, .int le, .ref tx9, .ref un, .ref ro, .ref nu, .ref be, .ref ab, .ref tr, .ref bs, .ref fa, .ref bf, .int bh, .int (nI e7)])), (tr, .inl (cI, 864, .inl (gd T))), (be, .inl (cI, 864, .inl (gd L7))), (ab, .inl (cI, 864, .inl (gd A7)))] sz) [(hm, .inr (5, [.int th, .int lo9, .int hi8, .int pr, .int wd, .long la, .int le, .ref tx9, .ref un, .ref ro, .ref nu, .ref be, .ref ab, .ref tr, .ref bs, .ref fa, .ref bf, .int bh, .int (nI e7)])), (tr, .inl (cI, 864, .inl (gd T))), (be, .inl (cI, 864, .inl (gd L7))), (ab, .inl (cI, 864, .inl (gd A7)))]) (va_A [(hm, .inr (5, [.int th, .int lo9, .int hi8, .int pr, .int wd, .long la, .int le, .ref tx9, .ref un, .ref ro, .ref nu, .ref be, .ref ab, .ref tr, .ref bs, .ref fa, .ref bf, .int bh, .int (nI e7)])), (tr, .inl (cI, 864, .inl (gd T))), (be, .inl (cI, 864, .inl (gd L7))), (ab, .inl (cI, 864, .inl (gd A7)))] sz)) 0 0 (va_A [(hm, .inr (5, [.int th, .int lo9, .int hi8, .int pr, .int wd, .long la, .int le, .ref tx9, .ref un, .ref ro, .ref nu, .ref be, .ref ab, .ref tr, .ref bs, .ref fa, .ref bf, .int bh, .int (nI e7)])), (tr, .inl (cI, 864, .inl (gd T))), (be, .inl (cI, 864, .inl (gd L7))), (ab, .inl (cI, 864, .inl (gd A7)))] sz) := by
  refine pw_meti (tn := fun (uu : Unit) => [(cI, .int)]) (wn := fun (uu : Unit) => [(hm, .inr (5, [.int th, .int lo9, .int hi8, .int pr, .int wd, .long la, .int le, .ref tx9, .ref un, .ref ro, .ref nu, .ref be, .ref ab, .ref tr, .ref bs, .ref fa, .ref bf, .int bh, .int (nI e7)])), (tr, .inl (cI, 864, .inl (gd T))), (be, .inl (cI, 864, .inl (gd L7))), (ab, .inl (cI, 864, .inl (gd A7)))]) (by decide) (Nat.le_of_ble_eq_true rfl) ?_
  intro p e s m args below meth c A Q H ls hx hb hml hown hts hA hE hP hK hD hS hret hl
  have hown : s.vm.findClass R_Mo = some m.cls := hown
  have hl : lv_has ls 3 [(0, .ref hm)] := hl
  have hn864 : n7 ≤ 864 := by rcases Nat.lt_or_ge 864 n7 with g | g; have := hn.2 864 g; omega; exact g
  have hn0 : (n7 = 0 ↔ T = 0) := ⟨fun g => by have := hn.1; rw [g] at this; omega, fun g => by rcases Nat.eq_zero_or_pos n7 with q | q; exact q; have := hn.2 0 q; omega⟩
  refine lv_aload_n hx hb d_Mo_readsBack_0 rfl (lv_at hl 0 rfl) ?_
  refine va_get (D := (dC, dI)) (ci := 5) (v := .ref tr) (C := R_Mo) (T := F_Mo) (N := 19) hx hb hts i_Mo hown hK hP 0 rfl rfl 13 (by decide) (hts _ fl_Mo_36) (fun _ h9 => h9) rfl d_Mo_readsBack_1 ?_
  refine lv_aload_n hx hb d_Mo_readsBack_4 rfl (lv_at hl 0 rfl) ?_
  refine va_get (D := (dC, dI)) (ci := 5) (v := .ref be) (C := R_Mo) (T := F_Mo) (N := 19) hx hb hts i_Mo hown hK hP 0 rfl rfl 11 (by decide) (hts _ fl_Mo_30) (fun _ h9 => h9) rfl d_Mo_readsBack_5 ?_
  refine pw_calli (wc := [(tr, .inl (cI, 864, .inl (gd T))), (be, .inl (cI, 864, .inl (gd L7)))]) (wr := [(hm, .inr (5, [.int th, .int lo9, .int hi8, .int pr, .int wd, .long la, .int le, .ref tx9, .ref un, .ref ro, .ref nu, .ref be, .ref ab, .ref tr, .ref bs, .ref fa, .ref bf, .int bh, .int (nI e7)])), (ab, .inl (cI, 864, .inl (gd A7)))]) [1, 2] [0, 3] rfl rfl rfl (by decide) (by decide) (by decide) hP hD hS hA (fun hPc hDc hF => va_runS (As := [.ref tr, .ref be]) (rest := []) ⟨hx, hb, hml, hown, hts⟩ (c_Mo_compare l dC dI H.size tr be cI T L7 hT hL) (va_cwS 2 hts (gw_S (gw_self cod_Mo_compare) ml_Mo_108 sta_Mo_compare ini_Mo) rfl rfl rfl (by decide +kernel) ⟨Nat.le_of_ble_eq_true rfl, Nat.le_of_ble_eq_true rfl⟩) (pw_preS pw_0_ok (trivial : pw_0 A s s.heap) hS hF hPc hDc (hK.sub [0] rfl)) rfl rfl hl.1 rfl (lv_room (Nat.le_of_ble_eq_true rfl)) d_Mo_readsBack_8 ⟨Nat.le_of_ble_eq_true rfl, Nat.le_of_ble_eq_true rfl⟩) (fun r1 u1 H locs h1 hK1 hP hD hS => ?_)
  have hP : va_P (dC, dI) cls [(hm, .inr (5, [.int th, .int lo9, .int hi8, .int pr, .int wd, .long la, .int le, .ref tx9, .ref un, .ref ro, .ref nu, .ref be, .ref ab, .ref tr, .ref bs, .ref fa, .ref bf, .int bh, .int (nI e7)])), (tr, .inl (cI, 864, .inl (gd T))), (be, .inl (cI, 864, .inl (gd L7))), (ab, .inl (cI, 864, .inl (gd A7)))] H := hP.sub [0, 2, 3, 1] rfl
  have hD : va_D A [(hm, .inr (5, [.int th, .int lo9, .int hi8, .int pr, .int wd, .long la, .int le, .ref tx9, .ref un, .ref ro, .ref nu, .ref be, .ref ab, .ref tr, .ref bs, .ref fa, .ref bf, .int bh, .int (nI e7)])), (tr, .inl (cI, 864, .inl (gd T))), (be, .inl (cI, 864, .inl (gd L7))), (ab, .inl (cI, 864, .inl (gd A7)))] := hD.sub [0, 2, 3, 1] (by decide) rfl
  subst h1
  refine lv_istore_n (lv' := [(1, .int (bn_cmp T L7)), (0, .ref hm)]) hx hb d_Mo_readsBack_11 rfl hl (by decide) rfl (fun ls hl => ?_)
  refine lv_aload_n hx hb d_Mo_readsBack_12 rfl (lv_at hl 1 rfl) ?_
  refine va_get (D := (dC, dI)) (ci := 5) (v := .ref tr) (C := R_Mo) (T := F_Mo) (N := 19) hx hb hts i_Mo hown hK hP 0 rfl rfl 13 (by decide) (hts _ fl_Mo_36) (fun _ h9 => h9) rfl d_Mo_readsBack_13 ?_
  refine lv_aload_n hx hb d_Mo_readsBack_16 rfl (lv_at hl 1 rfl) ?_
  refine va_get (D := (dC, dI)) (ci := 5) (v := .ref ab) (C := R_Mo) (T := F_Mo) (N := 19) hx hb hts i_Mo hown hK hP 0 rfl rfl 12 (by decide) (hts _ fl_Mo_33) (fun _ h9 => h9) rfl d_Mo_readsBack_17 ?_
  refine pw_calli (wc := [(tr, .inl (cI, 864, .inl (gd T))), (ab, .inl (cI, 864, .inl (gd A7)))]) (wr := [(hm, .inr (5, [.int th, .int lo9, .int hi8, .int pr, .int wd, .long la, .int le, .ref tx9, .ref un, .ref ro, .ref nu, .ref be, .ref ab, .ref tr, .ref bs, .ref fa, .ref bf, .int bh, .int (nI e7)])), (be, .inl (cI, 864, .inl (gd L7)))]) [1, 3] [0, 2] rfl rfl rfl (by decide) (by decide) (by decide) hP hD hS hA (fun hPc hDc hF => va_runS (As := [.ref tr, .ref ab]) (rest := []) ⟨hx, hb, hml, hown, hts⟩ (c_Mo_compare l dC dI H.size tr ab cI T A7 hT hA7) (va_cwS 2 hts (gw_S (gw_self cod_Mo_compare) ml_Mo_108 sta_Mo_compare ini_Mo) rfl rfl rfl (by decide +kernel) ⟨Nat.le_of_ble_eq_true rfl, Nat.le_of_ble_eq_true rfl⟩) (pw_preS pw_0_ok (trivial : pw_0 A s s.heap) hS hF hPc hDc (hK.sub [0] rfl)) rfl rfl hl.1 rfl (lv_room (Nat.le_of_ble_eq_true rfl)) d_Mo_readsBack_20 ⟨Nat.le_of_ble_eq_true rfl, Nat.le_of_ble_eq_true rfl⟩) (fun r2 u2 H locs h2 hK1 hP hD hS => ?_)
  have hP : va_P (dC, dI) cls [(hm, .inr (5, [.int th, .int lo9, .int hi8, .int pr, .int wd, .long la, .int le, .ref tx9, .ref un, .ref ro, .ref nu, .ref be, .ref ab, .ref tr, .ref bs, .ref fa, .ref bf, .int bh, .int (nI e7)])), (tr, .inl (cI, 864, .inl (gd T))), (be, .inl (cI, 864, .inl (gd L7))), (ab, .inl (cI, 864, .inl (gd A7)))] H := hP.sub [0, 2, 1, 3] rfl
  have hD : va_D A [(hm, .inr (5, [.int th, .int lo9, .int hi8, .int pr, .int wd, .long la, .int le, .ref tx9, .ref un, .ref ro, .ref nu, .ref be, .ref ab, .ref tr, .ref bs, .ref fa, .ref bf, .int bh, .int (nI e7)])), (tr, .inl (cI, 864, .inl (gd T))), (be, .inl (cI, 864, .inl (gd L7))), (ab, .inl (cI, 864, .inl (gd A7)))] := hD.sub [0, 2, 1, 3] (by decide) rfl
  subst h2
  refine lv_istore_n (lv' := [(2, .int (bn_cmp T A7)), (1, .int (bn_cmp T L7)), (0, .ref hm)]) hx hb d_Mo_readsBack_23 rfl hl (by decide) rfl (fun ls hl => ?_)
  refine lv_aload_n hx hb d_Mo_readsBack_24 rfl (lv_at hl 2 rfl) ?_
  refine va_get (D := (dC, dI)) (ci := 5) (v := .ref tr) (C := R_Mo) (T := F_Mo) (N := 19) hx hb hts i_Mo hown hK hP 0 rfl rfl 13 (by decide) (hts _ fl_Mo_36) (fun _ h9 => h9) rfl d_Mo_readsBack_25 ?_
  refine pw_calli (wc := [(tr, .inl (cI, 864, .inl (gd T)))]) (wr := [(hm, .inr (5, [.int th, .int lo9, .int hi8, .int pr, .int wd, .long la, .int le, .ref tx9, .ref un, .ref ro, .ref nu, .ref be, .ref ab, .ref tr, .ref bs, .ref fa, .ref bf, .int bh, .int (nI e7)])), (be, .inl (cI, 864, .inl (gd L7))), (ab, .inl (cI, 864, .inl (gd A7)))]) [1] [0, 2, 3] rfl rfl rfl (by decide) (by decide) (by decide) hP hD hS hA (fun hPc hDc hF => va_runS (As := [.ref tr]) (rest := []) ⟨hx, hb, hml, hown, hts⟩ (c_Mo_top l dC dI H.size tr cI T n7 hT hn) (va_cwS 1 hts (gw_S (gw_self cod_Mo_top) ml_Mo_112 sta_Mo_top ini_Mo) rfl rfl rfl (by decide +kernel) ⟨Nat.le_of_ble_eq_true rfl, Nat.le_of_ble_eq_true rfl⟩) (pw_preS pw_0_ok (trivial : pw_0 A s s.heap) hS hF hPc hDc (hK.sub [0] rfl)) rfl rfl hl.1 rfl (lv_room (Nat.le_of_ble_eq_true rfl)) d_Mo_readsBack_28 ⟨Nat.le_of_ble_eq_true rfl, Nat.le_of_ble_eq_true rfl⟩) (fun r3 u3 H locs h3 hK1 hP hD hS => ?_)
  have hP : va_P (dC, dI) cls [(hm, .inr (5, [.int th, .int lo9, .int hi8, .int pr, .int wd, .long la, .int le, .ref tx9, .ref un, .ref ro, .ref nu, .ref be, .ref ab, .ref tr, .ref bs, .ref fa, .ref bf, .int bh, .int (nI e7)])), (tr, .inl (cI, 864, .inl (gd T))), (be, .inl (cI, 864, .inl (gd L7))), (ab, .inl (cI, 864, .inl (gd A7)))] H := hP.sub [0, 3, 1, 2] rfl
  have hD : va_D A [(hm, .inr (5, [.int th, .int lo9, .int hi8, .int pr, .int wd, .long la, .int le, .ref tx9, .ref un, .ref ro, .ref nu, .ref be, .ref ab, .ref tr, .ref bs, .ref fa, .ref bf, .int bh, .int (nI e7)])), (tr, .inl (cI, 864, .inl (gd T))), (be, .inl (cI, 864, .inl (gd L7))), (ab, .inl (cI, 864, .inl (gd A7)))] := hD.sub [0, 3, 1, 2] (by decide) rfl
  subst h3
  refine lv_if_lt (tgt := 68) hx hb d_Mo_readsBack_31 (by decide) (fun hc => ?_) (fun hc => ?_)
  · have h0 : T = 0 := hn0.mp (by have := (iZ_lt (a := (n7 : Int) - 1) (b := 0) (by omega) (by omega) (by omega) (by omega)).mp hc; omega)
    have hr : rb e7 L7 A7 T = 0 := if_neg (fun g => by omega)
    refine lv_iconst (v := 0) hx hb d_Mo_readsBack_68 (by decide) ?_
    exact hret _ _ _ _ _ () d_Mo_readsBack_69 rfl (by rw [hr]; rfl) hP hK hD hS
  · have h0 : 0 < T := by rcases Nat.eq_zero_or_pos T with g | g; exact absurd ((iZ_lt (a := (n7 : Int) - 1) (b := 0) (by omega) (by omega) (by omega) (by omega)).mpr (by have := hn0.mpr g; omega)) hc; exact g
    refine lv_iload_n hx hb d_Mo_readsBack_34 rfl (lv_at hl 1 rfl) ?_
    refine lv_if_gt (tgt := 49) hx hb d_Mo_readsBack_35 (by decide) (fun k1 => ?_) (fun k1 => ?_)
    · have l1 : L7 < T := bn_cmp_gt0.mp k1
      refine lv_iload_n hx hb d_Mo_readsBack_49 rfl (lv_at hl 0 rfl) ?_
      refine lv_if_lt (tgt := 64) hx hb d_Mo_readsBack_50 (by decide) (fun g1 => ?_) (fun g1 => ?_)
      · have hr : rb e7 L7 A7 T = 1 := if_pos ⟨h0, Or.inl l1, Or.inl (bn_cmp_lt0.mp g1)⟩
        refine lv_iconst (v := 1) hx hb d_Mo_readsBack_64 (by decide) ?_
        refine lv_goto (tgt := 69) hx hb d_Mo_readsBack_65 (by decide) ?_
        exact hret _ _ _ _ _ () d_Mo_readsBack_69 rfl (by rw [hr]; rfl) hP hK hD hS
      · have h1 : ¬ T < A7 := fun g => g1 (bn_cmp_lt0.mpr g)
        refine lv_iload_n hx hb d_Mo_readsBack_53 rfl (lv_at hl 0 rfl) ?_
        refine lv_if_ne (tgt := 68) hx hb d_Mo_readsBack_54 (by decide) (fun g2 => ?_) (fun g2 => ?_)
        · have h2 : T ≠ A7 := fun g => g2 (bn_cmp_eq0.mpr g)
          have hr : rb e7 L7 A7 T = 0 := if_neg (fun g => g.2.2.elim h1 (fun q => h2 q.1))
          refine lv_iconst (v := 0) hx hb d_Mo_readsBack_68 (by decide) ?_
          exact hret _ _ _ _ _ () d_Mo_readsBack_69 rfl (by rw [hr]; rfl) hP hK hD hS
        · have h2 : T = A7 := bn_cmp_eq0.mp g2
          refine lv_aload_n hx hb d_Mo_readsBack_57 rfl (lv_at hl 2 rfl) ?_
          refine va_get (D := (dC, dI)) (ci := 5) (v := .int (nI e7)) (C := R_Mo) (T := F_Mo) (N := 19) hx hb hts i_Mo hown hK hP 0 rfl rfl 18 (by decide) (hts _ fl_Mo_99) (fun _ h9 => h9) rfl d_Mo_readsBack_58 ?_
          refine lv_if_eq (tgt := 68) hx hb d_Mo_readsBack_61 (by decide) (fun g3 => ?_) (fun g3 => ?_)
          · have h3 : e7 = 0 := (nI_b0 he).mp g3
            have hr : rb e7 L7 A7 T = 0 := if_neg (fun g => g.2.2.elim h1 (fun q => by omega))
            refine lv_iconst (v := 0) hx hb d_Mo_readsBack_68 (by decide) ?_
            exact hret _ _ _ _ _ () d_Mo_readsBack_69 rfl (by rw [hr]; rfl) hP hK hD hS
          · have h3 : e7 = 1 := by have := mt (nI_b0 he).mpr g3; omega
            have hr : rb e7 L7 A7 T = 1 := if_pos ⟨h0, Or.inl l1, Or.inr ⟨h2, h3⟩⟩
            refine lv_iconst (v := 1) hx hb d_Mo_readsBack_64 (by decide) ?_
            refine lv_goto (tgt := 69) hx hb d_Mo_readsBack_65 (by decide) ?_
            exact hret _ _ _ _ _ () d_Mo_readsBack_69 rfl (by rw [hr]; rfl) hP hK hD hS
    · have l1 : ¬ L7 < T := fun g => k1 (bn_cmp_gt0.mpr g)
      refine lv_iload_n hx hb d_Mo_readsBack_38 rfl (lv_at hl 1 rfl) ?_
      refine lv_if_ne (tgt := 68) hx hb d_Mo_readsBack_39 (by decide) (fun k2 => ?_) (fun k2 => ?_)
      · have l2 : T ≠ L7 := fun g => k2 (bn_cmp_eq0.mpr g)
        have hr : rb e7 L7 A7 T = 0 := if_neg (fun g => g.2.1.elim l1 (fun q => l2 q.1))
        refine lv_iconst (v := 0) hx hb d_Mo_readsBack_68 (by decide) ?_
        exact hret _ _ _ _ _ () d_Mo_readsBack_69 rfl (by rw [hr]; rfl) hP hK hD hS
      · have l2 : T = L7 := bn_cmp_eq0.mp k2
        refine lv_aload_n hx hb d_Mo_readsBack_42 rfl (lv_at hl 2 rfl) ?_
        refine va_get (D := (dC, dI)) (ci := 5) (v := .int (nI e7)) (C := R_Mo) (T := F_Mo) (N := 19) hx hb hts i_Mo hown hK hP 0 rfl rfl 18 (by decide) (hts _ fl_Mo_99) (fun _ h9 => h9) rfl d_Mo_readsBack_43 ?_
        refine lv_if_eq (tgt := 68) hx hb d_Mo_readsBack_46 (by decide) (fun k3 => ?_) (fun k3 => ?_)
        · have l3 : e7 = 0 := (nI_b0 he).mp k3
          have hr : rb e7 L7 A7 T = 0 := if_neg (fun g => g.2.1.elim l1 (fun q => by omega))
          refine lv_iconst (v := 0) hx hb d_Mo_readsBack_68 (by decide) ?_
          exact hret _ _ _ _ _ () d_Mo_readsBack_69 rfl (by rw [hr]; rfl) hP hK hD hS
        · have l3 : e7 = 1 := by have := mt (nI_b0 he).mpr k3; omega
          refine lv_iload_n hx hb d_Mo_readsBack_49 rfl (lv_at hl 0 rfl) ?_
          refine lv_if_lt (tgt := 64) hx hb d_Mo_readsBack_50 (by decide) (fun g1 => ?_) (fun g1 => ?_)
          · have hr : rb e7 L7 A7 T = 1 := if_pos ⟨h0, Or.inr ⟨l2, l3⟩, Or.inl (bn_cmp_lt0.mp g1)⟩
            refine lv_iconst (v := 1) hx hb d_Mo_readsBack_64 (by decide) ?_
            refine lv_goto (tgt := 69) hx hb d_Mo_readsBack_65 (by decide) ?_
            exact hret _ _ _ _ _ () d_Mo_readsBack_69 rfl (by rw [hr]; rfl) hP hK hD hS
          · have h1 : ¬ T < A7 := fun g => g1 (bn_cmp_lt0.mpr g)
            refine lv_iload_n hx hb d_Mo_readsBack_53 rfl (lv_at hl 0 rfl) ?_
            refine lv_if_ne (tgt := 68) hx hb d_Mo_readsBack_54 (by decide) (fun g2 => ?_) (fun g2 => ?_)
            · have h2 : T ≠ A7 := fun g => g2 (bn_cmp_eq0.mpr g)
              have hr : rb e7 L7 A7 T = 0 := if_neg (fun g => g.2.2.elim h1 (fun q => h2 q.1))
              refine lv_iconst (v := 0) hx hb d_Mo_readsBack_68 (by decide) ?_
              exact hret _ _ _ _ _ () d_Mo_readsBack_69 rfl (by rw [hr]; rfl) hP hK hD hS
            · have h2 : T = A7 := bn_cmp_eq0.mp g2
              refine lv_aload_n hx hb d_Mo_readsBack_57 rfl (lv_at hl 2 rfl) ?_
              refine va_get (D := (dC, dI)) (ci := 5) (v := .int (nI e7)) (C := R_Mo) (T := F_Mo) (N := 19) hx hb hts i_Mo hown hK hP 0 rfl rfl 18 (by decide) (hts _ fl_Mo_99) (fun _ h9 => h9) rfl d_Mo_readsBack_58 ?_
              refine lv_if_eq (tgt := 68) hx hb d_Mo_readsBack_61 (by decide) (fun g3 => ?_) (fun g3 => ?_)
              · have h3 : e7 = 0 := (nI_b0 he).mp g3
                have hr : rb e7 L7 A7 T = 0 := if_neg (fun g => g.2.2.elim h1 (fun q => by omega))
                refine lv_iconst (v := 0) hx hb d_Mo_readsBack_68 (by decide) ?_
                exact hret _ _ _ _ _ () d_Mo_readsBack_69 rfl (by rw [hr]; rfl) hP hK hD hS
              · have h3 : e7 = 1 := by have := mt (nI_b0 he).mpr g3; omega
                have hr : rb e7 L7 A7 T = 1 := if_pos ⟨h0, Or.inr ⟨l2, l3⟩, Or.inr ⟨h2, h3⟩⟩
                refine lv_iconst (v := 1) hx hb d_Mo_readsBack_64 (by decide) ?_
                refine lv_goto (tgt := 69) hx hb d_Mo_readsBack_65 (by decide) ?_
                exact hret _ _ _ _ _ () d_Mo_readsBack_69 rfl (by rw [hr]; rfl) hP hK hD hS
set_option maxHeartbeats 4000000 in
set_option maxRecDepth 100000 in
/-- measure -/
theorem c_Mo_measure (l : Launch) (dC : Nat → ClassId) (dI : Nat → Nat → Nat) (sz : Nat) (hm tx9 un ro nu be ab tr bs fa bf : Nat) (th lo9 hi8 pr wd le bh ev : Int32) (la : Int64) (cI : ClassId) (N T Fz : Nat)  (hN : N < 10 ^ 864) (hT : T < 10 ^ 864) (hF : Fz < 10 ^ 864) : Met l y_Mo_measure (Cond.code y_Mo_measure b_Mo_measure 5 none :: gT) ({ frames := 1, cells := 0, slots := 0, locals := 22 }) (va_Pc [.ref hm] (pw_P (dC, dI) cls [(cI, .int)] pw_0 [(hm, .inr (5, [.int th, .int lo9, .int hi8, .int pr, .int wd, .long la, .int le, .ref tx9, .ref un, .ref ro, .ref nu, .ref be, .ref ab, .ref tr, .ref bs, .ref fa, .ref bf, .int bh, .int ev])), (nu, .inl (cI, 864, .inl (gd N))), (tr, .inl (cI, 864, .inl (gd T))), (fa, .inl (cI, 864, .inl (gd Fz)))] sz)) (va_Qv (fun (uu : Unit) => True) (fun (uu : Unit) => pw_B (dC, dI) cls [(cI, .int)] (va_A [(hm, .inr (5, [.int th, .int lo9, .int hi8, .int pr, .int wd, .long la, .int le, .ref tx9, .ref un, .ref ro, .ref nu, .ref be, .ref ab, .ref tr, .ref bs, .ref fa, .ref bf, .int bh, .int ev])), (nu, .inl (cI, 864, .inl (gd N))), (tr, .inl (cI, 864, .inl (gd T))), (fa, .inl (cI, 864, .inl (gd Fz)))] sz) [(hm, .inr (5, [.int th, .int lo9, .int hi8, .int pr, .int wd, .long la, .int le, .ref tx9, .ref un, .ref ro, .ref nu, .ref be, .ref ab, .ref tr, .ref bs, .ref fa, .ref bf, .int bh, .int ev])), (nu, .inl (cI, 864, .inl (gd N))), (tr, .inl (cI, 864, .inl (gd T))), (fa, .inl (cI, 864, .inl (gd (if T < N then N - T else T - N))))]) (va_A [(hm, .inr (5, [.int th, .int lo9, .int hi8, .int pr, .int wd, .long la, .int le, .ref tx9, .ref un, .ref ro, .ref nu, .ref be, .ref ab, .ref tr, .ref bs, .ref fa, .ref bf, .int bh, .int ev])), (nu, .inl (cI, 864, .inl (gd N))), (tr, .inl (cI, 864, .inl (gd T))), (fa, .inl (cI, 864, .inl (gd Fz)))] sz)) 0 0 (va_A [(hm, .inr (5, [.int th, .int lo9, .int hi8, .int pr, .int wd, .long la, .int le, .ref tx9, .ref un, .ref ro, .ref nu, .ref be, .ref ab, .ref tr, .ref bs, .ref fa, .ref bf, .int bh, .int ev])), (nu, .inl (cI, 864, .inl (gd N))), (tr, .inl (cI, 864, .inl (gd T))), (fa, .inl (cI, 864, .inl (gd Fz)))] sz) := by
  refine pw_metv (tn := fun (uu : Unit) => [(cI, .int)]) (wn := fun (uu : Unit) => [(hm, .inr (5, [.int th, .int lo9, .int hi8, .int pr, .int wd, .long la, .int le, .ref tx9, .ref un, .ref ro, .ref nu, .ref be, .ref ab, .ref tr, .ref bs, .ref fa, .ref bf, .int bh, .int ev])), (nu, .inl (cI, 864, .inl (gd N))), (tr, .inl (cI, 864, .inl (gd T))), (fa, .inl (cI, 864, .inl (gd (if T < N then N - T else T - N))))]) (by decide) (Nat.le_of_ble_eq_true rfl) ?_
  intro p e s m args below meth c A Q H ls hx hb hml hown hts hnm hA hE hP hK hD hS hret hl
  have hown : s.vm.findClass R_Mo = some m.cls := hown
  have hl : lv_has ls 5 [(0, .ref hm)] := hl
  have lp1 : ∀ (n k : Nat) (H : Heap) (locs : List Loc) (ls : Array Slot), (T ≤ N) → (k ≤ 864) → (865 ≤ k + n) → ((if T < N then N - T else T - N) = N - T) → va_P (dC, dI) cls [(hm, .inr (5, [.int th, .int lo9, .int hi8, .int pr, .int wd, .long la, .int le, .ref tx9, .ref un, .ref ro, .ref nu, .ref be, .ref ab, .ref tr, .ref bs, .ref fa, .ref bf, .int bh, .int ev])), (nu, .inl (cI, 864, .inl (gd N))), (tr, .inl (cI, 864, .inl (gd T))), (fa, .inl (cI, 864, .inl (gmd (N - T) Fz k)))] H → va_D A [(hm, .inr (5, [.int th, .int lo9, .int hi8, .int pr, .int wd, .long la, .int le, .ref tx9, .ref un, .ref ro, .ref nu, .ref be, .ref ab, .ref tr, .ref bs, .ref fa, .ref bf, .int bh, .int ev])), (nu, .inl (cI, 864, .inl (gd N))), (tr, .inl (cI, 864, .inl (gd T))), (fa, .inl (cI, 864, .inl (gmd (N - T) Fz k)))] → va_S A s.heap H locs → lv_has ls 5 [(3, .int (nI k)), (2, .int (nI (gb N T k))), (1, .int 1), (0, .ref hm)] → W p l e { frames := 1, cells := 0, slots := 0, locals := 22 } s m args below meth c H locs 0 0 Q (F0 m 24 ls []) := by
    intro n
    induction n with
    | zero => intro k H locs ls hAB hk hn hdi hP hD hS hl; exact absurd hn (by omega)
    | succ n ih =>
      intro k H locs ls hAB hk hn hdi hP hD hS hl
      refine lv_iload_n hx hb d_Mo_measure_24 rfl (lv_at hl 0 rfl) ?_
      refine lv_sipush (v := 864) hx hb d_Mo_measure_25 (by decide) ?_
      refine lv_icmp_ge (tgt := 106) hx hb d_Mo_measure_28 (by decide) (fun hc => ?_) (fun hc => ?_)
      · obtain rfl : k = 864 := by have := (nI_leI (a := 864) (b := k) (by omega) (by omega)).mp hc; omega
        have hd9 : N - T < 10 ^ 864 := by omega
        exact hret _ _ _ _ () d_Mo_measure_106 trivial (by rw [hdi, ← gmd_all hd9 hF]; exact hP) hK (by rw [hdi, ← gmd_all hd9 hF]; exact hD) hS
      · have hlt : k < 864 := by have := mt (nI_leI (a := 864) (b := k) (by omega) (by omega)).mpr hc; omega
        have hw1 := gw_lt (G := 10) (by decide) N k
        have hw2 := gw_lt (G := 10) (by decide) T k
        have hb1 := gb_le N T k
        have hs1 := gs_lo k hAB
        have hs2 := gs_hi N T k
        have hb2 := gb_le N T (k + 1)
        refine lv_iload_n hx hb d_Mo_measure_31 rfl (lv_at hl 2 rfl) ?_
        refine lv_if_eq (tgt := 51) hx hb d_Mo_measure_32 (by decide) (fun hw => ?_) (fun hw => ?_)
        · exact absurd hw (by decide)
        · refine lv_aload_n hx hb d_Mo_measure_35 rfl (lv_at hl 3 rfl) ?_
          refine va_get (D := (dC, dI)) (ci := 5) (v := .ref nu) (C := R_Mo) (T := F_Mo) (N := 19) hx hb hts i_Mo hown hK hP 0 rfl rfl 10 (by decide) (hts _ fl_Mo_27) (fun _ h9 => h9) rfl d_Mo_measure_36 ?_
          refine lv_iload_n hx hb d_Mo_measure_39 rfl (lv_at hl 0 rfl) ?_
          refine va_iald hx hb hK hP 1 0 rfl rfl (vp_in_nI (by omega) (by omega)) d_Mo_measure_40 ?_
          refine lv_topi (fun x_1 e_2 => ?_)
          obtain rfl : x_1 = nI (gw 10 N k) := e_2.trans (by rw [nI_clamp (by omega)]; rfl)
          refine lv_aload_n hx hb d_Mo_measure_41 rfl (lv_at hl 3 rfl) ?_
          refine va_get (D := (dC, dI)) (ci := 5) (v := .ref tr) (C := R_Mo) (T := F_Mo) (N := 19) hx hb hts i_Mo hown hK hP 0 rfl rfl 13 (by decide) (hts _ fl_Mo_36) (fun _ h9 => h9) rfl d_Mo_measure_42 ?_
          refine lv_iload_n hx hb d_Mo_measure_45 rfl (lv_at hl 0 rfl) ?_
          refine va_iald hx hb hK hP 2 0 rfl rfl (vp_in_nI (by omega) (by omega)) d_Mo_measure_46 ?_
          refine lv_topi (fun x_3 e_4 => ?_)
          obtain rfl : x_3 = nI (gw 10 T k) := e_4.trans (by rw [nI_clamp (by omega)]; rfl)
          refine lv_isub hx hb d_Mo_measure_47 ?_
          refine lv_topi (fun x_5 e_6 => ?_)
          obtain rfl : x_5 = iZ ((gw 10 N k : Int) - gw 10 T k) := e_6.trans (by rw [iZ_N, iZ_N]; exact iZ_sub _ _)
          refine lv_goto (tgt := 64) hx hb d_Mo_measure_48 (by decide) ?_
          refine lv_iload_n hx hb d_Mo_measure_64 rfl (lv_at hl 1 rfl) ?_
          refine lv_isub hx hb d_Mo_measure_65 ?_
          refine lv_topi (fun x_7 e_8 => ?_)
          obtain rfl : x_7 = iZ ((gw 10 N k : Int) - gw 10 T k - gb N T k) := e_8.trans (by rw [iZ_N]; exact iZ_sub _ _)
          refine lv_istore (lv' := [(4, .int (iZ ((gw 10 N k : Int) - gw 10 T k - gb N T k))), (3, .int (nI k)), (2, .int (nI (gb N T k))), (1, .int 1), (0, .ref hm)]) hx hb d_Mo_measure_66 hl (by decide) rfl (fun ls hl => ?_)
          refine lv_iload hx hb d_Mo_measure_68 (lv_at hl 0 rfl) ?_
          refine lv_if_ge (tgt := 77) hx hb d_Mo_measure_70 (by decide) (fun hv => ?_) (fun hv => ?_)
          · have hz : 0 ≤ ((gw 10 N k : Int) - gw 10 T k - gb N T k) := (iZ_le (a := 0) (b := ((gw 10 N k : Int) - gw 10 T k - gb N T k)) (by omega) (by omega) (by omega) (by omega)).mp hv
            have hb0 : gb N T (k + 1) = 0 := by have := mt hs2.mpr; omega
            refine lv_iconst (v := 0) hx hb d_Mo_measure_77 (by decide) ?_
            refine lv_topi (fun x_9 e_10 => ?_)
            obtain rfl : x_9 = nI (gb N T (k + 1)) := e_10.trans (by rw [hb0]; rfl)
            refine lv_istore_n (lv' := [(2, .int (nI (gb N T (k + 1)))), (4, .int (iZ ((gw 10 N k : Int) - gw 10 T k - gb N T k))), (3, .int (nI k)), (1, .int 1), (0, .ref hm)]) hx hb d_Mo_measure_78 rfl hl (by decide) rfl (fun ls hl => ?_)
            refine lv_aload_n hx hb d_Mo_measure_79 rfl (lv_at hl 4 rfl) ?_
            refine va_get (D := (dC, dI)) (ci := 5) (v := .ref fa) (C := R_Mo) (T := F_Mo) (N := 19) hx hb hts i_Mo hown hK hP 0 rfl rfl 15 (by decide) (hts _ fl_Mo_42) (fun _ h9 => h9) rfl d_Mo_measure_80 ?_
            refine lv_iload_n hx hb d_Mo_measure_83 rfl (lv_at hl 2 rfl) ?_
            refine lv_iload hx hb d_Mo_measure_84 (lv_at hl 1 rfl) ?_
            refine lv_if_ge (tgt := 97) hx hb d_Mo_measure_86 (by decide) (fun hv2 => ?_) (fun hv2 => ?_)
            · refine lv_iload hx hb d_Mo_measure_97 (lv_at hl 1 rfl) ?_
              refine lv_topi (fun x_11 e_12 => ?_)
              obtain rfl : x_11 = nI (gw 10 (N - T) k) := e_12.trans (by rw [iZ_N]; congr 1; omega)
              refine va_iast hx hb hK hP hD hS 3 0 rfl rfl (vp_in_nI (by omega) (by omega)) d_Mo_measure_99 (fun H locs hP hD hS => ?_)
              have e_13 : upd (gmd (N - T) Fz k) (nI k).toNatClampNeg (nI (gw 10 (N - T) k)) = gmd (N - T) Fz (k + 1) := by rw [nI_clamp (by omega)]; exact gmd_up (N - T) Fz k
              have hP : va_P (dC, dI) cls [(hm, .inr (5, [.int th, .int lo9, .int hi8, .int pr, .int wd, .long la, .int le, .ref tx9, .ref un, .ref ro, .ref nu, .ref be, .ref ab, .ref tr, .ref bs, .ref fa, .ref bf, .int bh, .int ev])), (nu, .inl (cI, 864, .inl (gd N))), (tr, .inl (cI, 864, .inl (gd T))), (fa, .inl (cI, 864, .inl (gmd (N - T) Fz (k + 1))))] H := by rw [← e_13]; exact hP
              have hD : va_D A [(hm, .inr (5, [.int th, .int lo9, .int hi8, .int pr, .int wd, .long la, .int le, .ref tx9, .ref un, .ref ro, .ref nu, .ref be, .ref ab, .ref tr, .ref bs, .ref fa, .ref bf, .int bh, .int ev])), (nu, .inl (cI, 864, .inl (gd N))), (tr, .inl (cI, 864, .inl (gd T))), (fa, .inl (cI, 864, .inl (gmd (N - T) Fz (k + 1))))] := by rw [← e_13]; exact hD
              refine lv_iinc (v := nI (k + 1)) (lv' := [(3, .int (nI (k + 1))), (2, .int (nI (gb N T (k + 1)))), (4, .int (iZ ((gw 10 N k : Int) - gw 10 T k - gb N T k))), (1, .int 1), (0, .ref hm)]) hx hb d_Mo_measure_100 hl (k := 2) rfl (nI_1 _) (by decide) rfl (fun ls hl => ?_)
              refine lv_goto (tgt := 24) hx hb d_Mo_measure_103 (by decide) ?_
              exact ih (k + 1) H _ ls hAB (by omega) (by omega) hdi hP hD hS (lv_sub hl [0, 1, 3, 4] rfl)
            · exact absurd ((iZ_le (a := 0) (b := ((gw 10 N k : Int) - gw 10 T k - gb N T k)) (by omega) (by omega) (by omega) (by omega)).mpr (by omega)) hv2
          · have hz : ((gw 10 N k : Int) - gw 10 T k - gb N T k) < 0 := by have := mt (iZ_le (a := 0) (b := ((gw 10 N k : Int) - gw 10 T k - gb N T k)) (by omega) (by omega) (by omega) (by omega)).mpr hv; omega
            have hb0 : gb N T (k + 1) = 1 := hs2.mp hz
            refine lv_iconst (v := 1) hx hb d_Mo_measure_73 (by decide) ?_
            refine lv_topi (fun x_14 e_15 => ?_)
            obtain rfl : x_14 = nI (gb N T (k + 1)) := e_15.trans (by rw [hb0]; rfl)
            refine lv_goto (tgt := 78) hx hb d_Mo_measure_74 (by decide) ?_
            refine lv_istore_n (lv' := [(2, .int (nI (gb N T (k + 1)))), (4, .int (iZ ((gw 10 N k : Int) - gw 10 T k - gb N T k))), (3, .int (nI k)), (1, .int 1), (0, .ref hm)]) hx hb d_Mo_measure_78 rfl hl (by decide) rfl (fun ls hl => ?_)
            refine lv_aload_n hx hb d_Mo_measure_79 rfl (lv_at hl 4 rfl) ?_
            refine va_get (D := (dC, dI)) (ci := 5) (v := .ref fa) (C := R_Mo) (T := F_Mo) (N := 19) hx hb hts i_Mo hown hK hP 0 rfl rfl 15 (by decide) (hts _ fl_Mo_42) (fun _ h9 => h9) rfl d_Mo_measure_80 ?_
            refine lv_iload_n hx hb d_Mo_measure_83 rfl (lv_at hl 2 rfl) ?_
            refine lv_iload hx hb d_Mo_measure_84 (lv_at hl 1 rfl) ?_
            refine lv_if_ge (tgt := 97) hx hb d_Mo_measure_86 (by decide) (fun hv2 => ?_) (fun hv2 => ?_)
            · exact absurd ((iZ_le (a := 0) (b := ((gw 10 N k : Int) - gw 10 T k - gb N T k)) (by omega) (by omega) (by omega) (by omega)).mp hv2) (by omega)
            · refine lv_iload hx hb d_Mo_measure_89 (lv_at hl 1 rfl) ?_
              refine lv_bipush (v := 10) hx hb d_Mo_measure_91 (by decide) ?_
              refine lv_iadd hx hb d_Mo_measure_93 ?_
              refine lv_topi (fun x_16 e_17 => ?_)
              obtain rfl : x_16 = nI (gw 10 (N - T) k) := e_17.trans ((iZ_add _ 10).trans (by rw [iZ_N]; congr 1; omega))
              refine lv_goto (tgt := 99) hx hb d_Mo_measure_94 (by decide) ?_
              refine va_iast hx hb hK hP hD hS 3 0 rfl rfl (vp_in_nI (by omega) (by omega)) d_Mo_measure_99 (fun H locs hP hD hS => ?_)
              have e_18 : upd (gmd (N - T) Fz k) (nI k).toNatClampNeg (nI (gw 10 (N - T) k)) = gmd (N - T) Fz (k + 1) := by rw [nI_clamp (by omega)]; exact gmd_up (N - T) Fz k
              have hP : va_P (dC, dI) cls [(hm, .inr (5, [.int th, .int lo9, .int hi8, .int pr, .int wd, .long la, .int le, .ref tx9, .ref un, .ref ro, .ref nu, .ref be, .ref ab, .ref tr, .ref bs, .ref fa, .ref bf, .int bh, .int ev])), (nu, .inl (cI, 864, .inl (gd N))), (tr, .inl (cI, 864, .inl (gd T))), (fa, .inl (cI, 864, .inl (gmd (N - T) Fz (k + 1))))] H := by rw [← e_18]; exact hP
              have hD : va_D A [(hm, .inr (5, [.int th, .int lo9, .int hi8, .int pr, .int wd, .long la, .int le, .ref tx9, .ref un, .ref ro, .ref nu, .ref be, .ref ab, .ref tr, .ref bs, .ref fa, .ref bf, .int bh, .int ev])), (nu, .inl (cI, 864, .inl (gd N))), (tr, .inl (cI, 864, .inl (gd T))), (fa, .inl (cI, 864, .inl (gmd (N - T) Fz (k + 1))))] := by rw [← e_18]; exact hD
              refine lv_iinc (v := nI (k + 1)) (lv' := [(3, .int (nI (k + 1))), (2, .int (nI (gb N T (k + 1)))), (4, .int (iZ ((gw 10 N k : Int) - gw 10 T k - gb N T k))), (1, .int 1), (0, .ref hm)]) hx hb d_Mo_measure_100 hl (k := 2) rfl (nI_1 _) (by decide) rfl (fun ls hl => ?_)
              refine lv_goto (tgt := 24) hx hb d_Mo_measure_103 (by decide) ?_
              exact ih (k + 1) H _ ls hAB (by omega) (by omega) hdi hP hD hS (lv_sub hl [0, 1, 3, 4] rfl)
  have lp0 : ∀ (n k : Nat) (H : Heap) (locs : List Loc) (ls : Array Slot), (N ≤ T) → (k ≤ 864) → (865 ≤ k + n) → ((if T < N then N - T else T - N) = T - N) → va_P (dC, dI) cls [(hm, .inr (5, [.int th, .int lo9, .int hi8, .int pr, .int wd, .long la, .int le, .ref tx9, .ref un, .ref ro, .ref nu, .ref be, .ref ab, .ref tr, .ref bs, .ref fa, .ref bf, .int bh, .int ev])), (nu, .inl (cI, 864, .inl (gd N))), (tr, .inl (cI, 864, .inl (gd T))), (fa, .inl (cI, 864, .inl (gmd (T - N) Fz k)))] H → va_D A [(hm, .inr (5, [.int th, .int lo9, .int hi8, .int pr, .int wd, .long la, .int le, .ref tx9, .ref un, .ref ro, .ref nu, .ref be, .ref ab, .ref tr, .ref bs, .ref fa, .ref bf, .int bh, .int ev])), (nu, .inl (cI, 864, .inl (gd N))), (tr, .inl (cI, 864, .inl (gd T))), (fa, .inl (cI, 864, .inl (gmd (T - N) Fz k)))] → va_S A s.heap H locs → lv_has ls 5 [(3, .int (nI k)), (2, .int (nI (gb T N k))), (1, .int 0), (0, .ref hm)] → W p l e { frames := 1, cells := 0, slots := 0, locals := 22 } s m args below meth c H locs 0 0 Q (F0 m 24 ls []) := by
    intro n
    induction n with
    | zero => intro k H locs ls hAB hk hn hdi hP hD hS hl; exact absurd hn (by omega)
    | succ n ih =>
      intro k H locs ls hAB hk hn hdi hP hD hS hl
      refine lv_iload_n hx hb d_Mo_measure_24 rfl (lv_at hl 0 rfl) ?_
      refine lv_sipush (v := 864) hx hb d_Mo_measure_25 (by decide) ?_
      refine lv_icmp_ge (tgt := 106) hx hb d_Mo_measure_28 (by decide) (fun hc => ?_) (fun hc => ?_)
      · obtain rfl : k = 864 := by have := (nI_leI (a := 864) (b := k) (by omega) (by omega)).mp hc; omega
        have hd9 : T - N < 10 ^ 864 := by omega
        exact hret _ _ _ _ () d_Mo_measure_106 trivial (by rw [hdi, ← gmd_all hd9 hF]; exact hP) hK (by rw [hdi, ← gmd_all hd9 hF]; exact hD) hS
      · have hlt : k < 864 := by have := mt (nI_leI (a := 864) (b := k) (by omega) (by omega)).mpr hc; omega
        have hw1 := gw_lt (G := 10) (by decide) T k
        have hw2 := gw_lt (G := 10) (by decide) N k
        have hb1 := gb_le T N k
        have hs1 := gs_lo k hAB
        have hs2 := gs_hi T N k
        have hb2 := gb_le T N (k + 1)
        refine lv_iload_n hx hb d_Mo_measure_31 rfl (lv_at hl 2 rfl) ?_
        refine lv_if_eq (tgt := 51) hx hb d_Mo_measure_32 (by decide) (fun hw => ?_) (fun hw => ?_)
        · refine lv_aload_n hx hb d_Mo_measure_51 rfl (lv_at hl 3 rfl) ?_
          refine va_get (D := (dC, dI)) (ci := 5) (v := .ref tr) (C := R_Mo) (T := F_Mo) (N := 19) hx hb hts i_Mo hown hK hP 0 rfl rfl 13 (by decide) (hts _ fl_Mo_36) (fun _ h9 => h9) rfl d_Mo_measure_52 ?_
          refine lv_iload_n hx hb d_Mo_measure_55 rfl (lv_at hl 0 rfl) ?_
          refine va_iald hx hb hK hP 2 0 rfl rfl (vp_in_nI (by omega) (by omega)) d_Mo_measure_56 ?_
          refine lv_topi (fun x_19 e_20 => ?_)
          obtain rfl : x_19 = nI (gw 10 T k) := e_20.trans (by rw [nI_clamp (by omega)]; rfl)
          refine lv_aload_n hx hb d_Mo_measure_57 rfl (lv_at hl 3 rfl) ?_
          refine va_get (D := (dC, dI)) (ci := 5) (v := .ref nu) (C := R_Mo) (T := F_Mo) (N := 19) hx hb hts i_Mo hown hK hP 0 rfl rfl 10 (by decide) (hts _ fl_Mo_27) (fun _ h9 => h9) rfl d_Mo_measure_58 ?_
          refine lv_iload_n hx hb d_Mo_measure_61 rfl (lv_at hl 0 rfl) ?_
          refine va_iald hx hb hK hP 1 0 rfl rfl (vp_in_nI (by omega) (by omega)) d_Mo_measure_62 ?_
          refine lv_topi (fun x_21 e_22 => ?_)
          obtain rfl : x_21 = nI (gw 10 N k) := e_22.trans (by rw [nI_clamp (by omega)]; rfl)
          refine lv_isub hx hb d_Mo_measure_63 ?_
          refine lv_topi (fun x_23 e_24 => ?_)
          obtain rfl : x_23 = iZ ((gw 10 T k : Int) - gw 10 N k) := e_24.trans (by rw [iZ_N, iZ_N]; exact iZ_sub _ _)
          refine lv_iload_n hx hb d_Mo_measure_64 rfl (lv_at hl 1 rfl) ?_
          refine lv_isub hx hb d_Mo_measure_65 ?_
          refine lv_topi (fun x_25 e_26 => ?_)
          obtain rfl : x_25 = iZ ((gw 10 T k : Int) - gw 10 N k - gb T N k) := e_26.trans (by rw [iZ_N]; exact iZ_sub _ _)
          refine lv_istore (lv' := [(4, .int (iZ ((gw 10 T k : Int) - gw 10 N k - gb T N k))), (3, .int (nI k)), (2, .int (nI (gb T N k))), (1, .int 0), (0, .ref hm)]) hx hb d_Mo_measure_66 hl (by decide) rfl (fun ls hl => ?_)
          refine lv_iload hx hb d_Mo_measure_68 (lv_at hl 0 rfl) ?_
          refine lv_if_ge (tgt := 77) hx hb d_Mo_measure_70 (by decide) (fun hv => ?_) (fun hv => ?_)
          · have hz : 0 ≤ ((gw 10 T k : Int) - gw 10 N k - gb T N k) := (iZ_le (a := 0) (b := ((gw 10 T k : Int) - gw 10 N k - gb T N k)) (by omega) (by omega) (by omega) (by omega)).mp hv
            have hb0 : gb T N (k + 1) = 0 := by have := mt hs2.mpr; omega
            refine lv_iconst (v := 0) hx hb d_Mo_measure_77 (by decide) ?_
            refine lv_topi (fun x_27 e_28 => ?_)
            obtain rfl : x_27 = nI (gb T N (k + 1)) := e_28.trans (by rw [hb0]; rfl)
            refine lv_istore_n (lv' := [(2, .int (nI (gb T N (k + 1)))), (4, .int (iZ ((gw 10 T k : Int) - gw 10 N k - gb T N k))), (3, .int (nI k)), (1, .int 0), (0, .ref hm)]) hx hb d_Mo_measure_78 rfl hl (by decide) rfl (fun ls hl => ?_)
            refine lv_aload_n hx hb d_Mo_measure_79 rfl (lv_at hl 4 rfl) ?_
            refine va_get (D := (dC, dI)) (ci := 5) (v := .ref fa) (C := R_Mo) (T := F_Mo) (N := 19) hx hb hts i_Mo hown hK hP 0 rfl rfl 15 (by decide) (hts _ fl_Mo_42) (fun _ h9 => h9) rfl d_Mo_measure_80 ?_
            refine lv_iload_n hx hb d_Mo_measure_83 rfl (lv_at hl 2 rfl) ?_
            refine lv_iload hx hb d_Mo_measure_84 (lv_at hl 1 rfl) ?_
            refine lv_if_ge (tgt := 97) hx hb d_Mo_measure_86 (by decide) (fun hv2 => ?_) (fun hv2 => ?_)
            · refine lv_iload hx hb d_Mo_measure_97 (lv_at hl 1 rfl) ?_
              refine lv_topi (fun x_29 e_30 => ?_)
              obtain rfl : x_29 = nI (gw 10 (T - N) k) := e_30.trans (by rw [iZ_N]; congr 1; omega)
              refine va_iast hx hb hK hP hD hS 3 0 rfl rfl (vp_in_nI (by omega) (by omega)) d_Mo_measure_99 (fun H locs hP hD hS => ?_)
              have e_31 : upd (gmd (T - N) Fz k) (nI k).toNatClampNeg (nI (gw 10 (T - N) k)) = gmd (T - N) Fz (k + 1) := by rw [nI_clamp (by omega)]; exact gmd_up (T - N) Fz k
              have hP : va_P (dC, dI) cls [(hm, .inr (5, [.int th, .int lo9, .int hi8, .int pr, .int wd, .long la, .int le, .ref tx9, .ref un, .ref ro, .ref nu, .ref be, .ref ab, .ref tr, .ref bs, .ref fa, .ref bf, .int bh, .int ev])), (nu, .inl (cI, 864, .inl (gd N))), (tr, .inl (cI, 864, .inl (gd T))), (fa, .inl (cI, 864, .inl (gmd (T - N) Fz (k + 1))))] H := by rw [← e_31]; exact hP
              have hD : va_D A [(hm, .inr (5, [.int th, .int lo9, .int hi8, .int pr, .int wd, .long la, .int le, .ref tx9, .ref un, .ref ro, .ref nu, .ref be, .ref ab, .ref tr, .ref bs, .ref fa, .ref bf, .int bh, .int ev])), (nu, .inl (cI, 864, .inl (gd N))), (tr, .inl (cI, 864, .inl (gd T))), (fa, .inl (cI, 864, .inl (gmd (T - N) Fz (k + 1))))] := by rw [← e_31]; exact hD
              refine lv_iinc (v := nI (k + 1)) (lv' := [(3, .int (nI (k + 1))), (2, .int (nI (gb T N (k + 1)))), (4, .int (iZ ((gw 10 T k : Int) - gw 10 N k - gb T N k))), (1, .int 0), (0, .ref hm)]) hx hb d_Mo_measure_100 hl (k := 2) rfl (nI_1 _) (by decide) rfl (fun ls hl => ?_)
              refine lv_goto (tgt := 24) hx hb d_Mo_measure_103 (by decide) ?_
              exact ih (k + 1) H _ ls hAB (by omega) (by omega) hdi hP hD hS (lv_sub hl [0, 1, 3, 4] rfl)
            · exact absurd ((iZ_le (a := 0) (b := ((gw 10 T k : Int) - gw 10 N k - gb T N k)) (by omega) (by omega) (by omega) (by omega)).mpr (by omega)) hv2
          · have hz : ((gw 10 T k : Int) - gw 10 N k - gb T N k) < 0 := by have := mt (iZ_le (a := 0) (b := ((gw 10 T k : Int) - gw 10 N k - gb T N k)) (by omega) (by omega) (by omega) (by omega)).mpr hv; omega
            have hb0 : gb T N (k + 1) = 1 := hs2.mp hz
            refine lv_iconst (v := 1) hx hb d_Mo_measure_73 (by decide) ?_
            refine lv_topi (fun x_32 e_33 => ?_)
            obtain rfl : x_32 = nI (gb T N (k + 1)) := e_33.trans (by rw [hb0]; rfl)
            refine lv_goto (tgt := 78) hx hb d_Mo_measure_74 (by decide) ?_
            refine lv_istore_n (lv' := [(2, .int (nI (gb T N (k + 1)))), (4, .int (iZ ((gw 10 T k : Int) - gw 10 N k - gb T N k))), (3, .int (nI k)), (1, .int 0), (0, .ref hm)]) hx hb d_Mo_measure_78 rfl hl (by decide) rfl (fun ls hl => ?_)
            refine lv_aload_n hx hb d_Mo_measure_79 rfl (lv_at hl 4 rfl) ?_
            refine va_get (D := (dC, dI)) (ci := 5) (v := .ref fa) (C := R_Mo) (T := F_Mo) (N := 19) hx hb hts i_Mo hown hK hP 0 rfl rfl 15 (by decide) (hts _ fl_Mo_42) (fun _ h9 => h9) rfl d_Mo_measure_80 ?_
            refine lv_iload_n hx hb d_Mo_measure_83 rfl (lv_at hl 2 rfl) ?_
            refine lv_iload hx hb d_Mo_measure_84 (lv_at hl 1 rfl) ?_
            refine lv_if_ge (tgt := 97) hx hb d_Mo_measure_86 (by decide) (fun hv2 => ?_) (fun hv2 => ?_)
            · exact absurd ((iZ_le (a := 0) (b := ((gw 10 T k : Int) - gw 10 N k - gb T N k)) (by omega) (by omega) (by omega) (by omega)).mp hv2) (by omega)
            · refine lv_iload hx hb d_Mo_measure_89 (lv_at hl 1 rfl) ?_
              refine lv_bipush (v := 10) hx hb d_Mo_measure_91 (by decide) ?_
              refine lv_iadd hx hb d_Mo_measure_93 ?_
              refine lv_topi (fun x_34 e_35 => ?_)
              obtain rfl : x_34 = nI (gw 10 (T - N) k) := e_35.trans ((iZ_add _ 10).trans (by rw [iZ_N]; congr 1; omega))
              refine lv_goto (tgt := 99) hx hb d_Mo_measure_94 (by decide) ?_
              refine va_iast hx hb hK hP hD hS 3 0 rfl rfl (vp_in_nI (by omega) (by omega)) d_Mo_measure_99 (fun H locs hP hD hS => ?_)
              have e_36 : upd (gmd (T - N) Fz k) (nI k).toNatClampNeg (nI (gw 10 (T - N) k)) = gmd (T - N) Fz (k + 1) := by rw [nI_clamp (by omega)]; exact gmd_up (T - N) Fz k
              have hP : va_P (dC, dI) cls [(hm, .inr (5, [.int th, .int lo9, .int hi8, .int pr, .int wd, .long la, .int le, .ref tx9, .ref un, .ref ro, .ref nu, .ref be, .ref ab, .ref tr, .ref bs, .ref fa, .ref bf, .int bh, .int ev])), (nu, .inl (cI, 864, .inl (gd N))), (tr, .inl (cI, 864, .inl (gd T))), (fa, .inl (cI, 864, .inl (gmd (T - N) Fz (k + 1))))] H := by rw [← e_36]; exact hP
              have hD : va_D A [(hm, .inr (5, [.int th, .int lo9, .int hi8, .int pr, .int wd, .long la, .int le, .ref tx9, .ref un, .ref ro, .ref nu, .ref be, .ref ab, .ref tr, .ref bs, .ref fa, .ref bf, .int bh, .int ev])), (nu, .inl (cI, 864, .inl (gd N))), (tr, .inl (cI, 864, .inl (gd T))), (fa, .inl (cI, 864, .inl (gmd (T - N) Fz (k + 1))))] := by rw [← e_36]; exact hD
              refine lv_iinc (v := nI (k + 1)) (lv' := [(3, .int (nI (k + 1))), (2, .int (nI (gb T N (k + 1)))), (4, .int (iZ ((gw 10 T k : Int) - gw 10 N k - gb T N k))), (1, .int 0), (0, .ref hm)]) hx hb d_Mo_measure_100 hl (k := 2) rfl (nI_1 _) (by decide) rfl (fun ls hl => ?_)
              refine lv_goto (tgt := 24) hx hb d_Mo_measure_103 (by decide) ?_
              exact ih (k + 1) H _ ls hAB (by omega) (by omega) hdi hP hD hS (lv_sub hl [0, 1, 3, 4] rfl)
        · exact absurd rfl hw
  refine lv_aload_n hx hb d_Mo_measure_0 rfl (lv_at hl 0 rfl) ?_
  refine va_get (D := (dC, dI)) (ci := 5) (v := .ref tr) (C := R_Mo) (T := F_Mo) (N := 19) hx hb hts i_Mo hown hK hP 0 rfl rfl 13 (by decide) (hts _ fl_Mo_36) (fun _ h9 => h9) rfl d_Mo_measure_1 ?_
  refine lv_aload_n hx hb d_Mo_measure_4 rfl (lv_at hl 0 rfl) ?_
  refine va_get (D := (dC, dI)) (ci := 5) (v := .ref nu) (C := R_Mo) (T := F_Mo) (N := 19) hx hb hts i_Mo hown hK hP 0 rfl rfl 10 (by decide) (hts _ fl_Mo_27) (fun _ h9 => h9) rfl d_Mo_measure_5 ?_
  refine pw_calli (wc := [(tr, .inl (cI, 864, .inl (gd T))), (nu, .inl (cI, 864, .inl (gd N)))]) (wr := [(hm, .inr (5, [.int th, .int lo9, .int hi8, .int pr, .int wd, .long la, .int le, .ref tx9, .ref un, .ref ro, .ref nu, .ref be, .ref ab, .ref tr, .ref bs, .ref fa, .ref bf, .int bh, .int ev])), (fa, .inl (cI, 864, .inl (gd Fz)))]) [2, 1] [0, 3] rfl rfl rfl (by decide) (by decide) (by decide) hP hD hS hA (fun hPc hDc hF => va_runS (As := [.ref tr, .ref nu]) (rest := []) ⟨hx, hb, hml, hown, hts⟩ (c_Mo_compare l dC dI H.size tr nu cI T N hT hN) (va_cwS 2 hts (gw_S (gw_self cod_Mo_compare) ml_Mo_108 sta_Mo_compare ini_Mo) rfl rfl rfl (by decide +kernel) ⟨Nat.le_of_ble_eq_true rfl, Nat.le_of_ble_eq_true rfl⟩) (pw_preS pw_0_ok (trivial : pw_0 A s s.heap) hS hF hPc hDc (hK.sub [0] rfl)) rfl rfl hl.1 rfl (lv_room (Nat.le_of_ble_eq_true rfl)) d_Mo_measure_8 ⟨Nat.le_of_ble_eq_true rfl, Nat.le_of_ble_eq_true rfl⟩) (fun r1 u1 H locs h1 hK1 hP hD hS => ?_)
  have hP : va_P (dC, dI) cls [(hm, .inr (5, [.int th, .int lo9, .int hi8, .int pr, .int wd, .long la, .int le, .ref tx9, .ref un, .ref ro, .ref nu, .ref be, .ref ab, .ref tr, .ref bs, .ref fa, .ref bf, .int bh, .int ev])), (nu, .inl (cI, 864, .inl (gd N))), (tr, .inl (cI, 864, .inl (gd T))), (fa, .inl (cI, 864, .inl (gd Fz)))] H := hP.sub [0, 3, 2, 1] rfl
  have hD : va_D A [(hm, .inr (5, [.int th, .int lo9, .int hi8, .int pr, .int wd, .long la, .int le, .ref tx9, .ref un, .ref ro, .ref nu, .ref be, .ref ab, .ref tr, .ref bs, .ref fa, .ref bf, .int bh, .int ev])), (nu, .inl (cI, 864, .inl (gd N))), (tr, .inl (cI, 864, .inl (gd T))), (fa, .inl (cI, 864, .inl (gd Fz)))] := hD.sub [0, 3, 2, 1] (by decide) rfl
  subst h1
  refine lv_if_ge (tgt := 18) hx hb d_Mo_measure_11 (by decide) (fun hc => ?_) (fun hc => ?_)
  · have hge : N ≤ T := bn_cmp_ge0.mp hc
    refine lv_iconst (v := 0) hx hb d_Mo_measure_18 (by decide) ?_
    refine lv_istore_n (lv' := [(1, .int 0), (0, .ref hm)]) hx hb d_Mo_measure_19 rfl hl (by decide) rfl (fun ls hl => ?_)
    refine lv_iconst (v := 0) hx hb d_Mo_measure_20 (by decide) ?_
    refine lv_istore_n (lv' := [(2, .int 0), (1, .int 0), (0, .ref hm)]) hx hb d_Mo_measure_21 rfl hl (by decide) rfl (fun ls hl => ?_)
    refine lv_iconst (v := 0) hx hb d_Mo_measure_22 (by decide) ?_
    refine lv_istore_n (lv' := [(3, .int 0), (2, .int 0), (1, .int 0), (0, .ref hm)]) hx hb d_Mo_measure_23 rfl hl (by decide) rfl (fun ls hl => ?_)
    exact lp0 865 0 H _ ls hge (by omega) (by omega) (if_neg (by omega)) (by rw [gmd_0]; exact hP) (by rw [gmd_0]; exact hD) hS (by rw [gb_0]; exact lv_sub hl [0, 1, 2, 3] rfl)
  · have hlt : T < N := by have := mt (bn_cmp_ge0 (V := T) (U := N)).mpr hc; omega
    refine lv_iconst (v := 1) hx hb d_Mo_measure_14 (by decide) ?_
    refine lv_goto (tgt := 19) hx hb d_Mo_measure_15 (by decide) ?_
    refine lv_istore_n (lv' := [(1, .int 1), (0, .ref hm)]) hx hb d_Mo_measure_19 rfl hl (by decide) rfl (fun ls hl => ?_)
    refine lv_iconst (v := 0) hx hb d_Mo_measure_20 (by decide) ?_
    refine lv_istore_n (lv' := [(2, .int 0), (1, .int 1), (0, .ref hm)]) hx hb d_Mo_measure_21 rfl hl (by decide) rfl (fun ls hl => ?_)
    refine lv_iconst (v := 0) hx hb d_Mo_measure_22 (by decide) ?_
    refine lv_istore_n (lv' := [(3, .int 0), (2, .int 0), (1, .int 1), (0, .ref hm)]) hx hb d_Mo_measure_23 rfl hl (by decide) rfl (fun ls hl => ?_)
    exact lp1 865 0 H _ ls (by omega) (by omega) (by omega) (if_pos hlt) (by rw [gmd_0]; exact hP) (by rw [gmd_0]; exact hD) hS (by rw [gb_0]; exact lv_sub hl [0, 1, 2, 3] rfl)

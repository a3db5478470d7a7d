set_option maxHeartbeats 4000000 in
set_option maxRecDepth 100000 in
/-- printHex -/
theorem c_Mo_printHex (l : Launch) (dC : Nat → ClassId) (dI : Nat → Nat → Nat) (sz : Nat) (hm tx9 un ro nu be ab tr bs fa bf : Nat) (th lo9 hi8 pr wd le bh ev : Int32) (la : Int64) (cI : ClassId) (i b : Nat) (f : Nat → Int32)  (hi : i < 2) (hbb : b < 2 ^ 64)  : Met l y_Mo_printHex (Cond.code y_Mo_printHex b_Mo_printHex 10 (some .int) :: gT) ({ frames := 4, cells := 0, slots := 0, locals := 95 }) (va_Pc [.ref hm, .int (nI (iw i)), .long (lN b)] (pw_P (dC, dI) cls [(cI, .int)] pw_0 [(hm, .inr (5, [.int th, .int lo9, .int hi8, .int pr, .int wd, .long la, .int le, .ref tx9, .ref un, .ref ro, .ref nu, .ref be, .ref ab, .ref tr, .ref bs, .ref fa, .ref bf, .int bh, .int ev])), (tx9, .inl (cI, 96, .inl (f)))] sz)) (va_Qi (fun (r : Int32) (y7 : Nat → Int32) => r = nI (sgn (b / 2 ^ (FB i + EB i) % 2) (kdo i (b / 2 ^ FB i % 2 ^ EB i) (b % 2 ^ FB i)) ++ (if (kdo i (b / 2 ^ FB i % 2 ^ EB i) (b % 2 ^ FB i)) = 4 then htxt i b else cb_str.getD (if (kdo i (b / 2 ^ FB i % 2 ^ EB i) (b % 2 ^ FB i)) = 1 then 1 else if (kdo i (b / 2 ^ FB i % 2 ^ EB i) (b % 2 ^ FB i)) = 2 then 2 else 5) [])).length ∧ tx y7 (sgn (b / 2 ^ (FB i + EB i) % 2) (kdo i (b / 2 ^ FB i % 2 ^ EB i) (b % 2 ^ FB i)) ++ (if (kdo i (b / 2 ^ FB i % 2 ^ EB i) (b % 2 ^ FB i)) = 4 then htxt i b else cb_str.getD (if (kdo i (b / 2 ^ FB i % 2 ^ EB i) (b % 2 ^ FB i)) = 1 then 1 else if (kdo i (b / 2 ^ FB i % 2 ^ EB i) (b % 2 ^ FB i)) = 2 then 2 else 5) []))) (fun (y7 : Nat → Int32) => pw_B (dC, dI) cls [(cI, .int)] (va_A [(hm, .inr (5, [.int th, .int lo9, .int hi8, .int pr, .int wd, .long la, .int le, .ref tx9, .ref un, .ref ro, .ref nu, .ref be, .ref ab, .ref tr, .ref bs, .ref fa, .ref bf, .int bh, .int ev])), (tx9, .inl (cI, 96, .inl (f)))] sz) [(hm, .inr (5, [.int 0, .int lo9, .int hi8, .int (nI 1), .int (nI (iw i)), .long (lN b), .int (nI (sgn (b / 2 ^ (FB i + EB i) % 2) (kdo i (b / 2 ^ FB i % 2 ^ EB i) (b % 2 ^ FB i)) ++ (if (kdo i (b / 2 ^ FB i % 2 ^ EB i) (b % 2 ^ FB i)) = 4 then htxt i b else cb_str.getD (if (kdo i (b / 2 ^ FB i % 2 ^ EB i) (b % 2 ^ FB i)) = 1 then 1 else if (kdo i (b / 2 ^ FB i % 2 ^ EB i) (b % 2 ^ FB i)) = 2 then 2 else 5) [])).length), .ref tx9, .ref un, .ref ro, .ref nu, .ref be, .ref ab, .ref tr, .ref bs, .ref fa, .ref bf, .int bh, .int ev])), (tx9, .inl (cI, 96, .inl (y7)))]) (va_A [(hm, .inr (5, [.int th, .int lo9, .int hi8, .int pr, .int wd, .long la, .int le, .ref tx9, .ref un, .ref ro, .ref nu, .ref be, .ref ab, .ref tr, .ref bs, .ref fa, .ref bf, .int bh, .int ev])), (tx9, .inl (cI, 96, .inl (f)))] sz)) 0 0 (va_A [(hm, .inr (5, [.int th, .int lo9, .int hi8, .int pr, .int wd, .long la, .int le, .ref tx9, .ref un, .ref ro, .ref nu, .ref be, .ref ab, .ref tr, .ref bs, .ref fa, .ref bf, .int bh, .int ev])), (tx9, .inl (cI, 96, .inl (f)))] sz) := by
  refine pw_meti (tn := fun (y7 : Nat → Int32) => [(cI, .int)]) (wn := fun (y7 : Nat → Int32) => [(hm, .inr (5, [.int 0, .int lo9, .int hi8, .int (nI 1), .int (nI (iw i)), .long (lN b), .int (nI (sgn (b / 2 ^ (FB i + EB i) % 2) (kdo i (b / 2 ^ FB i % 2 ^ EB i) (b % 2 ^ FB i)) ++ (if (kdo i (b / 2 ^ FB i % 2 ^ EB i) (b % 2 ^ FB i)) = 4 then htxt i b else cb_str.getD (if (kdo i (b / 2 ^ FB i % 2 ^ EB i) (b % 2 ^ FB i)) = 1 then 1 else if (kdo i (b / 2 ^ FB i % 2 ^ EB i) (b % 2 ^ FB i)) = 2 then 2 else 5) [])).length), .ref tx9, .ref un, .ref ro, .ref nu, .ref be, .ref ab, .ref tr, .ref bs, .ref fa, .ref bf, .int bh, .int ev])), (tx9, .inl (cI, 96, .inl (y7)))]) (by decide) (Nat.le_of_ble_eq_true rfl) ?_
  intro p e s m args below meth c A Q H ls hx hb hml hown hts hA hE hP hK hD hS hret hl
  have hown : s.vm.findClass R_Mo = some m.cls := hown
  have hl : lv_has ls 10 [(0, .ref hm), (1, .int (nI (iw i))), (2, .long (lN b))] := hl
  have hb9 := la_b i
  have he11 : 2 ^ EB i ≤ 2 ^ 11 := Nat.pow_le_pow_right (by decide) (by omega)
  have he9 : (b / 2 ^ FB i % 2 ^ EB i) < 2 ^ 11 := Nat.lt_of_lt_of_le (Nat.mod_lt _ (Nat.two_pow_pos _)) he11
  have hfh : (b % 2 ^ FB i * 2 ^ (4 * HX i - FB i)) < 2 ^ 63 := by
    have h1 : b % 2 ^ FB i < 2 ^ FB i := Nat.mod_lt _ (Nat.two_pow_pos _)
    have h2 : 2 ^ FB i ≤ 2 ^ 52 := Nat.pow_le_pow_right (by decide) (by omega)
    have h3 : 2 ^ (4 * HX i - FB i) ≤ 2 ^ 1 := Nat.pow_le_pow_right (by decide) (by omega)
    have h4 := Nat.mul_le_mul (Nat.le_of_lt h1) h3
    omega
  have hkd := kdo_le i (b / 2 ^ FB i % 2 ^ EB i) (b % 2 ^ FB i)
  refine lv_aload_n hx hb d_Mo_printHex_0 rfl (lv_at hl 0 rfl) ?_
  refine lv_iconst (v := 0) hx hb d_Mo_printHex_1 (by decide) ?_
  refine va_put (D := (dC, dI)) (ci := 5) (v := .int 0) (ty := .int) (C := R_Mo) (T := F_Mo) (N := 19) hx hb hts i_Mo t_Mo t_Mo_ok n_Mo hown hK hP hD hS 0 rfl rfl 0 (by decide) (hts _ fl_Mo_48) (fun _ h9 => h9) rfl (by decide +kernel) rfl rfl (Nat.le_of_ble_eq_true rfl) d_Mo_printHex_2 (fun H locs hP hD hS => ?_)
  have hP : va_P (dC, dI) cls [(hm, .inr (5, [.int 0, .int lo9, .int hi8, .int pr, .int wd, .long la, .int le, .ref tx9, .ref un, .ref ro, .ref nu, .ref be, .ref ab, .ref tr, .ref bs, .ref fa, .ref bf, .int bh, .int ev])), (tx9, .inl (cI, 96, .inl (f)))] H := hP
  have hD : va_D A [(hm, .inr (5, [.int 0, .int lo9, .int hi8, .int pr, .int wd, .long la, .int le, .ref tx9, .ref un, .ref ro, .ref nu, .ref be, .ref ab, .ref tr, .ref bs, .ref fa, .ref bf, .int bh, .int ev])), (tx9, .inl (cI, 96, .inl (f)))] := hD
  refine lv_aload_n hx hb d_Mo_printHex_5 rfl (lv_at hl 0 rfl) ?_
  refine lv_iconst (v := 1) hx hb d_Mo_printHex_6 (by decide) ?_
  refine va_put (D := (dC, dI)) (ci := 5) (v := .int 1) (ty := .boolean) (C := R_Mo) (T := F_Mo) (N := 19) hx hb hts i_Mo t_Mo t_Mo_ok n_Mo hown hK hP hD hS 0 rfl rfl 3 (by decide) (hts _ fl_Mo_67) (fun _ h9 => h9) rfl (by decide +kernel) rfl rfl (Nat.le_of_ble_eq_true rfl) d_Mo_printHex_7 (fun H locs hP hD hS => ?_)
  have hP : va_P (dC, dI) cls [(hm, .inr (5, [.int 0, .int lo9, .int hi8, .int 1, .int wd, .long la, .int le, .ref tx9, .ref un, .ref ro, .ref nu, .ref be, .ref ab, .ref tr, .ref bs, .ref fa, .ref bf, .int bh, .int ev])), (tx9, .inl (cI, 96, .inl (f)))] H := hP
  have hD : va_D A [(hm, .inr (5, [.int 0, .int lo9, .int hi8, .int 1, .int wd, .long la, .int le, .ref tx9, .ref un, .ref ro, .ref nu, .ref be, .ref ab, .ref tr, .ref bs, .ref fa, .ref bf, .int bh, .int ev])), (tx9, .inl (cI, 96, .inl (f)))] := hD
  refine lv_aload_n hx hb d_Mo_printHex_10 rfl (lv_at hl 0 rfl) ?_
  refine lv_iload_n hx hb d_Mo_printHex_11 rfl (lv_at hl 1 rfl) ?_
  refine va_put (D := (dC, dI)) (ci := 5) (v := .int (nI (iw i))) (ty := .boolean) (C := R_Mo) (T := F_Mo) (N := 19) hx hb hts i_Mo t_Mo t_Mo_ok n_Mo hown hK hP hD hS 0 rfl rfl 4 (by decide) (hts _ fl_Mo_51) (fun _ h9 => h9) rfl (by decide +kernel) (nI_bz (iw_le i)) (nI_bf (iw_le i)) (Nat.le_of_ble_eq_true rfl) d_Mo_printHex_12 (fun H locs hP hD hS => ?_)
  have hP : va_P (dC, dI) cls [(hm, .inr (5, [.int 0, .int lo9, .int hi8, .int 1, .int (nI (iw i)), .long la, .int le, .ref tx9, .ref un, .ref ro, .ref nu, .ref be, .ref ab, .ref tr, .ref bs, .ref fa, .ref bf, .int bh, .int ev])), (tx9, .inl (cI, 96, .inl (f)))] H := hP
  have hD : va_D A [(hm, .inr (5, [.int 0, .int lo9, .int hi8, .int 1, .int (nI (iw i)), .long la, .int le, .ref tx9, .ref un, .ref ro, .ref nu, .ref be, .ref ab, .ref tr, .ref bs, .ref fa, .ref bf, .int bh, .int ev])), (tx9, .inl (cI, 96, .inl (f)))] := hD
  refine lv_aload_n hx hb d_Mo_printHex_15 rfl (lv_at hl 0 rfl) ?_
  refine lv_lload_n hx hb d_Mo_printHex_16 rfl (lv_at hl 2 rfl) ?_
  refine va_put (D := (dC, dI)) (ci := 5) (v := .long (lN b)) (ty := .long) (C := R_Mo) (T := F_Mo) (N := 19) hx hb hts i_Mo t_Mo t_Mo_ok n_Mo hown hK hP hD hS 0 rfl rfl 5 (by decide) (hts _ fl_Mo_55) (fun _ h9 => h9) rfl (by decide +kernel) rfl rfl (Nat.le_of_ble_eq_true rfl) d_Mo_printHex_17 (fun H locs hP hD hS => ?_)
  have hP : va_P (dC, dI) cls [(hm, .inr (5, [.int 0, .int lo9, .int hi8, .int 1, .int (nI (iw i)), .long (lN b), .int le, .ref tx9, .ref un, .ref ro, .ref nu, .ref be, .ref ab, .ref tr, .ref bs, .ref fa, .ref bf, .int bh, .int ev])), (tx9, .inl (cI, 96, .inl (f)))] H := hP
  have hD : va_D A [(hm, .inr (5, [.int 0, .int lo9, .int hi8, .int 1, .int (nI (iw i)), .long (lN b), .int le, .ref tx9, .ref un, .ref ro, .ref nu, .ref be, .ref ab, .ref tr, .ref bs, .ref fa, .ref bf, .int bh, .int ev])), (tx9, .inl (cI, 96, .inl (f)))] := hD
  refine lv_aload_n hx hb d_Mo_printHex_20 rfl (lv_at hl 0 rfl) ?_
  refine lv_iconst (v := 0) hx hb d_Mo_printHex_21 (by decide) ?_
  refine va_put (D := (dC, dI)) (ci := 5) (v := .int 0) (ty := .int) (C := R_Mo) (T := F_Mo) (N := 19) hx hb hts i_Mo t_Mo t_Mo_ok n_Mo hown hK hP hD hS 0 rfl rfl 6 (by decide) (hts _ fl_Mo_140) (fun _ h9 => h9) rfl (by decide +kernel) rfl rfl (Nat.le_of_ble_eq_true rfl) d_Mo_printHex_22 (fun H locs hP hD hS => ?_)
  have hP : va_P (dC, dI) cls [(hm, .inr (5, [.int 0, .int lo9, .int hi8, .int 1, .int (nI (iw i)), .long (lN b), .int 0, .ref tx9, .ref un, .ref ro, .ref nu, .ref be, .ref ab, .ref tr, .ref bs, .ref fa, .ref bf, .int bh, .int ev])), (tx9, .inl (cI, 96, .inl (f)))] H := hP
  have hD : va_D A [(hm, .inr (5, [.int 0, .int lo9, .int hi8, .int 1, .int (nI (iw i)), .long (lN b), .int 0, .ref tx9, .ref un, .ref ro, .ref nu, .ref be, .ref ab, .ref tr, .ref bs, .ref fa, .ref bf, .int bh, .int ev])), (tx9, .inl (cI, 96, .inl (f)))] := hD
  have hP : va_P (dC, dI) cls [(hm, .inr (5, [.int 0, .int lo9, .int hi8, .int (nI 1), .int (nI (iw i)), .long (lN b), .int (nI ([] : List Nat).length), .ref tx9, .ref un, .ref ro, .ref nu, .ref be, .ref ab, .ref tr, .ref bs, .ref fa, .ref bf, .int bh, .int ev])), (tx9, .inl (cI, 96, .inl (f)))] H := hP
  have hD : va_D A [(hm, .inr (5, [.int 0, .int lo9, .int hi8, .int (nI 1), .int (nI (iw i)), .long (lN b), .int (nI ([] : List Nat).length), .ref tx9, .ref un, .ref ro, .ref nu, .ref be, .ref ab, .ref tr, .ref bs, .ref fa, .ref bf, .int bh, .int ev])), (tx9, .inl (cI, 96, .inl (f)))] := hD
  refine lv_aload_n hx hb d_Mo_printHex_25 rfl (lv_at hl 0 rfl) ?_
  refine lv_iconst (v := 1) hx hb d_Mo_printHex_26 (by decide) ?_
  refine lv_topi (fun x_1 e_2 => ?_)
  obtain rfl : x_1 = nI 1 := e_2.trans (rfl)
  refine pw_calli (wc := [(hm, .inr (5, [.int 0, .int lo9, .int hi8, .int (nI 1), .int (nI (iw i)), .long (lN b), .int (nI ([] : List Nat).length), .ref tx9, .ref un, .ref ro, .ref nu, .ref be, .ref ab, .ref tr, .ref bs, .ref fa, .ref bf, .int bh, .int ev])), (tx9, .inl (cI, 96, .inl (f)))]) (wr := []) [0, 1] [] rfl rfl rfl (by decide) (by decide) (by decide) hP hD hS hA (fun hPc hDc hF => va_runV (As := [.int (nI 1)]) (rest := []) ⟨hx, hb, hml, hown, hts⟩ (c_Mo_putOther l dC dI H.size hm tx9 un ro nu be ab tr bs fa bf 0 lo9 hi8 bh ev cI f [] 1 i b hi hbb (tx_nil f) (by decide) (by decide)) (cwV 1 hts (gw_V (gw_self cod_Mo_putOther) ml_Mo_150 im_Mo_putOther sel_Mo_putOther ini_Mo) rfl rfl rfl (by decide +kernel) ⟨Nat.le_of_ble_eq_true rfl, Nat.le_of_ble_eq_true rfl⟩) (pw_preV pw_0_ok (trivial : pw_0 A s s.heap) hS hF hPc hDc (hK.sub [0] rfl) (va_recv hK hPc (ci := 5) (q0 := 0) rfl rfl)) rfl rfl hl.1 rfl (lv_room (Nat.le_of_ble_eq_true rfl)) d_Mo_printHex_27 ⟨Nat.le_of_ble_eq_true rfl, Nat.le_of_ble_eq_true rfl⟩) (fun r1 f3 H locs h1 hK1 hP hD hS => ?_)
  have hP : va_P (dC, dI) cls [(hm, .inr (5, [.int 0, .int lo9, .int hi8, .int (nI 1), .int (nI (iw i)), .long (lN b), .int (nI ([] ++ (sgn (b / 2 ^ (FB i + EB i) % 2) (kdo i (b / 2 ^ FB i % 2 ^ EB i) (b % 2 ^ FB i)) ++ (if (kdo i (b / 2 ^ FB i % 2 ^ EB i) (b % 2 ^ FB i)) = 4 then [] else cb_str.getD (if (kdo i (b / 2 ^ FB i % 2 ^ EB i) (b % 2 ^ FB i)) = 1 then 1 else if (kdo i (b / 2 ^ FB i % 2 ^ EB i) (b % 2 ^ FB i)) = 2 then 2 else if 1 = 1 then 5 else 0) []))).length), .ref tx9, .ref un, .ref ro, .ref nu, .ref be, .ref ab, .ref tr, .ref bs, .ref fa, .ref bf, .int bh, .int ev])), (tx9, .inl (cI, 96, .inl (f3)))] H := hP
  have hD : va_D A [(hm, .inr (5, [.int 0, .int lo9, .int hi8, .int (nI 1), .int (nI (iw i)), .long (lN b), .int (nI ([] ++ (sgn (b / 2 ^ (FB i + EB i) % 2) (kdo i (b / 2 ^ FB i % 2 ^ EB i) (b % 2 ^ FB i)) ++ (if (kdo i (b / 2 ^ FB i % 2 ^ EB i) (b % 2 ^ FB i)) = 4 then [] else cb_str.getD (if (kdo i (b / 2 ^ FB i % 2 ^ EB i) (b % 2 ^ FB i)) = 1 then 1 else if (kdo i (b / 2 ^ FB i % 2 ^ EB i) (b % 2 ^ FB i)) = 2 then 2 else if 1 = 1 then 5 else 0) []))).length), .ref tx9, .ref un, .ref ro, .ref nu, .ref be, .ref ab, .ref tr, .ref bs, .ref fa, .ref bf, .int bh, .int ev])), (tx9, .inl (cI, 96, .inl (f3)))] := hD
  obtain ⟨h1, htx3⟩ := h1
  subst h1
  refine lv_if_eq (tgt := 38) hx hb d_Mo_printHex_30 (by decide) (fun g0 => ?_) (fun g0 => ?_)
  · have hk4 : (kdo i (b / 2 ^ FB i % 2 ^ EB i) (b % 2 ^ FB i)) = 4 := by
      by_cases g : (kdo i (b / 2 ^ FB i % 2 ^ EB i) (b % 2 ^ FB i)) < 4
      · rw [if_pos g] at g0; exact absurd g0 (by decide)
      · omega
    have htxe : ([] ++ (sgn (b / 2 ^ (FB i + EB i) % 2) (kdo i (b / 2 ^ FB i % 2 ^ EB i) (b % 2 ^ FB i)) ++ (if (kdo i (b / 2 ^ FB i % 2 ^ EB i) (b % 2 ^ FB i)) = 4 then [] else cb_str.getD (if (kdo i (b / 2 ^ FB i % 2 ^ EB i) (b % 2 ^ FB i)) = 1 then 1 else if (kdo i (b / 2 ^ FB i % 2 ^ EB i) (b % 2 ^ FB i)) = 2 then 2 else if 1 = 1 then 5 else 0) []))) = (sgn (b / 2 ^ (FB i + EB i) % 2) (kdo i (b / 2 ^ FB i % 2 ^ EB i) (b % 2 ^ FB i))) := by rw [if_pos hk4, List.append_nil]; rfl
    rw [htxe] at htx3 hP hD
    have hTX : (sgn (b / 2 ^ (FB i + EB i) % 2) (kdo i (b / 2 ^ FB i % 2 ^ EB i) (b % 2 ^ FB i)) ++ (if (kdo i (b / 2 ^ FB i % 2 ^ EB i) (b % 2 ^ FB i)) = 4 then htxt i b else cb_str.getD (if (kdo i (b / 2 ^ FB i % 2 ^ EB i) (b % 2 ^ FB i)) = 1 then 1 else if (kdo i (b / 2 ^ FB i % 2 ^ EB i) (b % 2 ^ FB i)) = 2 then 2 else 5) [])) = ((sgn (b / 2 ^ (FB i + EB i) % 2) (kdo i (b / 2 ^ FB i % 2 ^ EB i) (b % 2 ^ FB i))) ++ htxt i b) := by rw [if_pos hk4]
    rw [hTX] at hret
    have hsl := sgn_len (b / 2 ^ (FB i + EB i) % 2) (kdo i (b / 2 ^ FB i % 2 ^ EB i) (b % 2 ^ FB i))
    obtain ⟨e8, he8⟩ : ∃ x, x = (b / 2 ^ FB i % 2 ^ EB i) := ⟨_, rfl⟩
    rw [← he8] at he9
    obtain ⟨q8, hq8⟩ : ∃ x, x = (b % 2 ^ FB i * 2 ^ (4 * HX i - FB i)) := ⟨_, rfl⟩
    rw [← hq8] at hfh
    obtain ⟨z8, hz8⟩ : ∃ x : Int, x = ((max e8 1 : Nat) : Int) - BI i := ⟨_, rfl⟩
    have hz81 : -1023 ≤ z8 ∧ z8 ≤ 2048 := by omega
    have hS0 : (cb_str.getD (if e8 = 0 then 3 else 4) []).length = 4 := by split <;> rfl
    have hfin : ((sgn (b / 2 ^ (FB i + EB i) % 2) (kdo i (b / 2 ^ FB i % 2 ^ EB i) (b % 2 ^ FB i))) ++ (cb_str.getD (if e8 = 0 then 3 else 4) [])) ++ (hxl q8 (HX i) (HX i) ++ ([112] ++ dwz z8)) = ((sgn (b / 2 ^ (FB i + EB i) % 2) (kdo i (b / 2 ^ FB i % 2 ^ EB i) (b % 2 ^ FB i))) ++ htxt i b) := by rw [hz8, hq8, he8, htxt, List.append_assoc]
    have hxn := hxl_len q8 (HX i) (HX i)
    have hzn := dwz_len z8
    have hlF : ((sgn (b / 2 ^ (FB i + EB i) % 2) (kdo i (b / 2 ^ FB i % 2 ^ EB i) (b % 2 ^ FB i))) ++ htxt i b).length ≤ 30 := by rw [← hfin]; simp only [List.length_append, List.length_singleton, hS0]; omega
    have k241 : ∀ (f : Nat → Int32) (tt : List Nat) (H : Heap) (locs : List Loc) (ls : Array Slot), (tx f tt) → (tt ++ dwz z8 = ((sgn (b / 2 ^ (FB i + EB i) % 2) (kdo i (b / 2 ^ FB i % 2 ^ EB i) (b % 2 ^ FB i))) ++ htxt i b)) → va_P (dC, dI) cls [(hm, .inr (5, [.int 0, .int lo9, .int hi8, .int (nI 1), .int (nI (iw i)), .long (lN b), .int (nI tt.length), .ref tx9, .ref un, .ref ro, .ref nu, .ref be, .ref ab, .ref tr, .ref bs, .ref fa, .ref bf, .int bh, .int ev])), (tx9, .inl (cI, 96, .inl (f)))] H → va_D A [(hm, .inr (5, [.int 0, .int lo9, .int hi8, .int (nI 1), .int (nI (iw i)), .long (lN b), .int (nI tt.length), .ref tx9, .ref un, .ref ro, .ref nu, .ref be, .ref ab, .ref tr, .ref bs, .ref fa, .ref bf, .int bh, .int ev])), (tx9, .inl (cI, 96, .inl (f)))] → va_S A s.heap H locs → lv_has ls 10 [(0, .ref hm)] → W p l e { frames := 4, cells := 0, slots := 0, locals := 95 } s m args below meth c H locs 0 0 Q (F0 m 241 ls [.int (iZ z8), .ref hm]) := by
      intro f tt H locs ls htt he hP hD hS hl
      have hlen := congrArg List.length he
      rw [List.length_append] at hlen
      refine pw_callv (wc := [(hm, .inr (5, [.int 0, .int lo9, .int hi8, .int (nI 1), .int (nI (iw i)), .long (lN b), .int (nI tt.length), .ref tx9, .ref un, .ref ro, .ref nu, .ref be, .ref ab, .ref tr, .ref bs, .ref fa, .ref bf, .int bh, .int ev])), (tx9, .inl (cI, 96, .inl (f)))]) (wr := []) [0, 1] [] rfl rfl rfl (by decide) (by decide) (by decide) hP hD hS hA (fun hPc hDc hF => va_runV (As := [.int (iZ z8)]) (rest := []) ⟨hx, hb, hml, hown, hts⟩ (c_Mo_putNumber l dC dI H.size hm tx9 un ro nu be ab tr bs fa bf 0 lo9 hi8 (nI 1) (nI (iw i)) bh ev (lN b) cI f tt z8 htt (by omega) (by omega) (by omega)) (cwV 1 hts (gw_V (gw_self cod_Mo_putNumber) ml_Mo_154 im_Mo_putNumber sel_Mo_putNumber ini_Mo) rfl rfl rfl (by decide +kernel) ⟨Nat.le_of_ble_eq_true rfl, Nat.le_of_ble_eq_true rfl⟩) (pw_preV pw_0_ok (trivial : pw_0 A s s.heap) hS hF hPc hDc (hK.sub [0] rfl) (va_recv hK hPc (ci := 5) (q0 := 0) rfl rfl)) rfl rfl hl.1 rfl (lv_room (Nat.le_of_ble_eq_true rfl)) d_Mo_printHex_241 ⟨Nat.le_of_ble_eq_true rfl, Nat.le_of_ble_eq_true rfl⟩) (fun f5 H locs hf5 hK1 hP hD hS => ?_)
      have hP : va_P (dC, dI) cls [(hm, .inr (5, [.int 0, .int lo9, .int hi8, .int (nI 1), .int (nI (iw i)), .long (lN b), .int (nI (tt ++ dwz z8).length), .ref tx9, .ref un, .ref ro, .ref nu, .ref be, .ref ab, .ref tr, .ref bs, .ref fa, .ref bf, .int bh, .int ev])), (tx9, .inl (cI, 96, .inl (f5)))] H := hP
      have hD : va_D A [(hm, .inr (5, [.int 0, .int lo9, .int hi8, .int (nI 1), .int (nI (iw i)), .long (lN b), .int (nI (tt ++ dwz z8).length), .ref tx9, .ref un, .ref ro, .ref nu, .ref be, .ref ab, .ref tr, .ref bs, .ref fa, .ref bf, .int bh, .int ev])), (tx9, .inl (cI, 96, .inl (f5)))] := hD
      rw [he] at hf5 hP hD
      have hP : va_P (dC, dI) cls [(hm, .inr (5, [.int 0, .int lo9, .int hi8, .int (nI 1), .int (nI (iw i)), .long (lN b), .int (nI ((sgn (b / 2 ^ (FB i + EB i) % 2) (kdo i (b / 2 ^ FB i % 2 ^ EB i) (b % 2 ^ FB i))) ++ htxt i b).length), .ref tx9, .ref un, .ref ro, .ref nu, .ref be, .ref ab, .ref tr, .ref bs, .ref fa, .ref bf, .int bh, .int ev])), (tx9, .inl (cI, 96, .inl (f5)))] H := hP
      have hD : va_D A [(hm, .inr (5, [.int 0, .int lo9, .int hi8, .int (nI 1), .int (nI (iw i)), .long (lN b), .int (nI ((sgn (b / 2 ^ (FB i + EB i) % 2) (kdo i (b / 2 ^ FB i % 2 ^ EB i) (b % 2 ^ FB i))) ++ htxt i b).length), .ref tx9, .ref un, .ref ro, .ref nu, .ref be, .ref ab, .ref tr, .ref bs, .ref fa, .ref bf, .int bh, .int ev])), (tx9, .inl (cI, 96, .inl (f5)))] := hD
      refine lv_aload_n hx hb d_Mo_printHex_244 rfl (lv_at hl 0 rfl) ?_
      refine va_get (D := (dC, dI)) (ci := 5) (v := .int (nI ((sgn (b / 2 ^ (FB i + EB i) % 2) (kdo i (b / 2 ^ FB i % 2 ^ EB i) (b % 2 ^ FB i))) ++ htxt i b).length)) (C := R_Mo) (T := F_Mo) (N := 19) hx hb hts i_Mo hown hK hP 0 rfl rfl 6 (by decide) (hts _ fl_Mo_140) (fun _ h9 => h9) rfl d_Mo_printHex_245 ?_
      exact hret _ _ _ _ _ f5 d_Mo_printHex_248 (vp_nar_int _) ⟨rfl, hf5⟩ hP hK hD hS
    have k199 : ∀ (f : Nat → Int32) (tt : List Nat) (H : Heap) (locs : List Loc) (ls : Array Slot), (tx f tt) → (tt ++ ([112] ++ dwz z8) = ((sgn (b / 2 ^ (FB i + EB i) % 2) (kdo i (b / 2 ^ FB i % 2 ^ EB i) (b % 2 ^ FB i))) ++ htxt i b)) → va_P (dC, dI) cls [(hm, .inr (5, [.int 0, .int lo9, .int hi8, .int (nI 1), .int (nI (iw i)), .long (lN b), .int (nI tt.length), .ref tx9, .ref un, .ref ro, .ref nu, .ref be, .ref ab, .ref tr, .ref bs, .ref fa, .ref bf, .int bh, .int ev])), (tx9, .inl (cI, 96, .inl (f)))] H → va_D A [(hm, .inr (5, [.int 0, .int lo9, .int hi8, .int (nI 1), .int (nI (iw i)), .long (lN b), .int (nI tt.length), .ref tx9, .ref un, .ref ro, .ref nu, .ref be, .ref ab, .ref tr, .ref bs, .ref fa, .ref bf, .int bh, .int ev])), (tx9, .inl (cI, 96, .inl (f)))] → va_S A s.heap H locs → lv_has ls 10 [(4, .int (nI e8)), (0, .ref hm), (1, .int (nI (iw i)))] → W p l e { frames := 4, cells := 0, slots := 0, locals := 95 } s m args below meth c H locs 0 0 Q (F0 m 199 ls []) := by
      intro f tt H locs ls htt he hP hD hS hl
      have hlen := congrArg List.length he
      rw [List.length_append] at hlen
      refine lv_aload_n hx hb d_Mo_printHex_199 rfl (lv_at hl 1 rfl) ?_
      refine lv_bipush (v := 112) hx hb d_Mo_printHex_200 (by decide) ?_
      refine pw_callv (wc := [(hm, .inr (5, [.int 0, .int lo9, .int hi8, .int (nI 1), .int (nI (iw i)), .long (lN b), .int (nI tt.length), .ref tx9, .ref un, .ref ro, .ref nu, .ref be, .ref ab, .ref tr, .ref bs, .ref fa, .ref bf, .int bh, .int ev])), (tx9, .inl (cI, 96, .inl (f)))]) (wr := []) [0, 1] [] rfl rfl rfl (by decide) (by decide) (by decide) hP hD hS hA (fun hPc hDc hF => va_runV (As := [.int 112]) (rest := []) ⟨hx, hb, hml, hown, hts⟩ (c_Mo_put l dC dI H.size hm tx9 un ro nu be ab tr bs fa bf 0 lo9 hi8 (nI 1) (nI (iw i)) bh ev (lN b) cI f tt 112 htt (by omega)) (cwV 1 hts (gw_V (gw_self cod_Mo_put) ml_Mo_143 im_Mo_put sel_Mo_put ini_Mo) rfl rfl rfl (by decide +kernel) ⟨Nat.le_of_ble_eq_true rfl, Nat.le_of_ble_eq_true rfl⟩) (pw_preV pw_0_ok (trivial : pw_0 A s s.heap) hS hF hPc hDc (hK.sub [0] rfl) (va_recv hK hPc (ci := 5) (q0 := 0) rfl rfl)) rfl rfl hl.1 rfl (lv_room (Nat.le_of_ble_eq_true rfl)) d_Mo_printHex_202 ⟨Nat.le_of_ble_eq_true rfl, Nat.le_of_ble_eq_true rfl⟩) (fun f4 H locs hf4 hK1 hP hD hS => ?_)
      have hP : va_P (dC, dI) cls [(hm, .inr (5, [.int 0, .int lo9, .int hi8, .int (nI 1), .int (nI (iw i)), .long (lN b), .int (nI (tt ++ [112]).length), .ref tx9, .ref un, .ref ro, .ref nu, .ref be, .ref ab, .ref tr, .ref bs, .ref fa, .ref bf, .int bh, .int ev])), (tx9, .inl (cI, 96, .inl (f4)))] H := hP
      have hD : va_D A [(hm, .inr (5, [.int 0, .int lo9, .int hi8, .int (nI 1), .int (nI (iw i)), .long (lN b), .int (nI (tt ++ [112]).length), .ref tx9, .ref un, .ref ro, .ref nu, .ref be, .ref ab, .ref tr, .ref bs, .ref fa, .ref bf, .int bh, .int ev])), (tx9, .inl (cI, 96, .inl (f4)))] := hD
      have he2 : (tt ++ [112]) ++ dwz z8 = ((sgn (b / 2 ^ (FB i + EB i) % 2) (kdo i (b / 2 ^ FB i % 2 ^ EB i) (b % 2 ^ FB i))) ++ htxt i b) := by rw [List.append_assoc]; exact he
      refine lv_aload_n hx hb d_Mo_printHex_205 rfl (lv_at hl 1 rfl) ?_
      refine lv_iload hx hb d_Mo_printHex_206 (lv_at hl 0 rfl) ?_
      refine lv_if_ne (tgt := 226) hx hb d_Mo_printHex_208 (by decide) (fun g1 => ?_) (fun g1 => ?_)
      · have h0 : e8 ≠ 0 := fun g => g1 (by rw [g]; rfl)
        refine lv_iload hx hb d_Mo_printHex_226 (lv_at hl 0 rfl) ?_
        refine lv_iload_n hx hb d_Mo_printHex_228 rfl (lv_at hl 2 rfl) ?_
        refine lv_if_eq (tgt := 238) hx hb d_Mo_printHex_229 (by decide) (fun hw9 => ?_) (fun hw9 => ?_)
        · have hi1 : i = 1 := by have := (nI_b0 (iw_le i)).mp hw9; unfold iw at this; split at this <;> omega
          have hF9 : FB i = 23 := by rw [hi1]; rfl
          have hE9 : EB i = 8 := by rw [hi1]; rfl
          have hBI : BI i = 127 := by rw [hi1]; rfl
          refine lv_bipush (v := 127) hx hb d_Mo_printHex_238 (by decide) ?_
          refine lv_isub hx hb d_Mo_printHex_240 ?_
          refine lv_topi (fun x_3 e_4 => ?_)
          obtain rfl : x_3 = iZ z8 := e_4.trans ((show nI e8 - 127 = iZ ((e8 : Int) - 127) from by rw [iZ_N]; exact iZ_sub _ 127).trans (congrArg iZ (by omega)))
          exact k241 f4 _ H _ ls hf4 he2 hP hD hS (lv_sub hl [1] rfl)
        · have hi1 : i = 0 := by have := mt (nI_b0 (iw_le i)).mpr hw9; unfold iw at this; split at this <;> omega
          have hF9 : FB i = 52 := by rw [hi1]; rfl
          have hE9 : EB i = 11 := by rw [hi1]; rfl
          have hBI : BI i = 1023 := by rw [hi1]; rfl
          refine lv_sipush (v := 1023) hx hb d_Mo_printHex_232 (by decide) ?_
          refine lv_goto (tgt := 240) hx hb d_Mo_printHex_235 (by decide) ?_
          refine lv_isub hx hb d_Mo_printHex_240 ?_
          refine lv_topi (fun x_5 e_6 => ?_)
          obtain rfl : x_5 = iZ z8 := e_6.trans ((show nI e8 - 1023 = iZ ((e8 : Int) - 1023) from by rw [iZ_N]; exact iZ_sub _ 1023).trans (congrArg iZ (by omega)))
          exact k241 f4 _ H _ ls hf4 he2 hP hD hS (lv_sub hl [1] rfl)
      · have h0 : e8 = 0 := (nI_eq (b := 0) (by omega) (by omega)).mp g1
        refine lv_iload_n hx hb d_Mo_printHex_211 rfl (lv_at hl 2 rfl) ?_
        refine lv_if_eq (tgt := 221) hx hb d_Mo_printHex_212 (by decide) (fun hw9 => ?_) (fun hw9 => ?_)
        · have hi1 : i = 1 := by have := (nI_b0 (iw_le i)).mp hw9; unfold iw at this; split at this <;> omega
          have hF9 : FB i = 23 := by rw [hi1]; rfl
          have hE9 : EB i = 8 := by rw [hi1]; rfl
          have hBI : BI i = 127 := by rw [hi1]; rfl
          refine lv_bipush (v := (-126)) hx hb d_Mo_printHex_221 (by decide) ?_
          refine lv_topi (fun x_7 e_8 => ?_)
          obtain rfl : x_7 = iZ z8 := e_8.trans ((show ((-126) : Int32) = iZ (-126) from by decide).trans (by congr 1; omega))
          refine lv_goto (tgt := 241) hx hb d_Mo_printHex_223 (by decide) ?_
          exact k241 f4 _ H _ ls hf4 he2 hP hD hS (lv_sub hl [1] rfl)
        · have hi1 : i = 0 := by have := mt (nI_b0 (iw_le i)).mpr hw9; unfold iw at this; split at this <;> omega
          have hF9 : FB i = 52 := by rw [hi1]; rfl
          have hE9 : EB i = 11 := by rw [hi1]; rfl
          have hBI : BI i = 1023 := by rw [hi1]; rfl
          refine lv_sipush (v := (-1022)) hx hb d_Mo_printHex_215 (by decide) ?_
          refine lv_topi (fun x_9 e_10 => ?_)
          obtain rfl : x_9 = iZ z8 := e_10.trans ((show ((-1022) : Int32) = iZ (-1022) from by decide).trans (by congr 1; omega))
          refine lv_goto (tgt := 241) hx hb d_Mo_printHex_218 (by decide) ?_
          exact k241 f4 _ H _ ls hf4 he2 hP hD hS (lv_sub hl [1] rfl)
    have lp : ∀ (c9 : Nat) (j : Nat) (f : Nat → Int32) (tt : List Nat) (H : Heap) (locs : List Loc) (ls : Array Slot), (j < c9) → (j ≤ HX i) → (tx f tt) → (tt ++ (hxl q8 (HX i) j ++ ([112] ++ dwz z8)) = ((sgn (b / 2 ^ (FB i + EB i) % 2) (kdo i (b / 2 ^ FB i % 2 ^ EB i) (b % 2 ^ FB i))) ++ htxt i b)) → va_P (dC, dI) cls [(hm, .inr (5, [.int 0, .int lo9, .int hi8, .int (nI 1), .int (nI (iw i)), .long (lN b), .int (nI tt.length), .ref tx9, .ref un, .ref ro, .ref nu, .ref be, .ref ab, .ref tr, .ref bs, .ref fa, .ref bf, .int bh, .int ev])), (tx9, .inl (cI, 96, .inl (f)))] H → va_D A [(hm, .inr (5, [.int 0, .int lo9, .int hi8, .int (nI 1), .int (nI (iw i)), .long (lN b), .int (nI tt.length), .ref tx9, .ref un, .ref ro, .ref nu, .ref be, .ref ab, .ref tr, .ref bs, .ref fa, .ref bf, .int bh, .int ev])), (tx9, .inl (cI, 96, .inl (f)))] → va_S A s.heap H locs → lv_has ls 10 [(8, .int (iZ ((j : Int) - 1))), (7, .int (nI (HX i))), (5, .long (lN q8)), (4, .int (nI e8)), (0, .ref hm), (1, .int (nI (iw i)))] → W p l e { frames := 4, cells := 0, slots := 0, locals := 95 } s m args below meth c H locs 0 0 Q (F0 m 118 ls []) := by
      intro c9
      induction c9 with
      | zero => intro j f tt H locs ls hc hj htt he hP hD hS hl; exact absurd hc (by omega)
      | succ c9 ih =>
        intro j f tt H locs ls hc hj htt he hP hD hS hl
        refine lv_iload hx hb d_Mo_printHex_118 (lv_at hl 0 rfl) ?_
        refine lv_if_lt (tgt := 199) hx hb d_Mo_printHex_120 (by decide) (fun g1 => ?_) (fun g1 => ?_)
        · have hj0 : j = 0 := by have := (iZ_lt (a := (j : Int) - 1) (b := 0) (by omega) (by omega) (by omega) (by omega)).mp g1; omega
          rw [hj0, hxl, List.nil_append] at he
          exact k199 f tt H _ ls htt he hP hD hS (lv_sub hl [3, 4, 5] rfl)
        · have hj0 : 0 < j := by have := mt (iZ_lt (a := (j : Int) - 1) (b := 0) (by omega) (by omega) (by omega) (by omega)).mpr g1; omega
          obtain ⟨k, rfl⟩ : ∃ k, j = k + 1 := ⟨j - 1, by omega⟩
          rw [iZ_succ'] at hl
          have hlen := congrArg List.length he
          rw [List.length_append] at hlen
          have k153 : ∀ (H : Heap) (locs : List Loc) (ls : Array Slot), (k + 1 < HX i → q8 % 16 ^ (k + 1) ≠ 0) → va_P (dC, dI) cls [(hm, .inr (5, [.int 0, .int lo9, .int hi8, .int (nI 1), .int (nI (iw i)), .long (lN b), .int (nI tt.length), .ref tx9, .ref un, .ref ro, .ref nu, .ref be, .ref ab, .ref tr, .ref bs, .ref fa, .ref bf, .int bh, .int ev])), (tx9, .inl (cI, 96, .inl (f)))] H → va_D A [(hm, .inr (5, [.int 0, .int lo9, .int hi8, .int (nI 1), .int (nI (iw i)), .long (lN b), .int (nI tt.length), .ref tx9, .ref un, .ref ro, .ref nu, .ref be, .ref ab, .ref tr, .ref bs, .ref fa, .ref bf, .int bh, .int ev])), (tx9, .inl (cI, 96, .inl (f)))] → va_S A s.heap H locs → lv_has ls 10 [(8, .int (nI k)), (7, .int (nI (HX i))), (5, .long (lN q8)), (4, .int (nI e8)), (0, .ref hm), (1, .int (nI (iw i)))] → W p l e { frames := 4, cells := 0, slots := 0, locals := 95 } s m args below meth c H locs 0 0 Q (F0 m 153 ls []) := by
            intro H locs ls hgo hP hD hS hl
            rw [hxl_go hgo, List.cons_append] at he
            have hv16 : q8 / 16 ^ k % 16 < 16 := Nat.mod_lt _ (by decide)
            refine lv_lload hx hb d_Mo_printHex_153 (lv_at hl 2 rfl) ?_
            refine lv_iconst (v := 4) hx hb d_Mo_printHex_155 (by decide) ?_
            refine lv_iload hx hb d_Mo_printHex_156 (lv_at hl 0 rfl) ?_
            refine lv_imul hx hb d_Mo_printHex_158 ?_
            refine lv_topi (fun x_11 e_12 => ?_)
            obtain rfl : x_11 = nI (4 * k) := e_12.trans (pk_mul 4 k)
            refine lv_lshr (v := (lN q8) >>> ((nI (4 * k)).toInt64 &&& 63)) hx hb d_Mo_printHex_159 (rfl) ?_
            refine lv_l2i (v := ((lN q8) >>> ((nI (4 * k)).toInt64 &&& 63)).toInt32) hx hb d_Mo_printHex_160 (rfl) ?_
            refine lv_bipush (v := 15) hx hb d_Mo_printHex_161 (by decide) ?_
            refine lv_iand hx hb d_Mo_printHex_163 ?_
            refine lv_topi (fun x_13 e_14 => ?_)
            obtain rfl : x_13 = nI (q8 / 16 ^ k % 16) := e_14.trans ((lN_sarl (n := q8) (s := 4 * k) 4 (by omega) (by decide) (by omega)).trans (congrArg (fun z => nI (q8 / z % 16)) (hx_pow k)))
            refine lv_istore (lv' := [(9, .int (nI (q8 / 16 ^ k % 16))), (8, .int (nI k)), (7, .int (nI (HX i))), (5, .long (lN q8)), (4, .int (nI e8)), (0, .ref hm), (1, .int (nI (iw i)))]) hx hb d_Mo_printHex_164 hl (by decide) rfl (fun ls hl => ?_)
            obtain ⟨v8, hv8⟩ : ∃ x, x = q8 / 16 ^ k % 16 := ⟨_, rfl⟩
            rw [← hv8] at hl hv16 he
            refine lv_aload_n hx hb d_Mo_printHex_166 rfl (lv_at hl 5 rfl) ?_
            have k190 : ∀ (H : Heap) (locs : List Loc) (ls : Array Slot), va_P (dC, dI) cls [(hm, .inr (5, [.int 0, .int lo9, .int hi8, .int (nI 1), .int (nI (iw i)), .long (lN b), .int (nI tt.length), .ref tx9, .ref un, .ref ro, .ref nu, .ref be, .ref ab, .ref tr, .ref bs, .ref fa, .ref bf, .int bh, .int ev])), (tx9, .inl (cI, 96, .inl (f)))] H → va_D A [(hm, .inr (5, [.int 0, .int lo9, .int hi8, .int (nI 1), .int (nI (iw i)), .long (lN b), .int (nI tt.length), .ref tx9, .ref un, .ref ro, .ref nu, .ref be, .ref ab, .ref tr, .ref bs, .ref fa, .ref bf, .int bh, .int ev])), (tx9, .inl (cI, 96, .inl (f)))] → va_S A s.heap H locs → lv_has ls 10 [(9, .int (nI v8)), (8, .int (nI k)), (7, .int (nI (HX i))), (5, .long (lN q8)), (4, .int (nI e8)), (0, .ref hm), (1, .int (nI (iw i)))] → W p l e { frames := 4, cells := 0, slots := 0, locals := 95 } s m args below meth c H locs 0 0 Q (F0 m 190 ls [.int (nI (hxc v8)), .ref hm]) := by
              intro H locs ls hP hD hS hl
              refine pw_callv (wc := [(hm, .inr (5, [.int 0, .int lo9, .int hi8, .int (nI 1), .int (nI (iw i)), .long (lN b), .int (nI tt.length), .ref tx9, .ref un, .ref ro, .ref nu, .ref be, .ref ab, .ref tr, .ref bs, .ref fa, .ref bf, .int bh, .int ev])), (tx9, .inl (cI, 96, .inl (f)))]) (wr := []) [0, 1] [] rfl rfl rfl (by decide) (by decide) (by decide) hP hD hS hA (fun hPc hDc hF => va_runV (As := [.int (nI (hxc v8))]) (rest := []) ⟨hx, hb, hml, hown, hts⟩ (c_Mo_put l dC dI H.size hm tx9 un ro nu be ab tr bs fa bf 0 lo9 hi8 (nI 1) (nI (iw i)) bh ev (lN b) cI f tt (hxc v8) htt (by omega)) (cwV 1 hts (gw_V (gw_self cod_Mo_put) ml_Mo_143 im_Mo_put sel_Mo_put ini_Mo) rfl rfl rfl (by decide +kernel) ⟨Nat.le_of_ble_eq_true rfl, Nat.le_of_ble_eq_true rfl⟩) (pw_preV pw_0_ok (trivial : pw_0 A s s.heap) hS hF hPc hDc (hK.sub [0] rfl) (va_recv hK hPc (ci := 5) (q0 := 0) rfl rfl)) rfl rfl hl.1 rfl (lv_room (Nat.le_of_ble_eq_true rfl)) d_Mo_printHex_190 ⟨Nat.le_of_ble_eq_true rfl, Nat.le_of_ble_eq_true rfl⟩) (fun f4 H locs hf4 hK1 hP hD hS => ?_)
              have hP : va_P (dC, dI) cls [(hm, .inr (5, [.int 0, .int lo9, .int hi8, .int (nI 1), .int (nI (iw i)), .long (lN b), .int (nI (tt ++ [(hxc v8)]).length), .ref tx9, .ref un, .ref ro, .ref nu, .ref be, .ref ab, .ref tr, .ref bs, .ref fa, .ref bf, .int bh, .int ev])), (tx9, .inl (cI, 96, .inl (f4)))] H := hP
              have hD : va_D A [(hm, .inr (5, [.int 0, .int lo9, .int hi8, .int (nI 1), .int (nI (iw i)), .long (lN b), .int (nI (tt ++ [(hxc v8)]).length), .ref tx9, .ref un, .ref ro, .ref nu, .ref be, .ref ab, .ref tr, .ref bs, .ref fa, .ref bf, .int bh, .int ev])), (tx9, .inl (cI, 96, .inl (f4)))] := hD
              refine lv_iinc (v := iZ ((k : Int) - 1)) (lv' := [(8, .int (iZ ((k : Int) - 1))), (9, .int (nI v8)), (7, .int (nI (HX i))), (5, .long (lN q8)), (4, .int (nI e8)), (0, .ref hm), (1, .int (nI (iw i)))]) hx hb d_Mo_printHex_193 hl (k := 1) rfl ((show nI k + iZ (-1) = iZ ((k : Int) + (-1)) from by rw [iZ_N]; exact iZ_add _ (-1)).trans (congrArg iZ (by omega))) (by decide) rfl (fun ls hl => ?_)
              refine lv_goto (tgt := 118) hx hb d_Mo_printHex_196 (by decide) ?_
              exact ih k f4 _ H _ ls (by omega) (by omega) hf4 (by rw [List.append_assoc]; exact he) hP hD hS (lv_sub hl [0, 2, 3, 4, 5, 6] rfl)
            refine lv_iload hx hb d_Mo_printHex_167 (lv_at hl 0 rfl) ?_
            refine lv_bipush (v := 10) hx hb d_Mo_printHex_169 (by decide) ?_
            refine lv_icmp_ge (tgt := 182) hx hb d_Mo_printHex_171 (by decide) (fun g3 => ?_) (fun g3 => ?_)
            · have h10 : 10 ≤ v8 := (nI_leI (a := 10) (b := v8) (by omega) (by omega)).mp g3
              have e1 : hxc v8 = 87 + v8 := if_neg (by omega)
              refine lv_bipush (v := 97) hx hb d_Mo_printHex_182 (by decide) ?_
              refine lv_iload hx hb d_Mo_printHex_184 (lv_at hl 0 rfl) ?_
              refine lv_iadd hx hb d_Mo_printHex_186 ?_
              refine lv_bipush (v := 10) hx hb d_Mo_printHex_187 (by decide) ?_
              refine lv_isub hx hb d_Mo_printHex_189 ?_
              refine lv_topi (fun x_15 e_16 => ?_)
              obtain rfl : x_15 = nI (hxc v8) := e_16.trans (by rw [e1, show (97 : Int32) = nI 97 from rfl, nI_add, show (10 : Int32) = nI 10 from rfl, pk_sub (by omega)]; congr 1; omega)
              exact k190 H _ ls hP hD hS hl
            · have h10 : v8 < 10 := by have := mt (nI_leI (a := 10) (b := v8) (by omega) (by omega)).mpr g3; omega
              have e1 : hxc v8 = 48 + v8 := if_pos (by omega)
              refine lv_bipush (v := 48) hx hb d_Mo_printHex_174 (by decide) ?_
              refine lv_iload hx hb d_Mo_printHex_176 (lv_at hl 0 rfl) ?_
              refine lv_iadd hx hb d_Mo_printHex_178 ?_
              refine lv_topi (fun x_17 e_18 => ?_)
              obtain rfl : x_17 = nI (hxc v8) := e_18.trans (by rw [e1, show (48 : Int32) = nI 48 from rfl, nI_add])
              refine lv_goto (tgt := 190) hx hb d_Mo_printHex_179 (by decide) ?_
              exact k190 H _ ls hP hD hS hl
          refine lv_iload hx hb d_Mo_printHex_123 (lv_at hl 0 rfl) ?_
          refine lv_iload hx hb d_Mo_printHex_125 (lv_at hl 1 rfl) ?_
          refine lv_iconst (v := 1) hx hb d_Mo_printHex_127 (by decide) ?_
          refine lv_isub hx hb d_Mo_printHex_128 ?_
          refine lv_topi (fun x_19 e_20 => ?_)
          obtain rfl : x_19 = nI (HX i - 1) := e_20.trans (pk_sub (a := HX i) (b := 1) (by omega))
          refine lv_icmp_ge (tgt := 153) hx hb d_Mo_printHex_129 (by decide) (fun g2 => ?_) (fun g2 => ?_)
          · have hk : HX i - 1 ≤ k := (nI_leI (by omega) (by omega)).mp g2
            exact k153 H _ ls (fun g => absurd g (by omega)) hP hD hS hl
          · have hk : k < HX i - 1 := by have := mt (nI_leI (a := HX i - 1) (b := k) (by omega) (by omega)).mpr g2; omega
            refine lv_lload hx hb d_Mo_printHex_132 (lv_at hl 2 rfl) ?_
            refine lv_lconst (v := 1) hx hb d_Mo_printHex_134 (by decide) ?_
            refine lv_iconst (v := 4) hx hb d_Mo_printHex_135 (by decide) ?_
            refine lv_iload hx hb d_Mo_printHex_136 (lv_at hl 0 rfl) ?_
            refine lv_imul hx hb d_Mo_printHex_138 ?_
            refine lv_topi (fun x_21 e_22 => ?_)
            obtain rfl : x_21 = nI (4 * k) := e_22.trans (pk_mul 4 k)
            refine lv_iconst (v := 4) hx hb d_Mo_printHex_139 (by decide) ?_
            refine lv_iadd hx hb d_Mo_printHex_140 ?_
            refine lv_topi (fun x_23 e_24 => ?_)
            obtain rfl : x_23 = nI (4 * k + 4) := e_24.trans (nI_add _ 4)
            refine lv_lshl (v := lN (2 ^ (4 * k + 4))) hx hb d_Mo_printHex_141 (bn_shl1 (by omega)) ?_
            refine lv_lconst (v := 1) hx hb d_Mo_printHex_142 (by decide) ?_
            refine lv_lsub hx hb d_Mo_printHex_143 ?_
            refine lv_topl (fun x_25 e_26 => ?_)
            obtain rfl : x_25 = lN (2 ^ (4 * k + 4) - 1) := e_26.trans (lN_sub (b := 1) (Nat.two_pow_pos _))
            refine lv_land hx hb d_Mo_printHex_144 ?_
            refine lv_topl (fun x_27 e_28 => ?_)
            obtain rfl : x_27 = lN (q8 % 16 ^ (k + 1)) := e_28.trans ((wb_mask (n := q8) (k := 4 * k + 4) (by omega) (by omega)).trans (congrArg (fun z => lN (q8 % z)) (hx_pow (k + 1))))
            refine lv_lconst (v := 0) hx hb d_Mo_printHex_145 (by decide) ?_
            have hml8 : q8 % 16 ^ (k + 1) ≤ q8 := Nat.mod_le _ _
            refine lx_ne (tgt := 153) hx hb d_Mo_printHex_146 d_Mo_printHex_147 (by decide) (fun g4 => ?_) (fun g4 => ?_)
            · have h4 : q8 % 16 ^ (k + 1) ≠ 0 := fun g => g4 (by rw [g]; rfl)
              exact k153 H _ ls (fun _ => h4) hP hD hS hl
            · have h4 : q8 % 16 ^ (k + 1) = 0 := (pk_lEQ (b := 0) (by omega) (by omega)).mp g4
              rw [hxl, if_pos ⟨by omega, h4⟩] at he
              refine lv_goto (tgt := 193) hx hb d_Mo_printHex_150 (by decide) ?_
              refine lv_iinc (v := iZ ((k : Int) - 1)) (lv' := [(8, .int (iZ ((k : Int) - 1))), (7, .int (nI (HX i))), (5, .long (lN q8)), (4, .int (nI e8)), (0, .ref hm), (1, .int (nI (iw i)))]) hx hb d_Mo_printHex_193 hl (k := 0) rfl ((show nI k + iZ (-1) = iZ ((k : Int) + (-1)) from by rw [iZ_N]; exact iZ_add _ (-1)).trans (congrArg iZ (by omega))) (by decide) rfl (fun ls hl => ?_)
              refine lv_goto (tgt := 118) hx hb d_Mo_printHex_196 (by decide) ?_
              exact ih k f tt H _ ls (by omega) (by omega) htt he hP hD hS (lv_sub hl [0, 1, 2, 3, 4, 5] rfl)
    have k110 : ∀ (f : Nat → Int32) (H : Heap) (locs : List Loc) (ls : Array Slot), (tx f ((sgn (b / 2 ^ (FB i + EB i) % 2) (kdo i (b / 2 ^ FB i % 2 ^ EB i) (b % 2 ^ FB i))) ++ (cb_str.getD (if e8 = 0 then 3 else 4) []))) → va_P (dC, dI) cls [(hm, .inr (5, [.int 0, .int lo9, .int hi8, .int (nI 1), .int (nI (iw i)), .long (lN b), .int (nI ((sgn (b / 2 ^ (FB i + EB i) % 2) (kdo i (b / 2 ^ FB i % 2 ^ EB i) (b % 2 ^ FB i))) ++ (cb_str.getD (if e8 = 0 then 3 else 4) [])).length), .ref tx9, .ref un, .ref ro, .ref nu, .ref be, .ref ab, .ref tr, .ref bs, .ref fa, .ref bf, .int bh, .int ev])), (tx9, .inl (cI, 96, .inl (f)))] H → va_D A [(hm, .inr (5, [.int 0, .int lo9, .int hi8, .int (nI 1), .int (nI (iw i)), .long (lN b), .int (nI ((sgn (b / 2 ^ (FB i + EB i) % 2) (kdo i (b / 2 ^ FB i % 2 ^ EB i) (b % 2 ^ FB i))) ++ (cb_str.getD (if e8 = 0 then 3 else 4) [])).length), .ref tx9, .ref un, .ref ro, .ref nu, .ref be, .ref ab, .ref tr, .ref bs, .ref fa, .ref bf, .int bh, .int ev])), (tx9, .inl (cI, 96, .inl (f)))] → va_S A s.heap H locs → lv_has ls 10 [(5, .long (lN q8)), (4, .int (nI e8)), (0, .ref hm), (1, .int (nI (iw i)))] → W p l e { frames := 4, cells := 0, slots := 0, locals := 95 } s m args below meth c H locs 0 0 Q (F0 m 110 ls [.int (nI (HX i))]) := by
      intro f H locs ls htt hP hD hS hl
      refine lv_istore (lv' := [(7, .int (nI (HX i))), (5, .long (lN q8)), (4, .int (nI e8)), (0, .ref hm), (1, .int (nI (iw i)))]) hx hb d_Mo_printHex_110 hl (by decide) rfl (fun ls hl => ?_)
      refine lv_iload hx hb d_Mo_printHex_112 (lv_at hl 0 rfl) ?_
      refine lv_iconst (v := 1) hx hb d_Mo_printHex_114 (by decide) ?_
      refine lv_isub hx hb d_Mo_printHex_115 ?_
      refine lv_topi (fun x_29 e_30 => ?_)
      obtain rfl : x_29 = iZ ((HX i : Int) - 1) := e_30.trans (iZ_pred _)
      refine lv_istore (lv' := [(8, .int (iZ ((HX i : Int) - 1))), (7, .int (nI (HX i))), (5, .long (lN q8)), (4, .int (nI e8)), (0, .ref hm), (1, .int (nI (iw i)))]) hx hb d_Mo_printHex_116 hl (by decide) rfl (fun ls hl => ?_)
      exact lp (HX i + 1) (HX i) f _ H _ ls (by omega) (by omega) htt hfin hP hD hS (lv_sub hl [0, 1, 2, 3, 4, 5] rfl)
    have k97 : ∀ (f : Nat → Int32) (H : Heap) (locs : List Loc) (ls : Array Slot), (tx f ((sgn (b / 2 ^ (FB i + EB i) % 2) (kdo i (b / 2 ^ FB i % 2 ^ EB i) (b % 2 ^ FB i))) ++ (cb_str.getD (if e8 = 0 then 3 else 4) []))) → va_P (dC, dI) cls [(hm, .inr (5, [.int 0, .int lo9, .int hi8, .int (nI 1), .int (nI (iw i)), .long (lN b), .int (nI ((sgn (b / 2 ^ (FB i + EB i) % 2) (kdo i (b / 2 ^ FB i % 2 ^ EB i) (b % 2 ^ FB i))) ++ (cb_str.getD (if e8 = 0 then 3 else 4) [])).length), .ref tx9, .ref un, .ref ro, .ref nu, .ref be, .ref ab, .ref tr, .ref bs, .ref fa, .ref bf, .int bh, .int ev])), (tx9, .inl (cI, 96, .inl (f)))] H → va_D A [(hm, .inr (5, [.int 0, .int lo9, .int hi8, .int (nI 1), .int (nI (iw i)), .long (lN b), .int (nI ((sgn (b / 2 ^ (FB i + EB i) % 2) (kdo i (b / 2 ^ FB i % 2 ^ EB i) (b % 2 ^ FB i))) ++ (cb_str.getD (if e8 = 0 then 3 else 4) [])).length), .ref tx9, .ref un, .ref ro, .ref nu, .ref be, .ref ab, .ref tr, .ref bs, .ref fa, .ref bf, .int bh, .int ev])), (tx9, .inl (cI, 96, .inl (f)))] → va_S A s.heap H locs → lv_has ls 10 [(4, .int (nI e8)), (0, .ref hm), (1, .int (nI (iw i)))] → W p l e { frames := 4, cells := 0, slots := 0, locals := 95 } s m args below meth c H locs 0 0 Q (F0 m 97 ls [.long (lN q8)]) := by
      intro f H locs ls htt hP hD hS hl
      refine lv_lstore (lv' := [(5, .long (lN q8)), (4, .int (nI e8)), (0, .ref hm), (1, .int (nI (iw i)))]) hx hb d_Mo_printHex_97 hl (by decide) rfl (fun ls hl => ?_)
      refine lv_iload_n hx hb d_Mo_printHex_99 rfl (lv_at hl 3 rfl) ?_
      refine lv_if_eq (tgt := 108) hx hb d_Mo_printHex_100 (by decide) (fun hw9 => ?_) (fun hw9 => ?_)
      · have hi1 : i = 1 := by have := (nI_b0 (iw_le i)).mp hw9; unfold iw at this; split at this <;> omega
        have hF9 : FB i = 23 := by rw [hi1]; rfl
        have hE9 : EB i = 8 := by rw [hi1]; rfl
        refine lv_bipush (v := 6) hx hb d_Mo_printHex_108 (by decide) ?_
        refine lv_topi (fun x_31 e_32 => ?_)
        obtain rfl : x_31 = nI (HX i) := e_32.trans (by rw [hi1]; rfl)
        exact k110 f H _ ls htt hP hD hS (lv_sub hl [0, 1, 2, 3] rfl)
      · have hi1 : i = 0 := by have := mt (nI_b0 (iw_le i)).mpr hw9; unfold iw at this; split at this <;> omega
        have hF9 : FB i = 52 := by rw [hi1]; rfl
        have hE9 : EB i = 11 := by rw [hi1]; rfl
        refine lv_bipush (v := 13) hx hb d_Mo_printHex_103 (by decide) ?_
        refine lv_topi (fun x_33 e_34 => ?_)
        obtain rfl : x_33 = nI (HX i) := e_34.trans (by rw [hi1]; rfl)
        refine lv_goto (tgt := 110) hx hb d_Mo_printHex_105 (by decide) ?_
        exact k110 f H _ ls htt hP hD hS (lv_sub hl [0, 1, 2, 3] rfl)
    have k69 : ∀ (c8 : Nat) (f : Nat → Int32) (H : Heap) (locs : List Loc) (ls : Array Slot), (tx f (((sgn (b / 2 ^ (FB i + EB i) % 2) (kdo i (b / 2 ^ FB i % 2 ^ EB i) (b % 2 ^ FB i))) ++ [48]) ++ [120])) → ((((((sgn (b / 2 ^ (FB i + EB i) % 2) (kdo i (b / 2 ^ FB i % 2 ^ EB i) (b % 2 ^ FB i))) ++ [48]) ++ [120]) ++ [c8]) ++ [46]) = ((sgn (b / 2 ^ (FB i + EB i) % 2) (kdo i (b / 2 ^ FB i % 2 ^ EB i) (b % 2 ^ FB i))) ++ (cb_str.getD (if e8 = 0 then 3 else 4) []))) → va_P (dC, dI) cls [(hm, .inr (5, [.int 0, .int lo9, .int hi8, .int (nI 1), .int (nI (iw i)), .long (lN b), .int (nI (((sgn (b / 2 ^ (FB i + EB i) % 2) (kdo i (b / 2 ^ FB i % 2 ^ EB i) (b % 2 ^ FB i))) ++ [48]) ++ [120]).length), .ref tx9, .ref un, .ref ro, .ref nu, .ref be, .ref ab, .ref tr, .ref bs, .ref fa, .ref bf, .int bh, .int ev])), (tx9, .inl (cI, 96, .inl (f)))] H → va_D A [(hm, .inr (5, [.int 0, .int lo9, .int hi8, .int (nI 1), .int (nI (iw i)), .long (lN b), .int (nI (((sgn (b / 2 ^ (FB i + EB i) % 2) (kdo i (b / 2 ^ FB i % 2 ^ EB i) (b % 2 ^ FB i))) ++ [48]) ++ [120]).length), .ref tx9, .ref un, .ref ro, .ref nu, .ref be, .ref ab, .ref tr, .ref bs, .ref fa, .ref bf, .int bh, .int ev])), (tx9, .inl (cI, 96, .inl (f)))] → va_S A s.heap H locs → lv_has ls 10 [(4, .int (nI e8)), (0, .ref hm), (1, .int (nI (iw i)))] → W p l e { frames := 4, cells := 0, slots := 0, locals := 95 } s m args below meth c H locs 0 0 Q (F0 m 69 ls [.int (nI c8), .ref hm]) := by
      intro c8 f H locs ls htt he hP hD hS hl
      refine pw_callv (wc := [(hm, .inr (5, [.int 0, .int lo9, .int hi8, .int (nI 1), .int (nI (iw i)), .long (lN b), .int (nI (((sgn (b / 2 ^ (FB i + EB i) % 2) (kdo i (b / 2 ^ FB i % 2 ^ EB i) (b % 2 ^ FB i))) ++ [48]) ++ [120]).length), .ref tx9, .ref un, .ref ro, .ref nu, .ref be, .ref ab, .ref tr, .ref bs, .ref fa, .ref bf, .int bh, .int ev])), (tx9, .inl (cI, 96, .inl (f)))]) (wr := []) [0, 1] [] rfl rfl rfl (by decide) (by decide) (by decide) hP hD hS hA (fun hPc hDc hF => va_runV (As := [.int (nI c8)]) (rest := []) ⟨hx, hb, hml, hown, hts⟩ (c_Mo_put l dC dI H.size hm tx9 un ro nu be ab tr bs fa bf 0 lo9 hi8 (nI 1) (nI (iw i)) bh ev (lN b) cI f (((sgn (b / 2 ^ (FB i + EB i) % 2) (kdo i (b / 2 ^ FB i % 2 ^ EB i) (b % 2 ^ FB i))) ++ [48]) ++ [120]) c8 htt (by simp only [List.length_append, List.length_singleton]; omega)) (cwV 1 hts (gw_V (gw_self cod_Mo_put) ml_Mo_143 im_Mo_put sel_Mo_put ini_Mo) rfl rfl rfl (by decide +kernel) ⟨Nat.le_of_ble_eq_true rfl, Nat.le_of_ble_eq_true rfl⟩) (pw_preV pw_0_ok (trivial : pw_0 A s s.heap) hS hF hPc hDc (hK.sub [0] rfl) (va_recv hK hPc (ci := 5) (q0 := 0) rfl rfl)) rfl rfl hl.1 rfl (lv_room (Nat.le_of_ble_eq_true rfl)) d_Mo_printHex_69 ⟨Nat.le_of_ble_eq_true rfl, Nat.le_of_ble_eq_true rfl⟩) (fun f4 H locs hf4 hK1 hP hD hS => ?_)
      have hP : va_P (dC, dI) cls [(hm, .inr (5, [.int 0, .int lo9, .int hi8, .int (nI 1), .int (nI (iw i)), .long (lN b), .int (nI ((((sgn (b / 2 ^ (FB i + EB i) % 2) (kdo i (b / 2 ^ FB i % 2 ^ EB i) (b % 2 ^ FB i))) ++ [48]) ++ [120]) ++ [c8]).length), .ref tx9, .ref un, .ref ro, .ref nu, .ref be, .ref ab, .ref tr, .ref bs, .ref fa, .ref bf, .int bh, .int ev])), (tx9, .inl (cI, 96, .inl (f4)))] H := hP
      have hD : va_D A [(hm, .inr (5, [.int 0, .int lo9, .int hi8, .int (nI 1), .int (nI (iw i)), .long (lN b), .int (nI ((((sgn (b / 2 ^ (FB i + EB i) % 2) (kdo i (b / 2 ^ FB i % 2 ^ EB i) (b % 2 ^ FB i))) ++ [48]) ++ [120]) ++ [c8]).length), .ref tx9, .ref un, .ref ro, .ref nu, .ref be, .ref ab, .ref tr, .ref bs, .ref fa, .ref bf, .int bh, .int ev])), (tx9, .inl (cI, 96, .inl (f4)))] := hD
      refine lv_aload_n hx hb d_Mo_printHex_72 rfl (lv_at hl 1 rfl) ?_
      refine lv_bipush (v := 46) hx hb d_Mo_printHex_73 (by decide) ?_
      refine pw_callv (wc := [(hm, .inr (5, [.int 0, .int lo9, .int hi8, .int (nI 1), .int (nI (iw i)), .long (lN b), .int (nI ((((sgn (b / 2 ^ (FB i + EB i) % 2) (kdo i (b / 2 ^ FB i % 2 ^ EB i) (b % 2 ^ FB i))) ++ [48]) ++ [120]) ++ [c8]).length), .ref tx9, .ref un, .ref ro, .ref nu, .ref be, .ref ab, .ref tr, .ref bs, .ref fa, .ref bf, .int bh, .int ev])), (tx9, .inl (cI, 96, .inl (f4)))]) (wr := []) [0, 1] [] rfl rfl rfl (by decide) (by decide) (by decide) hP hD hS hA (fun hPc hDc hF => va_runV (As := [.int 46]) (rest := []) ⟨hx, hb, hml, hown, hts⟩ (c_Mo_put l dC dI H.size hm tx9 un ro nu be ab tr bs fa bf 0 lo9 hi8 (nI 1) (nI (iw i)) bh ev (lN b) cI f4 ((((sgn (b / 2 ^ (FB i + EB i) % 2) (kdo i (b / 2 ^ FB i % 2 ^ EB i) (b % 2 ^ FB i))) ++ [48]) ++ [120]) ++ [c8]) 46 hf4 (by simp only [List.length_append, List.length_singleton]; omega)) (cwV 1 hts (gw_V (gw_self cod_Mo_put) ml_Mo_143 im_Mo_put sel_Mo_put ini_Mo) rfl rfl rfl (by decide +kernel) ⟨Nat.le_of_ble_eq_true rfl, Nat.le_of_ble_eq_true rfl⟩) (pw_preV pw_0_ok (trivial : pw_0 A s s.heap) hS hF hPc hDc (hK.sub [0] rfl) (va_recv hK hPc (ci := 5) (q0 := 0) rfl rfl)) rfl rfl hl.1 rfl (lv_room (Nat.le_of_ble_eq_true rfl)) d_Mo_printHex_75 ⟨Nat.le_of_ble_eq_true rfl, Nat.le_of_ble_eq_true rfl⟩) (fun f5 H locs hf5 hK1 hP hD hS => ?_)
      have hP : va_P (dC, dI) cls [(hm, .inr (5, [.int 0, .int lo9, .int hi8, .int (nI 1), .int (nI (iw i)), .long (lN b), .int (nI (((((sgn (b / 2 ^ (FB i + EB i) % 2) (kdo i (b / 2 ^ FB i % 2 ^ EB i) (b % 2 ^ FB i))) ++ [48]) ++ [120]) ++ [c8]) ++ [46]).length), .ref tx9, .ref un, .ref ro, .ref nu, .ref be, .ref ab, .ref tr, .ref bs, .ref fa, .ref bf, .int bh, .int ev])), (tx9, .inl (cI, 96, .inl (f5)))] H := hP
      have hD : va_D A [(hm, .inr (5, [.int 0, .int lo9, .int hi8, .int (nI 1), .int (nI (iw i)), .long (lN b), .int (nI (((((sgn (b / 2 ^ (FB i + EB i) % 2) (kdo i (b / 2 ^ FB i % 2 ^ EB i) (b % 2 ^ FB i))) ++ [48]) ++ [120]) ++ [c8]) ++ [46]).length), .ref tx9, .ref un, .ref ro, .ref nu, .ref be, .ref ab, .ref tr, .ref bs, .ref fa, .ref bf, .int bh, .int ev])), (tx9, .inl (cI, 96, .inl (f5)))] := hD
      rw [he] at hf5 hP hD
      have hP : va_P (dC, dI) cls [(hm, .inr (5, [.int 0, .int lo9, .int hi8, .int (nI 1), .int (nI (iw i)), .long (lN b), .int (nI ((sgn (b / 2 ^ (FB i + EB i) % 2) (kdo i (b / 2 ^ FB i % 2 ^ EB i) (b % 2 ^ FB i))) ++ (cb_str.getD (if e8 = 0 then 3 else 4) [])).length), .ref tx9, .ref un, .ref ro, .ref nu, .ref be, .ref ab, .ref tr, .ref bs, .ref fa, .ref bf, .int bh, .int ev])), (tx9, .inl (cI, 96, .inl (f5)))] H := hP
      have hD : va_D A [(hm, .inr (5, [.int 0, .int lo9, .int hi8, .int (nI 1), .int (nI (iw i)), .long (lN b), .int (nI ((sgn (b / 2 ^ (FB i + EB i) % 2) (kdo i (b / 2 ^ FB i % 2 ^ EB i) (b % 2 ^ FB i))) ++ (cb_str.getD (if e8 = 0 then 3 else 4) [])).length), .ref tx9, .ref un, .ref ro, .ref nu, .ref be, .ref ab, .ref tr, .ref bs, .ref fa, .ref bf, .int bh, .int ev])), (tx9, .inl (cI, 96, .inl (f5)))] := hD
      refine lv_iload_n hx hb d_Mo_printHex_78 rfl (lv_at hl 2 rfl) ?_
      refine lv_if_eq (tgt := 89) hx hb d_Mo_printHex_79 (by decide) (fun hw9 => ?_) (fun hw9 => ?_)
      · have hi1 : i = 1 := by have := (nI_b0 (iw_le i)).mp hw9; unfold iw at this; split at this <;> omega
        have hF9 : FB i = 23 := by rw [hi1]; rfl
        have hE9 : EB i = 8 := by rw [hi1]; rfl
        have hpw : 2 ^ (4 * HX i - FB i) = 2 := by rw [hi1]; decide
        refine lv_ldc2 (v := 2) hx hb hown (hts _ kl_Mo_86) d_Mo_printHex_89 ?_
        refine lv_aload_n hx hb d_Mo_printHex_92 rfl (lv_at hl 1 rfl) ?_
        refine pw_calll (wc := [(hm, .inr (5, [.int 0, .int lo9, .int hi8, .int (nI 1), .int (nI (iw i)), .long (lN b), .int (nI ((sgn (b / 2 ^ (FB i + EB i) % 2) (kdo i (b / 2 ^ FB i % 2 ^ EB i) (b % 2 ^ FB i))) ++ (cb_str.getD (if e8 = 0 then 3 else 4) [])).length), .ref tx9, .ref un, .ref ro, .ref nu, .ref be, .ref ab, .ref tr, .ref bs, .ref fa, .ref bf, .int bh, .int ev]))]) (wr := [(tx9, .inl (cI, 96, .inl (f5)))]) [0] [1] rfl rfl rfl (by decide) (by decide) (by decide) hP hD hS hA (fun hPc hDc hF => va_runV (As := []) (rest := [.long 2]) ⟨hx, hb, hml, hown, hts⟩ (c_Mo_fraction l dC dI H.size hm tx9 un ro nu be ab tr bs fa bf 0 lo9 hi8 (nI 1) (nI ((sgn (b / 2 ^ (FB i + EB i) % 2) (kdo i (b / 2 ^ FB i % 2 ^ EB i) (b % 2 ^ FB i))) ++ (cb_str.getD (if e8 = 0 then 3 else 4) [])).length) bh ev i b hi hbb) (cwV 0 hts (gw_V (gw_self cod_Mo_fraction) ml_Mo_74 im_Mo_fraction sel_Mo_fraction ini_Mo) rfl rfl rfl (by decide +kernel) ⟨Nat.le_of_ble_eq_true rfl, Nat.le_of_ble_eq_true rfl⟩) (pw_preV pw_0_ok (trivial : pw_0 A s s.heap) hS hF hPc hDc (hK.sub [] rfl) (va_recv hK hPc (ci := 5) (q0 := 0) rfl rfl)) rfl rfl hl.1 rfl (lv_room (Nat.le_of_ble_eq_true rfl)) d_Mo_printHex_93 ⟨Nat.le_of_ble_eq_true rfl, Nat.le_of_ble_eq_true rfl⟩) (fun r7 u7 H locs hw7 hK1 hP hD hS => ?_)
        have hP : va_P (dC, dI) cls [(hm, .inr (5, [.int 0, .int lo9, .int hi8, .int (nI 1), .int (nI (iw i)), .long (lN b), .int (nI ((sgn (b / 2 ^ (FB i + EB i) % 2) (kdo i (b / 2 ^ FB i % 2 ^ EB i) (b % 2 ^ FB i))) ++ (cb_str.getD (if e8 = 0 then 3 else 4) [])).length), .ref tx9, .ref un, .ref ro, .ref nu, .ref be, .ref ab, .ref tr, .ref bs, .ref fa, .ref bf, .int bh, .int ev])), (tx9, .inl (cI, 96, .inl (f5)))] H := hP.sub [1, 0] rfl
        have hD : va_D A [(hm, .inr (5, [.int 0, .int lo9, .int hi8, .int (nI 1), .int (nI (iw i)), .long (lN b), .int (nI ((sgn (b / 2 ^ (FB i + EB i) % 2) (kdo i (b / 2 ^ FB i % 2 ^ EB i) (b % 2 ^ FB i))) ++ (cb_str.getD (if e8 = 0 then 3 else 4) [])).length), .ref tx9, .ref un, .ref ro, .ref nu, .ref be, .ref ab, .ref tr, .ref bs, .ref fa, .ref bf, .int bh, .int ev])), (tx9, .inl (cI, 96, .inl (f5)))] := hD.sub [1, 0] (by decide) rfl
        subst hw7
        refine lv_lmul hx hb d_Mo_printHex_96 ?_
        refine lv_topl (fun x_35 e_36 => ?_)
        obtain rfl : x_35 = lN q8 := e_36.trans ((lN_mul 2 _).trans (congrArg lN (by rw [hq8, hpw]; exact Nat.mul_comm _ _)))
        exact k97 f5 H _ ls hf5 hP hD hS hl
      · have hi1 : i = 0 := by have := mt (nI_b0 (iw_le i)).mpr hw9; unfold iw at this; split at this <;> omega
        have hF9 : FB i = 52 := by rw [hi1]; rfl
        have hE9 : EB i = 11 := by rw [hi1]; rfl
        have hpw : 2 ^ (4 * HX i - FB i) = 1 := by rw [hi1]; decide
        refine lv_aload_n hx hb d_Mo_printHex_82 rfl (lv_at hl 1 rfl) ?_
        refine pw_calll (wc := [(hm, .inr (5, [.int 0, .int lo9, .int hi8, .int (nI 1), .int (nI (iw i)), .long (lN b), .int (nI ((sgn (b / 2 ^ (FB i + EB i) % 2) (kdo i (b / 2 ^ FB i % 2 ^ EB i) (b % 2 ^ FB i))) ++ (cb_str.getD (if e8 = 0 then 3 else 4) [])).length), .ref tx9, .ref un, .ref ro, .ref nu, .ref be, .ref ab, .ref tr, .ref bs, .ref fa, .ref bf, .int bh, .int ev]))]) (wr := [(tx9, .inl (cI, 96, .inl (f5)))]) [0] [1] rfl rfl rfl (by decide) (by decide) (by decide) hP hD hS hA (fun hPc hDc hF => va_runV (As := []) (rest := []) ⟨hx, hb, hml, hown, hts⟩ (c_Mo_fraction l dC dI H.size hm tx9 un ro nu be ab tr bs fa bf 0 lo9 hi8 (nI 1) (nI ((sgn (b / 2 ^ (FB i + EB i) % 2) (kdo i (b / 2 ^ FB i % 2 ^ EB i) (b % 2 ^ FB i))) ++ (cb_str.getD (if e8 = 0 then 3 else 4) [])).length) bh ev i b hi hbb) (cwV 0 hts (gw_V (gw_self cod_Mo_fraction) ml_Mo_74 im_Mo_fraction sel_Mo_fraction ini_Mo) rfl rfl rfl (by decide +kernel) ⟨Nat.le_of_ble_eq_true rfl, Nat.le_of_ble_eq_true rfl⟩) (pw_preV pw_0_ok (trivial : pw_0 A s s.heap) hS hF hPc hDc (hK.sub [] rfl) (va_recv hK hPc (ci := 5) (q0 := 0) rfl rfl)) rfl rfl hl.1 rfl (lv_room (Nat.le_of_ble_eq_true rfl)) d_Mo_printHex_83 ⟨Nat.le_of_ble_eq_true rfl, Nat.le_of_ble_eq_true rfl⟩) (fun r7 u7 H locs hw7 hK1 hP hD hS => ?_)
        have hP : va_P (dC, dI) cls [(hm, .inr (5, [.int 0, .int lo9, .int hi8, .int (nI 1), .int (nI (iw i)), .long (lN b), .int (nI ((sgn (b / 2 ^ (FB i + EB i) % 2) (kdo i (b / 2 ^ FB i % 2 ^ EB i) (b % 2 ^ FB i))) ++ (cb_str.getD (if e8 = 0 then 3 else 4) [])).length), .ref tx9, .ref un, .ref ro, .ref nu, .ref be, .ref ab, .ref tr, .ref bs, .ref fa, .ref bf, .int bh, .int ev])), (tx9, .inl (cI, 96, .inl (f5)))] H := hP.sub [1, 0] rfl
        have hD : va_D A [(hm, .inr (5, [.int 0, .int lo9, .int hi8, .int (nI 1), .int (nI (iw i)), .long (lN b), .int (nI ((sgn (b / 2 ^ (FB i + EB i) % 2) (kdo i (b / 2 ^ FB i % 2 ^ EB i) (b % 2 ^ FB i))) ++ (cb_str.getD (if e8 = 0 then 3 else 4) [])).length), .ref tx9, .ref un, .ref ro, .ref nu, .ref be, .ref ab, .ref tr, .ref bs, .ref fa, .ref bf, .int bh, .int ev])), (tx9, .inl (cI, 96, .inl (f5)))] := hD.sub [1, 0] (by decide) rfl
        subst hw7
        refine lv_topl (fun x_37 e_38 => ?_)
        obtain rfl : x_37 = lN q8 := e_38.trans (by rw [hq8, hpw, Nat.mul_one])
        refine lv_goto (tgt := 97) hx hb d_Mo_printHex_86 (by decide) ?_
        exact k97 f5 H _ ls hf5 hP hD hS hl
    have hP : va_P (dC, dI) cls [(hm, .inr (5, [.int 0, .int lo9, .int hi8, .int (nI 1), .int (nI (iw i)), .long (lN b), .int (nI (sgn (b / 2 ^ (FB i + EB i) % 2) (kdo i (b / 2 ^ FB i % 2 ^ EB i) (b % 2 ^ FB i))).length), .ref tx9, .ref un, .ref ro, .ref nu, .ref be, .ref ab, .ref tr, .ref bs, .ref fa, .ref bf, .int bh, .int ev])), (tx9, .inl (cI, 96, .inl (f3)))] H := hP
    have hD : va_D A [(hm, .inr (5, [.int 0, .int lo9, .int hi8, .int (nI 1), .int (nI (iw i)), .long (lN b), .int (nI (sgn (b / 2 ^ (FB i + EB i) % 2) (kdo i (b / 2 ^ FB i % 2 ^ EB i) (b % 2 ^ FB i))).length), .ref tx9, .ref un, .ref ro, .ref nu, .ref be, .ref ab, .ref tr, .ref bs, .ref fa, .ref bf, .int bh, .int ev])), (tx9, .inl (cI, 96, .inl (f3)))] := hD
    refine lv_aload_n hx hb d_Mo_printHex_38 rfl (lv_at hl 0 rfl) ?_
    refine pw_calli (wc := [(hm, .inr (5, [.int 0, .int lo9, .int hi8, .int (nI 1), .int (nI (iw i)), .long (lN b), .int (nI (sgn (b / 2 ^ (FB i + EB i) % 2) (kdo i (b / 2 ^ FB i % 2 ^ EB i) (b % 2 ^ FB i))).length), .ref tx9, .ref un, .ref ro, .ref nu, .ref be, .ref ab, .ref tr, .ref bs, .ref fa, .ref bf, .int bh, .int ev]))]) (wr := [(tx9, .inl (cI, 96, .inl (f3)))]) [0] [1] rfl rfl rfl (by decide) (by decide) (by decide) hP hD hS hA (fun hPc hDc hF => va_runV (As := []) (rest := []) ⟨hx, hb, hml, hown, hts⟩ (c_Mo_exponent l dC dI H.size hm tx9 un ro nu be ab tr bs fa bf 0 lo9 hi8 (nI 1) (nI (sgn (b / 2 ^ (FB i + EB i) % 2) (kdo i (b / 2 ^ FB i % 2 ^ EB i) (b % 2 ^ FB i))).length) bh ev i b hi hbb) (cwV 0 hts (gw_V (gw_self cod_Mo_exponent) ml_Mo_63 im_Mo_exponent sel_Mo_exponent ini_Mo) rfl rfl rfl (by decide +kernel) ⟨Nat.le_of_ble_eq_true rfl, Nat.le_of_ble_eq_true rfl⟩) (pw_preV pw_0_ok (trivial : pw_0 A s s.heap) hS hF hPc hDc (hK.sub [] rfl) (va_recv hK hPc (ci := 5) (q0 := 0) rfl rfl)) rfl rfl hl.1 rfl (lv_room (Nat.le_of_ble_eq_true rfl)) d_Mo_printHex_39 ⟨Nat.le_of_ble_eq_true rfl, Nat.le_of_ble_eq_true rfl⟩) (fun r6 u6 H locs hw6 hK1 hP hD hS => ?_)
    have hP : va_P (dC, dI) cls [(hm, .inr (5, [.int 0, .int lo9, .int hi8, .int (nI 1), .int (nI (iw i)), .long (lN b), .int (nI (sgn (b / 2 ^ (FB i + EB i) % 2) (kdo i (b / 2 ^ FB i % 2 ^ EB i) (b % 2 ^ FB i))).length), .ref tx9, .ref un, .ref ro, .ref nu, .ref be, .ref ab, .ref tr, .ref bs, .ref fa, .ref bf, .int bh, .int ev])), (tx9, .inl (cI, 96, .inl (f3)))] H := hP.sub [1, 0] rfl
    have hD : va_D A [(hm, .inr (5, [.int 0, .int lo9, .int hi8, .int (nI 1), .int (nI (iw i)), .long (lN b), .int (nI (sgn (b / 2 ^ (FB i + EB i) % 2) (kdo i (b / 2 ^ FB i % 2 ^ EB i) (b % 2 ^ FB i))).length), .ref tx9, .ref un, .ref ro, .ref nu, .ref be, .ref ab, .ref tr, .ref bs, .ref fa, .ref bf, .int bh, .int ev])), (tx9, .inl (cI, 96, .inl (f3)))] := hD.sub [1, 0] (by decide) rfl
    subst hw6
    refine lv_topi (fun x_39 e_40 => ?_)
    obtain rfl : x_39 = nI e8 := e_40.trans (by rw [he8])
    refine lv_istore (lv' := [(4, .int (nI e8)), (0, .ref hm), (1, .int (nI (iw i))), (2, .long (lN b))]) hx hb d_Mo_printHex_42 hl (by decide) rfl (fun ls hl => ?_)
    refine lv_aload_n hx hb d_Mo_printHex_44 rfl (lv_at hl 1 rfl) ?_
    refine lv_bipush (v := 48) hx hb d_Mo_printHex_45 (by decide) ?_
    refine pw_callv (wc := [(hm, .inr (5, [.int 0, .int lo9, .int hi8, .int (nI 1), .int (nI (iw i)), .long (lN b), .int (nI (sgn (b / 2 ^ (FB i + EB i) % 2) (kdo i (b / 2 ^ FB i % 2 ^ EB i) (b % 2 ^ FB i))).length), .ref tx9, .ref un, .ref ro, .ref nu, .ref be, .ref ab, .ref tr, .ref bs, .ref fa, .ref bf, .int bh, .int ev])), (tx9, .inl (cI, 96, .inl (f3)))]) (wr := []) [0, 1] [] rfl rfl rfl (by decide) (by decide) (by decide) hP hD hS hA (fun hPc hDc hF => va_runV (As := [.int 48]) (rest := []) ⟨hx, hb, hml, hown, hts⟩ (c_Mo_put l dC dI H.size hm tx9 un ro nu be ab tr bs fa bf 0 lo9 hi8 (nI 1) (nI (iw i)) bh ev (lN b) cI f3 (sgn (b / 2 ^ (FB i + EB i) % 2) (kdo i (b / 2 ^ FB i % 2 ^ EB i) (b % 2 ^ FB i))) 48 htx3 (by omega)) (cwV 1 hts (gw_V (gw_self cod_Mo_put) ml_Mo_143 im_Mo_put sel_Mo_put ini_Mo) rfl rfl rfl (by decide +kernel) ⟨Nat.le_of_ble_eq_true rfl, Nat.le_of_ble_eq_true rfl⟩) (pw_preV pw_0_ok (trivial : pw_0 A s s.heap) hS hF hPc hDc (hK.sub [0] rfl) (va_recv hK hPc (ci := 5) (q0 := 0) rfl rfl)) rfl rfl hl.1 rfl (lv_room (Nat.le_of_ble_eq_true rfl)) d_Mo_printHex_47 ⟨Nat.le_of_ble_eq_true rfl, Nat.le_of_ble_eq_true rfl⟩) (fun f6 H locs hf6 hK1 hP hD hS => ?_)
    have hP : va_P (dC, dI) cls [(hm, .inr (5, [.int 0, .int lo9, .int hi8, .int (nI 1), .int (nI (iw i)), .long (lN b), .int (nI ((sgn (b / 2 ^ (FB i + EB i) % 2) (kdo i (b / 2 ^ FB i % 2 ^ EB i) (b % 2 ^ FB i))) ++ [48]).length), .ref tx9, .ref un, .ref ro, .ref nu, .ref be, .ref ab, .ref tr, .ref bs, .ref fa, .ref bf, .int bh, .int ev])), (tx9, .inl (cI, 96, .inl (f6)))] H := hP
    have hD : va_D A [(hm, .inr (5, [.int 0, .int lo9, .int hi8, .int (nI 1), .int (nI (iw i)), .long (lN b), .int (nI ((sgn (b / 2 ^ (FB i + EB i) % 2) (kdo i (b / 2 ^ FB i % 2 ^ EB i) (b % 2 ^ FB i))) ++ [48]).length), .ref tx9, .ref un, .ref ro, .ref nu, .ref be, .ref ab, .ref tr, .ref bs, .ref fa, .ref bf, .int bh, .int ev])), (tx9, .inl (cI, 96, .inl (f6)))] := hD
    refine lv_aload_n hx hb d_Mo_printHex_50 rfl (lv_at hl 1 rfl) ?_
    refine lv_bipush (v := 120) hx hb d_Mo_printHex_51 (by decide) ?_
    refine pw_callv (wc := [(hm, .inr (5, [.int 0, .int lo9, .int hi8, .int (nI 1), .int (nI (iw i)), .long (lN b), .int (nI ((sgn (b / 2 ^ (FB i + EB i) % 2) (kdo i (b / 2 ^ FB i % 2 ^ EB i) (b % 2 ^ FB i))) ++ [48]).length), .ref tx9, .ref un, .ref ro, .ref nu, .ref be, .ref ab, .ref tr, .ref bs, .ref fa, .ref bf, .int bh, .int ev])), (tx9, .inl (cI, 96, .inl (f6)))]) (wr := []) [0, 1] [] rfl rfl rfl (by decide) (by decide) (by decide) hP hD hS hA (fun hPc hDc hF => va_runV (As := [.int 120]) (rest := []) ⟨hx, hb, hml, hown, hts⟩ (c_Mo_put l dC dI H.size hm tx9 un ro nu be ab tr bs fa bf 0 lo9 hi8 (nI 1) (nI (iw i)) bh ev (lN b) cI f6 ((sgn (b / 2 ^ (FB i + EB i) % 2) (kdo i (b / 2 ^ FB i % 2 ^ EB i) (b % 2 ^ FB i))) ++ [48]) 120 hf6 (by simp only [List.length_append, List.length_singleton]; omega)) (cwV 1 hts (gw_V (gw_self cod_Mo_put) ml_Mo_143 im_Mo_put sel_Mo_put ini_Mo) rfl rfl rfl (by decide +kernel) ⟨Nat.le_of_ble_eq_true rfl, Nat.le_of_ble_eq_true rfl⟩) (pw_preV pw_0_ok (trivial : pw_0 A s s.heap) hS hF hPc hDc (hK.sub [0] rfl) (va_recv hK hPc (ci := 5) (q0 := 0) rfl rfl)) rfl rfl hl.1 rfl (lv_room (Nat.le_of_ble_eq_true rfl)) d_Mo_printHex_53 ⟨Nat.le_of_ble_eq_true rfl, Nat.le_of_ble_eq_true rfl⟩) (fun f7 H locs hf7 hK1 hP hD hS => ?_)
    have hP : va_P (dC, dI) cls [(hm, .inr (5, [.int 0, .int lo9, .int hi8, .int (nI 1), .int (nI (iw i)), .long (lN b), .int (nI (((sgn (b / 2 ^ (FB i + EB i) % 2) (kdo i (b / 2 ^ FB i % 2 ^ EB i) (b % 2 ^ FB i))) ++ [48]) ++ [120]).length), .ref tx9, .ref un, .ref ro, .ref nu, .ref be, .ref ab, .ref tr, .ref bs, .ref fa, .ref bf, .int bh, .int ev])), (tx9, .inl (cI, 96, .inl (f7)))] H := hP
    have hD : va_D A [(hm, .inr (5, [.int 0, .int lo9, .int hi8, .int (nI 1), .int (nI (iw i)), .long (lN b), .int (nI (((sgn (b / 2 ^ (FB i + EB i) % 2) (kdo i (b / 2 ^ FB i % 2 ^ EB i) (b % 2 ^ FB i))) ++ [48]) ++ [120]).length), .ref tx9, .ref un, .ref ro, .ref nu, .ref be, .ref ab, .ref tr, .ref bs, .ref fa, .ref bf, .int bh, .int ev])), (tx9, .inl (cI, 96, .inl (f7)))] := hD
    refine lv_aload_n hx hb d_Mo_printHex_56 rfl (lv_at hl 1 rfl) ?_
    refine lv_iload hx hb d_Mo_printHex_57 (lv_at hl 0 rfl) ?_
    refine lv_if_le (tgt := 67) hx hb d_Mo_printHex_59 (by decide) (fun g1 => ?_) (fun g1 => ?_)
    · have h0 : e8 = 0 := by have := (nI_leI (a := e8) (b := 0) (by omega) (by omega)).mp g1; omega
      refine lv_bipush (v := 48) hx hb d_Mo_printHex_67 (by decide) ?_
      exact k69 48 f7 H _ ls hf7 (by rw [if_pos h0]; simp only [List.append_assoc]; rfl) hP hD hS (lv_sub hl [0, 1, 2] rfl)
    · have h0 : e8 ≠ 0 := by have := mt (nI_leI (a := e8) (b := 0) (by omega) (by omega)).mpr g1; omega
      refine lv_bipush (v := 49) hx hb d_Mo_printHex_62 (by decide) ?_
      refine lv_goto (tgt := 69) hx hb d_Mo_printHex_64 (by decide) ?_
      exact k69 49 f7 H _ ls hf7 (by rw [if_neg h0]; simp only [List.append_assoc]; rfl) hP hD hS (lv_sub hl [0, 1, 2] rfl)
  · have hk4 : (kdo i (b / 2 ^ FB i % 2 ^ EB i) (b % 2 ^ FB i)) ≠ 4 := by intro g; rw [if_neg (by omega)] at g0; exact g0 rfl
    have htxe : ([] ++ (sgn (b / 2 ^ (FB i + EB i) % 2) (kdo i (b / 2 ^ FB i % 2 ^ EB i) (b % 2 ^ FB i)) ++ (if (kdo i (b / 2 ^ FB i % 2 ^ EB i) (b % 2 ^ FB i)) = 4 then [] else cb_str.getD (if (kdo i (b / 2 ^ FB i % 2 ^ EB i) (b % 2 ^ FB i)) = 1 then 1 else if (kdo i (b / 2 ^ FB i % 2 ^ EB i) (b % 2 ^ FB i)) = 2 then 2 else if 1 = 1 then 5 else 0) []))) = (sgn (b / 2 ^ (FB i + EB i) % 2) (kdo i (b / 2 ^ FB i % 2 ^ EB i) (b % 2 ^ FB i)) ++ (if (kdo i (b / 2 ^ FB i % 2 ^ EB i) (b % 2 ^ FB i)) = 4 then htxt i b else cb_str.getD (if (kdo i (b / 2 ^ FB i % 2 ^ EB i) (b % 2 ^ FB i)) = 1 then 1 else if (kdo i (b / 2 ^ FB i % 2 ^ EB i) (b % 2 ^ FB i)) = 2 then 2 else 5) [])) := by rw [if_neg hk4, if_neg hk4]; rfl
    rw [htxe] at htx3 hP hD
    have hP : va_P (dC, dI) cls [(hm, .inr (5, [.int 0, .int lo9, .int hi8, .int (nI 1), .int (nI (iw i)), .long (lN b), .int (nI (sgn (b / 2 ^ (FB i + EB i) % 2) (kdo i (b / 2 ^ FB i % 2 ^ EB i) (b % 2 ^ FB i)) ++ (if (kdo i (b / 2 ^ FB i % 2 ^ EB i) (b % 2 ^ FB i)) = 4 then htxt i b else cb_str.getD (if (kdo i (b / 2 ^ FB i % 2 ^ EB i) (b % 2 ^ FB i)) = 1 then 1 else if (kdo i (b / 2 ^ FB i % 2 ^ EB i) (b % 2 ^ FB i)) = 2 then 2 else 5) [])).length), .ref tx9, .ref un, .ref ro, .ref nu, .ref be, .ref ab, .ref tr, .ref bs, .ref fa, .ref bf, .int bh, .int ev])), (tx9, .inl (cI, 96, .inl (f3)))] H := hP
    have hD : va_D A [(hm, .inr (5, [.int 0, .int lo9, .int hi8, .int (nI 1), .int (nI (iw i)), .long (lN b), .int (nI (sgn (b / 2 ^ (FB i + EB i) % 2) (kdo i (b / 2 ^ FB i % 2 ^ EB i) (b % 2 ^ FB i)) ++ (if (kdo i (b / 2 ^ FB i % 2 ^ EB i) (b % 2 ^ FB i)) = 4 then htxt i b else cb_str.getD (if (kdo i (b / 2 ^ FB i % 2 ^ EB i) (b % 2 ^ FB i)) = 1 then 1 else if (kdo i (b / 2 ^ FB i % 2 ^ EB i) (b % 2 ^ FB i)) = 2 then 2 else 5) [])).length), .ref tx9, .ref un, .ref ro, .ref nu, .ref be, .ref ab, .ref tr, .ref bs, .ref fa, .ref bf, .int bh, .int ev])), (tx9, .inl (cI, 96, .inl (f3)))] := hD
    refine lv_aload_n hx hb d_Mo_printHex_33 rfl (lv_at hl 0 rfl) ?_
    refine va_get (D := (dC, dI)) (ci := 5) (v := .int (nI (sgn (b / 2 ^ (FB i + EB i) % 2) (kdo i (b / 2 ^ FB i % 2 ^ EB i) (b % 2 ^ FB i)) ++ (if (kdo i (b / 2 ^ FB i % 2 ^ EB i) (b % 2 ^ FB i)) = 4 then htxt i b else cb_str.getD (if (kdo i (b / 2 ^ FB i % 2 ^ EB i) (b % 2 ^ FB i)) = 1 then 1 else if (kdo i (b / 2 ^ FB i % 2 ^ EB i) (b % 2 ^ FB i)) = 2 then 2 else 5) [])).length)) (C := R_Mo) (T := F_Mo) (N := 19) hx hb hts i_Mo hown hK hP 0 rfl rfl 6 (by decide) (hts _ fl_Mo_140) (fun _ h9 => h9) rfl d_Mo_printHex_34 ?_
    exact hret _ _ _ _ _ f3 d_Mo_printHex_37 (vp_nar_int _) ⟨rfl, htx3⟩ hP hK hD hS

set_option maxHeartbeats 4000000 in
set_option maxRecDepth 100000 in
theorem c_Mo_putNumber (l : Launch) (dC : Nat → ClassId) (dI : Nat → Nat → Nat) (sz : Nat) (hm tx9 un ro nu be ab tr bs fa bf : Nat) (th lo9 hi8 pr wd bh ev : Int32) (la : Int64) (cI : ClassId) (f : Nat → Int32) (t : List Nat) (z : Int)  (htx : tx f t) (htl : t.length + 5 ≤ 96) (hz1 : -10000 < z) (hz2 : z < 10000) : Met l y_Mo_putNumber (Cond.code y_Mo_putNumber b_Mo_putNumber 4 none :: gT) ({ frames := 1, cells := 0, slots := 0, locals := 21 }) (va_Pc [.ref hm, .int (iZ z)] (pw_P (dC, dI) cls [(cI, .int)] pw_0 [(hm, .inr (5, [.int th, .int lo9, .int hi8, .int pr, .int wd, .long la, .int (nI t.length), .ref tx9, .ref un, .ref ro, .ref nu, .ref be, .ref ab, .ref tr, .ref bs, .ref fa, .ref bf, .int bh, .int ev])), (tx9, .inl (cI, 96, .inl (f)))] sz)) (va_Qv (fun (f2 : Nat → Int32) => tx f2 (t ++ dwz z)) (fun (f2 : Nat → Int32) => pw_B (dC, dI) cls [(cI, .int)] (va_A [(hm, .inr (5, [.int th, .int lo9, .int hi8, .int pr, .int wd, .long la, .int (nI t.length), .ref tx9, .ref un, .ref ro, .ref nu, .ref be, .ref ab, .ref tr, .ref bs, .ref fa, .ref bf, .int bh, .int ev])), (tx9, .inl (cI, 96, .inl (f)))] sz) [(hm, .inr (5, [.int th, .int lo9, .int hi8, .int pr, .int wd, .long la, .int (nI (t ++ dwz z).length), .ref tx9, .ref un, .ref ro, .ref nu, .ref be, .ref ab, .ref tr, .ref bs, .ref fa, .ref bf, .int bh, .int ev])), (tx9, .inl (cI, 96, .inl (f2)))]) (va_A [(hm, .inr (5, [.int th, .int lo9, .int hi8, .int pr, .int wd, .long la, .int (nI t.length), .ref tx9, .ref un, .ref ro, .ref nu, .ref be, .ref ab, .ref tr, .ref bs, .ref fa, .ref bf, .int bh, .int ev])), (tx9, .inl (cI, 96, .inl (f)))] sz)) 0 0 (va_A [(hm, .inr (5, [.int th, .int lo9, .int hi8, .int pr, .int wd, .long la, .int (nI t.length), .ref tx9, .ref un, .ref ro, .ref nu, .ref be, .ref ab, .ref tr, .ref bs, .ref fa, .ref bf, .int bh, .int ev])), (tx9, .inl (cI, 96, .inl (f)))] sz) := by
  refine pw_metv (tn := fun (f2 : Nat → Int32) => [(cI, .int)]) (wn := fun (f2 : Nat → Int32) => [(hm, .inr (5, [.int th, .int lo9, .int hi8, .int pr, .int wd, .long la, .int (nI (t ++ dwz z).length), .ref tx9, .ref un, .ref ro, .ref nu, .ref be, .ref ab, .ref tr, .ref bs, .ref fa, .ref bf, .int bh, .int ev])), (tx9, .inl (cI, 96, .inl (f2)))]) (by decide) (Nat.le_of_ble_eq_true rfl) ?_
  intro p e s m args below meth c A Q H ls hx hb hml hown hts hnm hA hE hP hK hD hS hret hl
  have hown : s.vm.findClass R_Mo = some m.cls := hown
  have hl : lv_has ls 4 [(0, .ref hm), (1, .int (iZ z))] := hl
  obtain ⟨n7, hn7⟩ : ∃ n7, n7 = z.natAbs := ⟨_, rfl⟩
  have bb : ∀ (k : Nat) (f : Nat → Int32) (tt : List Nat) (H : Heap) (locs : List Loc) (ls : Array Slot), k ≤ 3 → tx f tt → tt.length + k < 96 → tt ++ dwk n7 k = t ++ dwz z → va_P (dC, dI) cls [(hm, .inr (5, [.int th, .int lo9, .int hi8, .int pr, .int wd, .long la, .int (nI tt.length), .ref tx9, .ref un, .ref ro, .ref nu, .ref be, .ref ab, .ref tr, .ref bs, .ref fa, .ref bf, .int bh, .int ev])), (tx9, .inl (cI, 96, .inl (f)))] H → va_D A [(hm, .inr (5, [.int th, .int lo9, .int hi8, .int pr, .int wd, .long la, .int (nI tt.length), .ref tx9, .ref un, .ref ro, .ref nu, .ref be, .ref ab, .ref tr, .ref bs, .ref fa, .ref bf, .int bh, .int ev])), (tx9, .inl (cI, 96, .inl (f)))] → va_S A s.heap H locs → lv_has ls 4 [(3, .int (nI (10 ^ k))), (2, .int (nI n7)), (0, .ref hm), (1, .int (iZ z))] → W p l e { frames := 1, cells := 0, slots := 0, locals := 21 } s m args below meth c H locs 0 0 Q (F0 m 39 ls []) := by
    intro k
    induction k with
    | zero =>
      intro f tt H locs ls hk htt hlt he hP hD hS hl
      have hp : 0 < 10 ^ 0 := Nat.pow_pos (by decide)
      have hp3 : 10 ^ 0 ≤ 10 ^ 3 := Nat.pow_le_pow_right (by decide) (by omega)
      refine lv_iload_n hx hb d_Mo_putNumber_39 rfl (lv_at hl 0 rfl) ?_
      refine lv_if_le (tgt := 64) hx hb d_Mo_putNumber_40 (by decide) (fun g0 => ?_) (fun g0 => ?_)
      · exact absurd ((nI_leI (a := 10 ^ 0) (b := 0) (by omega) (by omega)).mp g0) (by omega)
      · refine lv_aload_n hx hb d_Mo_putNumber_43 rfl (lv_at hl 2 rfl) ?_
        refine lv_bipush (v := 48) hx hb d_Mo_putNumber_44 (by decide) ?_
        refine lv_iload_n hx hb d_Mo_putNumber_46 rfl (lv_at hl 1 rfl) ?_
        refine lv_iload_n hx hb d_Mo_putNumber_47 rfl (lv_at hl 0 rfl) ?_
        refine lv_idiv hx hb d_Mo_putNumber_48 (nI_ne0 hp (by omega)) ?_
        refine lv_topi (fun x_1 e_2 => ?_)
        obtain rfl : x_1 = nI (n7 / 10 ^ 0) := e_2.trans (pk_div (by omega) hp (by omega))
        refine lv_bipush (v := 10) hx hb d_Mo_putNumber_49 (by decide) ?_
        refine lv_irem hx hb d_Mo_putNumber_51 (by decide) ?_
        refine lv_topi (fun x_3 e_4 => ?_)
        obtain rfl : x_3 = nI (n7 / 10 ^ 0 % 10) := e_4.trans (pk_rem (d := 10) (by have := Nat.div_le_self n7 (10 ^ 0); omega) (by omega) (by omega))
        refine lv_iadd hx hb d_Mo_putNumber_52 ?_
        refine lv_topi (fun x_5 e_6 => ?_)
        obtain rfl : x_5 = nI (48 + n7 / 10 ^ 0 % 10) := e_6.trans (nI_add 48 _)
        refine pw_callv (wc := [(hm, .inr (5, [.int th, .int lo9, .int hi8, .int pr, .int wd, .long la, .int (nI tt.length), .ref tx9, .ref un, .ref ro, .ref nu, .ref be, .ref ab, .ref tr, .ref bs, .ref fa, .ref bf, .int bh, .int ev])), (tx9, .inl (cI, 96, .inl (f)))]) (wr := []) [0, 1] [] rfl rfl rfl (by decide) (by decide) (by decide) hP hD hS hA (fun hPc hDc hF => va_runV (As := [.int (nI (48 + n7 / 10 ^ 0 % 10))]) (rest := []) ⟨hx, hb, hml, hown, hts⟩ (c_Mo_put l dC dI H.size hm tx9 un ro nu be ab tr bs fa bf th lo9 hi8 pr wd bh ev la cI f tt (48 + n7 / 10 ^ 0 % 10) htt (by omega)) (cwV 1 hts (gw_V (gw_self cod_Mo_put) ml_Mo_143 im_Mo_put sel_Mo_put ini_Mo) rfl rfl rfl (by decide +kernel) ⟨Nat.le_of_ble_eq_true rfl, Nat.le_of_ble_eq_true rfl⟩) (pw_preV pw_0_ok (trivial : pw_0 A s s.heap) hS hF hPc hDc (hK.sub [0] rfl) (va_recv hK hPc (ci := 5) (q0 := 0) rfl rfl)) rfl rfl hl.1 rfl (lv_room (Nat.le_of_ble_eq_true rfl)) d_Mo_putNumber_53 ⟨Nat.le_of_ble_eq_true rfl, Nat.le_of_ble_eq_true rfl⟩) (fun f3 H locs hf3 hK1 hP hD hS => ?_)
        have hP : va_P (dC, dI) cls [(hm, .inr (5, [.int th, .int lo9, .int hi8, .int pr, .int wd, .long la, .int (nI (tt ++ [48 + n7 / 10 ^ 0 % 10]).length), .ref tx9, .ref un, .ref ro, .ref nu, .ref be, .ref ab, .ref tr, .ref bs, .ref fa, .ref bf, .int bh, .int ev])), (tx9, .inl (cI, 96, .inl (f3)))] H := hP
        have hD : va_D A [(hm, .inr (5, [.int th, .int lo9, .int hi8, .int pr, .int wd, .long la, .int (nI (tt ++ [48 + n7 / 10 ^ 0 % 10]).length), .ref tx9, .ref un, .ref ro, .ref nu, .ref be, .ref ab, .ref tr, .ref bs, .ref fa, .ref bf, .int bh, .int ev])), (tx9, .inl (cI, 96, .inl (f3)))] := hD
        refine lv_iload_n hx hb d_Mo_putNumber_56 rfl (lv_at hl 0 rfl) ?_
        refine lv_bipush (v := 10) hx hb d_Mo_putNumber_57 (by decide) ?_
        refine lv_idiv hx hb d_Mo_putNumber_59 (by decide) ?_
        refine lv_topi (fun x_7 e_8 => ?_)
        obtain rfl : x_7 = nI 0 := e_8.trans (by decide)
        refine lv_istore_n (lv' := [(3, .int (nI 0)), (2, .int (nI n7)), (0, .ref hm), (1, .int (iZ z))]) hx hb d_Mo_putNumber_60 rfl hl (by decide) rfl (fun ls hl => ?_)
        refine lv_goto (tgt := 39) hx hb d_Mo_putNumber_61 (by decide) ?_
        refine lv_iload_n hx hb d_Mo_putNumber_39 rfl (lv_at hl 0 rfl) ?_
        refine lv_if_le (tgt := 64) hx hb d_Mo_putNumber_40 (by decide) (fun g1 => ?_) (fun g1 => ?_)
        · have he2 : tt ++ [48 + n7 / 10 ^ 0 % 10] = t ++ dwz z := he
          rw [he2] at hf3 hP hD
          exact hret _ _ _ _ f3 d_Mo_putNumber_64 hf3 hP hK hD hS
        · exact absurd (Int32.le_refl _) g1
    | succ k ih =>
      intro f tt H locs ls hk htt hlt he hP hD hS hl
      have hp : 0 < 10 ^ (k + 1) := Nat.pow_pos (by decide)
      have hp3 : 10 ^ (k + 1) ≤ 10 ^ 3 := Nat.pow_le_pow_right (by decide) (by omega)
      refine lv_iload_n hx hb d_Mo_putNumber_39 rfl (lv_at hl 0 rfl) ?_
      refine lv_if_le (tgt := 64) hx hb d_Mo_putNumber_40 (by decide) (fun g0 => ?_) (fun g0 => ?_)
      · exact absurd ((nI_leI (a := 10 ^ (k + 1)) (b := 0) (by omega) (by omega)).mp g0) (by omega)
      · refine lv_aload_n hx hb d_Mo_putNumber_43 rfl (lv_at hl 2 rfl) ?_
        refine lv_bipush (v := 48) hx hb d_Mo_putNumber_44 (by decide) ?_
        refine lv_iload_n hx hb d_Mo_putNumber_46 rfl (lv_at hl 1 rfl) ?_
        refine lv_iload_n hx hb d_Mo_putNumber_47 rfl (lv_at hl 0 rfl) ?_
        refine lv_idiv hx hb d_Mo_putNumber_48 (nI_ne0 hp (by omega)) ?_
        refine lv_topi (fun x_9 e_10 => ?_)
        obtain rfl : x_9 = nI (n7 / 10 ^ (k + 1)) := e_10.trans (pk_div (by omega) hp (by omega))
        refine lv_bipush (v := 10) hx hb d_Mo_putNumber_49 (by decide) ?_
        refine lv_irem hx hb d_Mo_putNumber_51 (by decide) ?_
        refine lv_topi (fun x_11 e_12 => ?_)
        obtain rfl : x_11 = nI (n7 / 10 ^ (k + 1) % 10) := e_12.trans (pk_rem (d := 10) (by have := Nat.div_le_self n7 (10 ^ (k + 1)); omega) (by omega) (by omega))
        refine lv_iadd hx hb d_Mo_putNumber_52 ?_
        refine lv_topi (fun x_13 e_14 => ?_)
        obtain rfl : x_13 = nI (48 + n7 / 10 ^ (k + 1) % 10) := e_14.trans (nI_add 48 _)
        refine pw_callv (wc := [(hm, .inr (5, [.int th, .int lo9, .int hi8, .int pr, .int wd, .long la, .int (nI tt.length), .ref tx9, .ref un, .ref ro, .ref nu, .ref be, .ref ab, .ref tr, .ref bs, .ref fa, .ref bf, .int bh, .int ev])), (tx9, .inl (cI, 96, .inl (f)))]) (wr := []) [0, 1] [] rfl rfl rfl (by decide) (by decide) (by decide) hP hD hS hA (fun hPc hDc hF => va_runV (As := [.int (nI (48 + n7 / 10 ^ (k + 1) % 10))]) (rest := []) ⟨hx, hb, hml, hown, hts⟩ (c_Mo_put l dC dI H.size hm tx9 un ro nu be ab tr bs fa bf th lo9 hi8 pr wd bh ev la cI f tt (48 + n7 / 10 ^ (k + 1) % 10) htt (by omega)) (cwV 1 hts (gw_V (gw_self cod_Mo_put) ml_Mo_143 im_Mo_put sel_Mo_put ini_Mo) rfl rfl rfl (by decide +kernel) ⟨Nat.le_of_ble_eq_true rfl, Nat.le_of_ble_eq_true rfl⟩) (pw_preV pw_0_ok (trivial : pw_0 A s s.heap) hS hF hPc hDc (hK.sub [0] rfl) (va_recv hK hPc (ci := 5) (q0 := 0) rfl rfl)) rfl rfl hl.1 rfl (lv_room (Nat.le_of_ble_eq_true rfl)) d_Mo_putNumber_53 ⟨Nat.le_of_ble_eq_true rfl, Nat.le_of_ble_eq_true rfl⟩) (fun f3 H locs hf3 hK1 hP hD hS => ?_)
        have hP : va_P (dC, dI) cls [(hm, .inr (5, [.int th, .int lo9, .int hi8, .int pr, .int wd, .long la, .int (nI (tt ++ [48 + n7 / 10 ^ (k + 1) % 10]).length), .ref tx9, .ref un, .ref ro, .ref nu, .ref be, .ref ab, .ref tr, .ref bs, .ref fa, .ref bf, .int bh, .int ev])), (tx9, .inl (cI, 96, .inl (f3)))] H := hP
        have hD : va_D A [(hm, .inr (5, [.int th, .int lo9, .int hi8, .int pr, .int wd, .long la, .int (nI (tt ++ [48 + n7 / 10 ^ (k + 1) % 10]).length), .ref tx9, .ref un, .ref ro, .ref nu, .ref be, .ref ab, .ref tr, .ref bs, .ref fa, .ref bf, .int bh, .int ev])), (tx9, .inl (cI, 96, .inl (f3)))] := hD
        refine lv_iload_n hx hb d_Mo_putNumber_56 rfl (lv_at hl 0 rfl) ?_
        refine lv_bipush (v := 10) hx hb d_Mo_putNumber_57 (by decide) ?_
        refine lv_idiv hx hb d_Mo_putNumber_59 (by decide) ?_
        refine lv_topi (fun x_15 e_16 => ?_)
        obtain rfl : x_15 = nI (10 ^ k) := e_16.trans ((pk_div (d := 10) (by omega) (by omega) (by omega)).trans (by rw [Nat.pow_succ, Nat.mul_div_cancel _ (by decide)]))
        refine lv_istore_n (lv' := [(3, .int (nI (10 ^ k))), (2, .int (nI n7)), (0, .ref hm), (1, .int (iZ z))]) hx hb d_Mo_putNumber_60 rfl hl (by decide) rfl (fun ls hl => ?_)
        refine lv_goto (tgt := 39) hx hb d_Mo_putNumber_61 (by decide) ?_
        exact ih f3 (tt ++ [48 + n7 / 10 ^ (k + 1) % 10]) H _ ls (by omega) hf3 (by rw [List.length_append, List.length_singleton]; omega) (by rw [← he, dwk, List.append_assoc]; rfl) hP hD hS (lv_sub hl [0, 1, 2, 3] rfl)
  have aa : ∀ (n k : Nat) (f : Nat → Int32) (tt : List Nat) (H : Heap) (locs : List Loc) (ls : Array Slot), (4 ≤ k + n) → (k ≤ 3) → (k = 0 ∨ 10 ^ k ≤ n7) → (tx f tt) → (tt.length + 4 ≤ 96) → (tt ++ dw n7 = t ++ dwz z) → va_P (dC, dI) cls [(hm, .inr (5, [.int th, .int lo9, .int hi8, .int pr, .int wd, .long la, .int (nI tt.length), .ref tx9, .ref un, .ref ro, .ref nu, .ref be, .ref ab, .ref tr, .ref bs, .ref fa, .ref bf, .int bh, .int ev])), (tx9, .inl (cI, 96, .inl (f)))] H → va_D A [(hm, .inr (5, [.int th, .int lo9, .int hi8, .int pr, .int wd, .long la, .int (nI tt.length), .ref tx9, .ref un, .ref ro, .ref nu, .ref be, .ref ab, .ref tr, .ref bs, .ref fa, .ref bf, .int bh, .int ev])), (tx9, .inl (cI, 96, .inl (f)))] → va_S A s.heap H locs → lv_has ls 4 [(3, .int (nI (10 ^ k))), (2, .int (nI n7)), (0, .ref hm), (1, .int (iZ z))] → W p l e { frames := 1, cells := 0, slots := 0, locals := 21 } s m args below meth c H locs 0 0 Q (F0 m 23 ls []) := by
    intro n
    induction n with
    | zero => intro k f tt H locs ls hn hk hk2 htt hlt he hP hD hS hl; exact absurd hn (by omega)
    | succ n ih =>
      intro k f tt H locs ls hn hk hk2 htt hlt he hP hD hS hl
      have hp : 0 < 10 ^ k := Nat.pow_pos (by decide)
      have hp3 : 10 ^ k ≤ 10 ^ 3 := Nat.pow_le_pow_right (by decide) (by omega)
      have hdl := Nat.div_le_self n7 (10 ^ k)
      refine lv_iload_n hx hb d_Mo_putNumber_23 rfl (lv_at hl 1 rfl) ?_
      refine lv_iload_n hx hb d_Mo_putNumber_24 rfl (lv_at hl 0 rfl) ?_
      refine lv_idiv hx hb d_Mo_putNumber_25 (nI_ne0 hp (by omega)) ?_
      refine lv_topi (fun x_17 e_18 => ?_)
      obtain rfl : x_17 = nI (n7 / 10 ^ k) := e_18.trans (pk_div (by omega) hp (by omega))
      refine lv_bipush (v := 9) hx hb d_Mo_putNumber_26 (by decide) ?_
      refine lv_icmp_le (tgt := 39) hx hb d_Mo_putNumber_28 (by decide) (fun g0 => ?_) (fun g0 => ?_)
      · have h9 : n7 / 10 ^ k ≤ 9 := (nI_leI (b := 9) (by omega) (by omega)).mp g0
        have hlt9 : n7 < 10 ^ (k + 1) := by rw [Nat.pow_succ, Nat.mul_comm]; exact (Nat.div_lt_iff_lt_mul hp).mp (by omega)
        exact bb k f tt H _ ls hk htt (by omega) (by rw [dwk_dw hk hlt9 hk2]; exact he) hP hD hS hl
      · have h9 : 10 ≤ n7 / 10 ^ k := by have := mt (nI_leI (a := n7 / 10 ^ k) (b := 9) (by omega) (by omega)).mpr g0; omega
        have hge9 : 10 ^ (k + 1) ≤ n7 := by rw [Nat.pow_succ, Nat.mul_comm]; exact (Nat.le_div_iff_mul_le hp).mp h9
        have hk3 : k < 3 := by rcases Nat.lt_or_ge k 3 with g | g; exact g; rw [show k = 3 from by omega] at hge9; omega
        refine lv_bipush (v := 10) hx hb d_Mo_putNumber_31 (by decide) ?_
        refine lv_iload_n hx hb d_Mo_putNumber_33 rfl (lv_at hl 0 rfl) ?_
        refine lv_imul hx hb d_Mo_putNumber_34 ?_
        refine lv_topi (fun x_19 e_20 => ?_)
        obtain rfl : x_19 = nI (10 ^ (k + 1)) := e_20.trans ((pk_mul 10 _).trans (by rw [Nat.pow_succ, Nat.mul_comm]))
        refine lv_istore_n (lv' := [(3, .int (nI (10 ^ (k + 1)))), (2, .int (nI n7)), (0, .ref hm), (1, .int (iZ z))]) hx hb d_Mo_putNumber_35 rfl hl (by decide) rfl (fun ls hl => ?_)
        refine lv_goto (tgt := 23) hx hb d_Mo_putNumber_36 (by decide) ?_
        exact ih (k + 1) f tt H _ ls (by omega) (by omega) (Or.inr hge9) htt hlt he hP hD hS (lv_sub hl [0, 1, 2, 3] rfl)
  have k10 : ∀ (f : Nat → Int32) (tt : List Nat) (H : Heap) (locs : List Loc) (ls : Array Slot), tx f tt → tt.length + 4 ≤ 96 → tt ++ dw n7 = t ++ dwz z → va_P (dC, dI) cls [(hm, .inr (5, [.int th, .int lo9, .int hi8, .int pr, .int wd, .long la, .int (nI tt.length), .ref tx9, .ref un, .ref ro, .ref nu, .ref be, .ref ab, .ref tr, .ref bs, .ref fa, .ref bf, .int bh, .int ev])), (tx9, .inl (cI, 96, .inl (f)))] H → va_D A [(hm, .inr (5, [.int th, .int lo9, .int hi8, .int pr, .int wd, .long la, .int (nI tt.length), .ref tx9, .ref un, .ref ro, .ref nu, .ref be, .ref ab, .ref tr, .ref bs, .ref fa, .ref bf, .int bh, .int ev])), (tx9, .inl (cI, 96, .inl (f)))] → va_S A s.heap H locs → lv_has ls 4 [(0, .ref hm), (1, .int (iZ z))] → W p l e { frames := 1, cells := 0, slots := 0, locals := 21 } s m args below meth c H locs 0 0 Q (F0 m 10 ls []) := by
    intro f tt H locs ls htt hlt he hP hD hS hl
    refine lv_iload_n hx hb d_Mo_putNumber_10 rfl (lv_at hl 1 rfl) ?_
    refine lv_if_ge (tgt := 19) hx hb d_Mo_putNumber_11 (by decide) (fun g0 => ?_) (fun g0 => ?_)
    · have h0 : 0 ≤ z := (iZ_le (a := 0) (b := z) (by omega) (by omega) (by omega) (by omega)).mp g0
      refine lv_iload_n hx hb d_Mo_putNumber_19 rfl (lv_at hl 1 rfl) ?_
      refine lv_topi (fun x_21 e_22 => ?_)
      obtain rfl : x_21 = nI n7 := e_22.trans (by rw [iZ_N, hn7]; congr 1; omega)
      refine lv_istore_n (lv' := [(2, .int (nI n7)), (0, .ref hm), (1, .int (iZ z))]) hx hb d_Mo_putNumber_20 rfl hl (by decide) rfl (fun ls hl => ?_)
      refine lv_iconst (v := 1) hx hb d_Mo_putNumber_21 (by decide) ?_
      refine lv_istore_n (lv' := [(3, .int 1), (2, .int (nI n7)), (0, .ref hm), (1, .int (iZ z))]) hx hb d_Mo_putNumber_22 rfl hl (by decide) rfl (fun ls hl => ?_)
      exact aa 5 0 f tt H _ ls (by omega) (by omega) (Or.inl rfl) htt hlt he hP hD hS (lv_sub hl [0, 1, 2, 3] rfl)
    · have h0 : z < 0 := by have := mt (iZ_le (a := 0) (b := z) (by omega) (by omega) (by omega) (by omega)).mpr g0; omega
      refine lv_iload_n hx hb d_Mo_putNumber_14 rfl (lv_at hl 1 rfl) ?_
      refine lv_ineg hx hb d_Mo_putNumber_15 ?_
      refine lv_topi (fun x_23 e_24 => ?_)
      obtain rfl : x_23 = nI n7 := e_24.trans ((iZ_neg z).trans (by rw [iZ_N, hn7]; congr 1; omega))
      refine lv_goto (tgt := 20) hx hb d_Mo_putNumber_16 (by decide) ?_
      refine lv_istore_n (lv' := [(2, .int (nI n7)), (0, .ref hm), (1, .int (iZ z))]) hx hb d_Mo_putNumber_20 rfl hl (by decide) rfl (fun ls hl => ?_)
      refine lv_iconst (v := 1) hx hb d_Mo_putNumber_21 (by decide) ?_
      refine lv_istore_n (lv' := [(3, .int 1), (2, .int (nI n7)), (0, .ref hm), (1, .int (iZ z))]) hx hb d_Mo_putNumber_22 rfl hl (by decide) rfl (fun ls hl => ?_)
      exact aa 5 0 f tt H _ ls (by omega) (by omega) (Or.inl rfl) htt hlt he hP hD hS (lv_sub hl [0, 1, 2, 3] rfl)
  refine lv_iload_n hx hb d_Mo_putNumber_0 rfl (lv_at hl 1 rfl) ?_
  refine lv_if_ge (tgt := 10) hx hb d_Mo_putNumber_1 (by decide) (fun g0 => ?_) (fun g0 => ?_)
  · have h0 : ¬ z < 0 := by have := (iZ_le (a := 0) (b := z) (by omega) (by omega) (by omega) (by omega)).mp g0; omega
    exact k10 f t H _ ls htx (by omega) (by rw [dwz, if_neg h0, List.nil_append, hn7]) hP hD hS (lv_sub hl [0, 1] rfl)
  · have h0 : z < 0 := by have := mt (iZ_le (a := 0) (b := z) (by omega) (by omega) (by omega) (by omega)).mpr g0; omega
    refine lv_aload_n hx hb d_Mo_putNumber_4 rfl (lv_at hl 0 rfl) ?_
    refine lv_bipush (v := 45) hx hb d_Mo_putNumber_5 (by decide) ?_
    refine pw_callv (wc := [(hm, .inr (5, [.int th, .int lo9, .int hi8, .int pr, .int wd, .long la, .int (nI t.length), .ref tx9, .ref un, .ref ro, .ref nu, .ref be, .ref ab, .ref tr, .ref bs, .ref fa, .ref bf, .int bh, .int ev])), (tx9, .inl (cI, 96, .inl (f)))]) (wr := []) [0, 1] [] rfl rfl rfl (by decide) (by decide) (by decide) hP hD hS hA (fun hPc hDc hF => va_runV (As := [.int 45]) (rest := []) ⟨hx, hb, hml, hown, hts⟩ (c_Mo_put l dC dI H.size hm tx9 un ro nu be ab tr bs fa bf th lo9 hi8 pr wd bh ev la cI f t 45 htx (by omega)) (cwV 1 hts (gw_V (gw_self cod_Mo_put) ml_Mo_143 im_Mo_put sel_Mo_put ini_Mo) rfl rfl rfl (by decide +kernel) ⟨Nat.le_of_ble_eq_true rfl, Nat.le_of_ble_eq_true rfl⟩) (pw_preV pw_0_ok (trivial : pw_0 A s s.heap) hS hF hPc hDc (hK.sub [0] rfl) (va_recv hK hPc (ci := 5) (q0 := 0) rfl rfl)) rfl rfl hl.1 rfl (lv_room (Nat.le_of_ble_eq_true rfl)) d_Mo_putNumber_7 ⟨Nat.le_of_ble_eq_true rfl, Nat.le_of_ble_eq_true rfl⟩) (fun f3 H locs hf3 hK1 hP hD hS => ?_)
    have hP : va_P (dC, dI) cls [(hm, .inr (5, [.int th, .int lo9, .int hi8, .int pr, .int wd, .long la, .int (nI (t ++ [45]).length), .ref tx9, .ref un, .ref ro, .ref nu, .ref be, .ref ab, .ref tr, .ref bs, .ref fa, .ref bf, .int bh, .int ev])), (tx9, .inl (cI, 96, .inl (f3)))] H := hP
    have hD : va_D A [(hm, .inr (5, [.int th, .int lo9, .int hi8, .int pr, .int wd, .long la, .int (nI (t ++ [45]).length), .ref tx9, .ref un, .ref ro, .ref nu, .ref be, .ref ab, .ref tr, .ref bs, .ref fa, .ref bf, .int bh, .int ev])), (tx9, .inl (cI, 96, .inl (f3)))] := hD
    exact k10 f3 (t ++ [45]) H _ ls hf3 (by rw [List.length_append, List.length_singleton]; omega) (by rw [dwz, if_pos h0, List.append_assoc, hn7]) hP hD hS (lv_sub hl [0, 1] rfl)

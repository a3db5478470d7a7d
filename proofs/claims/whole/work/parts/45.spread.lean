set_option maxHeartbeats 4000000 in
set_option maxRecDepth 100000 in
/-- spread -/
theorem c_Mo_spread (l : Launch) (dC : Nat → ClassId) (dI : Nat → Nat → Nat) (sz : Nat) (hm tx9 un ro nu be ab tr bs fa bf : Nat) (th lo9 hi8 pr le bh ev : Int32) (cJ cI : ClassId) (i b : Nat) (V Y N0 L0 A0 : Nat)  (hi : i < 2) (hbb : b < 2 ^ 64) (hV : V < 1000000000 ^ 96) (hY : Y < 1000000000 ^ 96) (hN0 : N0 < 10 ^ 864) (hL0 : L0 < 10 ^ 864) (hA0 : A0 < 10 ^ 864) (hSp : 0 < (sgf i (b / 2 ^ FB i % 2 ^ EB i) (b % 2 ^ FB i))) : Met l y_Mo_spread (Cond.code y_Mo_spread b_Mo_spread 9 none :: gT) ({ frames := 1, cells := 0, slots := 0, locals := 32 }) (va_Pc [.ref hm] (pw_P (dC, dI) cls [(cJ, .long), (cI, .int)] pw_0 [(hm, .inr (5, [.int th, .int lo9, .int hi8, .int pr, .int (nI (iw i)), .long (lN b), .int le, .ref tx9, .ref un, .ref ro, .ref nu, .ref be, .ref ab, .ref tr, .ref bs, .ref fa, .ref bf, .int bh, .int ev])), (un, .inl (cJ, 96, .inr (.inl (gl V)))), (ro, .inl (cJ, 96, .inr (.inl (gl Y)))), (nu, .inl (cI, 864, .inl (gd N0))), (be, .inl (cI, 864, .inl (gd L0))), (ab, .inl (cI, 864, .inl (gd A0)))] sz)) (va_Qv (fun (uu : Unit) => True) (fun (uu : Unit) => pw_B (dC, dI) cls [(cJ, .long), (cI, .int)] (va_A [(hm, .inr (5, [.int th, .int lo9, .int hi8, .int pr, .int (nI (iw i)), .long (lN b), .int le, .ref tx9, .ref un, .ref ro, .ref nu, .ref be, .ref ab, .ref tr, .ref bs, .ref fa, .ref bf, .int bh, .int ev])), (un, .inl (cJ, 96, .inr (.inl (gl V)))), (ro, .inl (cJ, 96, .inr (.inl (gl Y)))), (nu, .inl (cI, 864, .inl (gd N0))), (be, .inl (cI, 864, .inl (gd L0))), (ab, .inl (cI, 864, .inl (gd A0)))] sz) [(hm, .inr (5, [.int th, .int lo9, .int hi8, .int pr, .int (nI (iw i)), .long (lN b), .int le, .ref tx9, .ref un, .ref ro, .ref nu, .ref be, .ref ab, .ref tr, .ref bs, .ref fa, .ref bf, .int (nI (3 + (-(mpw i (b / 2 ^ FB i % 2 ^ EB i))).toNat)), .int (nI (fd_ev (b % 2 ^ FB i)))])), (un, .inl (cJ, 96, .inr (.inl (gl (mun i (b / 2 ^ FB i % 2 ^ EB i)))))), (ro, .inl (cJ, 96, .inr (.inl (gl ((mun i (b / 2 ^ FB i % 2 ^ EB i)) * (4 * (sgf i (b / 2 ^ FB i % 2 ^ EB i) (b % 2 ^ FB i)) + 2)))))), (nu, .inl (cI, 864, .inl (gd ((mun i (b / 2 ^ FB i % 2 ^ EB i)) * (4 * (sgf i (b / 2 ^ FB i % 2 ^ EB i) (b % 2 ^ FB i))))))), (be, .inl (cI, 864, .inl (gd ((mun i (b / 2 ^ FB i % 2 ^ EB i)) * (4 * (sgf i (b / 2 ^ FB i % 2 ^ EB i) (b % 2 ^ FB i)) - (2 - (lop (b / 2 ^ FB i % 2 ^ EB i) (b % 2 ^ FB i)))))))), (ab, .inl (cI, 864, .inl (gd ((mun i (b / 2 ^ FB i % 2 ^ EB i)) * (4 * (sgf i (b / 2 ^ FB i % 2 ^ EB i) (b % 2 ^ FB i)) + 2)))))]) (va_A [(hm, .inr (5, [.int th, .int lo9, .int hi8, .int pr, .int (nI (iw i)), .long (lN b), .int le, .ref tx9, .ref un, .ref ro, .ref nu, .ref be, .ref ab, .ref tr, .ref bs, .ref fa, .ref bf, .int bh, .int ev])), (un, .inl (cJ, 96, .inr (.inl (gl V)))), (ro, .inl (cJ, 96, .inr (.inl (gl Y)))), (nu, .inl (cI, 864, .inl (gd N0))), (be, .inl (cI, 864, .inl (gd L0))), (ab, .inl (cI, 864, .inl (gd A0)))] sz)) 0 0 (va_A [(hm, .inr (5, [.int th, .int lo9, .int hi8, .int pr, .int (nI (iw i)), .long (lN b), .int le, .ref tx9, .ref un, .ref ro, .ref nu, .ref be, .ref ab, .ref tr, .ref bs, .ref fa, .ref bf, .int bh, .int ev])), (un, .inl (cJ, 96, .inr (.inl (gl V)))), (ro, .inl (cJ, 96, .inr (.inl (gl Y)))), (nu, .inl (cI, 864, .inl (gd N0))), (be, .inl (cI, 864, .inl (gd L0))), (ab, .inl (cI, 864, .inl (gd A0)))] sz) := by
  refine pw_metv (tn := fun (uu : Unit) => [(cJ, .long), (cI, .int)]) (wn := fun (uu : Unit) => [(hm, .inr (5, [.int th, .int lo9, .int hi8, .int pr, .int (nI (iw i)), .long (lN b), .int le, .ref tx9, .ref un, .ref ro, .ref nu, .ref be, .ref ab, .ref tr, .ref bs, .ref fa, .ref bf, .int (nI (3 + (-(mpw i (b / 2 ^ FB i % 2 ^ EB i))).toNat)), .int (nI (fd_ev (b % 2 ^ FB i)))])), (un, .inl (cJ, 96, .inr (.inl (gl (mun i (b / 2 ^ FB i % 2 ^ EB i)))))), (ro, .inl (cJ, 96, .inr (.inl (gl ((mun i (b / 2 ^ FB i % 2 ^ EB i)) * (4 * (sgf i (b / 2 ^ FB i % 2 ^ EB i) (b % 2 ^ FB i)) + 2)))))), (nu, .inl (cI, 864, .inl (gd ((mun i (b / 2 ^ FB i % 2 ^ EB i)) * (4 * (sgf i (b / 2 ^ FB i % 2 ^ EB i) (b % 2 ^ FB i))))))), (be, .inl (cI, 864, .inl (gd ((mun i (b / 2 ^ FB i % 2 ^ EB i)) * (4 * (sgf i (b / 2 ^ FB i % 2 ^ EB i) (b % 2 ^ FB i)) - (2 - (lop (b / 2 ^ FB i % 2 ^ EB i) (b % 2 ^ FB i)))))))), (ab, .inl (cI, 864, .inl (gd ((mun i (b / 2 ^ FB i % 2 ^ EB i)) * (4 * (sgf i (b / 2 ^ FB i % 2 ^ EB i) (b % 2 ^ FB i)) + 2)))))]) (by decide) (Nat.le_of_ble_eq_true rfl) ?_
  intro p e s m args below meth c A Q H ls hx hb hml hown hts hnm hA hE hP hK hD hS hret hl
  have hown : s.vm.findClass R_Mo = some m.cls := hown
  have hl : lv_has ls 9 [(0, .ref hm)] := hl
  have hb9 := la_b i
  have he11 : 2 ^ EB i ≤ 2 ^ 11 := Nat.pow_le_pow_right (by decide) (by omega)
  have he9 : (b / 2 ^ FB i % 2 ^ EB i) < 2 ^ EB i := Nat.mod_lt _ (Nat.two_pow_pos _)
  have hf52 : 2 ^ FB i ≤ 2 ^ 52 := Nat.pow_le_pow_right (by decide) (by omega)
  have hfr : (b % 2 ^ FB i) < 2 ^ FB i := Nat.mod_lt _ (Nat.two_pow_pos _)
  obtain ⟨e9, h_e9⟩ : ∃ x, x = (b / 2 ^ FB i % 2 ^ EB i) := ⟨_, rfl⟩
  obtain ⟨fr, h_fr⟩ : ∃ x, x = (b % 2 ^ FB i) := ⟨_, rfl⟩
  rw [← h_e9] at he9 hSp
  rw [← h_fr] at hfr hSp
  rw [← h_e9, ← h_fr] at hret
  obtain ⟨S, h_S⟩ : ∃ x, x = sgf i e9 fr := ⟨_, rfl⟩
  rw [← h_S] at hSp hret
  obtain ⟨pw, h_pw⟩ : ∃ x, x = mpw i e9 := ⟨_, rfl⟩
  have hun : mun i e9 = 1000 * 2 ^ pw.toNat * 5 ^ (-pw).toNat := by rw [mun, h_pw]
  have hpb := mpw_b (e := e9) (by omega) hi
  rw [← h_pw] at hpb hret
  rw [hun] at hret
  have hS53 : S < 2 ^ 53 := by rw [h_S]; unfold sgf; split <;> omega
  have hpn : pw.toNat ≤ 1968 ∧ (-pw).toNat ≤ 1076 ∧ (pw.toNat = 0 ∨ (-pw).toNat = 0) := by omega
  have hlo7 : lop e9 fr ≤ 1 := by unfold lop; exact ite_le1 _
  obtain ⟨U, h_U⟩ : ∃ x, x = 1000 * 2 ^ pw.toNat * 5 ^ (-pw).toNat := ⟨_, rfl⟩
  rw [← h_U] at hret
  have hUF : ∀ F, F < 2 ^ 57 → U * F < 1000000000 ^ 96 := fun F hF => by rw [h_U]; exact mun_fit1 hpn.1 hpn.2.1 hpn.2.2 hF
  have hU0 : U < 1000000000 ^ 96 := by rw [h_U]; exact mun_fit0 hpn.1 hpn.2.1 hpn.2.2
  have hUd : ∀ F, F < 2 ^ 57 → U * F < 10 ^ 864 := fun F hF => by rw [← g_9]; exact hUF F hF
  have k212 : ∀ (H : Heap) (locs : List Loc) (ls : Array Slot), va_P (dC, dI) cls [(hm, .inr (5, [.int th, .int lo9, .int hi8, .int pr, .int (nI (iw i)), .long (lN b), .int le, .ref tx9, .ref un, .ref ro, .ref nu, .ref be, .ref ab, .ref tr, .ref bs, .ref fa, .ref bf, .int (nI (3 + (-pw).toNat)), .int ev])), (un, .inl (cJ, 96, .inr (.inl (gl U)))), (ro, .inl (cJ, 96, .inr (.inl (gl Y)))), (nu, .inl (cI, 864, .inl (gd N0))), (be, .inl (cI, 864, .inl (gd L0))), (ab, .inl (cI, 864, .inl (gd A0)))] H → va_D A [(hm, .inr (5, [.int th, .int lo9, .int hi8, .int pr, .int (nI (iw i)), .long (lN b), .int le, .ref tx9, .ref un, .ref ro, .ref nu, .ref be, .ref ab, .ref tr, .ref bs, .ref fa, .ref bf, .int (nI (3 + (-pw).toNat)), .int ev])), (un, .inl (cJ, 96, .inr (.inl (gl U)))), (ro, .inl (cJ, 96, .inr (.inl (gl Y)))), (nu, .inl (cI, 864, .inl (gd N0))), (be, .inl (cI, 864, .inl (gd L0))), (ab, .inl (cI, 864, .inl (gd A0)))] → va_S A s.heap H locs → lv_has ls 9 [(7, .int (nI (-pw).toNat)), (6, .int (iZ pw)), (4, .long (lN S)), (2, .long (lN fr)), (1, .int (nI e9)), (0, .ref hm)] → W p l e { frames := 1, cells := 0, slots := 0, locals := 32 } s m args below meth c H locs 0 0 Q (F0 m 212 ls [.int (nI (fd_ev fr)), .ref hm]) := by
    intro H locs ls hP hD hS hl
    have hev : fd_ev fr ≤ 1 := ite_le1 _
    refine va_put (D := (dC, dI)) (ci := 5) (v := .int (nI (fd_ev fr))) (ty := .boolean) (C := R_Mo) (T := F_Mo) (N := 19) hx hb hts i_Mo t_Mo t_Mo_ok n_Mo hown hK hP hD hS 0 rfl rfl 18 (by decide) (hts _ fl_Mo_99) (fun _ h9 => h9) rfl (by decide +kernel) (nI_bz hev) (nI_bf hev) (Nat.le_of_ble_eq_true rfl) d_Mo_spread_212 (fun H locs hP hD hS => ?_)
    have hP : va_P (dC, dI) cls [(hm, .inr (5, [.int th, .int lo9, .int hi8, .int pr, .int (nI (iw i)), .long (lN b), .int le, .ref tx9, .ref un, .ref ro, .ref nu, .ref be, .ref ab, .ref tr, .ref bs, .ref fa, .ref bf, .int (nI (3 + (-pw).toNat)), .int (nI (fd_ev fr))])), (un, .inl (cJ, 96, .inr (.inl (gl U)))), (ro, .inl (cJ, 96, .inr (.inl (gl Y)))), (nu, .inl (cI, 864, .inl (gd N0))), (be, .inl (cI, 864, .inl (gd L0))), (ab, .inl (cI, 864, .inl (gd A0)))] H := hP
    have hD : va_D A [(hm, .inr (5, [.int th, .int lo9, .int hi8, .int pr, .int (nI (iw i)), .long (lN b), .int le, .ref tx9, .ref un, .ref ro, .ref nu, .ref be, .ref ab, .ref tr, .ref bs, .ref fa, .ref bf, .int (nI (3 + (-pw).toNat)), .int (nI (fd_ev fr))])), (un, .inl (cJ, 96, .inr (.inl (gl U)))), (ro, .inl (cJ, 96, .inr (.inl (gl Y)))), (nu, .inl (cI, 864, .inl (gd N0))), (be, .inl (cI, 864, .inl (gd L0))), (ab, .inl (cI, 864, .inl (gd A0)))] := hD
    refine lv_aload_n hx hb d_Mo_spread_215 rfl (lv_at hl 5 rfl) ?_
    refine lv_ldc2 (v := 4) hx hb hown (hts _ kl_Mo_102) d_Mo_spread_216 ?_
    refine lv_lload hx hb d_Mo_spread_219 (lv_at hl 2 rfl) ?_
    refine lv_lmul hx hb d_Mo_spread_221 ?_
    refine lv_topl (fun x_1 e_2 => ?_)
    obtain rfl : x_1 = lN (4 * S) := e_2.trans (lN_mul 4 S)
    refine lv_aload_n hx hb d_Mo_spread_222 rfl (lv_at hl 5 rfl) ?_
    refine va_get (D := (dC, dI)) (ci := 5) (v := .ref nu) (C := R_Mo) (T := F_Mo) (N := 19) hx hb hts i_Mo hown hK hP 0 rfl rfl 10 (by decide) (hts _ fl_Mo_27) (fun _ h9 => h9) rfl d_Mo_spread_223 ?_
    refine pw_callv (wc := [(hm, .inr (5, [.int th, .int lo9, .int hi8, .int pr, .int (nI (iw i)), .long (lN b), .int le, .ref tx9, .ref un, .ref ro, .ref nu, .ref be, .ref ab, .ref tr, .ref bs, .ref fa, .ref bf, .int (nI (3 + (-pw).toNat)), .int (nI (fd_ev fr))])), (un, .inl (cJ, 96, .inr (.inl (gl U)))), (ro, .inl (cJ, 96, .inr (.inl (gl Y)))), (nu, .inl (cI, 864, .inl (gd N0)))]) (wr := [(be, .inl (cI, 864, .inl (gd L0))), (ab, .inl (cI, 864, .inl (gd A0)))]) [0, 1, 2, 3] [4, 5] rfl rfl rfl (by decide) (by decide) (by decide) hP hD hS hA (fun hPc hDc hF => va_runV (As := [.long (lN (4 * S)), .ref nu]) (rest := []) ⟨hx, hb, hml, hown, hts⟩ (c_Mo_write l dC dI H.size hm tx9 un ro nu be ab tr bs fa bf th lo9 hi8 pr (nI (iw i)) le (nI (3 + (-pw).toNat)) (nI (fd_ev fr)) (lN b) nu cJ cI U Y N0 (4 * S) hU0 hY hN0 (by omega) (hUF _ (by omega))) (cwV 2 hts (gw_V (gw_self cod_Mo_write) ml_Mo_104 im_Mo_write sel_Mo_write ini_Mo) rfl rfl rfl (by decide +kernel) ⟨Nat.le_of_ble_eq_true rfl, Nat.le_of_ble_eq_true rfl⟩) (pw_preV pw_0_ok (trivial : pw_0 A s s.heap) hS hF hPc hDc (hK.sub [0, 1] rfl) (va_recv hK hPc (ci := 5) (q0 := 0) rfl rfl)) rfl rfl hl.1 rfl (lv_room (Nat.le_of_ble_eq_true rfl)) d_Mo_spread_226 ⟨Nat.le_of_ble_eq_true rfl, Nat.le_of_ble_eq_true rfl⟩) (fun u1 H locs h1 hK1 hP hD hS => ?_)
    have hP : va_P (dC, dI) cls [(hm, .inr (5, [.int th, .int lo9, .int hi8, .int pr, .int (nI (iw i)), .long (lN b), .int le, .ref tx9, .ref un, .ref ro, .ref nu, .ref be, .ref ab, .ref tr, .ref bs, .ref fa, .ref bf, .int (nI (3 + (-pw).toNat)), .int (nI (fd_ev fr))])), (un, .inl (cJ, 96, .inr (.inl (gl U)))), (ro, .inl (cJ, 96, .inr (.inl (gl (U * (4 * S)))))), (nu, .inl (cI, 864, .inl (gd (U * (4 * S))))), (be, .inl (cI, 864, .inl (gd L0))), (ab, .inl (cI, 864, .inl (gd A0)))] H := hP.sub [2, 3, 4, 5, 0, 1] rfl
    have hD : va_D A [(hm, .inr (5, [.int th, .int lo9, .int hi8, .int pr, .int (nI (iw i)), .long (lN b), .int le, .ref tx9, .ref un, .ref ro, .ref nu, .ref be, .ref ab, .ref tr, .ref bs, .ref fa, .ref bf, .int (nI (3 + (-pw).toNat)), .int (nI (fd_ev fr))])), (un, .inl (cJ, 96, .inr (.inl (gl U)))), (ro, .inl (cJ, 96, .inr (.inl (gl (U * (4 * S)))))), (nu, .inl (cI, 864, .inl (gd (U * (4 * S))))), (be, .inl (cI, 864, .inl (gd L0))), (ab, .inl (cI, 864, .inl (gd A0)))] := hD.sub [2, 3, 4, 5, 0, 1] (by decide) rfl
    refine lv_aload_n hx hb d_Mo_spread_229 rfl (lv_at hl 5 rfl) ?_
    refine lv_ldc2 (v := 4) hx hb hown (hts _ kl_Mo_102) d_Mo_spread_230 ?_
    refine lv_lload hx hb d_Mo_spread_233 (lv_at hl 2 rfl) ?_
    refine lv_lmul hx hb d_Mo_spread_235 ?_
    refine lv_topl (fun x_3 e_4 => ?_)
    obtain rfl : x_3 = lN (4 * S) := e_4.trans (lN_mul 4 S)
    refine lv_lload_n hx hb d_Mo_spread_236 rfl (lv_at hl 3 rfl) ?_
    refine lv_lconst (v := 0) hx hb d_Mo_spread_237 (by decide) ?_
    refine lx_ne (tgt := 251) hx hb d_Mo_spread_238 d_Mo_spread_239 (by decide) (fun hz => ?_) (fun hz => ?_)
    · have z1 : fr ≠ 0 := fun g => hz (by rw [g]; rfl)
      have hlp : 2 - lop e9 fr = 2 := by
        have : lop e9 fr = 0 := if_neg (by omega)
        omega
      refine lv_ldc2 (v := 2) hx hb hown (hts _ kl_Mo_86) d_Mo_spread_251 ?_
      refine lv_lsub hx hb d_Mo_spread_254 ?_
      refine lv_topl (fun x_5 e_6 => ?_)
      obtain rfl : x_5 = lN (4 * S - (2 - lop e9 fr)) := e_6.trans ((lN_sub (a := 4 * S) (b := 2) (by omega)).trans (by rw [hlp]))
      refine lv_aload_n hx hb d_Mo_spread_255 rfl (lv_at hl 5 rfl) ?_
      refine va_get (D := (dC, dI)) (ci := 5) (v := .ref be) (C := R_Mo) (T := F_Mo) (N := 19) hx hb hts i_Mo hown hK hP 0 rfl rfl 11 (by decide) (hts _ fl_Mo_30) (fun _ h9 => h9) rfl d_Mo_spread_256 ?_
      refine pw_callv (wc := [(hm, .inr (5, [.int th, .int lo9, .int hi8, .int pr, .int (nI (iw i)), .long (lN b), .int le, .ref tx9, .ref un, .ref ro, .ref nu, .ref be, .ref ab, .ref tr, .ref bs, .ref fa, .ref bf, .int (nI (3 + (-pw).toNat)), .int (nI (fd_ev fr))])), (un, .inl (cJ, 96, .inr (.inl (gl U)))), (ro, .inl (cJ, 96, .inr (.inl (gl (U * (4 * S)))))), (be, .inl (cI, 864, .inl (gd L0)))]) (wr := [(nu, .inl (cI, 864, .inl (gd (U * (4 * S))))), (ab, .inl (cI, 864, .inl (gd A0)))]) [0, 1, 2, 4] [3, 5] rfl rfl rfl (by decide) (by decide) (by decide) hP hD hS hA (fun hPc hDc hF => va_runV (As := [.long (lN (4 * S - (2 - lop e9 fr))), .ref be]) (rest := []) ⟨hx, hb, hml, hown, hts⟩ (c_Mo_write l dC dI H.size hm tx9 un ro nu be ab tr bs fa bf th lo9 hi8 pr (nI (iw i)) le (nI (3 + (-pw).toNat)) (nI (fd_ev fr)) (lN b) be cJ cI U (U * (4 * S)) L0 (4 * S - (2 - lop e9 fr)) hU0 (hUF _ (by omega)) hL0 (by omega) (hUF _ (by omega))) (cwV 2 hts (gw_V (gw_self cod_Mo_write) ml_Mo_104 im_Mo_write sel_Mo_write ini_Mo) rfl rfl rfl (by decide +kernel) ⟨Nat.le_of_ble_eq_true rfl, Nat.le_of_ble_eq_true rfl⟩) (pw_preV pw_0_ok (trivial : pw_0 A s s.heap) hS hF hPc hDc (hK.sub [0, 1] rfl) (va_recv hK hPc (ci := 5) (q0 := 0) rfl rfl)) rfl rfl hl.1 rfl (lv_room (Nat.le_of_ble_eq_true rfl)) d_Mo_spread_259 ⟨Nat.le_of_ble_eq_true rfl, Nat.le_of_ble_eq_true rfl⟩) (fun u2 H locs h2 hK1 hP hD hS => ?_)
      have hP : va_P (dC, dI) cls [(hm, .inr (5, [.int th, .int lo9, .int hi8, .int pr, .int (nI (iw i)), .long (lN b), .int le, .ref tx9, .ref un, .ref ro, .ref nu, .ref be, .ref ab, .ref tr, .ref bs, .ref fa, .ref bf, .int (nI (3 + (-pw).toNat)), .int (nI (fd_ev fr))])), (un, .inl (cJ, 96, .inr (.inl (gl U)))), (ro, .inl (cJ, 96, .inr (.inl (gl (U * (4 * S - (2 - lop e9 fr))))))), (nu, .inl (cI, 864, .inl (gd (U * (4 * S))))), (be, .inl (cI, 864, .inl (gd (U * (4 * S - (2 - lop e9 fr)))))), (ab, .inl (cI, 864, .inl (gd A0)))] H := hP.sub [2, 3, 4, 0, 5, 1] rfl
      have hD : va_D A [(hm, .inr (5, [.int th, .int lo9, .int hi8, .int pr, .int (nI (iw i)), .long (lN b), .int le, .ref tx9, .ref un, .ref ro, .ref nu, .ref be, .ref ab, .ref tr, .ref bs, .ref fa, .ref bf, .int (nI (3 + (-pw).toNat)), .int (nI (fd_ev fr))])), (un, .inl (cJ, 96, .inr (.inl (gl U)))), (ro, .inl (cJ, 96, .inr (.inl (gl (U * (4 * S - (2 - lop e9 fr))))))), (nu, .inl (cI, 864, .inl (gd (U * (4 * S))))), (be, .inl (cI, 864, .inl (gd (U * (4 * S - (2 - lop e9 fr)))))), (ab, .inl (cI, 864, .inl (gd A0)))] := hD.sub [2, 3, 4, 0, 5, 1] (by decide) rfl
      refine lv_aload_n hx hb d_Mo_spread_262 rfl (lv_at hl 5 rfl) ?_
      refine lv_ldc2 (v := 4) hx hb hown (hts _ kl_Mo_102) d_Mo_spread_263 ?_
      refine lv_lload hx hb d_Mo_spread_266 (lv_at hl 2 rfl) ?_
      refine lv_lmul hx hb d_Mo_spread_268 ?_
      refine lv_topl (fun x_7 e_8 => ?_)
      obtain rfl : x_7 = lN (4 * S) := e_8.trans (lN_mul 4 S)
      refine lv_ldc2 (v := 2) hx hb hown (hts _ kl_Mo_86) d_Mo_spread_269 ?_
      refine lv_ladd hx hb d_Mo_spread_272 ?_
      refine lv_topl (fun x_9 e_10 => ?_)
      obtain rfl : x_9 = lN (4 * S + 2) := e_10.trans (lN_add _ 2)
      refine lv_aload_n hx hb d_Mo_spread_273 rfl (lv_at hl 5 rfl) ?_
      refine va_get (D := (dC, dI)) (ci := 5) (v := .ref ab) (C := R_Mo) (T := F_Mo) (N := 19) hx hb hts i_Mo hown hK hP 0 rfl rfl 12 (by decide) (hts _ fl_Mo_33) (fun _ h9 => h9) rfl d_Mo_spread_274 ?_
      refine pw_callv (wc := [(hm, .inr (5, [.int th, .int lo9, .int hi8, .int pr, .int (nI (iw i)), .long (lN b), .int le, .ref tx9, .ref un, .ref ro, .ref nu, .ref be, .ref ab, .ref tr, .ref bs, .ref fa, .ref bf, .int (nI (3 + (-pw).toNat)), .int (nI (fd_ev fr))])), (un, .inl (cJ, 96, .inr (.inl (gl U)))), (ro, .inl (cJ, 96, .inr (.inl (gl (U * (4 * S - (2 - lop e9 fr))))))), (ab, .inl (cI, 864, .inl (gd A0)))]) (wr := [(nu, .inl (cI, 864, .inl (gd (U * (4 * S))))), (be, .inl (cI, 864, .inl (gd (U * (4 * S - (2 - lop e9 fr))))))]) [0, 1, 2, 5] [3, 4] rfl rfl rfl (by decide) (by decide) (by decide) hP hD hS hA (fun hPc hDc hF => va_runV (As := [.long (lN (4 * S + 2)), .ref ab]) (rest := []) ⟨hx, hb, hml, hown, hts⟩ (c_Mo_write l dC dI H.size hm tx9 un ro nu be ab tr bs fa bf th lo9 hi8 pr (nI (iw i)) le (nI (3 + (-pw).toNat)) (nI (fd_ev fr)) (lN b) ab cJ cI U (U * (4 * S - (2 - lop e9 fr))) A0 (4 * S + 2) hU0 (hUF _ (by omega)) hA0 (by omega) (hUF _ (by omega))) (cwV 2 hts (gw_V (gw_self cod_Mo_write) ml_Mo_104 im_Mo_write sel_Mo_write ini_Mo) rfl rfl rfl (by decide +kernel) ⟨Nat.le_of_ble_eq_true rfl, Nat.le_of_ble_eq_true rfl⟩) (pw_preV pw_0_ok (trivial : pw_0 A s s.heap) hS hF hPc hDc (hK.sub [0, 1] rfl) (va_recv hK hPc (ci := 5) (q0 := 0) rfl rfl)) rfl rfl hl.1 rfl (lv_room (Nat.le_of_ble_eq_true rfl)) d_Mo_spread_277 ⟨Nat.le_of_ble_eq_true rfl, Nat.le_of_ble_eq_true rfl⟩) (fun u3 H locs h3 hK1 hP hD hS => ?_)
      have hP : va_P (dC, dI) cls [(hm, .inr (5, [.int th, .int lo9, .int hi8, .int pr, .int (nI (iw i)), .long (lN b), .int le, .ref tx9, .ref un, .ref ro, .ref nu, .ref be, .ref ab, .ref tr, .ref bs, .ref fa, .ref bf, .int (nI (3 + (-pw).toNat)), .int (nI (fd_ev fr))])), (un, .inl (cJ, 96, .inr (.inl (gl U)))), (ro, .inl (cJ, 96, .inr (.inl (gl (U * (4 * S + 2)))))), (nu, .inl (cI, 864, .inl (gd (U * (4 * S))))), (be, .inl (cI, 864, .inl (gd (U * (4 * S - (2 - lop e9 fr)))))), (ab, .inl (cI, 864, .inl (gd (U * (4 * S + 2)))))] H := hP.sub [2, 3, 4, 0, 1, 5] rfl
      have hD : va_D A [(hm, .inr (5, [.int th, .int lo9, .int hi8, .int pr, .int (nI (iw i)), .long (lN b), .int le, .ref tx9, .ref un, .ref ro, .ref nu, .ref be, .ref ab, .ref tr, .ref bs, .ref fa, .ref bf, .int (nI (3 + (-pw).toNat)), .int (nI (fd_ev fr))])), (un, .inl (cJ, 96, .inr (.inl (gl U)))), (ro, .inl (cJ, 96, .inr (.inl (gl (U * (4 * S + 2)))))), (nu, .inl (cI, 864, .inl (gd (U * (4 * S))))), (be, .inl (cI, 864, .inl (gd (U * (4 * S - (2 - lop e9 fr)))))), (ab, .inl (cI, 864, .inl (gd (U * (4 * S + 2)))))] := hD.sub [2, 3, 4, 0, 1, 5] (by decide) rfl
      exact hret _ _ _ _ () d_Mo_spread_280 trivial hP hK hD hS
    · have z1 : fr = 0 := (pk_lEQ (a := fr) (b := 0) (by omega) (by omega)).mp hz
      refine lv_iload_n hx hb d_Mo_spread_242 rfl (lv_at hl 4 rfl) ?_
      refine lv_iconst (v := 1) hx hb d_Mo_spread_243 (by decide) ?_
      refine lv_icmp_le (tgt := 251) hx hb d_Mo_spread_244 (by decide) (fun hz2 => ?_) (fun hz2 => ?_)
      · have z2 : e9 ≤ 1 := (nI_leI (a := e9) (b := 1) (by omega) (by omega)).mp hz2
        have hlp : 2 - lop e9 fr = 2 := by
          have : lop e9 fr = 0 := if_neg (by omega)
          omega
        refine lv_ldc2 (v := 2) hx hb hown (hts _ kl_Mo_86) d_Mo_spread_251 ?_
        refine lv_lsub hx hb d_Mo_spread_254 ?_
        refine lv_topl (fun x_11 e_12 => ?_)
        obtain rfl : x_11 = lN (4 * S - (2 - lop e9 fr)) := e_12.trans ((lN_sub (a := 4 * S) (b := 2) (by omega)).trans (by rw [hlp]))
        refine lv_aload_n hx hb d_Mo_spread_255 rfl (lv_at hl 5 rfl) ?_
        refine va_get (D := (dC, dI)) (ci := 5) (v := .ref be) (C := R_Mo) (T := F_Mo) (N := 19) hx hb hts i_Mo hown hK hP 0 rfl rfl 11 (by decide) (hts _ fl_Mo_30) (fun _ h9 => h9) rfl d_Mo_spread_256 ?_
        refine pw_callv (wc := [(hm, .inr (5, [.int th, .int lo9, .int hi8, .int pr, .int (nI (iw i)), .long (lN b), .int le, .ref tx9, .ref un, .ref ro, .ref nu, .ref be, .ref ab, .ref tr, .ref bs, .ref fa, .ref bf, .int (nI (3 + (-pw).toNat)), .int (nI (fd_ev fr))])), (un, .inl (cJ, 96, .inr (.inl (gl U)))), (ro, .inl (cJ, 96, .inr (.inl (gl (U * (4 * S)))))), (be, .inl (cI, 864, .inl (gd L0)))]) (wr := [(nu, .inl (cI, 864, .inl (gd (U * (4 * S))))), (ab, .inl (cI, 864, .inl (gd A0)))]) [0, 1, 2, 4] [3, 5] rfl rfl rfl (by decide) (by decide) (by decide) hP hD hS hA (fun hPc hDc hF => va_runV (As := [.long (lN (4 * S - (2 - lop e9 fr))), .ref be]) (rest := []) ⟨hx, hb, hml, hown, hts⟩ (c_Mo_write l dC dI H.size hm tx9 un ro nu be ab tr bs fa bf th lo9 hi8 pr (nI (iw i)) le (nI (3 + (-pw).toNat)) (nI (fd_ev fr)) (lN b) be cJ cI U (U * (4 * S)) L0 (4 * S - (2 - lop e9 fr)) hU0 (hUF _ (by omega)) hL0 (by omega) (hUF _ (by omega))) (cwV 2 hts (gw_V (gw_self cod_Mo_write) ml_Mo_104 im_Mo_write sel_Mo_write ini_Mo) rfl rfl rfl (by decide +kernel) ⟨Nat.le_of_ble_eq_true rfl, Nat.le_of_ble_eq_true rfl⟩) (pw_preV pw_0_ok (trivial : pw_0 A s s.heap) hS hF hPc hDc (hK.sub [0, 1] rfl) (va_recv hK hPc (ci := 5) (q0 := 0) rfl rfl)) rfl rfl hl.1 rfl (lv_room (Nat.le_of_ble_eq_true rfl)) d_Mo_spread_259 ⟨Nat.le_of_ble_eq_true rfl, Nat.le_of_ble_eq_true rfl⟩) (fun u2 H locs h2 hK1 hP hD hS => ?_)
        have hP : va_P (dC, dI) cls [(hm, .inr (5, [.int th, .int lo9, .int hi8, .int pr, .int (nI (iw i)), .long (lN b), .int le, .ref tx9, .ref un, .ref ro, .ref nu, .ref be, .ref ab, .ref tr, .ref bs, .ref fa, .ref bf, .int (nI (3 + (-pw).toNat)), .int (nI (fd_ev fr))])), (un, .inl (cJ, 96, .inr (.inl (gl U)))), (ro, .inl (cJ, 96, .inr (.inl (gl (U * (4 * S - (2 - lop e9 fr))))))), (nu, .inl (cI, 864, .inl (gd (U * (4 * S))))), (be, .inl (cI, 864, .inl (gd (U * (4 * S - (2 - lop e9 fr)))))), (ab, .inl (cI, 864, .inl (gd A0)))] H := hP.sub [2, 3, 4, 0, 5, 1] rfl
        have hD : va_D A [(hm, .inr (5, [.int th, .int lo9, .int hi8, .int pr, .int (nI (iw i)), .long (lN b), .int le, .ref tx9, .ref un, .ref ro, .ref nu, .ref be, .ref ab, .ref tr, .ref bs, .ref fa, .ref bf, .int (nI (3 + (-pw).toNat)), .int (nI (fd_ev fr))])), (un, .inl (cJ, 96, .inr (.inl (gl U)))), (ro, .inl (cJ, 96, .inr (.inl (gl (U * (4 * S - (2 - lop e9 fr))))))), (nu, .inl (cI, 864, .inl (gd (U * (4 * S))))), (be, .inl (cI, 864, .inl (gd (U * (4 * S - (2 - lop e9 fr)))))), (ab, .inl (cI, 864, .inl (gd A0)))] := hD.sub [2, 3, 4, 0, 5, 1] (by decide) rfl
        refine lv_aload_n hx hb d_Mo_spread_262 rfl (lv_at hl 5 rfl) ?_
        refine lv_ldc2 (v := 4) hx hb hown (hts _ kl_Mo_102) d_Mo_spread_263 ?_
        refine lv_lload hx hb d_Mo_spread_266 (lv_at hl 2 rfl) ?_
        refine lv_lmul hx hb d_Mo_spread_268 ?_
        refine lv_topl (fun x_13 e_14 => ?_)
        obtain rfl : x_13 = lN (4 * S) := e_14.trans (lN_mul 4 S)
        refine lv_ldc2 (v := 2) hx hb hown (hts _ kl_Mo_86) d_Mo_spread_269 ?_
        refine lv_ladd hx hb d_Mo_spread_272 ?_
        refine lv_topl (fun x_15 e_16 => ?_)
        obtain rfl : x_15 = lN (4 * S + 2) := e_16.trans (lN_add _ 2)
        refine lv_aload_n hx hb d_Mo_spread_273 rfl (lv_at hl 5 rfl) ?_
        refine va_get (D := (dC, dI)) (ci := 5) (v := .ref ab) (C := R_Mo) (T := F_Mo) (N := 19) hx hb hts i_Mo hown hK hP 0 rfl rfl 12 (by decide) (hts _ fl_Mo_33) (fun _ h9 => h9) rfl d_Mo_spread_274 ?_
        refine pw_callv (wc := [(hm, .inr (5, [.int th, .int lo9, .int hi8, .int pr, .int (nI (iw i)), .long (lN b), .int le, .ref tx9, .ref un, .ref ro, .ref nu, .ref be, .ref ab, .ref tr, .ref bs, .ref fa, .ref bf, .int (nI (3 + (-pw).toNat)), .int (nI (fd_ev fr))])), (un, .inl (cJ, 96, .inr (.inl (gl U)))), (ro, .inl (cJ, 96, .inr (.inl (gl (U * (4 * S - (2 - lop e9 fr))))))), (ab, .inl (cI, 864, .inl (gd A0)))]) (wr := [(nu, .inl (cI, 864, .inl (gd (U * (4 * S))))), (be, .inl (cI, 864, .inl (gd (U * (4 * S - (2 - lop e9 fr))))))]) [0, 1, 2, 5] [3, 4] rfl rfl rfl (by decide) (by decide) (by decide) hP hD hS hA (fun hPc hDc hF => va_runV (As := [.long (lN (4 * S + 2)), .ref ab]) (rest := []) ⟨hx, hb, hml, hown, hts⟩ (c_Mo_write l dC dI H.size hm tx9 un ro nu be ab tr bs fa bf th lo9 hi8 pr (nI (iw i)) le (nI (3 + (-pw).toNat)) (nI (fd_ev fr)) (lN b) ab cJ cI U (U * (4 * S - (2 - lop e9 fr))) A0 (4 * S + 2) hU0 (hUF _ (by omega)) hA0 (by omega) (hUF _ (by omega))) (cwV 2 hts (gw_V (gw_self cod_Mo_write) ml_Mo_104 im_Mo_write sel_Mo_write ini_Mo) rfl rfl rfl (by decide +kernel) ⟨Nat.le_of_ble_eq_true rfl, Nat.le_of_ble_eq_true rfl⟩) (pw_preV pw_0_ok (trivial : pw_0 A s s.heap) hS hF hPc hDc (hK.sub [0, 1] rfl) (va_recv hK hPc (ci := 5) (q0 := 0) rfl rfl)) rfl rfl hl.1 rfl (lv_room (Nat.le_of_ble_eq_true rfl)) d_Mo_spread_277 ⟨Nat.le_of_ble_eq_true rfl, Nat.le_of_ble_eq_true rfl⟩) (fun u3 H locs h3 hK1 hP hD hS => ?_)
        have hP : va_P (dC, dI) cls [(hm, .inr (5, [.int th, .int lo9, .int hi8, .int pr, .int (nI (iw i)), .long (lN b), .int le, .ref tx9, .ref un, .ref ro, .ref nu, .ref be, .ref ab, .ref tr, .ref bs, .ref fa, .ref bf, .int (nI (3 + (-pw).toNat)), .int (nI (fd_ev fr))])), (un, .inl (cJ, 96, .inr (.inl (gl U)))), (ro, .inl (cJ, 96, .inr (.inl (gl (U * (4 * S + 2)))))), (nu, .inl (cI, 864, .inl (gd (U * (4 * S))))), (be, .inl (cI, 864, .inl (gd (U * (4 * S - (2 - lop e9 fr)))))), (ab, .inl (cI, 864, .inl (gd (U * (4 * S + 2)))))] H := hP.sub [2, 3, 4, 0, 1, 5] rfl
        have hD : va_D A [(hm, .inr (5, [.int th, .int lo9, .int hi8, .int pr, .int (nI (iw i)), .long (lN b), .int le, .ref tx9, .ref un, .ref ro, .ref nu, .ref be, .ref ab, .ref tr, .ref bs, .ref fa, .ref bf, .int (nI (3 + (-pw).toNat)), .int (nI (fd_ev fr))])), (un, .inl (cJ, 96, .inr (.inl (gl U)))), (ro, .inl (cJ, 96, .inr (.inl (gl (U * (4 * S + 2)))))), (nu, .inl (cI, 864, .inl (gd (U * (4 * S))))), (be, .inl (cI, 864, .inl (gd (U * (4 * S - (2 - lop e9 fr)))))), (ab, .inl (cI, 864, .inl (gd (U * (4 * S + 2)))))] := hD.sub [2, 3, 4, 0, 1, 5] (by decide) rfl
        exact hret _ _ _ _ () d_Mo_spread_280 trivial hP hK hD hS
      · have z2 : 1 < e9 := by have := mt (nI_leI (a := e9) (b := 1) (by omega) (by omega)).mpr hz2; omega
        have hlp : 2 - lop e9 fr = 1 := by
          have : lop e9 fr = 1 := if_pos ⟨z1, z2⟩
          omega
        refine lv_lconst (v := 1) hx hb d_Mo_spread_247 (by decide) ?_
        refine lv_goto (tgt := 254) hx hb d_Mo_spread_248 (by decide) ?_
        refine lv_lsub hx hb d_Mo_spread_254 ?_
        refine lv_topl (fun x_17 e_18 => ?_)
        obtain rfl : x_17 = lN (4 * S - (2 - lop e9 fr)) := e_18.trans ((lN_sub (a := 4 * S) (b := 1) (by omega)).trans (by rw [hlp]))
        refine lv_aload_n hx hb d_Mo_spread_255 rfl (lv_at hl 5 rfl) ?_
        refine va_get (D := (dC, dI)) (ci := 5) (v := .ref be) (C := R_Mo) (T := F_Mo) (N := 19) hx hb hts i_Mo hown hK hP 0 rfl rfl 11 (by decide) (hts _ fl_Mo_30) (fun _ h9 => h9) rfl d_Mo_spread_256 ?_
        refine pw_callv (wc := [(hm, .inr (5, [.int th, .int lo9, .int hi8, .int pr, .int (nI (iw i)), .long (lN b), .int le, .ref tx9, .ref un, .ref ro, .ref nu, .ref be, .ref ab, .ref tr, .ref bs, .ref fa, .ref bf, .int (nI (3 + (-pw).toNat)), .int (nI (fd_ev fr))])), (un, .inl (cJ, 96, .inr (.inl (gl U)))), (ro, .inl (cJ, 96, .inr (.inl (gl (U * (4 * S)))))), (be, .inl (cI, 864, .inl (gd L0)))]) (wr := [(nu, .inl (cI, 864, .inl (gd (U * (4 * S))))), (ab, .inl (cI, 864, .inl (gd A0)))]) [0, 1, 2, 4] [3, 5] rfl rfl rfl (by decide) (by decide) (by decide) hP hD hS hA (fun hPc hDc hF => va_runV (As := [.long (lN (4 * S - (2 - lop e9 fr))), .ref be]) (rest := []) ⟨hx, hb, hml, hown, hts⟩ (c_Mo_write l dC dI H.size hm tx9 un ro nu be ab tr bs fa bf th lo9 hi8 pr (nI (iw i)) le (nI (3 + (-pw).toNat)) (nI (fd_ev fr)) (lN b) be cJ cI U (U * (4 * S)) L0 (4 * S - (2 - lop e9 fr)) hU0 (hUF _ (by omega)) hL0 (by omega) (hUF _ (by omega))) (cwV 2 hts (gw_V (gw_self cod_Mo_write) ml_Mo_104 im_Mo_write sel_Mo_write ini_Mo) rfl rfl rfl (by decide +kernel) ⟨Nat.le_of_ble_eq_true rfl, Nat.le_of_ble_eq_true rfl⟩) (pw_preV pw_0_ok (trivial : pw_0 A s s.heap) hS hF hPc hDc (hK.sub [0, 1] rfl) (va_recv hK hPc (ci := 5) (q0 := 0) rfl rfl)) rfl rfl hl.1 rfl (lv_room (Nat.le_of_ble_eq_true rfl)) d_Mo_spread_259 ⟨Nat.le_of_ble_eq_true rfl, Nat.le_of_ble_eq_true rfl⟩) (fun u2 H locs h2 hK1 hP hD hS => ?_)
        have hP : va_P (dC, dI) cls [(hm, .inr (5, [.int th, .int lo9, .int hi8, .int pr, .int (nI (iw i)), .long (lN b), .int le, .ref tx9, .ref un, .ref ro, .ref nu, .ref be, .ref ab, .ref tr, .ref bs, .ref fa, .ref bf, .int (nI (3 + (-pw).toNat)), .int (nI (fd_ev fr))])), (un, .inl (cJ, 96, .inr (.inl (gl U)))), (ro, .inl (cJ, 96, .inr (.inl (gl (U * (4 * S - (2 - lop e9 fr))))))), (nu, .inl (cI, 864, .inl (gd (U * (4 * S))))), (be, .inl (cI, 864, .inl (gd (U * (4 * S - (2 - lop e9 fr)))))), (ab, .inl (cI, 864, .inl (gd A0)))] H := hP.sub [2, 3, 4, 0, 5, 1] rfl
        have hD : va_D A [(hm, .inr (5, [.int th, .int lo9, .int hi8, .int pr, .int (nI (iw i)), .long (lN b), .int le, .ref tx9, .ref un, .ref ro, .ref nu, .ref be, .ref ab, .ref tr, .ref bs, .ref fa, .ref bf, .int (nI (3 + (-pw).toNat)), .int (nI (fd_ev fr))])), (un, .inl (cJ, 96, .inr (.inl (gl U)))), (ro, .inl (cJ, 96, .inr (.inl (gl (U * (4 * S - (2 - lop e9 fr))))))), (nu, .inl (cI, 864, .inl (gd (U * (4 * S))))), (be, .inl (cI, 864, .inl (gd (U * (4 * S - (2 - lop e9 fr)))))), (ab, .inl (cI, 864, .inl (gd A0)))] := hD.sub [2, 3, 4, 0, 5, 1] (by decide) rfl
        refine lv_aload_n hx hb d_Mo_spread_262 rfl (lv_at hl 5 rfl) ?_
        refine lv_ldc2 (v := 4) hx hb hown (hts _ kl_Mo_102) d_Mo_spread_263 ?_
        refine lv_lload hx hb d_Mo_spread_266 (lv_at hl 2 rfl) ?_
        refine lv_lmul hx hb d_Mo_spread_268 ?_
        refine lv_topl (fun x_19 e_20 => ?_)
        obtain rfl : x_19 = lN (4 * S) := e_20.trans (lN_mul 4 S)
        refine lv_ldc2 (v := 2) hx hb hown (hts _ kl_Mo_86) d_Mo_spread_269 ?_
        refine lv_ladd hx hb d_Mo_spread_272 ?_
        refine lv_topl (fun x_21 e_22 => ?_)
        obtain rfl : x_21 = lN (4 * S + 2) := e_22.trans (lN_add _ 2)
        refine lv_aload_n hx hb d_Mo_spread_273 rfl (lv_at hl 5 rfl) ?_
        refine va_get (D := (dC, dI)) (ci := 5) (v := .ref ab) (C := R_Mo) (T := F_Mo) (N := 19) hx hb hts i_Mo hown hK hP 0 rfl rfl 12 (by decide) (hts _ fl_Mo_33) (fun _ h9 => h9) rfl d_Mo_spread_274 ?_
        refine pw_callv (wc := [(hm, .inr (5, [.int th, .int lo9, .int hi8, .int pr, .int (nI (iw i)), .long (lN b), .int le, .ref tx9, .ref un, .ref ro, .ref nu, .ref be, .ref ab, .ref tr, .ref bs, .ref fa, .ref bf, .int (nI (3 + (-pw).toNat)), .int (nI (fd_ev fr))])), (un, .inl (cJ, 96, .inr (.inl (gl U)))), (ro, .inl (cJ, 96, .inr (.inl (gl (U * (4 * S - (2 - lop e9 fr))))))), (ab, .inl (cI, 864, .inl (gd A0)))]) (wr := [(nu, .inl (cI, 864, .inl (gd (U * (4 * S))))), (be, .inl (cI, 864, .inl (gd (U * (4 * S - (2 - lop e9 fr))))))]) [0, 1, 2, 5] [3, 4] rfl rfl rfl (by decide) (by decide) (by decide) hP hD hS hA (fun hPc hDc hF => va_runV (As := [.long (lN (4 * S + 2)), .ref ab]) (rest := []) ⟨hx, hb, hml, hown, hts⟩ (c_Mo_write l dC dI H.size hm tx9 un ro nu be ab tr bs fa bf th lo9 hi8 pr (nI (iw i)) le (nI (3 + (-pw).toNat)) (nI (fd_ev fr)) (lN b) ab cJ cI U (U * (4 * S - (2 - lop e9 fr))) A0 (4 * S + 2) hU0 (hUF _ (by omega)) hA0 (by omega) (hUF _ (by omega))) (cwV 2 hts (gw_V (gw_self cod_Mo_write) ml_Mo_104 im_Mo_write sel_Mo_write ini_Mo) rfl rfl rfl (by decide +kernel) ⟨Nat.le_of_ble_eq_true rfl, Nat.le_of_ble_eq_true rfl⟩) (pw_preV pw_0_ok (trivial : pw_0 A s s.heap) hS hF hPc hDc (hK.sub [0, 1] rfl) (va_recv hK hPc (ci := 5) (q0 := 0) rfl rfl)) rfl rfl hl.1 rfl (lv_room (Nat.le_of_ble_eq_true rfl)) d_Mo_spread_277 ⟨Nat.le_of_ble_eq_true rfl, Nat.le_of_ble_eq_true rfl⟩) (fun u3 H locs h3 hK1 hP hD hS => ?_)
        have hP : va_P (dC, dI) cls [(hm, .inr (5, [.int th, .int lo9, .int hi8, .int pr, .int (nI (iw i)), .long (lN b), .int le, .ref tx9, .ref un, .ref ro, .ref nu, .ref be, .ref ab, .ref tr, .ref bs, .ref fa, .ref bf, .int (nI (3 + (-pw).toNat)), .int (nI (fd_ev fr))])), (un, .inl (cJ, 96, .inr (.inl (gl U)))), (ro, .inl (cJ, 96, .inr (.inl (gl (U * (4 * S + 2)))))), (nu, .inl (cI, 864, .inl (gd (U * (4 * S))))), (be, .inl (cI, 864, .inl (gd (U * (4 * S - (2 - lop e9 fr)))))), (ab, .inl (cI, 864, .inl (gd (U * (4 * S + 2)))))] H := hP.sub [2, 3, 4, 0, 1, 5] rfl
        have hD : va_D A [(hm, .inr (5, [.int th, .int lo9, .int hi8, .int pr, .int (nI (iw i)), .long (lN b), .int le, .ref tx9, .ref un, .ref ro, .ref nu, .ref be, .ref ab, .ref tr, .ref bs, .ref fa, .ref bf, .int (nI (3 + (-pw).toNat)), .int (nI (fd_ev fr))])), (un, .inl (cJ, 96, .inr (.inl (gl U)))), (ro, .inl (cJ, 96, .inr (.inl (gl (U * (4 * S + 2)))))), (nu, .inl (cI, 864, .inl (gd (U * (4 * S))))), (be, .inl (cI, 864, .inl (gd (U * (4 * S - (2 - lop e9 fr)))))), (ab, .inl (cI, 864, .inl (gd (U * (4 * S + 2)))))] := hD.sub [2, 3, 4, 0, 1, 5] (by decide) rfl
        exact hret _ _ _ _ () d_Mo_spread_280 trivial hP hK hD hS
  have k188 : ∀ (H : Heap) (locs : List Loc) (ls : Array Slot), va_P (dC, dI) cls [(hm, .inr (5, [.int th, .int lo9, .int hi8, .int pr, .int (nI (iw i)), .long (lN b), .int le, .ref tx9, .ref un, .ref ro, .ref nu, .ref be, .ref ab, .ref tr, .ref bs, .ref fa, .ref bf, .int bh, .int ev])), (un, .inl (cJ, 96, .inr (.inl (gl U)))), (ro, .inl (cJ, 96, .inr (.inl (gl Y)))), (nu, .inl (cI, 864, .inl (gd N0))), (be, .inl (cI, 864, .inl (gd L0))), (ab, .inl (cI, 864, .inl (gd A0)))] H → va_D A [(hm, .inr (5, [.int th, .int lo9, .int hi8, .int pr, .int (nI (iw i)), .long (lN b), .int le, .ref tx9, .ref un, .ref ro, .ref nu, .ref be, .ref ab, .ref tr, .ref bs, .ref fa, .ref bf, .int bh, .int ev])), (un, .inl (cJ, 96, .inr (.inl (gl U)))), (ro, .inl (cJ, 96, .inr (.inl (gl Y)))), (nu, .inl (cI, 864, .inl (gd N0))), (be, .inl (cI, 864, .inl (gd L0))), (ab, .inl (cI, 864, .inl (gd A0)))] → va_S A s.heap H locs → lv_has ls 9 [(7, .int (nI (-pw).toNat)), (6, .int (iZ pw)), (4, .long (lN S)), (2, .long (lN fr)), (1, .int (nI e9)), (0, .ref hm)] → W p l e { frames := 1, cells := 0, slots := 0, locals := 32 } s m args below meth c H locs 0 0 Q (F0 m 188 ls []) := by
    intro H locs ls hP hD hS hl
    refine lv_aload_n hx hb d_Mo_spread_188 rfl (lv_at hl 5 rfl) ?_
    refine lv_iconst (v := 3) hx hb d_Mo_spread_189 (by decide) ?_
    refine lv_iload hx hb d_Mo_spread_190 (lv_at hl 0 rfl) ?_
    refine lv_iadd hx hb d_Mo_spread_192 ?_
    refine lv_topi (fun x_23 e_24 => ?_)
    obtain rfl : x_23 = nI (3 + (-pw).toNat) := e_24.trans (nI_add 3 _)
    refine va_put (D := (dC, dI)) (ci := 5) (v := .int (nI (3 + (-pw).toNat))) (ty := .int) (C := R_Mo) (T := F_Mo) (N := 19) hx hb hts i_Mo t_Mo t_Mo_ok n_Mo hown hK hP hD hS 0 rfl rfl 17 (by decide) (hts _ fl_Mo_96) (fun _ h9 => h9) rfl (by decide +kernel) rfl rfl (Nat.le_of_ble_eq_true rfl) d_Mo_spread_193 (fun H locs hP hD hS => ?_)
    have hP : va_P (dC, dI) cls [(hm, .inr (5, [.int th, .int lo9, .int hi8, .int pr, .int (nI (iw i)), .long (lN b), .int le, .ref tx9, .ref un, .ref ro, .ref nu, .ref be, .ref ab, .ref tr, .ref bs, .ref fa, .ref bf, .int (nI (3 + (-pw).toNat)), .int ev])), (un, .inl (cJ, 96, .inr (.inl (gl U)))), (ro, .inl (cJ, 96, .inr (.inl (gl Y)))), (nu, .inl (cI, 864, .inl (gd N0))), (be, .inl (cI, 864, .inl (gd L0))), (ab, .inl (cI, 864, .inl (gd A0)))] H := hP
    have hD : va_D A [(hm, .inr (5, [.int th, .int lo9, .int hi8, .int pr, .int (nI (iw i)), .long (lN b), .int le, .ref tx9, .ref un, .ref ro, .ref nu, .ref be, .ref ab, .ref tr, .ref bs, .ref fa, .ref bf, .int (nI (3 + (-pw).toNat)), .int ev])), (un, .inl (cJ, 96, .inr (.inl (gl U)))), (ro, .inl (cJ, 96, .inr (.inl (gl Y)))), (nu, .inl (cI, 864, .inl (gd N0))), (be, .inl (cI, 864, .inl (gd L0))), (ab, .inl (cI, 864, .inl (gd A0)))] := hD
    refine lv_aload_n hx hb d_Mo_spread_196 rfl (lv_at hl 5 rfl) ?_
    refine lv_lload_n hx hb d_Mo_spread_197 rfl (lv_at hl 3 rfl) ?_
    refine lv_ldc2 (v := 2) hx hb hown (hts _ kl_Mo_86) d_Mo_spread_198 ?_
    refine lv_lrem hx hb d_Mo_spread_201 (by decide) ?_
    refine lv_topl (fun x_25 e_26 => ?_)
    obtain rfl : x_25 = lN (fr % 2) := e_26.trans (pk_lRem (b := 2) (by omega) (by decide) (by decide))
    refine lv_lconst (v := 0) hx hb d_Mo_spread_202 (by decide) ?_
    refine lx_ne (tgt := 211) hx hb d_Mo_spread_203 d_Mo_spread_204 (by decide) (fun hz => ?_) (fun hz => ?_)
    · have z1 : fd_ev fr = 0 := if_neg (fun g => hz (by rw [g]; rfl))
      refine lv_iconst (v := 0) hx hb d_Mo_spread_211 (by decide) ?_
      refine lv_topi (fun x_27 e_28 => ?_)
      obtain rfl : x_27 = nI (fd_ev fr) := e_28.trans (by rw [z1]; rfl)
      exact k212 H _ ls hP hD hS hl
    · have z1 : fd_ev fr = 1 := if_pos ((pk_lEQ (a := fr % 2) (b := 0) (by omega) (by omega)).mp hz)
      refine lv_iconst (v := 1) hx hb d_Mo_spread_207 (by decide) ?_
      refine lv_topi (fun x_29 e_30 => ?_)
      obtain rfl : x_29 = nI (fd_ev fr) := e_30.trans (by rw [z1]; rfl)
      refine lv_goto (tgt := 212) hx hb d_Mo_spread_208 (by decide) ?_
      exact k212 H _ ls hP hD hS hl
  have l165 : ∀ (n k : Nat) (H : Heap) (locs : List Loc) (ls : Array Slot), (k ≤ (-pw).toNat % 12) → ((-pw).toNat % 12 + 1 ≤ k + n) → va_P (dC, dI) cls [(hm, .inr (5, [.int th, .int lo9, .int hi8, .int pr, .int (nI (iw i)), .long (lN b), .int le, .ref tx9, .ref un, .ref ro, .ref nu, .ref be, .ref ab, .ref tr, .ref bs, .ref fa, .ref bf, .int bh, .int ev])), (un, .inl (cJ, 96, .inr (.inl (gl (1000 * 2 ^ pw.toNat * 5 ^ (12 * ((-pw).toNat / 12) + k)))))), (ro, .inl (cJ, 96, .inr (.inl (gl Y)))), (nu, .inl (cI, 864, .inl (gd N0))), (be, .inl (cI, 864, .inl (gd L0))), (ab, .inl (cI, 864, .inl (gd A0)))] H → va_D A [(hm, .inr (5, [.int th, .int lo9, .int hi8, .int pr, .int (nI (iw i)), .long (lN b), .int le, .ref tx9, .ref un, .ref ro, .ref nu, .ref be, .ref ab, .ref tr, .ref bs, .ref fa, .ref bf, .int bh, .int ev])), (un, .inl (cJ, 96, .inr (.inl (gl (1000 * 2 ^ pw.toNat * 5 ^ (12 * ((-pw).toNat / 12) + k)))))), (ro, .inl (cJ, 96, .inr (.inl (gl Y)))), (nu, .inl (cI, 864, .inl (gd N0))), (be, .inl (cI, 864, .inl (gd L0))), (ab, .inl (cI, 864, .inl (gd A0)))] → va_S A s.heap H locs → lv_has ls 9 [(8, .int (nI k)), (7, .int (nI (-pw).toNat)), (6, .int (iZ pw)), (4, .long (lN S)), (2, .long (lN fr)), (1, .int (nI e9)), (0, .ref hm)] → W p l e { frames := 1, cells := 0, slots := 0, locals := 32 } s m args below meth c H locs 0 0 Q (F0 m 165 ls []) := by
    intro n
    induction n with
    | zero => intro k H locs ls hk hn hP hD hS hl; exact absurd hn (by omega)
    | succ n ih =>
      intro k H locs ls hk hn hP hD hS hl
      refine lv_iload hx hb d_Mo_spread_165 (lv_at hl 0 rfl) ?_
      refine lv_iload hx hb d_Mo_spread_167 (lv_at hl 1 rfl) ?_
      refine lv_bipush (v := 12) hx hb d_Mo_spread_169 (by decide) ?_
      refine lv_irem hx hb d_Mo_spread_171 (by decide) ?_
      refine lv_topi (fun x_31 e_32 => ?_)
      obtain rfl : x_31 = nI ((-pw).toNat % 12) := e_32.trans (pk_rem (d := 12) (by omega) (by omega) (by omega))
      refine lv_icmp_ge (tgt := 188) hx hb d_Mo_spread_172 (by decide) (fun hc => ?_) (fun hc => ?_)
      · have hk9 : k = (-pw).toNat % 12 := by have := (nI_leI (by omega) (by omega)).mp hc; omega
        have hV9 : 1000 * 2 ^ pw.toNat * 5 ^ (12 * ((-pw).toNat / 12) + k) = U := by rw [h_U]; congr 2; omega
        rw [hV9] at hP hD
        exact k188 H _ ls hP hD hS (lv_sub hl [1, 2, 3, 4, 5, 6] rfl)
      · have hlt : k < (-pw).toNat % 12 := by have := mt (nI_leI (a := (-pw).toNat % 12) (b := k) (by omega) (by omega)).mpr hc; omega
        have hfit := fun F hF => mun_fit1 (a := pw.toNat) (b := 12 * ((-pw).toNat / 12) + k) (F := F) hpn.1 (by omega) (by omega) hF
        have hfit0 := mun_fit0 (a := pw.toNat) (b := 12 * ((-pw).toNat / 12) + k) hpn.1 (by omega) (by omega)
        refine lv_aload_n hx hb d_Mo_spread_175 rfl (lv_at hl 6 rfl) ?_
        refine lv_ldc2 (v := 5) hx hb hown (hts _ kl_Mo_94) d_Mo_spread_176 ?_
        refine pw_callv (wc := [(hm, .inr (5, [.int th, .int lo9, .int hi8, .int pr, .int (nI (iw i)), .long (lN b), .int le, .ref tx9, .ref un, .ref ro, .ref nu, .ref be, .ref ab, .ref tr, .ref bs, .ref fa, .ref bf, .int bh, .int ev])), (un, .inl (cJ, 96, .inr (.inl (gl (1000 * 2 ^ pw.toNat * 5 ^ (12 * ((-pw).toNat / 12) + k))))))]) (wr := [(ro, .inl (cJ, 96, .inr (.inl (gl Y)))), (nu, .inl (cI, 864, .inl (gd N0))), (be, .inl (cI, 864, .inl (gd L0))), (ab, .inl (cI, 864, .inl (gd A0)))]) [0, 1] [2, 3, 4, 5] rfl rfl rfl (by decide) (by decide) (by decide) hP hD hS hA (fun hPc hDc hF => va_runV (As := [.long 5]) (rest := []) ⟨hx, hb, hml, hown, hts⟩ (c_Mo_timesUnit l dC dI H.size hm tx9 un ro nu be ab tr bs fa bf th lo9 hi8 pr (nI (iw i)) le bh ev (lN b) cJ (1000 * 2 ^ pw.toNat * 5 ^ (12 * ((-pw).toNat / 12) + k)) 5 hfit0 (by decide) (hfit 5 (by decide))) (cwV 1 hts (gw_V (gw_self cod_Mo_timesUnit) ml_Mo_88 im_Mo_timesUnit sel_Mo_timesUnit ini_Mo) rfl rfl rfl (by decide +kernel) ⟨Nat.le_of_ble_eq_true rfl, Nat.le_of_ble_eq_true rfl⟩) (pw_preV pw_0_ok (trivial : pw_0 A s s.heap) hS hF hPc hDc (hK.sub [0] rfl) (va_recv hK hPc (ci := 5) (q0 := 0) rfl rfl)) rfl rfl hl.1 rfl (lv_room (Nat.le_of_ble_eq_true rfl)) d_Mo_spread_179 ⟨Nat.le_of_ble_eq_true rfl, Nat.le_of_ble_eq_true rfl⟩) (fun u1 H locs h1 hK1 hP hD hS => ?_)
        have hP : va_P (dC, dI) cls [(hm, .inr (5, [.int th, .int lo9, .int hi8, .int pr, .int (nI (iw i)), .long (lN b), .int le, .ref tx9, .ref un, .ref ro, .ref nu, .ref be, .ref ab, .ref tr, .ref bs, .ref fa, .ref bf, .int bh, .int ev])), (un, .inl (cJ, 96, .inr (.inl (gl (1000 * 2 ^ pw.toNat * 5 ^ (12 * ((-pw).toNat / 12) + k) * 5))))), (ro, .inl (cJ, 96, .inr (.inl (gl Y)))), (nu, .inl (cI, 864, .inl (gd N0))), (be, .inl (cI, 864, .inl (gd L0))), (ab, .inl (cI, 864, .inl (gd A0)))] H := hP.sub [4, 5, 0, 1, 2, 3] rfl
        have hD : va_D A [(hm, .inr (5, [.int th, .int lo9, .int hi8, .int pr, .int (nI (iw i)), .long (lN b), .int le, .ref tx9, .ref un, .ref ro, .ref nu, .ref be, .ref ab, .ref tr, .ref bs, .ref fa, .ref bf, .int bh, .int ev])), (un, .inl (cJ, 96, .inr (.inl (gl (1000 * 2 ^ pw.toNat * 5 ^ (12 * ((-pw).toNat / 12) + k) * 5))))), (ro, .inl (cJ, 96, .inr (.inl (gl Y)))), (nu, .inl (cI, 864, .inl (gd N0))), (be, .inl (cI, 864, .inl (gd L0))), (ab, .inl (cI, 864, .inl (gd A0)))] := hD.sub [4, 5, 0, 1, 2, 3] (by decide) rfl
        have hV9 : 1000 * 2 ^ pw.toNat * 5 ^ (12 * ((-pw).toNat / 12) + k) * 5 = 1000 * 2 ^ pw.toNat * 5 ^ (12 * ((-pw).toNat / 12) + (k + 1)) := by rw [Nat.mul_assoc, ← Nat.pow_succ]; rfl
        rw [hV9] at hP hD
        refine lv_iinc (v := nI (k + 1)) (lv' := [(8, .int (nI (k + 1))), (7, .int (nI (-pw).toNat)), (6, .int (iZ pw)), (4, .long (lN S)), (2, .long (lN fr)), (1, .int (nI e9)), (0, .ref hm)]) hx hb d_Mo_spread_182 hl (k := 0) rfl (nI_1 _) (by decide) rfl (fun ls hl => ?_)
        refine lv_goto (tgt := 165) hx hb d_Mo_spread_185 (by decide) ?_
        exact ih (k + 1) H _ ls (by omega) (by omega) hP hD hS (lv_sub hl [0, 1, 2, 3, 4, 5, 6] rfl)
  have l139 : ∀ (n k : Nat) (H : Heap) (locs : List Loc) (ls : Array Slot), (k ≤ (-pw).toNat / 12) → ((-pw).toNat / 12 + 1 ≤ k + n) → va_P (dC, dI) cls [(hm, .inr (5, [.int th, .int lo9, .int hi8, .int pr, .int (nI (iw i)), .long (lN b), .int le, .ref tx9, .ref un, .ref ro, .ref nu, .ref be, .ref ab, .ref tr, .ref bs, .ref fa, .ref bf, .int bh, .int ev])), (un, .inl (cJ, 96, .inr (.inl (gl (1000 * 2 ^ pw.toNat * 5 ^ (12 * k)))))), (ro, .inl (cJ, 96, .inr (.inl (gl Y)))), (nu, .inl (cI, 864, .inl (gd N0))), (be, .inl (cI, 864, .inl (gd L0))), (ab, .inl (cI, 864, .inl (gd A0)))] H → va_D A [(hm, .inr (5, [.int th, .int lo9, .int hi8, .int pr, .int (nI (iw i)), .long (lN b), .int le, .ref tx9, .ref un, .ref ro, .ref nu, .ref be, .ref ab, .ref tr, .ref bs, .ref fa, .ref bf, .int bh, .int ev])), (un, .inl (cJ, 96, .inr (.inl (gl (1000 * 2 ^ pw.toNat * 5 ^ (12 * k)))))), (ro, .inl (cJ, 96, .inr (.inl (gl Y)))), (nu, .inl (cI, 864, .inl (gd N0))), (be, .inl (cI, 864, .inl (gd L0))), (ab, .inl (cI, 864, .inl (gd A0)))] → va_S A s.heap H locs → lv_has ls 9 [(8, .int (nI k)), (7, .int (nI (-pw).toNat)), (6, .int (iZ pw)), (4, .long (lN S)), (2, .long (lN fr)), (1, .int (nI e9)), (0, .ref hm)] → W p l e { frames := 1, cells := 0, slots := 0, locals := 32 } s m args below meth c H locs 0 0 Q (F0 m 139 ls []) := by
    intro n
    induction n with
    | zero => intro k H locs ls hk hn hP hD hS hl; exact absurd hn (by omega)
    | succ n ih =>
      intro k H locs ls hk hn hP hD hS hl
      refine lv_iload hx hb d_Mo_spread_139 (lv_at hl 0 rfl) ?_
      refine lv_iload hx hb d_Mo_spread_141 (lv_at hl 1 rfl) ?_
      refine lv_bipush (v := 12) hx hb d_Mo_spread_143 (by decide) ?_
      refine lv_idiv hx hb d_Mo_spread_145 (by decide) ?_
      refine lv_topi (fun x_33 e_34 => ?_)
      obtain rfl : x_33 = nI ((-pw).toNat / 12) := e_34.trans (pk_div (d := 12) (by omega) (by omega) (by omega))
      refine lv_icmp_ge (tgt := 162) hx hb d_Mo_spread_146 (by decide) (fun hc => ?_) (fun hc => ?_)
      · have hk9 : k = (-pw).toNat / 12 := by have := (nI_leI (by omega) (by omega)).mp hc; omega
        refine lv_iconst (v := 0) hx hb d_Mo_spread_162 (by decide) ?_
        refine lv_istore (lv' := [(8, .int 0), (7, .int (nI (-pw).toNat)), (6, .int (iZ pw)), (4, .long (lN S)), (2, .long (lN fr)), (1, .int (nI e9)), (0, .ref hm)]) hx hb d_Mo_spread_163 hl (by decide) rfl (fun ls hl => ?_)
        rw [hk9] at hP hD
        exact l165 ((-pw).toNat % 12 + 1) 0 H _ ls (by omega) (by omega) hP hD hS (lv_sub hl [0, 1, 2, 3, 4, 5, 6] rfl)
      · have hlt : k < (-pw).toNat / 12 := by have := mt (nI_leI (a := (-pw).toNat / 12) (b := k) (by omega) (by omega)).mpr hc; omega
        have hfit := fun F hF => mun_fit1 (a := pw.toNat) (b := 12 * k) (F := F) hpn.1 (by omega) (by omega) hF
        have hfit0 := mun_fit0 (a := pw.toNat) (b := 12 * k) hpn.1 (by omega) (by omega)
        refine lv_aload_n hx hb d_Mo_spread_149 rfl (lv_at hl 6 rfl) ?_
        refine lv_ldc2 (v := 244140625) hx hb hown (hts _ kl_Mo_92) d_Mo_spread_150 ?_
        refine pw_callv (wc := [(hm, .inr (5, [.int th, .int lo9, .int hi8, .int pr, .int (nI (iw i)), .long (lN b), .int le, .ref tx9, .ref un, .ref ro, .ref nu, .ref be, .ref ab, .ref tr, .ref bs, .ref fa, .ref bf, .int bh, .int ev])), (un, .inl (cJ, 96, .inr (.inl (gl (1000 * 2 ^ pw.toNat * 5 ^ (12 * k))))))]) (wr := [(ro, .inl (cJ, 96, .inr (.inl (gl Y)))), (nu, .inl (cI, 864, .inl (gd N0))), (be, .inl (cI, 864, .inl (gd L0))), (ab, .inl (cI, 864, .inl (gd A0)))]) [0, 1] [2, 3, 4, 5] rfl rfl rfl (by decide) (by decide) (by decide) hP hD hS hA (fun hPc hDc hF => va_runV (As := [.long 244140625]) (rest := []) ⟨hx, hb, hml, hown, hts⟩ (c_Mo_timesUnit l dC dI H.size hm tx9 un ro nu be ab tr bs fa bf th lo9 hi8 pr (nI (iw i)) le bh ev (lN b) cJ (1000 * 2 ^ pw.toNat * 5 ^ (12 * k)) 244140625 hfit0 (by decide) (hfit 244140625 (by decide))) (cwV 1 hts (gw_V (gw_self cod_Mo_timesUnit) ml_Mo_88 im_Mo_timesUnit sel_Mo_timesUnit ini_Mo) rfl rfl rfl (by decide +kernel) ⟨Nat.le_of_ble_eq_true rfl, Nat.le_of_ble_eq_true rfl⟩) (pw_preV pw_0_ok (trivial : pw_0 A s s.heap) hS hF hPc hDc (hK.sub [0] rfl) (va_recv hK hPc (ci := 5) (q0 := 0) rfl rfl)) rfl rfl hl.1 rfl (lv_room (Nat.le_of_ble_eq_true rfl)) d_Mo_spread_153 ⟨Nat.le_of_ble_eq_true rfl, Nat.le_of_ble_eq_true rfl⟩) (fun u1 H locs h1 hK1 hP hD hS => ?_)
        have hP : va_P (dC, dI) cls [(hm, .inr (5, [.int th, .int lo9, .int hi8, .int pr, .int (nI (iw i)), .long (lN b), .int le, .ref tx9, .ref un, .ref ro, .ref nu, .ref be, .ref ab, .ref tr, .ref bs, .ref fa, .ref bf, .int bh, .int ev])), (un, .inl (cJ, 96, .inr (.inl (gl (1000 * 2 ^ pw.toNat * 5 ^ (12 * k) * 244140625))))), (ro, .inl (cJ, 96, .inr (.inl (gl Y)))), (nu, .inl (cI, 864, .inl (gd N0))), (be, .inl (cI, 864, .inl (gd L0))), (ab, .inl (cI, 864, .inl (gd A0)))] H := hP.sub [4, 5, 0, 1, 2, 3] rfl
        have hD : va_D A [(hm, .inr (5, [.int th, .int lo9, .int hi8, .int pr, .int (nI (iw i)), .long (lN b), .int le, .ref tx9, .ref un, .ref ro, .ref nu, .ref be, .ref ab, .ref tr, .ref bs, .ref fa, .ref bf, .int bh, .int ev])), (un, .inl (cJ, 96, .inr (.inl (gl (1000 * 2 ^ pw.toNat * 5 ^ (12 * k) * 244140625))))), (ro, .inl (cJ, 96, .inr (.inl (gl Y)))), (nu, .inl (cI, 864, .inl (gd N0))), (be, .inl (cI, 864, .inl (gd L0))), (ab, .inl (cI, 864, .inl (gd A0)))] := hD.sub [4, 5, 0, 1, 2, 3] (by decide) rfl
        have hV9 : 1000 * 2 ^ pw.toNat * 5 ^ (12 * k) * 244140625 = 1000 * 2 ^ pw.toNat * 5 ^ (12 * (k + 1)) := by rw [Nat.mul_assoc, show (244140625 : Nat) = 5 ^ 12 from by decide, ← Nat.pow_add, Nat.mul_add]
        rw [hV9] at hP hD
        refine lv_iinc (v := nI (k + 1)) (lv' := [(8, .int (nI (k + 1))), (7, .int (nI (-pw).toNat)), (6, .int (iZ pw)), (4, .long (lN S)), (2, .long (lN fr)), (1, .int (nI e9)), (0, .ref hm)]) hx hb d_Mo_spread_156 hl (k := 0) rfl (nI_1 _) (by decide) rfl (fun ls hl => ?_)
        refine lv_goto (tgt := 139) hx hb d_Mo_spread_159 (by decide) ?_
        exact ih (k + 1) H _ ls (by omega) (by omega) hP hD hS (lv_sub hl [0, 1, 2, 3, 4, 5, 6] rfl)
  have k134 : ∀ (H : Heap) (locs : List Loc) (ls : Array Slot), va_P (dC, dI) cls [(hm, .inr (5, [.int th, .int lo9, .int hi8, .int pr, .int (nI (iw i)), .long (lN b), .int le, .ref tx9, .ref un, .ref ro, .ref nu, .ref be, .ref ab, .ref tr, .ref bs, .ref fa, .ref bf, .int bh, .int ev])), (un, .inl (cJ, 96, .inr (.inl (gl (1000 * 2 ^ pw.toNat))))), (ro, .inl (cJ, 96, .inr (.inl (gl Y)))), (nu, .inl (cI, 864, .inl (gd N0))), (be, .inl (cI, 864, .inl (gd L0))), (ab, .inl (cI, 864, .inl (gd A0)))] H → va_D A [(hm, .inr (5, [.int th, .int lo9, .int hi8, .int pr, .int (nI (iw i)), .long (lN b), .int le, .ref tx9, .ref un, .ref ro, .ref nu, .ref be, .ref ab, .ref tr, .ref bs, .ref fa, .ref bf, .int bh, .int ev])), (un, .inl (cJ, 96, .inr (.inl (gl (1000 * 2 ^ pw.toNat))))), (ro, .inl (cJ, 96, .inr (.inl (gl Y)))), (nu, .inl (cI, 864, .inl (gd N0))), (be, .inl (cI, 864, .inl (gd L0))), (ab, .inl (cI, 864, .inl (gd A0)))] → va_S A s.heap H locs → lv_has ls 9 [(6, .int (iZ pw)), (4, .long (lN S)), (2, .long (lN fr)), (1, .int (nI e9)), (0, .ref hm)] → W p l e { frames := 1, cells := 0, slots := 0, locals := 32 } s m args below meth c H locs 0 0 Q (F0 m 134 ls [.int (nI (-pw).toNat)]) := by
    intro H locs ls hP hD hS hl
    refine lv_istore (lv' := [(7, .int (nI (-pw).toNat)), (6, .int (iZ pw)), (4, .long (lN S)), (2, .long (lN fr)), (1, .int (nI e9)), (0, .ref hm)]) hx hb d_Mo_spread_134 hl (by decide) rfl (fun ls hl => ?_)
    refine lv_iconst (v := 0) hx hb d_Mo_spread_136 (by decide) ?_
    refine lv_istore (lv' := [(8, .int 0), (7, .int (nI (-pw).toNat)), (6, .int (iZ pw)), (4, .long (lN S)), (2, .long (lN fr)), (1, .int (nI e9)), (0, .ref hm)]) hx hb d_Mo_spread_137 hl (by decide) rfl (fun ls hl => ?_)
    have h50 : 1000 * 2 ^ pw.toNat * 5 ^ (12 * 0) = 1000 * 2 ^ pw.toNat := by rw [Nat.mul_zero, Nat.pow_zero, Nat.mul_one]
    exact l139 ((-pw).toNat / 12 + 1) 0 H _ ls (by omega) (by omega) (by rw [h50]; exact hP) (by rw [h50]; exact hD) hS (lv_sub hl [0, 1, 2, 3, 4, 5, 6] rfl)
  have l102 : ∀ (n k : Nat) (H : Heap) (locs : List Loc) (ls : Array Slot), (k ≤ pw.toNat) → (pw.toNat + 1 ≤ k + n) → va_P (dC, dI) cls [(hm, .inr (5, [.int th, .int lo9, .int hi8, .int pr, .int (nI (iw i)), .long (lN b), .int le, .ref tx9, .ref un, .ref ro, .ref nu, .ref be, .ref ab, .ref tr, .ref bs, .ref fa, .ref bf, .int bh, .int ev])), (un, .inl (cJ, 96, .inr (.inl (gl (1000 * 2 ^ k))))), (ro, .inl (cJ, 96, .inr (.inl (gl Y)))), (nu, .inl (cI, 864, .inl (gd N0))), (be, .inl (cI, 864, .inl (gd L0))), (ab, .inl (cI, 864, .inl (gd A0)))] H → va_D A [(hm, .inr (5, [.int th, .int lo9, .int hi8, .int pr, .int (nI (iw i)), .long (lN b), .int le, .ref tx9, .ref un, .ref ro, .ref nu, .ref be, .ref ab, .ref tr, .ref bs, .ref fa, .ref bf, .int bh, .int ev])), (un, .inl (cJ, 96, .inr (.inl (gl (1000 * 2 ^ k))))), (ro, .inl (cJ, 96, .inr (.inl (gl Y)))), (nu, .inl (cI, 864, .inl (gd N0))), (be, .inl (cI, 864, .inl (gd L0))), (ab, .inl (cI, 864, .inl (gd A0)))] → va_S A s.heap H locs → lv_has ls 9 [(7, .int (nI k)), (6, .int (iZ pw)), (4, .long (lN S)), (2, .long (lN fr)), (1, .int (nI e9)), (0, .ref hm)] → W p l e { frames := 1, cells := 0, slots := 0, locals := 32 } s m args below meth c H locs 0 0 Q (F0 m 102 ls []) := by
    intro n
    induction n with
    | zero => intro k H locs ls hk hn hP hD hS hl; exact absurd hn (by omega)
    | succ n ih =>
      intro k H locs ls hk hn hP hD hS hl
      refine lv_iload hx hb d_Mo_spread_102 (lv_at hl 0 rfl) ?_
      refine lv_iload hx hb d_Mo_spread_104 (lv_at hl 1 rfl) ?_
      refine lv_icmp_ge (tgt := 122) hx hb d_Mo_spread_106 (by decide) (fun hc => ?_) (fun hc => ?_)
      · have hge : pw ≤ k := by rw [iZ_N] at hc; exact (iZ_le (by omega) (by omega) (by omega) (by omega)).mp hc
        have hk9 : k = pw.toNat := by omega
        rw [hk9] at hP hD
        refine lv_iload hx hb d_Mo_spread_122 (lv_at hl 1 rfl) ?_
        refine lv_if_ge (tgt := 133) hx hb d_Mo_spread_124 (by decide) (fun hc2 => ?_) (fun hc2 => ?_)
        · have h0 : 0 ≤ pw := (iZ_le (a := 0) (b := pw) (by omega) (by omega) (by omega) (by omega)).mp hc2
          refine lv_iconst (v := 0) hx hb d_Mo_spread_133 (by decide) ?_
          refine lv_topi (fun x_35 e_36 => ?_)
          obtain rfl : x_35 = nI (-pw).toNat := e_36.trans (by rw [show (-pw).toNat = 0 from by omega]; rfl)
          exact k134 H _ ls hP hD hS (lv_sub hl [1, 2, 3, 4, 5] rfl)
        · have h0 : pw < 0 := by have := mt (iZ_le (a := 0) (b := pw) (by omega) (by omega) (by omega) (by omega)).mpr hc2; omega
          refine lv_iload hx hb d_Mo_spread_127 (lv_at hl 1 rfl) ?_
          refine lv_ineg hx hb d_Mo_spread_129 ?_
          refine lv_topi (fun x_37 e_38 => ?_)
          obtain rfl : x_37 = nI (-pw).toNat := e_38.trans ((iZ_neg pw).trans (by rw [iZ_N]; congr 1; omega))
          refine lv_goto (tgt := 134) hx hb d_Mo_spread_130 (by decide) ?_
          exact k134 H _ ls hP hD hS (lv_sub hl [1, 2, 3, 4, 5] rfl)
      · have hlt : (k : Int) < pw := by rw [iZ_N] at hc; have := mt (iZ_le (a := pw) (b := (k : Int)) (by omega) (by omega) (by omega) (by omega)).mpr hc; omega
        have hfit0 := mun_fit0 (a := k) (b := 0) (by omega) (by omega) (Or.inr rfl)
        have hfit := mun_fit1 (a := k) (b := 0) (F := 2) (by omega) (by omega) (Or.inr rfl) (by decide)
        rw [Nat.pow_zero, Nat.mul_one] at hfit0 hfit
        refine lv_aload_n hx hb d_Mo_spread_109 rfl (lv_at hl 5 rfl) ?_
        refine lv_ldc2 (v := 2) hx hb hown (hts _ kl_Mo_86) d_Mo_spread_110 ?_
        refine pw_callv (wc := [(hm, .inr (5, [.int th, .int lo9, .int hi8, .int pr, .int (nI (iw i)), .long (lN b), .int le, .ref tx9, .ref un, .ref ro, .ref nu, .ref be, .ref ab, .ref tr, .ref bs, .ref fa, .ref bf, .int bh, .int ev])), (un, .inl (cJ, 96, .inr (.inl (gl (1000 * 2 ^ k)))))]) (wr := [(ro, .inl (cJ, 96, .inr (.inl (gl Y)))), (nu, .inl (cI, 864, .inl (gd N0))), (be, .inl (cI, 864, .inl (gd L0))), (ab, .inl (cI, 864, .inl (gd A0)))]) [0, 1] [2, 3, 4, 5] rfl rfl rfl (by decide) (by decide) (by decide) hP hD hS hA (fun hPc hDc hF => va_runV (As := [.long 2]) (rest := []) ⟨hx, hb, hml, hown, hts⟩ (c_Mo_timesUnit l dC dI H.size hm tx9 un ro nu be ab tr bs fa bf th lo9 hi8 pr (nI (iw i)) le bh ev (lN b) cJ (1000 * 2 ^ k) 2 hfit0 (by decide) hfit) (cwV 1 hts (gw_V (gw_self cod_Mo_timesUnit) ml_Mo_88 im_Mo_timesUnit sel_Mo_timesUnit ini_Mo) rfl rfl rfl (by decide +kernel) ⟨Nat.le_of_ble_eq_true rfl, Nat.le_of_ble_eq_true rfl⟩) (pw_preV pw_0_ok (trivial : pw_0 A s s.heap) hS hF hPc hDc (hK.sub [0] rfl) (va_recv hK hPc (ci := 5) (q0 := 0) rfl rfl)) rfl rfl hl.1 rfl (lv_room (Nat.le_of_ble_eq_true rfl)) d_Mo_spread_113 ⟨Nat.le_of_ble_eq_true rfl, Nat.le_of_ble_eq_true rfl⟩) (fun u1 H locs h1 hK1 hP hD hS => ?_)
        have hP : va_P (dC, dI) cls [(hm, .inr (5, [.int th, .int lo9, .int hi8, .int pr, .int (nI (iw i)), .long (lN b), .int le, .ref tx9, .ref un, .ref ro, .ref nu, .ref be, .ref ab, .ref tr, .ref bs, .ref fa, .ref bf, .int bh, .int ev])), (un, .inl (cJ, 96, .inr (.inl (gl (1000 * 2 ^ k * 2))))), (ro, .inl (cJ, 96, .inr (.inl (gl Y)))), (nu, .inl (cI, 864, .inl (gd N0))), (be, .inl (cI, 864, .inl (gd L0))), (ab, .inl (cI, 864, .inl (gd A0)))] H := hP.sub [4, 5, 0, 1, 2, 3] rfl
        have hD : va_D A [(hm, .inr (5, [.int th, .int lo9, .int hi8, .int pr, .int (nI (iw i)), .long (lN b), .int le, .ref tx9, .ref un, .ref ro, .ref nu, .ref be, .ref ab, .ref tr, .ref bs, .ref fa, .ref bf, .int bh, .int ev])), (un, .inl (cJ, 96, .inr (.inl (gl (1000 * 2 ^ k * 2))))), (ro, .inl (cJ, 96, .inr (.inl (gl Y)))), (nu, .inl (cI, 864, .inl (gd N0))), (be, .inl (cI, 864, .inl (gd L0))), (ab, .inl (cI, 864, .inl (gd A0)))] := hD.sub [4, 5, 0, 1, 2, 3] (by decide) rfl
        rw [Nat.mul_assoc, ← Nat.pow_succ] at hP hD
        refine lv_iinc (v := nI (k + 1)) (lv' := [(7, .int (nI (k + 1))), (6, .int (iZ pw)), (4, .long (lN S)), (2, .long (lN fr)), (1, .int (nI e9)), (0, .ref hm)]) hx hb d_Mo_spread_116 hl (k := 0) rfl (nI_1 _) (by decide) rfl (fun ls hl => ?_)
        refine lv_goto (tgt := 102) hx hb d_Mo_spread_119 (by decide) ?_
        exact ih (k + 1) H _ ls (by omega) (by omega) hP hD hS (lv_sub hl [0, 1, 2, 3, 4, 5] rfl)
  have l69 : ∀ (n k : Nat) (H : Heap) (locs : List Loc) (ls : Array Slot), (k ≤ 96) → (97 ≤ k + n) → va_P (dC, dI) cls [(hm, .inr (5, [.int th, .int lo9, .int hi8, .int pr, .int (nI (iw i)), .long (lN b), .int le, .ref tx9, .ref un, .ref ro, .ref nu, .ref be, .ref ab, .ref tr, .ref bs, .ref fa, .ref bf, .int bh, .int ev])), (un, .inl (cJ, 96, .inr (.inl (gml 0 V k)))), (ro, .inl (cJ, 96, .inr (.inl (gl Y)))), (nu, .inl (cI, 864, .inl (gd N0))), (be, .inl (cI, 864, .inl (gd L0))), (ab, .inl (cI, 864, .inl (gd A0)))] H → va_D A [(hm, .inr (5, [.int th, .int lo9, .int hi8, .int pr, .int (nI (iw i)), .long (lN b), .int le, .ref tx9, .ref un, .ref ro, .ref nu, .ref be, .ref ab, .ref tr, .ref bs, .ref fa, .ref bf, .int bh, .int ev])), (un, .inl (cJ, 96, .inr (.inl (gml 0 V k)))), (ro, .inl (cJ, 96, .inr (.inl (gl Y)))), (nu, .inl (cI, 864, .inl (gd N0))), (be, .inl (cI, 864, .inl (gd L0))), (ab, .inl (cI, 864, .inl (gd A0)))] → va_S A s.heap H locs → lv_has ls 9 [(7, .int (nI k)), (6, .int (iZ pw)), (4, .long (lN S)), (2, .long (lN fr)), (1, .int (nI e9)), (0, .ref hm)] → W p l e { frames := 1, cells := 0, slots := 0, locals := 32 } s m args below meth c H locs 0 0 Q (F0 m 69 ls []) := by
    intro n
    induction n with
    | zero => intro k H locs ls hk hn hP hD hS hl; exact absurd hn (by omega)
    | succ n ih =>
      intro k H locs ls hk hn hP hD hS hl
      refine lv_iload hx hb d_Mo_spread_69 (lv_at hl 0 rfl) ?_
      refine lv_bipush (v := 96) hx hb d_Mo_spread_71 (by decide) ?_
      refine lv_icmp_ge (tgt := 90) hx hb d_Mo_spread_73 (by decide) (fun hc => ?_) (fun hc => ?_)
      · obtain rfl : k = 96 := by have := (nI_leI (a := 96) (b := k) (by omega) (by omega)).mp hc; omega
        rw [gml_all (by decide) hV] at hP hD
        refine lv_aload_n hx hb d_Mo_spread_90 rfl (lv_at hl 5 rfl) ?_
        refine va_get (D := (dC, dI)) (ci := 5) (v := .ref un) (C := R_Mo) (T := F_Mo) (N := 19) hx hb hts i_Mo hown hK hP 0 rfl rfl 8 (by decide) (hts _ fl_Mo_20) (fun _ h9 => h9) rfl d_Mo_spread_91 ?_
        refine lv_iconst (v := 0) hx hb d_Mo_spread_94 (by decide) ?_
        refine lv_topi (fun x_39 e_40 => ?_)
        obtain rfl : x_39 = nI 0 := e_40.trans (rfl)
        refine lv_ldc2 (v := 1000) hx hb hown (hts _ kl_Mo_84) d_Mo_spread_95 ?_
        refine va_last hx hb hK hP hD hS 1 0 rfl rfl (vp_in_nI (by decide) (by decide)) d_Mo_spread_98 (fun H locs hP hD hS => ?_)
        have e_41 : vp_updL (gl 0) (nI 0).toNatClampNeg 1000 = gl 1000 := by rw [nI_clamp (by decide)]; exact gl_1000
        have hP : va_P (dC, dI) cls [(hm, .inr (5, [.int th, .int lo9, .int hi8, .int pr, .int (nI (iw i)), .long (lN b), .int le, .ref tx9, .ref un, .ref ro, .ref nu, .ref be, .ref ab, .ref tr, .ref bs, .ref fa, .ref bf, .int bh, .int ev])), (un, .inl (cJ, 96, .inr (.inl (gl 1000)))), (ro, .inl (cJ, 96, .inr (.inl (gl Y)))), (nu, .inl (cI, 864, .inl (gd N0))), (be, .inl (cI, 864, .inl (gd L0))), (ab, .inl (cI, 864, .inl (gd A0)))] H := by rw [← e_41]; exact hP
        have hD : va_D A [(hm, .inr (5, [.int th, .int lo9, .int hi8, .int pr, .int (nI (iw i)), .long (lN b), .int le, .ref tx9, .ref un, .ref ro, .ref nu, .ref be, .ref ab, .ref tr, .ref bs, .ref fa, .ref bf, .int bh, .int ev])), (un, .inl (cJ, 96, .inr (.inl (gl 1000)))), (ro, .inl (cJ, 96, .inr (.inl (gl Y)))), (nu, .inl (cI, 864, .inl (gd N0))), (be, .inl (cI, 864, .inl (gd L0))), (ab, .inl (cI, 864, .inl (gd A0)))] := by rw [← e_41]; exact hD
        refine lv_iconst (v := 0) hx hb d_Mo_spread_99 (by decide) ?_
        refine lv_istore (lv' := [(7, .int 0), (6, .int (iZ pw)), (4, .long (lN S)), (2, .long (lN fr)), (1, .int (nI e9)), (0, .ref hm)]) hx hb d_Mo_spread_100 hl (by decide) rfl (fun ls hl => ?_)
        exact l102 (pw.toNat + 1) 0 H _ ls (by omega) (by omega) (by rw [Nat.pow_zero, Nat.mul_one]; exact hP) (by rw [Nat.pow_zero, Nat.mul_one]; exact hD) hS (lv_sub hl [0, 1, 2, 3, 4, 5] rfl)
      · have hlt : k < 96 := by have := mt (nI_leI (a := 96) (b := k) (by omega) (by omega)).mpr hc; omega
        refine lv_aload_n hx hb d_Mo_spread_76 rfl (lv_at hl 5 rfl) ?_
        refine va_get (D := (dC, dI)) (ci := 5) (v := .ref un) (C := R_Mo) (T := F_Mo) (N := 19) hx hb hts i_Mo hown hK hP 0 rfl rfl 8 (by decide) (hts _ fl_Mo_20) (fun _ h9 => h9) rfl d_Mo_spread_77 ?_
        refine lv_iload hx hb d_Mo_spread_80 (lv_at hl 0 rfl) ?_
        refine lv_lconst (v := 0) hx hb d_Mo_spread_82 (by decide) ?_
        refine lv_topl (fun x_42 e_43 => ?_)
        obtain rfl : x_42 = lN (gw 1000000000 0 k) := e_43.trans (by rw [gw_z]; rfl)
        refine va_last hx hb hK hP hD hS 1 0 rfl rfl (vp_in_nI (by omega) (by omega)) d_Mo_spread_83 (fun H locs hP hD hS => ?_)
        have e_44 : vp_updL (gml 0 V k) (nI k).toNatClampNeg (lN (gw 1000000000 0 k)) = gml 0 V (k + 1) := by rw [nI_clamp (by omega)]; exact gml_up 0 V k
        have hP : va_P (dC, dI) cls [(hm, .inr (5, [.int th, .int lo9, .int hi8, .int pr, .int (nI (iw i)), .long (lN b), .int le, .ref tx9, .ref un, .ref ro, .ref nu, .ref be, .ref ab, .ref tr, .ref bs, .ref fa, .ref bf, .int bh, .int ev])), (un, .inl (cJ, 96, .inr (.inl (gml 0 V (k + 1))))), (ro, .inl (cJ, 96, .inr (.inl (gl Y)))), (nu, .inl (cI, 864, .inl (gd N0))), (be, .inl (cI, 864, .inl (gd L0))), (ab, .inl (cI, 864, .inl (gd A0)))] H := by rw [← e_44]; exact hP
        have hD : va_D A [(hm, .inr (5, [.int th, .int lo9, .int hi8, .int pr, .int (nI (iw i)), .long (lN b), .int le, .ref tx9, .ref un, .ref ro, .ref nu, .ref be, .ref ab, .ref tr, .ref bs, .ref fa, .ref bf, .int bh, .int ev])), (un, .inl (cJ, 96, .inr (.inl (gml 0 V (k + 1))))), (ro, .inl (cJ, 96, .inr (.inl (gl Y)))), (nu, .inl (cI, 864, .inl (gd N0))), (be, .inl (cI, 864, .inl (gd L0))), (ab, .inl (cI, 864, .inl (gd A0)))] := by rw [← e_44]; exact hD
        refine lv_iinc (v := nI (k + 1)) (lv' := [(7, .int (nI (k + 1))), (6, .int (iZ pw)), (4, .long (lN S)), (2, .long (lN fr)), (1, .int (nI e9)), (0, .ref hm)]) hx hb d_Mo_spread_84 hl (k := 0) rfl (nI_1 _) (by decide) rfl (fun ls hl => ?_)
        refine lv_goto (tgt := 69) hx hb d_Mo_spread_87 (by decide) ?_
        exact ih (k + 1) H _ ls (by omega) (by omega) hP hD hS (lv_sub hl [0, 1, 2, 3, 4, 5] rfl)
  have k64 : ∀ (H : Heap) (locs : List Loc) (ls : Array Slot), va_P (dC, dI) cls [(hm, .inr (5, [.int th, .int lo9, .int hi8, .int pr, .int (nI (iw i)), .long (lN b), .int le, .ref tx9, .ref un, .ref ro, .ref nu, .ref be, .ref ab, .ref tr, .ref bs, .ref fa, .ref bf, .int bh, .int ev])), (un, .inl (cJ, 96, .inr (.inl (gl V)))), (ro, .inl (cJ, 96, .inr (.inl (gl Y)))), (nu, .inl (cI, 864, .inl (gd N0))), (be, .inl (cI, 864, .inl (gd L0))), (ab, .inl (cI, 864, .inl (gd A0)))] H → va_D A [(hm, .inr (5, [.int th, .int lo9, .int hi8, .int pr, .int (nI (iw i)), .long (lN b), .int le, .ref tx9, .ref un, .ref ro, .ref nu, .ref be, .ref ab, .ref tr, .ref bs, .ref fa, .ref bf, .int bh, .int ev])), (un, .inl (cJ, 96, .inr (.inl (gl V)))), (ro, .inl (cJ, 96, .inr (.inl (gl Y)))), (nu, .inl (cI, 864, .inl (gd N0))), (be, .inl (cI, 864, .inl (gd L0))), (ab, .inl (cI, 864, .inl (gd A0)))] → va_S A s.heap H locs → lv_has ls 9 [(4, .long (lN S)), (2, .long (lN fr)), (1, .int (nI e9)), (0, .ref hm)] → W p l e { frames := 1, cells := 0, slots := 0, locals := 32 } s m args below meth c H locs 0 0 Q (F0 m 64 ls [.int (iZ pw)]) := by
    intro H locs ls hP hD hS hl
    refine lv_istore (lv' := [(6, .int (iZ pw)), (4, .long (lN S)), (2, .long (lN fr)), (1, .int (nI e9)), (0, .ref hm)]) hx hb d_Mo_spread_64 hl (by decide) rfl (fun ls hl => ?_)
    refine lv_iconst (v := 0) hx hb d_Mo_spread_66 (by decide) ?_
    refine lv_istore (lv' := [(7, .int 0), (6, .int (iZ pw)), (4, .long (lN S)), (2, .long (lN fr)), (1, .int (nI e9)), (0, .ref hm)]) hx hb d_Mo_spread_67 hl (by decide) rfl (fun ls hl => ?_)
    exact l69 97 0 H _ ls (by omega) (by omega) (by rw [gml_0]; exact hP) (by rw [gml_0]; exact hD) hS (lv_sub hl [0, 1, 2, 3, 4, 5] rfl)
  have k47 : ∀ (H : Heap) (locs : List Loc) (ls : Array Slot), va_P (dC, dI) cls [(hm, .inr (5, [.int th, .int lo9, .int hi8, .int pr, .int (nI (iw i)), .long (lN b), .int le, .ref tx9, .ref un, .ref ro, .ref nu, .ref be, .ref ab, .ref tr, .ref bs, .ref fa, .ref bf, .int bh, .int ev])), (un, .inl (cJ, 96, .inr (.inl (gl V)))), (ro, .inl (cJ, 96, .inr (.inl (gl Y)))), (nu, .inl (cI, 864, .inl (gd N0))), (be, .inl (cI, 864, .inl (gd L0))), (ab, .inl (cI, 864, .inl (gd A0)))] H → va_D A [(hm, .inr (5, [.int th, .int lo9, .int hi8, .int pr, .int (nI (iw i)), .long (lN b), .int le, .ref tx9, .ref un, .ref ro, .ref nu, .ref be, .ref ab, .ref tr, .ref bs, .ref fa, .ref bf, .int bh, .int ev])), (un, .inl (cJ, 96, .inr (.inl (gl V)))), (ro, .inl (cJ, 96, .inr (.inl (gl Y)))), (nu, .inl (cI, 864, .inl (gd N0))), (be, .inl (cI, 864, .inl (gd L0))), (ab, .inl (cI, 864, .inl (gd A0)))] → va_S A s.heap H locs → lv_has ls 9 [(4, .long (lN S)), (2, .long (lN fr)), (1, .int (nI e9)), (0, .ref hm)] → W p l e { frames := 1, cells := 0, slots := 0, locals := 32 } s m args below meth c H locs 0 0 Q (F0 m 47 ls [.int (nI (max e9 1))]) := by
    intro H locs ls hP hD hS hl
    have hmx : max e9 1 ≤ 2 ^ 11 := Nat.max_le.mpr ⟨by omega, by decide⟩
    refine lv_aload_n hx hb d_Mo_spread_47 rfl (lv_at hl 3 rfl) ?_
    refine va_get (D := (dC, dI)) (ci := 5) (v := .int (nI (iw i))) (C := R_Mo) (T := F_Mo) (N := 19) hx hb hts i_Mo hown hK hP 0 rfl rfl 4 (by decide) (hts _ fl_Mo_51) (fun _ h9 => h9) rfl d_Mo_spread_48 ?_
    refine lv_if_eq (tgt := 60) hx hb d_Mo_spread_51 (by decide) (fun hw9 => ?_) (fun hw9 => ?_)
    · have hi1 : i = 1 := by have := (nI_b0 (iw_le i)).mp hw9; unfold iw at this; split at this <;> omega
      have hF9 : FB i = 23 := by rw [hi1]; rfl
      have hE9 : EB i = 8 := by rw [hi1]; rfl
      have hB9 : BI i = 127 := by rw [hi1]; rfl
      refine lv_sipush (v := 152) hx hb d_Mo_spread_60 (by decide) ?_
      refine lv_isub hx hb d_Mo_spread_63 ?_
      refine lv_topi (fun x_45 e_46 => ?_)
      obtain rfl : x_45 = iZ pw := e_46.trans (by rw [iZ_N]; exact (iZ_sub _ 152).trans (by rw [h_pw]; congr 1; unfold mpw pwr; omega))
      exact k64 H _ ls hP hD hS hl
    · have hi1 : i = 0 := by have := mt (nI_b0 (iw_le i)).mpr hw9; unfold iw at this; split at this <;> omega
      have hF9 : FB i = 52 := by rw [hi1]; rfl
      have hE9 : EB i = 11 := by rw [hi1]; rfl
      have hB9 : BI i = 1023 := by rw [hi1]; rfl
      refine lv_sipush (v := 1077) hx hb d_Mo_spread_54 (by decide) ?_
      refine lv_goto (tgt := 63) hx hb d_Mo_spread_57 (by decide) ?_
      refine lv_isub hx hb d_Mo_spread_63 ?_
      refine lv_topi (fun x_47 e_48 => ?_)
      obtain rfl : x_47 = iZ pw := e_48.trans (by rw [iZ_N]; exact (iZ_sub _ 1077).trans (by rw [h_pw]; congr 1; unfold mpw pwr; omega))
      exact k64 H _ ls hP hD hS hl
  have k36 : ∀ (H : Heap) (locs : List Loc) (ls : Array Slot), va_P (dC, dI) cls [(hm, .inr (5, [.int th, .int lo9, .int hi8, .int pr, .int (nI (iw i)), .long (lN b), .int le, .ref tx9, .ref un, .ref ro, .ref nu, .ref be, .ref ab, .ref tr, .ref bs, .ref fa, .ref bf, .int bh, .int ev])), (un, .inl (cJ, 96, .inr (.inl (gl V)))), (ro, .inl (cJ, 96, .inr (.inl (gl Y)))), (nu, .inl (cI, 864, .inl (gd N0))), (be, .inl (cI, 864, .inl (gd L0))), (ab, .inl (cI, 864, .inl (gd A0)))] H → va_D A [(hm, .inr (5, [.int th, .int lo9, .int hi8, .int pr, .int (nI (iw i)), .long (lN b), .int le, .ref tx9, .ref un, .ref ro, .ref nu, .ref be, .ref ab, .ref tr, .ref bs, .ref fa, .ref bf, .int bh, .int ev])), (un, .inl (cJ, 96, .inr (.inl (gl V)))), (ro, .inl (cJ, 96, .inr (.inl (gl Y)))), (nu, .inl (cI, 864, .inl (gd N0))), (be, .inl (cI, 864, .inl (gd L0))), (ab, .inl (cI, 864, .inl (gd A0)))] → va_S A s.heap H locs → lv_has ls 9 [(2, .long (lN fr)), (1, .int (nI e9)), (0, .ref hm)] → W p l e { frames := 1, cells := 0, slots := 0, locals := 32 } s m args below meth c H locs 0 0 Q (F0 m 36 ls [.long (lN S)]) := by
    intro H locs ls hP hD hS hl
    refine lv_lstore (lv' := [(4, .long (lN S)), (2, .long (lN fr)), (1, .int (nI e9)), (0, .ref hm)]) hx hb d_Mo_spread_36 hl (by decide) rfl (fun ls hl => ?_)
    refine lv_iload_n hx hb d_Mo_spread_38 rfl (lv_at hl 2 rfl) ?_
    refine lv_if_ne (tgt := 46) hx hb d_Mo_spread_39 (by decide) (fun hz => ?_) (fun hz => ?_)
    · have h0 : e9 ≠ 0 := fun g => hz (by rw [g]; rfl)
      refine lv_iload_n hx hb d_Mo_spread_46 rfl (lv_at hl 2 rfl) ?_
      refine lv_topi (fun x_49 e_50 => ?_)
      obtain rfl : x_49 = nI (max e9 1) := e_50.trans (by rw [Nat.max_eq_left (by omega)])
      exact k47 H _ ls hP hD hS hl
    · have h0 : e9 = 0 := (nI_eq (a := e9) (b := 0) (by omega) (by omega)).mp hz
      refine lv_iconst (v := 1) hx hb d_Mo_spread_42 (by decide) ?_
      refine lv_topi (fun x_51 e_52 => ?_)
      obtain rfl : x_51 = nI (max e9 1) := e_52.trans (by rw [h0]; rfl)
      refine lv_goto (tgt := 47) hx hb d_Mo_spread_43 (by decide) ?_
      exact k47 H _ ls hP hD hS hl
  refine lv_aload_n hx hb d_Mo_spread_0 rfl (lv_at hl 0 rfl) ?_
  refine pw_calli (wc := [(hm, .inr (5, [.int th, .int lo9, .int hi8, .int pr, .int (nI (iw i)), .long (lN b), .int le, .ref tx9, .ref un, .ref ro, .ref nu, .ref be, .ref ab, .ref tr, .ref bs, .ref fa, .ref bf, .int bh, .int ev]))]) (wr := [(un, .inl (cJ, 96, .inr (.inl (gl V)))), (ro, .inl (cJ, 96, .inr (.inl (gl Y)))), (nu, .inl (cI, 864, .inl (gd N0))), (be, .inl (cI, 864, .inl (gd L0))), (ab, .inl (cI, 864, .inl (gd A0)))]) [0] [1, 2, 3, 4, 5] rfl rfl rfl (by decide) (by decide) (by decide) hP hD hS hA (fun hPc hDc hF => va_runV (As := []) (rest := []) ⟨hx, hb, hml, hown, hts⟩ (c_Mo_exponent l dC dI H.size hm tx9 un ro nu be ab tr bs fa bf th lo9 hi8 pr le bh ev i b hi hbb) (cwV 0 hts (gw_V (gw_self cod_Mo_exponent) ml_Mo_63 im_Mo_exponent sel_Mo_exponent ini_Mo) rfl rfl rfl (by decide +kernel) ⟨Nat.le_of_ble_eq_true rfl, Nat.le_of_ble_eq_true rfl⟩) (pw_preV pw_0_ok (trivial : pw_0 A s s.heap) hS hF hPc hDc (hK.sub [] rfl) (va_recv hK hPc (ci := 5) (q0 := 0) rfl rfl)) rfl rfl hl.1 rfl (lv_room (Nat.le_of_ble_eq_true rfl)) d_Mo_spread_1 ⟨Nat.le_of_ble_eq_true rfl, Nat.le_of_ble_eq_true rfl⟩) (fun r5 u5 H locs hw5 hK1 hP hD hS => ?_)
  have hP : va_P (dC, dI) cls [(hm, .inr (5, [.int th, .int lo9, .int hi8, .int pr, .int (nI (iw i)), .long (lN b), .int le, .ref tx9, .ref un, .ref ro, .ref nu, .ref be, .ref ab, .ref tr, .ref bs, .ref fa, .ref bf, .int bh, .int ev])), (un, .inl (cJ, 96, .inr (.inl (gl V)))), (ro, .inl (cJ, 96, .inr (.inl (gl Y)))), (nu, .inl (cI, 864, .inl (gd N0))), (be, .inl (cI, 864, .inl (gd L0))), (ab, .inl (cI, 864, .inl (gd A0)))] H := hP.sub [5, 0, 1, 2, 3, 4] rfl
  have hD : va_D A [(hm, .inr (5, [.int th, .int lo9, .int hi8, .int pr, .int (nI (iw i)), .long (lN b), .int le, .ref tx9, .ref un, .ref ro, .ref nu, .ref be, .ref ab, .ref tr, .ref bs, .ref fa, .ref bf, .int bh, .int ev])), (un, .inl (cJ, 96, .inr (.inl (gl V)))), (ro, .inl (cJ, 96, .inr (.inl (gl Y)))), (nu, .inl (cI, 864, .inl (gd N0))), (be, .inl (cI, 864, .inl (gd L0))), (ab, .inl (cI, 864, .inl (gd A0)))] := hD.sub [5, 0, 1, 2, 3, 4] (by decide) rfl
  rw [← h_e9] at hw5
  subst hw5
  refine lv_istore_n (lv' := [(1, .int (nI e9)), (0, .ref hm)]) hx hb d_Mo_spread_4 rfl hl (by decide) rfl (fun ls hl => ?_)
  refine lv_aload_n hx hb d_Mo_spread_5 rfl (lv_at hl 1 rfl) ?_
  refine pw_calll (wc := [(hm, .inr (5, [.int th, .int lo9, .int hi8, .int pr, .int (nI (iw i)), .long (lN b), .int le, .ref tx9, .ref un, .ref ro, .ref nu, .ref be, .ref ab, .ref tr, .ref bs, .ref fa, .ref bf, .int bh, .int ev]))]) (wr := [(un, .inl (cJ, 96, .inr (.inl (gl V)))), (ro, .inl (cJ, 96, .inr (.inl (gl Y)))), (nu, .inl (cI, 864, .inl (gd N0))), (be, .inl (cI, 864, .inl (gd L0))), (ab, .inl (cI, 864, .inl (gd A0)))]) [0] [1, 2, 3, 4, 5] rfl rfl rfl (by decide) (by decide) (by decide) hP hD hS hA (fun hPc hDc hF => va_runV (As := []) (rest := []) ⟨hx, hb, hml, hown, hts⟩ (c_Mo_fraction l dC dI H.size hm tx9 un ro nu be ab tr bs fa bf th lo9 hi8 pr le bh ev i b hi hbb) (cwV 0 hts (gw_V (gw_self cod_Mo_fraction) ml_Mo_74 im_Mo_fraction sel_Mo_fraction ini_Mo) rfl rfl rfl (by decide +kernel) ⟨Nat.le_of_ble_eq_true rfl, Nat.le_of_ble_eq_true rfl⟩) (pw_preV pw_0_ok (trivial : pw_0 A s s.heap) hS hF hPc hDc (hK.sub [] rfl) (va_recv hK hPc (ci := 5) (q0 := 0) rfl rfl)) rfl rfl hl.1 rfl (lv_room (Nat.le_of_ble_eq_true rfl)) d_Mo_spread_6 ⟨Nat.le_of_ble_eq_true rfl, Nat.le_of_ble_eq_true rfl⟩) (fun r5 u5 H locs hw5 hK1 hP hD hS => ?_)
  have hP : va_P (dC, dI) cls [(hm, .inr (5, [.int th, .int lo9, .int hi8, .int pr, .int (nI (iw i)), .long (lN b), .int le, .ref tx9, .ref un, .ref ro, .ref nu, .ref be, .ref ab, .ref tr, .ref bs, .ref fa, .ref bf, .int bh, .int ev])), (un, .inl (cJ, 96, .inr (.inl (gl V)))), (ro, .inl (cJ, 96, .inr (.inl (gl Y)))), (nu, .inl (cI, 864, .inl (gd N0))), (be, .inl (cI, 864, .inl (gd L0))), (ab, .inl (cI, 864, .inl (gd A0)))] H := hP.sub [5, 0, 1, 2, 3, 4] rfl
  have hD : va_D A [(hm, .inr (5, [.int th, .int lo9, .int hi8, .int pr, .int (nI (iw i)), .long (lN b), .int le, .ref tx9, .ref un, .ref ro, .ref nu, .ref be, .ref ab, .ref tr, .ref bs, .ref fa, .ref bf, .int bh, .int ev])), (un, .inl (cJ, 96, .inr (.inl (gl V)))), (ro, .inl (cJ, 96, .inr (.inl (gl Y)))), (nu, .inl (cI, 864, .inl (gd N0))), (be, .inl (cI, 864, .inl (gd L0))), (ab, .inl (cI, 864, .inl (gd A0)))] := hD.sub [5, 0, 1, 2, 3, 4] (by decide) rfl
  rw [← h_fr] at hw5
  subst hw5
  refine lv_lstore_n (lv' := [(2, .long (lN fr)), (1, .int (nI e9)), (0, .ref hm)]) hx hb d_Mo_spread_9 rfl hl (by decide) rfl (fun ls hl => ?_)
  refine lv_iload_n hx hb d_Mo_spread_10 rfl (lv_at hl 1 rfl) ?_
  refine lv_if_ne (tgt := 18) hx hb d_Mo_spread_11 (by decide) (fun hz => ?_) (fun hz => ?_)
  · have h0 : e9 ≠ 0 := fun g => hz (by rw [g]; rfl)
    refine lv_lload_n hx hb d_Mo_spread_18 rfl (lv_at hl 0 rfl) ?_
    refine lv_aload_n hx hb d_Mo_spread_19 rfl (lv_at hl 2 rfl) ?_
    refine va_get (D := (dC, dI)) (ci := 5) (v := .int (nI (iw i))) (C := R_Mo) (T := F_Mo) (N := 19) hx hb hts i_Mo hown hK hP 0 rfl rfl 4 (by decide) (hts _ fl_Mo_51) (fun _ h9 => h9) rfl d_Mo_spread_20 ?_
    refine lv_if_eq (tgt := 32) hx hb d_Mo_spread_23 (by decide) (fun hw9 => ?_) (fun hw9 => ?_)
    · have hi1 : i = 1 := by have := (nI_b0 (iw_le i)).mp hw9; unfold iw at this; split at this <;> omega
      have hF9 : FB i = 23 := by rw [hi1]; rfl
      have hE9 : EB i = 8 := by rw [hi1]; rfl
      refine lv_ldc2 (v := 8388608) hx hb hown (hts _ kl_Mo_82) d_Mo_spread_32 ?_
      refine lv_ladd hx hb d_Mo_spread_35 ?_
      refine lv_topl (fun x_53 e_54 => ?_)
      obtain rfl : x_53 = lN S := e_54.trans ((lN_add fr 8388608).trans (by rw [h_S, sgf, if_neg h0, hF9]))
      exact k36 H _ ls hP hD hS hl
    · have hi1 : i = 0 := by have := mt (nI_b0 (iw_le i)).mpr hw9; unfold iw at this; split at this <;> omega
      have hF9 : FB i = 52 := by rw [hi1]; rfl
      have hE9 : EB i = 11 := by rw [hi1]; rfl
      refine lv_ldc2 (v := 4503599627370496) hx hb hown (hts _ kl_Mo_80) d_Mo_spread_26 ?_
      refine lv_goto (tgt := 35) hx hb d_Mo_spread_29 (by decide) ?_
      refine lv_ladd hx hb d_Mo_spread_35 ?_
      refine lv_topl (fun x_55 e_56 => ?_)
      obtain rfl : x_55 = lN S := e_56.trans ((lN_add fr 4503599627370496).trans (by rw [h_S, sgf, if_neg h0, hF9]))
      exact k36 H _ ls hP hD hS hl
  · have h0 : e9 = 0 := (nI_eq (a := e9) (b := 0) (by omega) (by omega)).mp hz
    refine lv_lload_n hx hb d_Mo_spread_14 rfl (lv_at hl 0 rfl) ?_
    refine lv_topl (fun x_57 e_58 => ?_)
    obtain rfl : x_57 = lN S := e_58.trans (by rw [h_S, sgf, if_pos h0])
    refine lv_goto (tgt := 36) hx hb d_Mo_spread_15 (by decide) ?_
    exact k36 H _ ls hP hD hS hl

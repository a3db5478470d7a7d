set_option maxHeartbeats 4000000 in
set_option maxRecDepth 100000 in
/-- write -/
theorem c_Mo_write (l : Launch) (dC : Nat → ClassId) (dI : Nat → Nat → Nat) (sz : Nat) (hm tx9 un ro nu be ab tr bs fa bf : Nat) (th lo9 hi8 pr wd le bh ev : Int32) (la : Int64) (a3 : Nat) (cJ cI : ClassId) (V Y Z M : Nat)  (hV : V < 1000000000 ^ 96) (hY : Y < 1000000000 ^ 96) (hZ : Z < 10 ^ 864) (hM : M < 2 ^ 57) (hVM : V * M < 1000000000 ^ 96) : Met l y_Mo_write (Cond.code y_Mo_write b_Mo_write 13 none :: gT) ({ frames := 0, cells := 0, slots := 0, locals := 0 }) (va_Pc [.ref hm, .long (lN M), .ref a3] (pw_P (dC, dI) cls [(cJ, .long), (cI, .int)] pw_0 [(hm, .inr (5, [.int th, .int lo9, .int hi8, .int pr, .int wd, .long la, .int le, .ref tx9, .ref un, .ref ro, .ref nu, .ref be, .ref ab, .ref tr, .ref bs, .ref fa, .ref bf, .int bh, .int ev])), (un, .inl (cJ, 96, .inr (.inl (gl V)))), (ro, .inl (cJ, 96, .inr (.inl (gl Y)))), (a3, .inl (cI, 864, .inl (gd Z)))] sz)) (va_Qv (fun (uu : Unit) => True) (fun (uu : Unit) => pw_B (dC, dI) cls [(cJ, .long), (cI, .int)] (va_A [(hm, .inr (5, [.int th, .int lo9, .int hi8, .int pr, .int wd, .long la, .int le, .ref tx9, .ref un, .ref ro, .ref nu, .ref be, .ref ab, .ref tr, .ref bs, .ref fa, .ref bf, .int bh, .int ev])), (un, .inl (cJ, 96, .inr (.inl (gl V)))), (ro, .inl (cJ, 96, .inr (.inl (gl Y)))), (a3, .inl (cI, 864, .inl (gd Z)))] sz) [(hm, .inr (5, [.int th, .int lo9, .int hi8, .int pr, .int wd, .long la, .int le, .ref tx9, .ref un, .ref ro, .ref nu, .ref be, .ref ab, .ref tr, .ref bs, .ref fa, .ref bf, .int bh, .int ev])), (un, .inl (cJ, 96, .inr (.inl (gl V)))), (ro, .inl (cJ, 96, .inr (.inl (gl (V * M))))), (a3, .inl (cI, 864, .inl (gd (V * M))))]) (va_A [(hm, .inr (5, [.int th, .int lo9, .int hi8, .int pr, .int wd, .long la, .int le, .ref tx9, .ref un, .ref ro, .ref nu, .ref be, .ref ab, .ref tr, .ref bs, .ref fa, .ref bf, .int bh, .int ev])), (un, .inl (cJ, 96, .inr (.inl (gl V)))), (ro, .inl (cJ, 96, .inr (.inl (gl Y)))), (a3, .inl (cI, 864, .inl (gd Z)))] sz)) 0 0 (va_A [(hm, .inr (5, [.int th, .int lo9, .int hi8, .int pr, .int wd, .long la, .int le, .ref tx9, .ref un, .ref ro, .ref nu, .ref be, .ref ab, .ref tr, .ref bs, .ref fa, .ref bf, .int bh, .int ev])), (un, .inl (cJ, 96, .inr (.inl (gl V)))), (ro, .inl (cJ, 96, .inr (.inl (gl Y)))), (a3, .inl (cI, 864, .inl (gd Z)))] sz) := by
  refine pw_metv (tn := fun (uu : Unit) => [(cJ, .long), (cI, .int)]) (wn := fun (uu : Unit) => [(hm, .inr (5, [.int th, .int lo9, .int hi8, .int pr, .int wd, .long la, .int le, .ref tx9, .ref un, .ref ro, .ref nu, .ref be, .ref ab, .ref tr, .ref bs, .ref fa, .ref bf, .int bh, .int ev])), (un, .inl (cJ, 96, .inr (.inl (gl V)))), (ro, .inl (cJ, 96, .inr (.inl (gl (V * M))))), (a3, .inl (cI, 864, .inl (gd (V * M))))]) (by decide) (Nat.le_of_ble_eq_true rfl) ?_
  intro p e s m args below meth c A Q H ls hx hb hml hown hts hnm hA hE hP hK hD hS hret hl
  have hown : s.vm.findClass R_Mo = some m.cls := hown
  have hl : lv_has ls 13 [(0, .ref hm), (1, .long (lN M)), (3, .ref a3)] := hl
  obtain ⟨lo7, hlo7⟩ : ∃ x, x = M % 1000000000 := ⟨_, rfl⟩
  obtain ⟨up7, hup7⟩ : ∃ x, x = M / 1000000000 := ⟨_, rfl⟩
  have hlb : lo7 ≤ 999999999 := by omega
  have hub : up7 ≤ 200000000 := by omega
  have hME : V * M = V * lo7 + V * 1000000000 * up7 := by rw [hlo7, hup7, Nat.mul_assoc, ← Nat.mul_add]; congr 1; omega
  have hVL : V * lo7 < 1000000000 ^ 96 := by omega
  have hVM10 : V * M < 10 ^ 864 := by rw [← g_9]; exact hVM
  have k137 : ∀ (n k : Nat) (H : Heap) (locs : List Loc) (ls : Array Slot), k ≤ 96 → 97 ≤ k + n → va_P (dC, dI) cls [(hm, .inr (5, [.int th, .int lo9, .int hi8, .int pr, .int wd, .long la, .int le, .ref tx9, .ref un, .ref ro, .ref nu, .ref be, .ref ab, .ref tr, .ref bs, .ref fa, .ref bf, .int bh, .int ev])), (un, .inl (cJ, 96, .inr (.inl (gl V)))), (ro, .inl (cJ, 96, .inr (.inl (gl (V * M))))), (a3, .inl (cI, 864, .inl (gmd (V * M) Z (9 * k))))] H → va_D A [(hm, .inr (5, [.int th, .int lo9, .int hi8, .int pr, .int wd, .long la, .int le, .ref tx9, .ref un, .ref ro, .ref nu, .ref be, .ref ab, .ref tr, .ref bs, .ref fa, .ref bf, .int bh, .int ev])), (un, .inl (cJ, 96, .inr (.inl (gl V)))), (ro, .inl (cJ, 96, .inr (.inl (gl (V * M))))), (a3, .inl (cI, 864, .inl (gmd (V * M) Z (9 * k))))] → va_S A s.heap H locs → lv_has ls 13 [(10, .int (nI k)), (6, .long (lN lo7)), (4, .long (lN up7)), (0, .ref hm), (1, .long (lN M)), (3, .ref a3)] → W p l e { frames := 0, cells := 0, slots := 0, locals := 0 } s m args below meth c H locs 0 0 Q (F0 m 137 ls []) := by
    intro n
    induction n with
    | zero => intro k H locs ls h1 h2; exact absurd h2 (by omega)
    | succ n iho =>
      intro k H locs ls hk hn hP hD hS hl
      refine lv_iload hx hb d_Mo_write_137 (lv_at hl 0 rfl) ?_
      refine lv_bipush (v := 96) hx hb d_Mo_write_139 (by decide) ?_
      refine lv_icmp_ge (tgt := 198) hx hb d_Mo_write_141 (by decide) (fun hc => ?_) (fun hc => ?_)
      · obtain rfl : k = 96 := by have := (nI_leI (a := 96) (b := k) (by omega) (by omega)).mp hc; omega
        exact hret _ _ _ _ () d_Mo_write_198 trivial (by rw [← gmd_all (n := 864) hVM10 hZ]; exact hP) hK (by rw [← gmd_all (n := 864) hVM10 hZ]; exact hD) hS
      · have hlt : k < 96 := by have := mt (nI_leI (a := 96) (b := k) (by omega) (by omega)).mpr hc; omega
        have hgl := gw_lt (G := 1000000000) (by decide) (V * M) k
        refine lv_aload_n hx hb d_Mo_write_144 rfl (lv_at hl 3 rfl) ?_
        refine va_get (D := (dC, dI)) (ci := 5) (v := .ref ro) (C := R_Mo) (T := F_Mo) (N := 19) hx hb hts i_Mo hown hK hP 0 rfl rfl 9 (by decide) (hts _ fl_Mo_24) (fun _ h9 => h9) rfl d_Mo_write_145 ?_
        refine lv_iload hx hb d_Mo_write_148 (lv_at hl 0 rfl) ?_
        refine va_lald hx hb hK hP 2 0 rfl rfl (vp_in_nI (by omega) (by omega)) d_Mo_write_150 ?_
        refine lv_topl (fun x_1 e_2 => ?_)
        obtain rfl : x_1 = lN (gw 1000000000 (V * M) k) := e_2.trans (by rw [nI_clamp (by omega)]; rfl)
        refine lv_l2i (v := nI (gw 1000000000 (V * M) k)) hx hb d_Mo_write_151 (lN_i _) ?_
        refine lv_istore (lv' := [(11, .int (nI (gw 1000000000 (V * M) k))), (10, .int (nI k)), (6, .long (lN lo7)), (4, .long (lN up7)), (0, .ref hm), (1, .long (lN M)), (3, .ref a3)]) hx hb d_Mo_write_152 hl (by decide) rfl (fun ls hl => ?_)
        refine lv_iconst (v := 0) hx hb d_Mo_write_154 (by decide) ?_
        refine lv_istore (lv' := [(12, .int 0), (11, .int (nI (gw 1000000000 (V * M) k))), (10, .int (nI k)), (6, .long (lN lo7)), (4, .long (lN up7)), (0, .ref hm), (1, .long (lN M)), (3, .ref a3)]) hx hb d_Mo_write_155 hl (by decide) rfl (fun ls hl => ?_)
        have lq : ∀ (m7 j : Nat) (H : Heap) (locs : List Loc) (ls : Array Slot), (j ≤ 9) → (10 ≤ j + m7) → va_P (dC, dI) cls [(hm, .inr (5, [.int th, .int lo9, .int hi8, .int pr, .int wd, .long la, .int le, .ref tx9, .ref un, .ref ro, .ref nu, .ref be, .ref ab, .ref tr, .ref bs, .ref fa, .ref bf, .int bh, .int ev])), (un, .inl (cJ, 96, .inr (.inl (gl V)))), (ro, .inl (cJ, 96, .inr (.inl (gl (V * M))))), (a3, .inl (cI, 864, .inl (gmd (V * M) Z (9 * k + j))))] H → va_D A [(hm, .inr (5, [.int th, .int lo9, .int hi8, .int pr, .int wd, .long la, .int le, .ref tx9, .ref un, .ref ro, .ref nu, .ref be, .ref ab, .ref tr, .ref bs, .ref fa, .ref bf, .int bh, .int ev])), (un, .inl (cJ, 96, .inr (.inl (gl V)))), (ro, .inl (cJ, 96, .inr (.inl (gl (V * M))))), (a3, .inl (cI, 864, .inl (gmd (V * M) Z (9 * k + j))))] → va_S A s.heap H locs → lv_has ls 13 [(12, .int (nI j)), (11, .int (nI (gw 1000000000 (V * M) k / 10 ^ j))), (10, .int (nI k)), (6, .long (lN lo7)), (4, .long (lN up7)), (0, .ref hm), (1, .long (lN M)), (3, .ref a3)] → W p l e { frames := 0, cells := 0, slots := 0, locals := 0 } s m args below meth c H locs 0 0 Q (F0 m 157 ls []) := by
          intro m7
          induction m7 with
          | zero => intro j H locs ls hj hm7 hP hD hS hl; exact absurd hm7 (by omega)
          | succ m7 ih =>
            intro j H locs ls hj hm7 hP hD hS hl
            refine lv_iload hx hb d_Mo_write_157 (lv_at hl 0 rfl) ?_
            refine lv_bipush (v := 9) hx hb d_Mo_write_159 (by decide) ?_
            refine lv_icmp_ge (tgt := 192) hx hb d_Mo_write_161 (by decide) (fun hd => ?_) (fun hd => ?_)
            · obtain rfl : j = 9 := by have := (nI_leI (a := 9) (b := j) (by omega) (by omega)).mp hd; omega
              refine lv_iinc (v := nI (k + 1)) (lv' := [(10, .int (nI (k + 1))), (12, .int (nI 9)), (11, .int (nI (gw 1000000000 (V * M) k / 10 ^ 9))), (6, .long (lN lo7)), (4, .long (lN up7)), (0, .ref hm), (1, .long (lN M)), (3, .ref a3)]) hx hb d_Mo_write_192 hl (k := 2) rfl (nI_1 _) (by decide) rfl (fun ls hl => ?_)
              refine lv_goto (tgt := 137) hx hb d_Mo_write_195 (by decide) ?_
              exact iho (k + 1) H _ ls (by omega) (by omega) hP hD hS (lv_sub hl [0, 3, 4, 5, 6, 7] rfl)
            · have hj9 : j < 9 := by have := mt (nI_leI (a := 9) (b := j) (by omega) (by omega)).mpr hd; omega
              have hdl : gw 1000000000 (V * M) k / 10 ^ j ≤ gw 1000000000 (V * M) k := Nat.div_le_self _ _
              refine lv_aload_n hx hb d_Mo_write_164 rfl (lv_at hl 7 rfl) ?_
              refine lv_bipush (v := 9) hx hb d_Mo_write_165 (by decide) ?_
              refine lv_iload hx hb d_Mo_write_167 (lv_at hl 2 rfl) ?_
              refine lv_imul hx hb d_Mo_write_169 ?_
              refine lv_topi (fun x_3 e_4 => ?_)
              obtain rfl : x_3 = nI (9 * k) := e_4.trans (pk_mul 9 k)
              refine lv_iload hx hb d_Mo_write_170 (lv_at hl 0 rfl) ?_
              refine lv_iadd hx hb d_Mo_write_172 ?_
              refine lv_topi (fun x_5 e_6 => ?_)
              obtain rfl : x_5 = nI (9 * k + j) := e_6.trans (nI_add _ _)
              refine lv_iload hx hb d_Mo_write_173 (lv_at hl 1 rfl) ?_
              refine lv_bipush (v := 10) hx hb d_Mo_write_175 (by decide) ?_
              refine lv_irem hx hb d_Mo_write_177 (by decide) ?_
              refine lv_topi (fun x_7 e_8 => ?_)
              obtain rfl : x_7 = nI (gw 10 (V * M) (9 * k + j)) := e_8.trans ((pk_rem (d := 10) (by omega) (by omega) (by omega)).trans (by rw [g_dig _ _ _ hj9]))
              refine va_iast hx hb hK hP hD hS 3 1 rfl rfl (vp_in_nI (by omega) (by omega)) d_Mo_write_178 (fun H locs hP hD hS => ?_)
              have e_9 : upd (gmd (V * M) Z (9 * k + j)) (nI (9 * k + j)).toNatClampNeg (nI (gw 10 (V * M) (9 * k + j))) = gmd (V * M) Z (9 * k + j + 1) := by rw [nI_clamp (by omega)]; exact gmd_up (V * M) Z (9 * k + j)
              have hP : va_P (dC, dI) cls [(hm, .inr (5, [.int th, .int lo9, .int hi8, .int pr, .int wd, .long la, .int le, .ref tx9, .ref un, .ref ro, .ref nu, .ref be, .ref ab, .ref tr, .ref bs, .ref fa, .ref bf, .int bh, .int ev])), (un, .inl (cJ, 96, .inr (.inl (gl V)))), (ro, .inl (cJ, 96, .inr (.inl (gl (V * M))))), (a3, .inl (cI, 864, .inl (gmd (V * M) Z (9 * k + j + 1))))] H := by rw [← e_9]; exact hP
              have hD : va_D A [(hm, .inr (5, [.int th, .int lo9, .int hi8, .int pr, .int wd, .long la, .int le, .ref tx9, .ref un, .ref ro, .ref nu, .ref be, .ref ab, .ref tr, .ref bs, .ref fa, .ref bf, .int bh, .int ev])), (un, .inl (cJ, 96, .inr (.inl (gl V)))), (ro, .inl (cJ, 96, .inr (.inl (gl (V * M))))), (a3, .inl (cI, 864, .inl (gmd (V * M) Z (9 * k + j + 1))))] := by rw [← e_9]; exact hD
              refine lv_iload hx hb d_Mo_write_179 (lv_at hl 1 rfl) ?_
              refine lv_bipush (v := 10) hx hb d_Mo_write_181 (by decide) ?_
              refine lv_idiv hx hb d_Mo_write_183 (by decide) ?_
              refine lv_topi (fun x_10 e_11 => ?_)
              obtain rfl : x_10 = nI (gw 1000000000 (V * M) k / 10 ^ (j + 1)) := e_11.trans ((pk_div (d := 10) (by omega) (by omega) (by omega)).trans (by rw [dec_div]))
              refine lv_istore (lv' := [(11, .int (nI (gw 1000000000 (V * M) k / 10 ^ (j + 1)))), (12, .int (nI j)), (10, .int (nI k)), (6, .long (lN lo7)), (4, .long (lN up7)), (0, .ref hm), (1, .long (lN M)), (3, .ref a3)]) hx hb d_Mo_write_184 hl (by decide) rfl (fun ls hl => ?_)
              refine lv_iinc (v := nI (j + 1)) (lv' := [(12, .int (nI (j + 1))), (11, .int (nI (gw 1000000000 (V * M) k / 10 ^ (j + 1)))), (10, .int (nI k)), (6, .long (lN lo7)), (4, .long (lN up7)), (0, .ref hm), (1, .long (lN M)), (3, .ref a3)]) hx hb d_Mo_write_186 hl (k := 1) rfl (nI_1 _) (by decide) rfl (fun ls hl => ?_)
              refine lv_goto (tgt := 157) hx hb d_Mo_write_189 (by decide) ?_
              exact ih (j + 1) H _ ls (by omega) (by omega) hP hD hS (lv_sub hl [0, 1, 2, 3, 4, 5, 6, 7] rfl)
        exact lq 10 0 H _ ls (by omega) (by omega) hP hD hS (by rw [Nat.pow_zero, Nat.div_one]; exact lv_sub hl [0, 1, 2, 3, 4, 5, 6, 7] rfl)
  have lp2 : ∀ (n k : Nat) (H : Heap) (locs : List Loc) (ls : Array Slot), (1 ≤ k) → (k ≤ 96) → (97 ≤ k + n) → va_P (dC, dI) cls [(hm, .inr (5, [.int th, .int lo9, .int hi8, .int pr, .int wd, .long la, .int le, .ref tx9, .ref un, .ref ro, .ref nu, .ref be, .ref ab, .ref tr, .ref bs, .ref fa, .ref bf, .int bh, .int ev])), (un, .inl (cJ, 96, .inr (.inl (gl V)))), (ro, .inl (cJ, 96, .inr (.inl (gml (V * M) (V * lo7) k)))), (a3, .inl (cI, 864, .inl (gd Z)))] H → va_D A [(hm, .inr (5, [.int th, .int lo9, .int hi8, .int pr, .int wd, .long la, .int le, .ref tx9, .ref un, .ref ro, .ref nu, .ref be, .ref ab, .ref tr, .ref bs, .ref fa, .ref bf, .int bh, .int ev])), (un, .inl (cJ, 96, .inr (.inl (gl V)))), (ro, .inl (cJ, 96, .inr (.inl (gml (V * M) (V * lo7) k)))), (a3, .inl (cI, 864, .inl (gd Z)))] → va_S A s.heap H locs → lv_has ls 13 [(10, .int (nI k)), (8, .long (lN (gc 1000000000 (V * lo7) (V * 1000000000) up7 k))), (6, .long (lN lo7)), (4, .long (lN up7)), (0, .ref hm), (1, .long (lN M)), (3, .ref a3)] → W p l e { frames := 0, cells := 0, slots := 0, locals := 0 } s m args below meth c H locs 0 0 Q (F0 m 75 ls []) := by
    intro n
    induction n with
    | zero => intro k H locs ls hk1 hk hn hP hD hS hl; exact absurd hn (by omega)
    | succ n ih =>
      intro k H locs ls hk1 hk hn hP hD hS hl
      refine lv_iload hx hb d_Mo_write_75 (lv_at hl 0 rfl) ?_
      refine lv_bipush (v := 96) hx hb d_Mo_write_77 (by decide) ?_
      refine lv_icmp_ge (tgt := 134) hx hb d_Mo_write_79 (by decide) (fun hc => ?_) (fun hc => ?_)
      · obtain rfl : k = 96 := by have := (nI_leI (a := 96) (b := k) (by omega) (by omega)).mp hc; omega
        rw [gml_all hVM hVL] at hP hD
        refine lv_iconst (v := 0) hx hb d_Mo_write_134 (by decide) ?_
        refine lv_istore (lv' := [(10, .int 0), (8, .long (lN (gc 1000000000 (V * lo7) (V * 1000000000) up7 96))), (6, .long (lN lo7)), (4, .long (lN up7)), (0, .ref hm), (1, .long (lN M)), (3, .ref a3)]) hx hb d_Mo_write_135 hl (by decide) rfl (fun ls hl => ?_)
        exact k137 97 0 H _ ls (by omega) (by omega) (by rw [Nat.mul_zero, gmd_0]; exact hP) (by rw [Nat.mul_zero, gmd_0]; exact hD) hS (lv_sub hl [0, 2, 3, 4, 5, 6] rfl)
      · have hlt : k < 96 := by have := mt (nI_leI (a := 96) (b := k) (by omega) (by omega)).mpr hc; omega
        obtain ⟨j, rfl⟩ : ∃ j, k = j + 1 := ⟨k - 1, by omega⟩
        have g1 := gw_lt (G := 1000000000) (by decide) (V * lo7) (j + 1)
        have g2 := gw_lt (G := 1000000000) (by decide) (V * 1000000000) (j + 1)
        have g3 := gc_lt (G := 1000000000) (A := V * lo7) (C := V * 1000000000) (F := up7) (i := j + 1) (by decide)
        have g4 : gw 1000000000 (V * 1000000000) (j + 1) * up7 ≤ 999999999 * up7 := Nat.mul_le_mul_right _ (by omega)
        have hbd : (gw 1000000000 (V * lo7) (j + 1) + gw 1000000000 (V * 1000000000) (j + 1) * up7 + gc 1000000000 (V * lo7) (V * 1000000000) up7 (j + 1)) < 2 ^ 63 := by omega
        refine lv_aload_n hx hb d_Mo_write_82 rfl (lv_at hl 4 rfl) ?_
        refine va_get (D := (dC, dI)) (ci := 5) (v := .ref ro) (C := R_Mo) (T := F_Mo) (N := 19) hx hb hts i_Mo hown hK hP 0 rfl rfl 9 (by decide) (hts _ fl_Mo_24) (fun _ h9 => h9) rfl d_Mo_write_83 ?_
        refine lv_iload hx hb d_Mo_write_86 (lv_at hl 0 rfl) ?_
        refine va_lald hx hb hK hP 2 0 rfl rfl (vp_in_nI (by omega) (by omega)) d_Mo_write_88 ?_
        refine lv_topl (fun x_12 e_13 => ?_)
        obtain rfl : x_12 = lN (gw 1000000000 (V * lo7) (j + 1)) := e_13.trans (by rw [nI_clamp (by omega)]; exact gml_at (V * M) (V * lo7) (j + 1))
        refine lv_aload_n hx hb d_Mo_write_89 rfl (lv_at hl 4 rfl) ?_
        refine va_get (D := (dC, dI)) (ci := 5) (v := .ref un) (C := R_Mo) (T := F_Mo) (N := 19) hx hb hts i_Mo hown hK hP 0 rfl rfl 8 (by decide) (hts _ fl_Mo_20) (fun _ h9 => h9) rfl d_Mo_write_90 ?_
        refine lv_iload hx hb d_Mo_write_93 (lv_at hl 0 rfl) ?_
        refine lv_iconst (v := 1) hx hb d_Mo_write_95 (by decide) ?_
        refine lv_isub hx hb d_Mo_write_96 ?_
        refine lv_topi (fun x_14 e_15 => ?_)
        obtain rfl : x_14 = nI j := e_15.trans (nI_pred j)
        refine va_lald hx hb hK hP 1 0 rfl rfl (vp_in_nI (by omega) (by omega)) d_Mo_write_97 ?_
        refine lv_topl (fun x_16 e_17 => ?_)
        obtain rfl : x_16 = lN (gw 1000000000 (V * 1000000000) (j + 1)) := e_17.trans (by rw [nI_clamp (by omega), gw_shift _ _ _ (by decide)]; rfl)
        refine lv_lload hx hb d_Mo_write_98 (lv_at hl 3 rfl) ?_
        refine lv_lmul hx hb d_Mo_write_100 ?_
        refine lv_topl (fun x_18 e_19 => ?_)
        obtain rfl : x_18 = lN (gw 1000000000 (V * 1000000000) (j + 1) * up7) := e_19.trans (lN_mul _ _)
        refine lv_ladd hx hb d_Mo_write_101 ?_
        refine lv_topl (fun x_20 e_21 => ?_)
        obtain rfl : x_20 = lN (gw 1000000000 (V * lo7) (j + 1) + gw 1000000000 (V * 1000000000) (j + 1) * up7) := e_21.trans (lN_add _ _)
        refine lv_lload hx hb d_Mo_write_102 (lv_at hl 1 rfl) ?_
        refine lv_ladd hx hb d_Mo_write_104 ?_
        refine lv_topl (fun x_22 e_23 => ?_)
        obtain rfl : x_22 = lN (gw 1000000000 (V * lo7) (j + 1) + gw 1000000000 (V * 1000000000) (j + 1) * up7 + gc 1000000000 (V * lo7) (V * 1000000000) up7 (j + 1)) := e_23.trans (lN_add _ _)
        refine lv_lstore (lv' := [(11, .long (lN (gw 1000000000 (V * lo7) (j + 1) + gw 1000000000 (V * 1000000000) (j + 1) * up7 + gc 1000000000 (V * lo7) (V * 1000000000) up7 (j + 1)))), (10, .int (nI (j + 1))), (8, .long (lN (gc 1000000000 (V * lo7) (V * 1000000000) up7 (j + 1)))), (6, .long (lN lo7)), (4, .long (lN up7)), (0, .ref hm), (1, .long (lN M)), (3, .ref a3)]) hx hb d_Mo_write_105 hl (by decide) rfl (fun ls hl => ?_)
        refine lv_aload_n hx hb d_Mo_write_107 rfl (lv_at hl 5 rfl) ?_
        refine va_get (D := (dC, dI)) (ci := 5) (v := .ref ro) (C := R_Mo) (T := F_Mo) (N := 19) hx hb hts i_Mo hown hK hP 0 rfl rfl 9 (by decide) (hts _ fl_Mo_24) (fun _ h9 => h9) rfl d_Mo_write_108 ?_
        refine lv_iload hx hb d_Mo_write_111 (lv_at hl 1 rfl) ?_
        refine lv_lload hx hb d_Mo_write_113 (lv_at hl 0 rfl) ?_
        refine lv_ldc2 (v := 1000000000) hx hb hown (hts _ kl_Mo_78) d_Mo_write_115 ?_
        refine lv_lrem hx hb d_Mo_write_118 (by decide) ?_
        refine lv_topl (fun x_24 e_25 => ?_)
        obtain rfl : x_24 = lN (gw 1000000000 (V * M) (j + 1)) := e_25.trans ((pk_lRem (b := 1000000000) hbd (by decide) (by decide)).trans (by rw [g_lo _ _ _ _ _ (by decide), ← hME]))
        refine va_last hx hb hK hP hD hS 2 0 rfl rfl (vp_in_nI (by omega) (by omega)) d_Mo_write_119 (fun H locs hP hD hS => ?_)
        have e_26 : vp_updL (gml (V * M) (V * lo7) (j + 1)) (nI (j + 1)).toNatClampNeg (lN (gw 1000000000 (V * M) (j + 1))) = gml (V * M) (V * lo7) (j + 1 + 1) := by rw [nI_clamp (by omega)]; exact gml_up (V * M) (V * lo7) (j + 1)
        have hP : va_P (dC, dI) cls [(hm, .inr (5, [.int th, .int lo9, .int hi8, .int pr, .int wd, .long la, .int le, .ref tx9, .ref un, .ref ro, .ref nu, .ref be, .ref ab, .ref tr, .ref bs, .ref fa, .ref bf, .int bh, .int ev])), (un, .inl (cJ, 96, .inr (.inl (gl V)))), (ro, .inl (cJ, 96, .inr (.inl (gml (V * M) (V * lo7) (j + 1 + 1))))), (a3, .inl (cI, 864, .inl (gd Z)))] H := by rw [← e_26]; exact hP
        have hD : va_D A [(hm, .inr (5, [.int th, .int lo9, .int hi8, .int pr, .int wd, .long la, .int le, .ref tx9, .ref un, .ref ro, .ref nu, .ref be, .ref ab, .ref tr, .ref bs, .ref fa, .ref bf, .int bh, .int ev])), (un, .inl (cJ, 96, .inr (.inl (gl V)))), (ro, .inl (cJ, 96, .inr (.inl (gml (V * M) (V * lo7) (j + 1 + 1))))), (a3, .inl (cI, 864, .inl (gd Z)))] := by rw [← e_26]; exact hD
        refine lv_lload hx hb d_Mo_write_120 (lv_at hl 0 rfl) ?_
        refine lv_ldc2 (v := 1000000000) hx hb hown (hts _ kl_Mo_78) d_Mo_write_122 ?_
        refine lv_ldiv hx hb d_Mo_write_125 (by decide) ?_
        refine lv_topl (fun x_27 e_28 => ?_)
        obtain rfl : x_27 = lN (gc 1000000000 (V * lo7) (V * 1000000000) up7 (j + 1 + 1)) := e_28.trans ((pk_lDiv (b := 1000000000) hbd (by decide) (by decide)).trans (by rw [g_hi _ _ _ _ _ (by decide)]))
        refine lv_lstore (lv' := [(8, .long (lN (gc 1000000000 (V * lo7) (V * 1000000000) up7 (j + 1 + 1)))), (11, .long (lN (gw 1000000000 (V * lo7) (j + 1) + gw 1000000000 (V * 1000000000) (j + 1) * up7 + gc 1000000000 (V * lo7) (V * 1000000000) up7 (j + 1)))), (10, .int (nI (j + 1))), (6, .long (lN lo7)), (4, .long (lN up7)), (0, .ref hm), (1, .long (lN M)), (3, .ref a3)]) hx hb d_Mo_write_126 hl (by decide) rfl (fun ls hl => ?_)
        refine lv_iinc (v := nI (j + 1 + 1)) (lv' := [(10, .int (nI (j + 1 + 1))), (8, .long (lN (gc 1000000000 (V * lo7) (V * 1000000000) up7 (j + 1 + 1)))), (11, .long (lN (gw 1000000000 (V * lo7) (j + 1) + gw 1000000000 (V * 1000000000) (j + 1) * up7 + gc 1000000000 (V * lo7) (V * 1000000000) up7 (j + 1)))), (6, .long (lN lo7)), (4, .long (lN up7)), (0, .ref hm), (1, .long (lN M)), (3, .ref a3)]) hx hb d_Mo_write_128 hl (k := 2) rfl (nI_1 _) (by decide) rfl (fun ls hl => ?_)
        refine lv_goto (tgt := 75) hx hb d_Mo_write_131 (by decide) ?_
        exact ih (j + 1 + 1) H _ ls (by omega) (by omega) (by omega) hP hD hS (lv_sub hl [0, 1, 3, 4, 5, 6, 7] rfl)
  have lp1 : ∀ (n k : Nat) (H : Heap) (locs : List Loc) (ls : Array Slot), (k ≤ 96) → (97 ≤ k + n) → va_P (dC, dI) cls [(hm, .inr (5, [.int th, .int lo9, .int hi8, .int pr, .int wd, .long la, .int le, .ref tx9, .ref un, .ref ro, .ref nu, .ref be, .ref ab, .ref tr, .ref bs, .ref fa, .ref bf, .int bh, .int ev])), (un, .inl (cJ, 96, .inr (.inl (gl V)))), (ro, .inl (cJ, 96, .inr (.inl (gml (V * lo7) Y k)))), (a3, .inl (cI, 864, .inl (gd Z)))] H → va_D A [(hm, .inr (5, [.int th, .int lo9, .int hi8, .int pr, .int wd, .long la, .int le, .ref tx9, .ref un, .ref ro, .ref nu, .ref be, .ref ab, .ref tr, .ref bs, .ref fa, .ref bf, .int bh, .int ev])), (un, .inl (cJ, 96, .inr (.inl (gl V)))), (ro, .inl (cJ, 96, .inr (.inl (gml (V * lo7) Y k)))), (a3, .inl (cI, 864, .inl (gd Z)))] → va_S A s.heap H locs → lv_has ls 13 [(10, .int (nI k)), (8, .long (lN (gc 1000000000 0 V lo7 k))), (6, .long (lN lo7)), (4, .long (lN up7)), (0, .ref hm), (1, .long (lN M)), (3, .ref a3)] → W p l e { frames := 0, cells := 0, slots := 0, locals := 0 } s m args below meth c H locs 0 0 Q (F0 m 20 ls []) := by
    intro n
    induction n with
    | zero => intro k H locs ls hk hn hP hD hS hl; exact absurd hn (by omega)
    | succ n ih =>
      intro k H locs ls hk hn hP hD hS hl
      refine lv_iload hx hb d_Mo_write_20 (lv_at hl 0 rfl) ?_
      refine lv_bipush (v := 96) hx hb d_Mo_write_22 (by decide) ?_
      refine lv_icmp_ge (tgt := 69) hx hb d_Mo_write_24 (by decide) (fun hc => ?_) (fun hc => ?_)
      · obtain rfl : k = 96 := by have := (nI_leI (a := 96) (b := k) (by omega) (by omega)).mp hc; omega
        rw [gml_all hVL hY] at hP hD
        refine lv_lconst (v := 0) hx hb d_Mo_write_69 (by decide) ?_
        refine lv_lstore (lv' := [(8, .long 0), (10, .int (nI 96)), (6, .long (lN lo7)), (4, .long (lN up7)), (0, .ref hm), (1, .long (lN M)), (3, .ref a3)]) hx hb d_Mo_write_70 hl (by decide) rfl (fun ls hl => ?_)
        refine lv_iconst (v := 1) hx hb d_Mo_write_72 (by decide) ?_
        refine lv_istore (lv' := [(10, .int 1), (8, .long 0), (6, .long (lN lo7)), (4, .long (lN up7)), (0, .ref hm), (1, .long (lN M)), (3, .ref a3)]) hx hb d_Mo_write_73 hl (by decide) rfl (fun ls hl => ?_)
        have h10 : gml (V * M) (V * lo7) 1 = gl (V * lo7) := gml_1 (by rw [hME, Nat.mul_right_comm, gw_low])
        exact lp2 97 1 H _ ls (by omega) (by omega) (by omega) (by rw [h10]; exact hP) (by rw [h10]; exact hD) hS (by rw [gc_1 _ _ _ _ (by decide)]; exact lv_sub hl [0, 1, 2, 3, 4, 5, 6] rfl)
      · have hlt : k < 96 := by have := mt (nI_leI (a := 96) (b := k) (by omega) (by omega)).mpr hc; omega
        have hbd := gt_b (V := V) (i := k) hlb (by decide)
        refine lv_aload_n hx hb d_Mo_write_27 rfl (lv_at hl 4 rfl) ?_
        refine va_get (D := (dC, dI)) (ci := 5) (v := .ref un) (C := R_Mo) (T := F_Mo) (N := 19) hx hb hts i_Mo hown hK hP 0 rfl rfl 8 (by decide) (hts _ fl_Mo_20) (fun _ h9 => h9) rfl d_Mo_write_28 ?_
        refine lv_iload hx hb d_Mo_write_31 (lv_at hl 0 rfl) ?_
        refine va_lald hx hb hK hP 1 0 rfl rfl (vp_in_nI (by omega) (by omega)) d_Mo_write_33 ?_
        refine lv_topl (fun x_29 e_30 => ?_)
        obtain rfl : x_29 = lN (gw 1000000000 V k) := e_30.trans (by rw [nI_clamp (by omega)]; rfl)
        refine lv_lload hx hb d_Mo_write_34 (lv_at hl 2 rfl) ?_
        refine lv_lmul hx hb d_Mo_write_36 ?_
        refine lv_topl (fun x_31 e_32 => ?_)
        obtain rfl : x_31 = lN (gw 1000000000 V k * lo7) := e_32.trans (lN_mul _ _)
        refine lv_lload hx hb d_Mo_write_37 (lv_at hl 1 rfl) ?_
        refine lv_ladd hx hb d_Mo_write_39 ?_
        refine lv_topl (fun x_33 e_34 => ?_)
        obtain rfl : x_33 = lN (gw 1000000000 V k * lo7 + gc 1000000000 0 V lo7 k) := e_34.trans (lN_add _ _)
        refine lv_lstore (lv' := [(11, .long (lN (gw 1000000000 V k * lo7 + gc 1000000000 0 V lo7 k))), (10, .int (nI k)), (8, .long (lN (gc 1000000000 0 V lo7 k))), (6, .long (lN lo7)), (4, .long (lN up7)), (0, .ref hm), (1, .long (lN M)), (3, .ref a3)]) hx hb d_Mo_write_40 hl (by decide) rfl (fun ls hl => ?_)
        refine lv_aload_n hx hb d_Mo_write_42 rfl (lv_at hl 5 rfl) ?_
        refine va_get (D := (dC, dI)) (ci := 5) (v := .ref ro) (C := R_Mo) (T := F_Mo) (N := 19) hx hb hts i_Mo hown hK hP 0 rfl rfl 9 (by decide) (hts _ fl_Mo_24) (fun _ h9 => h9) rfl d_Mo_write_43 ?_
        refine lv_iload hx hb d_Mo_write_46 (lv_at hl 1 rfl) ?_
        refine lv_lload hx hb d_Mo_write_48 (lv_at hl 0 rfl) ?_
        refine lv_ldc2 (v := 1000000000) hx hb hown (hts _ kl_Mo_78) d_Mo_write_50 ?_
        refine lv_lrem hx hb d_Mo_write_53 (by decide) ?_
        refine lv_topl (fun x_35 e_36 => ?_)
        obtain rfl : x_35 = lN (gw 1000000000 (V * lo7) k) := e_36.trans ((pk_lRem (b := 1000000000) hbd (by decide) (by decide)).trans (by rw [gt_lo _ _ _ _ (by decide)]))
        refine va_last hx hb hK hP hD hS 2 0 rfl rfl (vp_in_nI (by omega) (by omega)) d_Mo_write_54 (fun H locs hP hD hS => ?_)
        have e_37 : vp_updL (gml (V * lo7) Y k) (nI k).toNatClampNeg (lN (gw 1000000000 (V * lo7) k)) = gml (V * lo7) Y (k + 1) := by rw [nI_clamp (by omega)]; exact gml_up (V * lo7) Y k
        have hP : va_P (dC, dI) cls [(hm, .inr (5, [.int th, .int lo9, .int hi8, .int pr, .int wd, .long la, .int le, .ref tx9, .ref un, .ref ro, .ref nu, .ref be, .ref ab, .ref tr, .ref bs, .ref fa, .ref bf, .int bh, .int ev])), (un, .inl (cJ, 96, .inr (.inl (gl V)))), (ro, .inl (cJ, 96, .inr (.inl (gml (V * lo7) Y (k + 1))))), (a3, .inl (cI, 864, .inl (gd Z)))] H := by rw [← e_37]; exact hP
        have hD : va_D A [(hm, .inr (5, [.int th, .int lo9, .int hi8, .int pr, .int wd, .long la, .int le, .ref tx9, .ref un, .ref ro, .ref nu, .ref be, .ref ab, .ref tr, .ref bs, .ref fa, .ref bf, .int bh, .int ev])), (un, .inl (cJ, 96, .inr (.inl (gl V)))), (ro, .inl (cJ, 96, .inr (.inl (gml (V * lo7) Y (k + 1))))), (a3, .inl (cI, 864, .inl (gd Z)))] := by rw [← e_37]; exact hD
        refine lv_lload hx hb d_Mo_write_55 (lv_at hl 0 rfl) ?_
        refine lv_ldc2 (v := 1000000000) hx hb hown (hts _ kl_Mo_78) d_Mo_write_57 ?_
        refine lv_ldiv hx hb d_Mo_write_60 (by decide) ?_
        refine lv_topl (fun x_38 e_39 => ?_)
        obtain rfl : x_38 = lN (gc 1000000000 0 V lo7 (k + 1)) := e_39.trans ((pk_lDiv (b := 1000000000) hbd (by decide) (by decide)).trans (by rw [gt_hi _ _ _ _ (by decide)]))
        refine lv_lstore (lv' := [(8, .long (lN (gc 1000000000 0 V lo7 (k + 1)))), (11, .long (lN (gw 1000000000 V k * lo7 + gc 1000000000 0 V lo7 k))), (10, .int (nI k)), (6, .long (lN lo7)), (4, .long (lN up7)), (0, .ref hm), (1, .long (lN M)), (3, .ref a3)]) hx hb d_Mo_write_61 hl (by decide) rfl (fun ls hl => ?_)
        refine lv_iinc (v := nI (k + 1)) (lv' := [(10, .int (nI (k + 1))), (8, .long (lN (gc 1000000000 0 V lo7 (k + 1)))), (11, .long (lN (gw 1000000000 V k * lo7 + gc 1000000000 0 V lo7 k))), (6, .long (lN lo7)), (4, .long (lN up7)), (0, .ref hm), (1, .long (lN M)), (3, .ref a3)]) hx hb d_Mo_write_63 hl (k := 2) rfl (nI_1 _) (by decide) rfl (fun ls hl => ?_)
        refine lv_goto (tgt := 20) hx hb d_Mo_write_66 (by decide) ?_
        exact ih (k + 1) H _ ls (by omega) (by omega) hP hD hS (lv_sub hl [0, 1, 3, 4, 5, 6, 7] rfl)
  refine lv_lload_n hx hb d_Mo_write_0 rfl (lv_at hl 1 rfl) ?_
  refine lv_ldc2 (v := 1000000000) hx hb hown (hts _ kl_Mo_78) d_Mo_write_1 ?_
  refine lv_ldiv hx hb d_Mo_write_4 (by decide) ?_
  refine lv_topl (fun x_40 e_41 => ?_)
  obtain rfl : x_40 = lN up7 := e_41.trans ((pk_lDiv (b := 1000000000) (by omega) (by decide) (by decide)).trans (by rw [hup7]))
  refine lv_lstore (lv' := [(4, .long (lN up7)), (0, .ref hm), (1, .long (lN M)), (3, .ref a3)]) hx hb d_Mo_write_5 hl (by decide) rfl (fun ls hl => ?_)
  refine lv_lload_n hx hb d_Mo_write_7 rfl (lv_at hl 2 rfl) ?_
  refine lv_ldc2 (v := 1000000000) hx hb hown (hts _ kl_Mo_78) d_Mo_write_8 ?_
  refine lv_lrem hx hb d_Mo_write_11 (by decide) ?_
  refine lv_topl (fun x_42 e_43 => ?_)
  obtain rfl : x_42 = lN lo7 := e_43.trans ((pk_lRem (b := 1000000000) (by omega) (by decide) (by decide)).trans (by rw [hlo7]))
  refine lv_lstore (lv' := [(6, .long (lN lo7)), (4, .long (lN up7)), (0, .ref hm), (1, .long (lN M)), (3, .ref a3)]) hx hb d_Mo_write_12 hl (by decide) rfl (fun ls hl => ?_)
  refine lv_lconst (v := 0) hx hb d_Mo_write_14 (by decide) ?_
  refine lv_lstore (lv' := [(8, .long 0), (6, .long (lN lo7)), (4, .long (lN up7)), (0, .ref hm), (1, .long (lN M)), (3, .ref a3)]) hx hb d_Mo_write_15 hl (by decide) rfl (fun ls hl => ?_)
  refine lv_iconst (v := 0) hx hb d_Mo_write_17 (by decide) ?_
  refine lv_istore (lv' := [(10, .int 0), (8, .long 0), (6, .long (lN lo7)), (4, .long (lN up7)), (0, .ref hm), (1, .long (lN M)), (3, .ref a3)]) hx hb d_Mo_write_18 hl (by decide) rfl (fun ls hl => ?_)
  exact lp1 97 0 H _ ls (by omega) (by omega) (by rw [gml_0]; exact hP) (by rw [gml_0]; exact hD) hS (by rw [gc_0]; exact lv_sub hl [0, 1, 2, 3, 4, 5, 6] rfl)

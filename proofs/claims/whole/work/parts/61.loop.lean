set_option maxHeartbeats 4000000 in
set_option maxRecDepth 100000 in
theorem law_loop {p : Program} {l : Launch} {e : Env} {s : State} {m : MethodId} {below : List Frame} {meth : Method} {c : Code} {dC : Nat → ClassId} {dI : Nat → Nat → Nat} {A : Nat → Prop} {ad adK adV : Nat → Nat} {b9 L : Nat} {xs : Nat → Int32} {hB hf q1 w1 q2 w2 q3 w3 hd wd ht wt : Nat} {cJ cC cI : ClassId} {hm tx9 un ro nu be ab tr bs fa bf : Nat} (hL : L ≤ 1536) (hx : p.tables.exec = Jvm.exec) (hb : c.code = code) (hml : c.maxLocals = 4) (hown : s.vm.findClass R_Lw = some m.cls) (hts : ∀ w ∈ gT, w.before #[Value.ref b9] s = true) (hX9 : va_X b9 L xs s s.heap) (hbl : b9 < s.heap.size) (hA : ∀ q : Nat, s.heap.size ≤ q → A q) (hbA : ¬ A b9) (hE : cb_E ad adK adV A s s.heap) (hK : va_K (dC, dI) cls [(cJ, .long), (cC, .char), (cI, .int)] s) (hr : meth.sig.returnType = ret) (hlocks : meth.locks = false) (hAs : ∀ q : Nat, A q → s.heap.size ≤ q) : ∀ (n j : Nat), j ≤ L + 2 → L + 3 ≤ j + n → lwN p l e s m below meth c dC dI A b9 hB hf q1 w1 q2 w2 q3 w3 hd wd ht wt cJ cC cI hm tx9 un ro nu be ab tr bs fa bf j 18 := by
  intro n
  induction n with
  | zero => intro j h1 h2; exact absurd h2 (by omega)
  | succ n ih =>
    intro j hj1 hj2
    intro lo hi9 p9 i b K8 M8 X U O xu xa xo g n8 D T f1 f2 tt th bh ev z H locs ls hlo1 hlo2 hhi1 hhi2 hp9 hi hbb hk8 hm8 hX hU hO hcst htx1 htx2 htl hz hP hD hS hl
    have hP : va_P (dC, dI) cls [(hB, .inr (4, [.ref hf, .ref hd, .ref ht, .int (iZ lo), .int (iZ hi9), .int (nI K8), .int (nI M8)])), (hf, .inr (1, [.ref q1, .ref q2, .ref q3])), (q1, .inr (2, [.ref w1, .int xu])), (w1, .inl (cJ, 26, .inr (.inl (bn_f X)))), (q2, .inr (2, [.ref w2, .int xa])), (w2, .inl (cJ, 26, .inr (.inl (bn_f U)))), (q3, .inr (2, [.ref w3, .int xo])), (w3, .inl (cJ, 26, .inr (.inl (bn_f O)))), (hd, .inr (0, [.ref wd, .int n8, .long (lN D), .int (iZ T)])), (wd, .inl (cC, 19, .inl (g))), (ht, .inr (3, [.ref wt, .int (nI tt.length)])), (wt, .inl (cC, 64, .inl (f1))), (hm, .inr (5, [.int th, .int (iZ lo), .int (iZ hi9), .int (nI p9), .int (nI (iw i)), .long (lN b), .int (nI tt.length), .ref tx9, .ref un, .ref ro, .ref nu, .ref be, .ref ab, .ref tr, .ref bs, .ref fa, .ref bf, .int bh, .int ev])), (un, .inl (cJ, 96, .inr (.inl (gl (z 0))))), (ro, .inl (cJ, 96, .inr (.inl (gl (z 1))))), (nu, .inl (cI, 864, .inl (gd (z 2)))), (be, .inl (cI, 864, .inl (gd (z 3)))), (ab, .inl (cI, 864, .inl (gd (z 4)))), (tr, .inl (cI, 864, .inl (gd (z 5)))), (bs, .inl (cI, 864, .inl (gd (z 6)))), (fa, .inl (cI, 864, .inl (gd (z 7)))), (bf, .inl (cI, 864, .inl (gd (z 8)))), (tx9, .inl (cI, 96, .inl (f2)))] H := hP
    have hD : va_D A [(hB, .inr (4, [.ref hf, .ref hd, .ref ht, .int (iZ lo), .int (iZ hi9), .int (nI K8), .int (nI M8)])), (hf, .inr (1, [.ref q1, .ref q2, .ref q3])), (q1, .inr (2, [.ref w1, .int xu])), (w1, .inl (cJ, 26, .inr (.inl (bn_f X)))), (q2, .inr (2, [.ref w2, .int xa])), (w2, .inl (cJ, 26, .inr (.inl (bn_f U)))), (q3, .inr (2, [.ref w3, .int xo])), (w3, .inl (cJ, 26, .inr (.inl (bn_f O)))), (hd, .inr (0, [.ref wd, .int n8, .long (lN D), .int (iZ T)])), (wd, .inl (cC, 19, .inl (g))), (ht, .inr (3, [.ref wt, .int (nI tt.length)])), (wt, .inl (cC, 64, .inl (f1))), (hm, .inr (5, [.int th, .int (iZ lo), .int (iZ hi9), .int (nI p9), .int (nI (iw i)), .long (lN b), .int (nI tt.length), .ref tx9, .ref un, .ref ro, .ref nu, .ref be, .ref ab, .ref tr, .ref bs, .ref fa, .ref bf, .int bh, .int ev])), (un, .inl (cJ, 96, .inr (.inl (gl (z 0))))), (ro, .inl (cJ, 96, .inr (.inl (gl (z 1))))), (nu, .inl (cI, 864, .inl (gd (z 2)))), (be, .inl (cI, 864, .inl (gd (z 3)))), (ab, .inl (cI, 864, .inl (gd (z 4)))), (tr, .inl (cI, 864, .inl (gd (z 5)))), (bs, .inl (cI, 864, .inl (gd (z 6)))), (fa, .inl (cI, 864, .inl (gd (z 7)))), (bf, .inl (cI, 864, .inl (gd (z 8)))), (tx9, .inl (cI, 96, .inl (f2)))] := hD
    refine lv_iload_n hx hb d_Lw_law_18 rfl (lv_at hl 0 rfl) ?_
    refine lv_aload_n hx hb d_Lw_law_19 rfl (lv_at hl 3 rfl) ?_
    refine va_slen hx hb hX9 hbl hbA hS d_Lw_law_20 ?_
    refine lv_iconst (v := 3) hx hb d_Lw_law_21 (by decide) ?_
    refine lv_isub hx hb d_Lw_law_22 ?_
    refine lv_topi (fun x_1 e_2 => ?_)
    obtain rfl : x_1 = iZ ((L : Int) - 3) := e_2.trans ((show nI L - 3 = iZ ((L : Int) - 3) from by rw [iZ_N]; exact iZ_sub _ 3))
    refine lv_icmp_gt (tgt := 355) hx hb d_Lw_law_23 (by decide) (fun q9 => ?_) (fun q9 => ?_)
    · refine lv_iconst (v := 1) hx hb d_Lw_law_355 (by decide) ?_
      refine va_forget (fun q hq => hAs _ (hS.2.2 q hq)) ?_
      exact lw_ret hx hb hr hlocks d_Lw_law_356
    · have hj : j + 2 < L := by
        rw [iZ_N] at q9
        have := mt (iZ_lt (a := (L : Int) - 3) (b := (j : Int)) (by omega) (by omega) (by omega) (by omega)).mpr q9
        omega
      have kk : lwN p l e s m below meth c dC dI A b9 hB hf q1 w1 q2 w2 q3 w3 hd wd ht wt cJ cC cI hm tx9 un ro nu be ab tr bs fa bf j 349 := by
        intro lo hi9 p9 i b K8 M8 X U O xu xa xo g n8 D T f1 f2 tt th bh ev z H locs ls hlo1 hlo2 hhi1 hhi2 hp9 hi hbb hk8 hm8 hX hU hO hcst htx1 htx2 htl hz hP hD hS hl
        refine lv_iinc (v := nI (j + 3)) (lv' := [(3, .int (nI (j + 3))), (1, .ref hB), (2, .ref hm), (0, .ref b9)]) hx hb d_Lw_law_349 hl (k := 0) rfl (nI_add j 3) (by decide) rfl (fun ls hl => ?_)
        refine lv_goto (tgt := 18) hx hb d_Lw_law_352 (by decide) ?_
        exact ih (j + 3) (by omega) (by omega) lo hi9 p9 i b K8 M8 X U O xu xa xo g n8 D T f1 f2 tt th bh ev z H locs ls hlo1 hlo2 hhi1 hhi2 hp9 hi hbb hk8 hm8 hX hU hO hcst htx1 htx2 htl hz hP hD hS (lv_sub hl [0, 1, 2, 3] rfl)
      refine lv_aload_n hx hb d_Lw_law_26 rfl (lv_at hl 3 rfl) ?_
      refine lv_iload_n hx hb d_Lw_law_27 rfl (lv_at hl 0 rfl) ?_
      refine va_sld hx hb hX9 hbl hbA hS (vp_in_nI (by omega) (by omega)) d_Lw_law_28 ?_
      refine lv_topi (fun x_3 e_4 => ?_)
      obtain rfl : x_3 = xs j := e_4.trans (by rw [nI_clamp (by omega)])
      refine lv_bipush (v := 15) hx hb d_Lw_law_29 (by decide) ?_
      obtain ⟨k9, hk9, hk9e⟩ := and15_of (xs j)
      refine lv_iand hx hb d_Lw_law_31 ?_
      refine lv_topi (fun x_5 e_6 => ?_)
      obtain rfl : x_5 = nI k9 := e_6.trans (hk9e)
      rcases (show k9 = 0 ∨ k9 = 1 ∨ k9 = 2 ∨ k9 = 3 ∨ k9 = 4 ∨ k9 = 5 ∨ k9 = 6 ∨ k9 = 7 ∨ k9 = 8 ∨ k9 = 9 ∨ 9 < k9 by omega) with h9 | h9 | h9 | h9 | h9 | h9 | h9 | h9 | h9 | h9 | h9
      · subst h9
        refine lv_tableIn (tgt := 88) (off := 56) hx hb d_Lw_law_32 (by decide) (by decide) (by decide) (by decide) ?_
        exact law_bounds hL hx hb hml hown hts hX9 hbl hA hbA hE hK hj kk lo hi9 p9 i b K8 M8 X U O xu xa xo g n8 D T f1 f2 tt th bh ev z H locs ls hlo1 hlo2 hhi1 hhi2 hp9 hi hbb hk8 hm8 hX hU hO hcst htx1 htx2 htl hz hP hD hS hl
      · subst h9
        refine lv_tableIn (tgt := 121) (off := 89) hx hb d_Lw_law_32 (by decide) (by decide) (by decide) (by decide) ?_
        exact law_wide hL hx hb hml hown hts hX9 hbl hA hbA hE hK hj kk lo hi9 p9 i b K8 M8 X U O xu xa xo g n8 D T f1 f2 tt th bh ev z H locs ls hlo1 hlo2 hhi1 hhi2 hp9 hi hbb hk8 hm8 hX hU hO hcst htx1 htx2 htl hz hP hD hS hl
      · subst h9
        refine lv_tableIn (tgt := 174) (off := 142) hx hb d_Lw_law_32 (by decide) (by decide) (by decide) (by decide) ?_
        exact law_narrow hL hx hb hml hown hts hX9 hbl hA hbA hE hK hj kk lo hi9 p9 i b K8 M8 X U O xu xa xo g n8 D T f1 f2 tt th bh ev z H locs ls hlo1 hlo2 hhi1 hhi2 hp9 hi hbb hk8 hm8 hX hU hO hcst htx1 htx2 htl hz hP hD hS hl
      · subst h9
        refine lv_tableIn (tgt := 197) (off := 165) hx hb d_Lw_law_32 (by decide) (by decide) (by decide) (by decide) ?_
        exact law_wideHex hL hx hb hml hown hts hX9 hbl hA hbA hE hK hj kk lo hi9 p9 i b K8 M8 X U O xu xa xo g n8 D T f1 f2 tt th bh ev z H locs ls hlo1 hlo2 hhi1 hhi2 hp9 hi hbb hk8 hm8 hX hU hO hcst htx1 htx2 htl hz hP hD hS hl
      · subst h9
        refine lv_tableIn (tgt := 250) (off := 218) hx hb d_Lw_law_32 (by decide) (by decide) (by decide) (by decide) ?_
        exact law_narrowHex hL hx hb hml hown hts hX9 hbl hA hbA hE hK hj kk lo hi9 p9 i b K8 M8 X U O xu xa xo g n8 D T f1 f2 tt th bh ev z H locs ls hlo1 hlo2 hhi1 hhi2 hp9 hi hbb hk8 hm8 hX hU hO hcst htx1 htx2 htl hz hP hD hS hl
      · subst h9
        refine lv_tableIn (tgt := 273) (off := 241) hx hb d_Lw_law_32 (by decide) (by decide) (by decide) (by decide) ?_
        exact law_characterAt hL hx hb hml hown hts hX9 hbl hA hbA hE hK hj kk lo hi9 p9 i b K8 M8 X U O xu xa xo g n8 D T f1 f2 tt th bh ev z H locs ls hlo1 hlo2 hhi1 hhi2 hp9 hi hbb hk8 hm8 hX hU hO hcst htx1 htx2 htl hz hP hD hS hl
      · subst h9
        refine lv_tableIn (tgt := 296) (off := 264) hx hb d_Lw_law_32 (by decide) (by decide) (by decide) (by decide) ?_
        exact law_kind hL hx hb hml hown hts hX9 hbl hA hbA hE hK hj kk lo hi9 p9 i b K8 M8 X U O xu xa xo g n8 D T f1 f2 tt th bh ev z H locs ls hlo1 hlo2 hhi1 hhi2 hp9 hi hbb hk8 hm8 hX hU hO hcst htx1 htx2 htl hz hP hD hS hl
      · subst h9
        refine lv_tableIn (tgt := 309) (off := 277) hx hb d_Lw_law_32 (by decide) (by decide) (by decide) (by decide) ?_
        exact law_minus hL hx hb hml hown hts hX9 hbl hA hbA hE hK hj kk lo hi9 p9 i b K8 M8 X U O xu xa xo g n8 D T f1 f2 tt th bh ev z H locs ls hlo1 hlo2 hhi1 hhi2 hp9 hi hbb hk8 hm8 hX hU hO hcst htx1 htx2 htl hz hP hD hS hl
      · subst h9
        refine lv_tableIn (tgt := 322) (off := 290) hx hb d_Lw_law_32 (by decide) (by decide) (by decide) (by decide) ?_
        exact law_digits hL hx hb hml hown hts hX9 hbl hA hbA hE hK hj kk lo hi9 p9 i b K8 M8 X U O xu xa xo g n8 D T f1 f2 tt th bh ev z H locs ls hlo1 hlo2 hhi1 hhi2 hp9 hi hbb hk8 hm8 hX hU hO hcst htx1 htx2 htl hz hP hD hS hl
      · subst h9
        refine lv_tableIn (tgt := 336) (off := 304) hx hb d_Lw_law_32 (by decide) (by decide) (by decide) (by decide) ?_
        exact law_tens hL hx hb hml hown hts hX9 hbl hA hbA hE hK hj kk lo hi9 p9 i b K8 M8 X U O xu xa xo g n8 D T f1 f2 tt th bh ev z H locs ls hlo1 hlo2 hhi1 hhi2 hp9 hi hbb hk8 hm8 hX hU hO hcst htx1 htx2 htl hz hP hD hS hl
      · refine lv_tableOut (tgt := 349) hx hb d_Lw_law_32 (Or.inr (by rw [nI_toInt16 k9 hk9]; omega)) (by decide) ?_
        exact kk lo hi9 p9 i b K8 M8 X U O xu xa xo g n8 D T f1 f2 tt th bh ev z H locs ls hlo1 hlo2 hhi1 hhi2 hp9 hi hbb hk8 hm8 hX hU hO hcst htx1 htx2 htl hz hP hD hS hl

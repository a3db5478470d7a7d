set_option maxHeartbeats 4000000 in
set_option maxRecDepth 100000 in
/-- smallPowerOfFive(k): 5 to the k -/
theorem c_Na_smallPowerOfFive (l : Launch) (dC : Nat → ClassId) (dI : Nat → Nat → Nat) (sz : Nat) (k : Nat) (hk : k ≤ 13) : Met l y_Na_smallPowerOfFive (Cond.code y_Na_smallPowerOfFive b_Na_smallPowerOfFive 4 (some .long) :: gT) ({ frames := 0, cells := 0, slots := 0, locals := 0 }) (va_Pc [.int (nI k)] (pw_P (dC, dI) cls [] pw_0 [] sz)) (va_Ql (fun (r : Int64) (u : Unit) => r = lN (5 ^ k)) (fun (u : Unit) => pw_B (dC, dI) cls [] (va_A [] sz) []) (va_A [] sz)) 0 0 (va_A [] sz) := by
  refine pw_metl (tn := fun (u : Unit) => []) (wn := fun (u : Unit) => []) (by decide) (Nat.le_of_ble_eq_true rfl) ?_
  intro p e s m args below meth c A Q H ls hx hb hml hown hts hA hE hP hK hD hS hret hl
  have hown : s.vm.findClass R_Na = some m.cls := hown
  have hl : lv_has ls 4 [(0, .int (nI k))] := hl
  refine lv_lconst (v := 1) hx hb d_Na_smallPowerOfFive_0 (by decide) ?_
  refine lv_lstore_n (lv' := [(1, .long 1), (0, .int (nI k))]) hx hb d_Na_smallPowerOfFive_1 rfl hl (by decide) rfl (fun ls hl => ?_)
  refine lv_iconst (v := 0) hx hb d_Na_smallPowerOfFive_2 (by decide) ?_
  refine lv_istore_n (lv' := [(3, .int 0), (1, .long 1), (0, .int (nI k))]) hx hb d_Na_smallPowerOfFive_3 rfl hl (by decide) rfl (fun ls hl => ?_)
  have lp : ∀ (n i : Nat) (H : Heap) (locs : List Loc) (ls : Array Slot), i ≤ k → k + 1 ≤ i + n → va_P (dC, dI) cls [] H → va_D A [] → va_S A s.heap H locs → lv_has ls 4 [(3, .int (nI i)), (1, .long (lN (5 ^ i))), (0, .int (nI k))] → W p l e { frames := 0, cells := 0, slots := 0, locals := 0 } s m args below meth c H locs 0 0 Q (F0 m 4 ls []) := by
    intro n
    induction n with
    | zero => intro i H locs ls h1 h2; exact absurd h2 (by omega)
    | succ n ih =>
      intro i H locs ls hi hn hP hD hS hl
      refine lv_iload_n hx hb d_Na_smallPowerOfFive_4 rfl (lv_at hl 0 rfl) ?_
      refine lv_iload_n hx hb d_Na_smallPowerOfFive_5 rfl (lv_at hl 2 rfl) ?_
      refine lv_icmp_ge (tgt := 21) hx hb d_Na_smallPowerOfFive_6 (by decide) (fun hc => ?_) (fun hc => ?_)
      · obtain rfl : i = k := by have := (nI_leI (by omega) (by omega)).mp hc; omega
        refine lv_lload_n hx hb d_Na_smallPowerOfFive_21 rfl (lv_at hl 1 rfl) ?_
        exact hret _ _ _ _ _ () d_Na_smallPowerOfFive_22 rfl hP hK hD hS
      · have hlt : i < k := by have := mt (nI_leI (a := k) (b := i) (by omega) (by omega)).mpr hc; omega
        refine lv_lload_n hx hb d_Na_smallPowerOfFive_9 rfl (lv_at hl 1 rfl) ?_
        refine lv_ldc2 (v := 5) hx hb hown (hts _ kl_Na_33) d_Na_smallPowerOfFive_10 ?_
        refine lv_lmul hx hb d_Na_smallPowerOfFive_13 ?_
        refine lv_topl (fun x_1 e_2 => ?_)
        obtain rfl : x_1 = lN (5 ^ (i + 1)) := e_2.trans (lN_mul (5 ^ i) 5)
        refine lv_lstore_n (lv' := [(1, .long (lN (5 ^ (i + 1)))), (3, .int (nI i)), (0, .int (nI k))]) hx hb d_Na_smallPowerOfFive_14 rfl hl (by decide) rfl (fun ls hl => ?_)
        refine lv_iinc (v := nI (i + 1)) (lv' := [(3, .int (nI (i + 1))), (1, .long (lN (5 ^ (i + 1)))), (0, .int (nI k))]) hx hb d_Na_smallPowerOfFive_15 hl (k := 1) rfl (nI_1 i) (by decide) rfl (fun ls hl => ?_)
        refine lv_goto (tgt := 4) hx hb d_Na_smallPowerOfFive_18 (by decide) ?_
        exact ih (i + 1) H locs ls (by omega) (by omega) hP hD hS (lv_sub hl [0, 1, 2] rfl)
  exact lp (k + 1) 0 H [] ls (Nat.zero_le _) (by omega) hP hD hS (lv_sub hl [0, 1, 2] rfl)

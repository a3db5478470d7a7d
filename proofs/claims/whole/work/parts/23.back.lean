/-! THE BACKGROUND: links among nest mates, the enum's constants, the texts: never written -/
def cb_nest : List Cond := [.methodLinkNest R_Bt 9 y_Fi_init R_Bt, .methodLinkNest R_Fi 9 y_Na_init R_Bt, .methodLinkNest R_Bt 18 y_De_init R_Bt, .methodLinkNest R_Bt 25 y_Te_init R_Bt, .fieldLinkNest R_Bt 64 R_De "d" "J" R_Bt, .fieldLinkNest R_Bt 68 R_De "t" "I" R_Bt, .fieldLinkNest R_Bt 84 R_Te "used" "I" R_Bt]
def cb_nm : List String := ["WIDE", "NARROW"]
def cb_fb : List Int32 := [52, 23]
def cb_te : List Int32 := [2047, 255]
def cb_bi : List Int32 := [1023, 127]
def cb_hp : List Int32 := [13, 6]
def cb_F : List (String × String × String × List Int32) := [(R_La, "fractionBits", "I", cb_fb), (R_La, "topExponent", "I", cb_te), (R_La, "bias", "I", cb_bi), (R_La, "hexPlaces", "I", cb_hp)]
def cb_idx : List Nat := [78, 130, 135, 162, 164, 90]
def cb_txt : List String := ["0.0", "NaN", "Infinity", "0x0.", "0x1.", "0x0.0p0"]
def cb_str : List (List Nat) := [[48, 46, 48], [78, 97, 78], [73, 110, 102, 105, 110, 105, 116, 121], [48, 120, 48, 46], [48, 120, 49, 46], [48, 120, 48, 46, 48, 112, 48]]
def cb_len : List Nat := [3, 3, 8, 4, 4, 7]
def cb_byt : List (List Int32) := [[48, 46, 48], [78, 97, 78], [73, 110, 102, 105, 110, 105, 116, 121], [48, 120, 48, 46], [48, 120, 49, 46], [48, 120, 48, 46, 48, 112, 48]]
theorem cb_s_len : ∀ i, i < 6 → (cb_str.getD i []).length = cb_len.getD i 0 ∧ cb_len.getD i 0 ≤ 8 := by decide +kernel
theorem cb_s_at : ∀ i, i < 6 → ∀ j, j < 8 → j < cb_len.getD i 0 → (cb_byt.getD i []).getD j 0 &&& 255 = nI ((cb_str.getD i []).getD j 0) ∧ (cb_str.getD i []).getD j 0 < 128 := by decide +kernel
def cb_E (ad adK adV : Nat → Nat) : (Nat → Prop) → State → Heap → Prop := fun A U H =>
  (∀ w ∈ cb_nest, va_Nw w U) ∧ va_En R_La "LBinaryText$Layout;" cb_nm cb_F ad A U H ∧ va_Z R_St "COMPACT_STRINGS" "Z" (.int 1) A U H ∧ va_Zq R_Pr "SIOOBE_FORMATTER" "Ljava/util/function/BiFunction;" A U H ∧ vk_S 6 cb_len cb_byt adK adV A U H ∧ (∀ i, i < 6 → vk_R R_Bt (cb_idx.getD i 0) (cb_txt.getD i "") (adK i) U)
theorem cb_alike {u U : State} (h : U.vm = u.vm) : u.vm.Alike U.vm := by
  rw [h]
  exact Vm.Alike.refl _
theorem cb_nest_tab : ∀ w ∈ cb_nest, w.onTables = true := by
  intro w hw
  simp only [cb_nest, List.mem_cons, List.not_mem_nil, or_false] at hw
  rcases hw with rfl | rfl | rfl | rfl | rfl | rfl | rfl <;> rfl
theorem cb_nest_warm {u U : State} (hW : u.WarmedH U.vm) : ∀ w ∈ cb_nest, va_Nw w u → va_Nw w U := by
  intro w hw h
  simp only [cb_nest, List.mem_cons, List.not_mem_nil, or_false] at hw
  rcases hw with rfl | rfl | rfl | rfl | rfl | rfl | rfl
  · exact va_Nw.warmM hW h
  · exact va_Nw.warmM hW h
  · exact va_Nw.warmM hW h
  · exact va_Nw.warmM hW h
  · exact va_Nw.warmF hW h
  · exact va_Nw.warmF hW h
  · exact va_Nw.warmF hW h
theorem cb_E_ok (ad adK adV : Nat → Nat) : pw_E (cb_E ad adK adV) := by
  refine ⟨fun A u U H hv h => ?_, fun A u U H hW h => ?_, fun A U H H1 h hq => ?_, fun A B U H h hAB => ?_⟩
  · exact ⟨fun w hw => va_Nw.same (cb_nest_tab w hw) hv.symm (h.1 w hw), va_En.moved (cb_alike hv) h.2.1, va_Z.moved (cb_alike hv) h.2.2.1, va_Zq.moved (cb_alike hv) h.2.2.2.1, vk_S.moved (cb_alike hv) h.2.2.2.2.1, fun i hi => vk_R.same hv (h.2.2.2.2.2 i hi)⟩
  · exact ⟨fun w hw => cb_nest_warm hW w hw (h.1 w hw), va_En.moved hW.alike h.2.1, va_Z.moved hW.alike h.2.2.1, va_Zq.moved hW.alike h.2.2.2.1, vk_S.moved hW.alike h.2.2.2.2.1, fun i hi => vk_R.warm hW (h.2.2.2.2.2 i hi)⟩
  · exact ⟨h.1, h.2.1.kept hq, h.2.2.1.kept hq, h.2.2.2.1.kept hq, h.2.2.2.2.1.kept hq, h.2.2.2.2.2⟩
  · exact ⟨h.1, h.2.1.narrow hAB, h.2.2.1.narrow hAB, h.2.2.2.1.narrow hAB, h.2.2.2.2.1.narrow hAB, h.2.2.2.2.2⟩

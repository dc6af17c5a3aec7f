/-! a String's length and char -/
def tc_Ps (B bs : Nat) (ak av : Nat → Nat) (D : va_G) (cy : Nat → ClassId) (xl : List Int) (as : List Value) : Array Value → State → Prop := fun a U => a = as.toArray ∧ tc_St B bs ak av D cy xl U
def tc_Qs (x : Option Value) : Array Value → State → Outcome → State → Prop := fun _ st o t => o = .returned x ∧ t.heap = st.heap
section TCSTR
variable {l : Launch} {B bs : Nat} {ak av : Nat → Nat} {D : va_G} {cy : Nat → ClassId} {xl : List Int}
theorem tc_Ps_blind {as : List Value} : FrameBlind (tc_Ps B bs ak av D cy xl as) := fun _ _ _ _ q => ⟨q.1, tc_St_call q.2⟩
theorem tc_strs_byt {j : Nat} (hj : j < 25) : ∀ k, k < (tc_chs.getD j []).length → (((tc_byt.getD j []).getD k 0 &&& 255).toUInt32 % 65536).toInt32 = tc_3 ((tc_chs.getD j []).getD k 0) ∧ narrow .char (.int (tc_3 ((tc_chs.getD j []).getD k 0))) = .int (tc_3 ((tc_chs.getD j []).getD k 0)) := by
  have h : ∀ j, j < 25 → ∀ k, k < (tc_chs.getD j []).length → (((tc_byt.getD j []).getD k 0 &&& 255).toUInt32 % 65536).toInt32 = tc_3 ((tc_chs.getD j []).getD k 0) ∧ narrow .char (.int (tc_3 ((tc_chs.getD j []).getD k 0))) = .int (tc_3 ((tc_chs.getD j []).getD k 0)) := by decide +kernel
  exact h j hj
theorem tc_strs_len {j : Nat} : tc_len.getD j 0 = (tc_chs.getD j []).length := by
  unfold tc_len
  rw [List.getD_eq_getElem?_getD, List.getElem?_map, List.getD_eq_getElem?_getD]
  cases tc_chs[j]? <;> rfl
theorem tc_strs_lt {j : Nat} (hj : j < 25) : (tc_chs.getD j []).length < 2 ^ 31 := by
  have h : ∀ j, j < 25 → (tc_chs.getD j []).length < 2 ^ 31 := by decide +kernel
  exact h j hj
/-- coder() -/
theorem tc_m23 {j : Nat} (hj : j < 25) : Met l (tc_y 23) (tc_Ws 23) { frames := 0, cells := 0, slots := 0, locals := 0 } (tc_Ps B bs ak av D cy xl [.ref (ak j)]) (tc_Qs (some (.int 0))) 0 0 (fun _ => False) := by
  refine Met.ofW (cc := tc_b 23) (maxL := 1) (ret := some .byte) (by decide +kernel) rfl ?_
  intro p e s m args below meth c s₁ BB hml hv
  obtain ⟨rfl, hSt⟩ := hv
  have hx := BB.exec
  have hb := BB.bytes
  have hr := BB.returns
  have hlk := BB.notSynchronized
  have hts0 := atoms_spec (ws := tc_Ws 23) BB.pre
  have hts : ∀ w ∈ tc_TB, w.before _ s = true := fun w hw => hts0 w (List.mem_cons_of_mem _ hw)
  have hown : s.vm.findClass "java/lang/String" = some m.cls := findClass_of_methodNamed BB.named
  obtain ⟨-, -, -, -, -, hSk, -, -, hZ1, -⟩ := hSt
  have hl := lv_entry ([.ref (ak j)]) (n := 1) (Nat.le_of_ble_eq_true rfl)
  rw [lg_entry_eq]
  generalize (lg_sl ([.ref (ak j)]) ++ List.replicate (1 - (lg_sl ([.ref (ak j)])).length) Slot.unset).toArray = ls at hl ⊢
  have hl : lv_has ls 1 [(0, .ref (ak j))] := hl
  refine va_gets (own := "java/lang/String") (ref := "java/lang/String") (index := 38) hx hb hZ1 va_S.rf hown (hts _ (tc_has_in (p := 3001) (by decide +kernel))) (fun _ h => h) (show decode (tc_b 23) 0 = .ok (.getstatic 38, 3) by decide +kernel) ?_
  refine lv_if_eq (off := 10) (tgt := 13) hx hb (show decode (tc_b 23) 3 = .ok (.ifCond .eq 10, 3) by decide +kernel) (by decide) (fun q => absurd q (by decide)) (fun _ => ?_)
  refine lv_aload_n (k := 0) hx hb (show decode (tc_b 23) 6 = .ok (.aload_n 0, 1) by decide +kernel) rfl (lv_at hl 0 rfl) ?_
  refine vk_getf (own := "java/lang/String") (ref := "java/lang/String") (index := 15) hx hb (hSk.1 j hj).2.1 va_S.rf hown (hts _ (tc_has_in (p := 8138) (by decide +kernel))) (fun _ h => h) (show decode (tc_b 23) 7 = .ok (.getfield 15, 3) by decide +kernel) ?_
  refine lv_goto (off := 4) (tgt := 14) hx hb (show decode (tc_b 23) 10 = .ok (.goto 4, 3) by decide +kernel) (by decide) ?_
  exact W.zret (ty := .byte) hx hb hr (by decide +kernel) (fun t ht _ => ⟨rfl, ht⟩) (fun q h => by cases h) (show decode (tc_b 23) 14 = .ok (.ireturn, 1) by decide +kernel) hlk
/-- isLatin1() -/
theorem tc_m25 {j : Nat} (hj : j < 25) : Met l (tc_y 25) (tc_Ws 25) { frames := 0, cells := 0, slots := 0, locals := 0 } (tc_Ps B bs ak av D cy xl [.ref (ak j)]) (tc_Qs (some (.int 1))) 0 0 (fun _ => False) := by
  refine Met.ofW (cc := tc_b 25) (maxL := 1) (ret := some .boolean) (by decide +kernel) rfl ?_
  intro p e s m args below meth c s₁ BB hml hv
  obtain ⟨rfl, hSt⟩ := hv
  have hx := BB.exec
  have hb := BB.bytes
  have hr := BB.returns
  have hlk := BB.notSynchronized
  have hts0 := atoms_spec (ws := tc_Ws 25) BB.pre
  have hts : ∀ w ∈ tc_TB, w.before _ s = true := fun w hw => hts0 w (List.mem_cons_of_mem _ hw)
  have hown : s.vm.findClass "java/lang/String" = some m.cls := findClass_of_methodNamed BB.named
  obtain ⟨-, -, -, -, -, hSk, -, -, hZ1, -⟩ := hSt
  have hl := lv_entry ([.ref (ak j)]) (n := 1) (Nat.le_of_ble_eq_true rfl)
  rw [lg_entry_eq]
  generalize (lg_sl ([.ref (ak j)]) ++ List.replicate (1 - (lg_sl ([.ref (ak j)])).length) Slot.unset).toArray = ls at hl ⊢
  have hl : lv_has ls 1 [(0, .ref (ak j))] := hl
  refine va_gets (own := "java/lang/String") (ref := "java/lang/String") (index := 38) hx hb hZ1 va_S.rf hown (hts _ (tc_has_in (p := 3001) (by decide +kernel))) (fun _ h => h) (show decode (tc_b 25) 0 = .ok (.getstatic 38, 3) by decide +kernel) ?_
  refine lv_if_eq (off := 14) (tgt := 17) hx hb (show decode (tc_b 25) 3 = .ok (.ifCond .eq 14, 3) by decide +kernel) (by decide) (fun q => absurd q (by decide)) (fun _ => ?_)
  refine lv_aload_n (k := 0) hx hb (show decode (tc_b 25) 6 = .ok (.aload_n 0, 1) by decide +kernel) rfl (lv_at hl 0 rfl) ?_
  refine vk_getf (own := "java/lang/String") (ref := "java/lang/String") (index := 15) hx hb (hSk.1 j hj).2.1 va_S.rf hown (hts _ (tc_has_in (p := 8138) (by decide +kernel))) (fun _ h => h) (show decode (tc_b 25) 7 = .ok (.getfield 15, 3) by decide +kernel) ?_
  refine lv_if_ne (off := 7) (tgt := 17) hx hb (show decode (tc_b 25) 10 = .ok (.ifCond .ne 7, 3) by decide +kernel) (by decide) (fun q => absurd rfl q) (fun _ => ?_)
  refine lv_iconst (v := 1) hx hb (show decode (tc_b 25) 13 = .ok (.iconst 1, 1) by decide +kernel) (by decide) ?_
  refine lv_goto (off := 4) (tgt := 18) hx hb (show decode (tc_b 25) 14 = .ok (.goto 4, 3) by decide +kernel) (by decide) ?_
  exact W.zret (ty := .boolean) hx hb hr (by decide +kernel) (fun t ht _ => ⟨rfl, ht⟩) (fun q h => by cases h) (show decode (tc_b 25) 18 = .ok (.ireturn, 1) by decide +kernel) hlk
/-- Preconditions.checkIndex, in range -/
theorem tc_m28 {x y : Int32} {v : Value} (hv : v = .null ∨ ∃ a, v = .ref a) (h0 : ¬ x < 0) (hxy : x < y) : Met l (tc_y 28) (tc_Ws 28) { frames := 0, cells := 0, slots := 0, locals := 0 } (tc_Ps B bs ak av D cy xl [.int x, .int y, v]) (tc_Qs (some (.int x))) 0 0 (fun _ => False) := by
  refine Met.ofW (cc := tc_b 28) (maxL := 3) (ret := some .int) (by decide +kernel) rfl ?_
  intro p e s m args below meth c s₁ BB hml hv2
  obtain ⟨rfl, hSt⟩ := hv2
  have hx := BB.exec
  have hb := BB.bytes
  have hr := BB.returns
  have hlk := BB.notSynchronized
  have hcat : (lg_sl [.int x, .int y, v]).length ≤ 3 := by
    rcases hv with rfl | ⟨a, rfl⟩ <;> exact Nat.le_of_ble_eq_true rfl
  have hl := lv_entry ([.int x, .int y, v]) (n := 3) hcat
  rw [lg_entry_eq]
  generalize (lg_sl ([.int x, .int y, v]) ++ List.replicate (3 - (lg_sl ([.int x, .int y, v])).length) Slot.unset).toArray = ls at hl ⊢
  have hl : lv_has ls 3 [(0, .int x), (1, .int y), (2, v)] := hl
  refine lv_iload_n (k := 0) hx hb (show decode (tc_b 28) 0 = .ok (.iload_n 0, 1) by decide +kernel) rfl (lv_at hl 0 rfl) ?_
  refine lv_if_lt (off := 8) (tgt := 9) hx hb (show decode (tc_b 28) 1 = .ok (.ifCond .lt 8, 3) by decide +kernel) (by decide) (fun q => absurd q h0) (fun _ => ?_)
  refine lv_iload_n (k := 0) hx hb (show decode (tc_b 28) 4 = .ok (.iload_n 0, 1) by decide +kernel) rfl (lv_at hl 0 rfl) ?_
  refine lv_iload_n (k := 1) hx hb (show decode (tc_b 28) 5 = .ok (.iload_n 1, 1) by decide +kernel) rfl (lv_at hl 1 rfl) ?_
  refine lv_icmp_lt (off := 10) (tgt := 16) hx hb (show decode (tc_b 28) 6 = .ok (.if_icmp .lt 10, 3) by decide +kernel) (by decide) (fun _ => ?_) (fun q => absurd hxy q)
  refine lv_iload_n (k := 0) hx hb (show decode (tc_b 28) 16 = .ok (.iload_n 0, 1) by decide +kernel) rfl (lv_at hl 0 rfl) ?_
  exact W.iret hx hb hr (fun t ht _ => ⟨rfl, ht⟩) (fun q h => by cases h) (show decode (tc_b 28) 17 = .ok (.ireturn, 1) by decide +kernel) hlk
/-- String.checkIndex, in range -/
theorem tc_m27 {x y : Int32} (h0 : ¬ x < 0) (hxy : x < y) : Met l (tc_y 27) (tc_Ws 27) { frames := 1, cells := 0, slots := 0, locals := 22 } (tc_Ps B bs ak av D cy xl [.int x, .int y]) (tc_Qs none) 0 0 (fun _ => False) := by
  refine Met.ofW (cc := tc_b 27) (maxL := 2) (ret := none) (by decide +kernel) rfl ?_
  intro p e s m args below meth c s₁ BB hml hv2
  obtain ⟨rfl, hSt⟩ := hv2
  have hx := BB.exec
  have hb := BB.bytes
  have hr := BB.returns
  have hlk := BB.notSynchronized
  have hts0 := atoms_spec (ws := tc_Ws 27) BB.pre
  have hts : ∀ w ∈ tc_TB, w.before _ s = true := fun w hw => hts0 w (List.mem_cons_of_mem _ hw)
  have hown : s.vm.findClass "java/lang/String" = some m.cls := findClass_of_methodNamed BB.named
  obtain ⟨v, hv, hZ⟩ : ∃ v, (v = .null ∨ ∃ a, v = Value.ref a) ∧ va_Z "jdk/internal/util/Preconditions" "SIOOBE_FORMATTER" "Ljava/util/function/BiFunction;" v (fun q => B ≤ q) s s.heap := by
    rcases hSt.2.2.2.2.2.2.2.2.2 with h | ⟨t, h⟩
    · exact ⟨_, Or.inl rfl, h⟩
    · exact ⟨_, Or.inr ⟨t, rfl⟩, h⟩
  have hl := lv_entry ([.int x, .int y]) (n := 2) (Nat.le_of_ble_eq_true rfl)
  rw [lg_entry_eq]
  generalize (lg_sl ([.int x, .int y]) ++ List.replicate (2 - (lg_sl ([.int x, .int y])).length) Slot.unset).toArray = ls at hl ⊢
  have hl : lv_has ls 2 [(0, .int x), (1, .int y)] := hl
  refine lv_iload_n (k := 0) hx hb (show decode (tc_b 27) 0 = .ok (.iload_n 0, 1) by decide +kernel) rfl (lv_at hl 0 rfl) ?_
  refine lv_iload_n (k := 1) hx hb (show decode (tc_b 27) 1 = .ok (.iload_n 1, 1) by decide +kernel) rfl (lv_at hl 1 rfl) ?_
  refine va_gets (own := "java/lang/String") (ref := "jdk/internal/util/Preconditions") (index := 1053) hx hb hZ va_S.rf hown (hts _ (tc_has_in (p := 3017) (by decide +kernel))) (fun _ h => h) (show decode (tc_b 27) 2 = .ok (.getstatic 1053, 3) by decide +kernel) ?_
  refine tc_go (va_runS (index := 1059) (As := [.int x, .int y, v]) (rest := []) ⟨hx, hb, hml, hown, hts⟩ (tc_m28 (B := B) (bs := bs) (ak := ak) (av := av) (D := D) (cy := cy) (xl := xl) hv h0 hxy) ⟨callB_of 3 hts (tc_Ws_good ⟨by decide, by decide⟩) rfl rfl rfl (hts _ (tc_has_in (p := 1016) (by decide +kernel))) (hts _ (tc_has_in (p := 3019) (by decide +kernel))) (by decide +kernel) ⟨Nat.le_of_ble_eq_true rfl, Nat.le_of_ble_eq_true rfl⟩, hts _ (tc_has_in (p := 3020) (by decide +kernel))⟩ ⟨tc_Ps_blind, fun U hU hW => ⟨rfl, tc_St_warm hW va_S.rf hU hSt⟩⟩ rfl rfl hl.1 rfl (lv_room (Nat.le_of_ble_eq_true rfl)) (show decode (tc_b 27) 5 = .ok (.invokestatic 1059, 3) by decide +kernel) ⟨Nat.le_of_ble_eq_true rfl, Nat.le_of_ble_eq_true rfl⟩) (fun v2 st₀ t L hs0 hL hq => ?_)
  obtain ⟨q1, q2⟩ := hq
  cases q1
  have hL0 : L = [] := List.eq_nil_iff_forall_not_mem.mpr hL
  subst hL0
  rw [q2, hs0]
  refine lv_pop hx hb (show decode (tc_b 27) 8 = .ok (.pop, 1) by decide +kernel) rfl ?_
  exact W.vret hx hb hr (fun t ht _ => ⟨rfl, ht⟩) (fun q h => by cases h) (show decode (tc_b 27) 9 = .ok (.return_, 1) by decide +kernel) hlk
/-- StringLatin1.charAt, in range -/
theorem tc_m26 {j : Nat} (hj : j < 25) {x : Int32} (hin : vp_in x (tc_chs.getD j []).length) : Met l (tc_y 26) (tc_Ws 26) { frames := 2, cells := 0, slots := 0, locals := 43 } (tc_Ps B bs ak av D cy xl [.ref (av j), .int x]) (tc_Qs (some (.int (tc_3 ((tc_chs.getD j []).getD x.toNatClampNeg 0))))) 0 0 (fun _ => False) := by
  refine Met.ofW (cc := tc_b 26) (maxL := 2) (ret := some .char) (by decide +kernel) rfl ?_
  intro p e s m args below meth c s₁ BB hml hv2
  obtain ⟨rfl, hSt⟩ := hv2
  have hx := BB.exec
  have hb := BB.bytes
  have hr := BB.returns
  have hlk := BB.notSynchronized
  have hts0 := atoms_spec (ws := tc_Ws 26) BB.pre
  have hts : ∀ w ∈ tc_TB, w.before _ s = true := fun w hw => hts0 w (List.mem_cons_of_mem _ hw)
  have hown : s.vm.findClass "java/lang/StringLatin1" = some m.cls := findClass_of_methodNamed BB.named
  have hT := (hSt.2.2.2.2.2.1.1 j hj).2.2.2
  rw [tc_strs_len] at hT
  have hlt := tc_strs_lt hj
  have hk : x.toNatClampNeg < (tc_chs.getD j []).length := Nat.not_le.mp fun q => hin (Or.inr q)
  have h0 : ¬ x < 0 := fun q => hin (Or.inl q)
  have hxl : x < Int32.ofNat (tc_chs.getD j []).length := by
    obtain ⟨k, hk1, hk2⟩ := vp_in_of hin hlt
    rw [hk2]
    exact nI_lt hk1 hlt
  obtain ⟨b1, b2⟩ := tc_strs_byt hj _ hk
  have hl := lv_entry ([.ref (av j), .int x]) (n := 2) (Nat.le_of_ble_eq_true rfl)
  rw [lg_entry_eq]
  generalize (lg_sl ([.ref (av j), .int x]) ++ List.replicate (2 - (lg_sl ([.ref (av j), .int x])).length) Slot.unset).toArray = ls at hl ⊢
  have hl : lv_has ls 2 [(0, .ref (av j)), (1, .int x)] := hl
  refine lv_iload_n (k := 1) hx hb (show decode (tc_b 26) 0 = .ok (.iload_n 1, 1) by decide +kernel) rfl (lv_at hl 1 rfl) ?_
  refine lv_aload_n (k := 0) hx hb (show decode (tc_b 26) 1 = .ok (.aload_n 0, 1) by decide +kernel) rfl (lv_at hl 0 rfl) ?_
  refine va_tlen hx hb hT va_S.rf rfl (show decode (tc_b 26) 2 = .ok (.arraylength, 1) by decide +kernel) ?_
  refine tc_go (va_runS (index := 9) (As := [.int x, .int (Int32.ofNat (tc_chs.getD j []).length)]) (rest := []) ⟨hx, hb, hml, hown, hts⟩ (tc_m27 (B := B) (bs := bs) (ak := ak) (av := av) (D := D) (cy := cy) (xl := xl) h0 hxl) ⟨callB_of 2 hts (tc_Ws_good ⟨by decide, by decide⟩) rfl rfl rfl (hts _ (tc_has_in (p := 1014) (by decide +kernel))) (hts _ (tc_has_in (p := 3014) (by decide +kernel))) (by decide +kernel) ⟨Nat.le_of_ble_eq_true rfl, Nat.le_of_ble_eq_true rfl⟩, hts _ (tc_has_in (p := 3015) (by decide +kernel))⟩ ⟨tc_Ps_blind, fun U hU hW => ⟨rfl, tc_St_warm hW va_S.rf hU hSt⟩⟩ rfl rfl hl.1 rfl (lv_room (Nat.le_of_ble_eq_true rfl)) (show decode (tc_b 26) 3 = .ok (.invokestatic 9, 3) by decide +kernel) ⟨Nat.le_of_ble_eq_true rfl, Nat.le_of_ble_eq_true rfl⟩) (fun v2 st₀ t L hs0 hL hq => ?_)
  obtain ⟨q1, q2⟩ := hq
  cases q1
  have hL0 : L = [] := List.eq_nil_iff_forall_not_mem.mpr hL
  subst hL0
  rw [q2, hs0]
  refine lv_aload_n (k := 0) hx hb (show decode (tc_b 26) 6 = .ok (.aload_n 0, 1) by decide +kernel) rfl (lv_at hl 0 rfl) ?_
  refine lv_iload_n (k := 1) hx hb (show decode (tc_b 26) 7 = .ok (.iload_n 1, 1) by decide +kernel) rfl (lv_at hl 1 rfl) ?_
  refine va_tb hx hb hT va_S.rf hin rfl (show decode (tc_b 26) 8 = .ok (.baload, 1) by decide +kernel) ?_
  refine lv_sipush (v := 255) hx hb (show decode (tc_b 26) 9 = .ok (.sipush 255, 3) by decide +kernel) (by decide +kernel) ?_
  refine lv_iand hx hb (show decode (tc_b 26) 12 = .ok (.iand, 1) by decide +kernel) ?_
  refine lv_i2c hx hb (show decode (tc_b 26) 13 = .ok (.i2c, 1) by decide +kernel) b1 ?_
  exact W.zret (ty := .char) hx hb hr b2 (fun t ht _ => ⟨rfl, ht⟩) (fun q h => by cases h) (show decode (tc_b 26) 14 = .ok (.ireturn, 1) by decide +kernel) hlk
/-- String.length -/
theorem tc_m22 {j : Nat} (hj : j < 25) : Met l (tc_y 22) (tc_Ws 22) { frames := 1, cells := 0, slots := 0, locals := 20 } (tc_Ps B bs ak av D cy xl [.ref (ak j)]) (tc_Qs (some (.int (Int32.ofNat (tc_chs.getD j []).length)))) 0 0 (fun _ => False) := by
  refine Met.ofW (cc := tc_b 22) (maxL := 1) (ret := some .int) (by decide +kernel) rfl ?_
  intro p e s m args below meth c s₁ BB hml hv2
  obtain ⟨rfl, hSt⟩ := hv2
  have hx := BB.exec
  have hb := BB.bytes
  have hr := BB.returns
  have hlk := BB.notSynchronized
  have hts0 := atoms_spec (ws := tc_Ws 22) BB.pre
  have hts : ∀ w ∈ tc_TB, w.before _ s = true := fun w hw => hts0 w (List.mem_cons_of_mem _ hw)
  have hown : s.vm.findClass "java/lang/String" = some m.cls := findClass_of_methodNamed BB.named
  have hSk := hSt.2.2.2.2.2.1
  have hT := (hSk.1 j hj).2.2.2
  rw [tc_strs_len] at hT
  have hl := lv_entry ([.ref (ak j)]) (n := 1) (Nat.le_of_ble_eq_true rfl)
  rw [lg_entry_eq]
  generalize (lg_sl ([.ref (ak j)]) ++ List.replicate (1 - (lg_sl ([.ref (ak j)])).length) Slot.unset).toArray = ls at hl ⊢
  have hl : lv_has ls 1 [(0, .ref (ak j))] := hl
  refine lv_aload_n (k := 0) hx hb (show decode (tc_b 22) 0 = .ok (.aload_n 0, 1) by decide +kernel) rfl (lv_at hl 0 rfl) ?_
  refine vk_getf (own := "java/lang/String") (ref := "java/lang/String") (index := 9) hx hb (hSk.1 j hj).2.2.1 va_S.rf hown (hts _ (tc_has_in (p := 8137) (by decide +kernel))) (fun _ h => h) (show decode (tc_b 22) 1 = .ok (.getfield 9, 3) by decide +kernel) ?_
  refine va_tlen hx hb hT va_S.rf rfl (show decode (tc_b 22) 4 = .ok (.arraylength, 1) by decide +kernel) ?_
  refine lv_aload_n (k := 0) hx hb (show decode (tc_b 22) 5 = .ok (.aload_n 0, 1) by decide +kernel) rfl (lv_at hl 0 rfl) ?_
  refine tc_go (va_runV (C := "java/lang/String") (index := 335) (b := ak j) (As := []) (rest := [.int (Int32.ofNat (tc_chs.getD j []).length)]) ⟨hx, hb, hml, hown, hts⟩ (tc_m23 (B := B) (bs := bs) (ak := ak) (av := av) (D := D) (cy := cy) (xl := xl) hj) ⟨callB_of 0 hts (tc_Ws_good ⟨by decide, by decide⟩) rfl rfl rfl (hts _ (tc_has_in (p := 1014) (by decide +kernel))) (hts _ (tc_has_in (p := 2237) (by decide +kernel))) (by decide +kernel) ⟨Nat.le_of_ble_eq_true rfl, Nat.le_of_ble_eq_true rfl⟩, hts _ (tc_has_in (p := 2238) (by decide +kernel)), hts _ (tc_has_in (p := 2239) (by decide +kernel))⟩ ⟨tc_Ps_blind, vk_recv hSk hj va_S.rf, fun U hU hW => ⟨rfl, tc_St_warm hW va_S.rf hU hSt⟩⟩ rfl rfl hl.1 rfl (lv_room (Nat.le_of_ble_eq_true rfl)) (show decode (tc_b 22) 6 = .ok (.invokevirtual 335, 3) by decide +kernel) ⟨Nat.le_of_ble_eq_true rfl, Nat.le_of_ble_eq_true rfl⟩) (fun v2 st₀ t L hs0 hL hq => ?_)
  obtain ⟨q1, q2⟩ := hq
  cases q1
  have hL0 : L = [] := List.eq_nil_iff_forall_not_mem.mpr hL
  subst hL0
  rw [q2, hs0]
  refine lv_ishr hx hb (show decode (tc_b 22) 9 = .ok (.ishr, 1) by decide +kernel) ?_
  rw [sb_shr0]
  exact W.iret hx hb hr (fun t ht _ => ⟨rfl, ht⟩) (fun q h => by cases h) (show decode (tc_b 22) 10 = .ok (.ireturn, 1) by decide +kernel) hlk
/-- String.charAt, in range -/
theorem tc_m24 {j : Nat} (hj : j < 25) {x : Int32} (hin : vp_in x (tc_chs.getD j []).length) : Met l (tc_y 24) (tc_Ws 24) { frames := 3, cells := 0, slots := 0, locals := 64 } (tc_Ps B bs ak av D cy xl [.ref (ak j), .int x]) (tc_Qs (some (.int (tc_3 ((tc_chs.getD j []).getD x.toNatClampNeg 0))))) 0 0 (fun _ => False) := by
  refine Met.ofW (cc := tc_b 24) (maxL := 2) (ret := some .char) (by decide +kernel) rfl ?_
  intro p e s m args below meth c s₁ BB hml hv2
  obtain ⟨rfl, hSt⟩ := hv2
  have hx := BB.exec
  have hb := BB.bytes
  have hr := BB.returns
  have hlk := BB.notSynchronized
  have hts0 := atoms_spec (ws := tc_Ws 24) BB.pre
  have hts : ∀ w ∈ tc_TB, w.before _ s = true := fun w hw => hts0 w (List.mem_cons_of_mem _ hw)
  have hown : s.vm.findClass "java/lang/String" = some m.cls := findClass_of_methodNamed BB.named
  have hSk := hSt.2.2.2.2.2.1
  have hk : x.toNatClampNeg < (tc_chs.getD j []).length := Nat.not_le.mp fun q => hin (Or.inr q)
  obtain ⟨b1, b2⟩ := tc_strs_byt hj _ hk
  have hl := lv_entry ([.ref (ak j), .int x]) (n := 2) (Nat.le_of_ble_eq_true rfl)
  rw [lg_entry_eq]
  generalize (lg_sl ([.ref (ak j), .int x]) ++ List.replicate (2 - (lg_sl ([.ref (ak j), .int x])).length) Slot.unset).toArray = ls at hl ⊢
  have hl : lv_has ls 2 [(0, .ref (ak j)), (1, .int x)] := hl
  refine lv_aload_n (k := 0) hx hb (show decode (tc_b 24) 0 = .ok (.aload_n 0, 1) by decide +kernel) rfl (lv_at hl 0 rfl) ?_
  refine tc_go (va_runV (C := "java/lang/String") (index := 492) (b := ak j) (As := []) (rest := []) ⟨hx, hb, hml, hown, hts⟩ (tc_m25 (B := B) (bs := bs) (ak := ak) (av := av) (D := D) (cy := cy) (xl := xl) hj) ⟨callB_of 0 hts (tc_Ws_good ⟨by decide, by decide⟩) rfl rfl rfl (hts _ (tc_has_in (p := 1014) (by decide +kernel))) (hts _ (tc_has_in (p := 3007) (by decide +kernel))) (by decide +kernel) ⟨Nat.le_of_ble_eq_true rfl, Nat.le_of_ble_eq_true rfl⟩, hts _ (tc_has_in (p := 3008) (by decide +kernel)), hts _ (tc_has_in (p := 3009) (by decide +kernel))⟩ ⟨tc_Ps_blind, vk_recv hSk hj va_S.rf, fun U hU hW => ⟨rfl, tc_St_warm hW va_S.rf hU hSt⟩⟩ rfl rfl hl.1 rfl (lv_room (Nat.le_of_ble_eq_true rfl)) (show decode (tc_b 24) 1 = .ok (.invokevirtual 492, 3) by decide +kernel) ⟨Nat.le_of_ble_eq_true rfl, Nat.le_of_ble_eq_true rfl⟩) (fun v2 st₀ t L hs0 hL hq => ?_)
  obtain ⟨q1, q2⟩ := hq
  cases q1
  have hL0 : L = [] := List.eq_nil_iff_forall_not_mem.mpr hL
  subst hL0
  rw [q2, hs0]
  refine lv_if_eq (off := 12) (tgt := 16) hx hb (show decode (tc_b 24) 4 = .ok (.ifCond .eq 12, 3) by decide +kernel) (by decide) (fun q => absurd q (by decide)) (fun _ => ?_)
  refine lv_aload_n (k := 0) hx hb (show decode (tc_b 24) 7 = .ok (.aload_n 0, 1) by decide +kernel) rfl (lv_at hl 0 rfl) ?_
  refine vk_getf (own := "java/lang/String") (ref := "java/lang/String") (index := 9) hx hb (hSk.1 j hj).2.2.1 va_S.rf hown (hts _ (tc_has_in (p := 8137) (by decide +kernel))) (fun _ h => h) (show decode (tc_b 24) 8 = .ok (.getfield 9, 3) by decide +kernel) ?_
  refine lv_iload_n (k := 1) hx hb (show decode (tc_b 24) 11 = .ok (.iload_n 1, 1) by decide +kernel) rfl (lv_at hl 1 rfl) ?_
  refine tc_go (va_runS (index := 495) (As := [.ref (av j), .int x]) (rest := []) ⟨hx, hb, hml, hown, hts⟩ (tc_m26 (B := B) (bs := bs) (ak := ak) (av := av) (D := D) (cy := cy) (xl := xl) hj hin) ⟨callB_of 2 hts (tc_Ws_good ⟨by decide, by decide⟩) rfl rfl rfl (hts _ (tc_has_in (p := 1015) (by decide +kernel))) (hts _ (tc_has_in (p := 3011) (by decide +kernel))) (by decide +kernel) ⟨Nat.le_of_ble_eq_true rfl, Nat.le_of_ble_eq_true rfl⟩, hts _ (tc_has_in (p := 3012) (by decide +kernel))⟩ ⟨tc_Ps_blind, fun U hU hW => ⟨rfl, tc_St_warm hW va_S.rf hU hSt⟩⟩ rfl rfl hl.1 rfl (lv_room (Nat.le_of_ble_eq_true rfl)) (show decode (tc_b 24) 12 = .ok (.invokestatic 495, 3) by decide +kernel) ⟨Nat.le_of_ble_eq_true rfl, Nat.le_of_ble_eq_true rfl⟩) (fun v2 st₀ t L hs0 hL hq => ?_)
  obtain ⟨q1, q2⟩ := hq
  cases q1
  have hL0 : L = [] := List.eq_nil_iff_forall_not_mem.mpr hL
  subst hL0
  rw [q2, hs0]
  exact W.zret (ty := .char) hx hb hr b2 (fun t ht _ => ⟨rfl, ht⟩) (fun q h => by cases h) (show decode (tc_b 24) 15 = .ok (.ireturn, 1) by decide +kernel) hlk
end TCSTR
theorem tc_ckSL : ∀ x ∈ tc_tSL, tc_has x.2.2 (.methodLink (tc_cn x.1) x.2.1 (tc_y 22)) = true := by decide +kernel
theorem tc_ckSC : ∀ x ∈ tc_tSC, tc_has x.2.2 (.methodLink (tc_cn x.1) x.2.1 (tc_y 24)) = true := by decide +kernel

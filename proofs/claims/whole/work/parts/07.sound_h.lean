/-! what reads or writes cells is sound -/
theorem tc_fit_ok {tr : Nat → Nat} {ty : FieldType} {v : AV} (h : tc_fit ty v = true) : narrow ty (tc_cv tr v) = tc_cv tr v ∧ fits ty (tc_cv tr v) = true := by
  unfold tc_fit at h
  split at h
  · exact ⟨rfl, rfl⟩
  · rename_i z
    rw [Bool.or_eq_true, beq_iff_eq, beq_iff_eq] at h
    rcases h with rfl | rfl
    · exact ⟨show narrow .boolean (.int (tc_3 0)) = .int (tc_3 0) by decide +kernel, show fits .boolean (.int (tc_3 0)) = true by decide +kernel⟩
    · exact ⟨show narrow .boolean (.int (tc_3 1)) = .int (tc_3 1) by decide +kernel, show fits .boolean (.int (tc_3 1)) = true by decide +kernel⟩
  · rename_i r
    cases r <;> exact ⟨rfl, rfl⟩
  · rename_i r
    cases r <;> exact ⟨rfl, rfl⟩
  · cases h
theorem tc_dv_ok {tr : Nat → Nat} {ty : FieldType} (h : tc_isDv ty = true) : defaultValue ty = tc_cv tr (tc_dv ty) := by
  cases ty <;> first | rfl | cases h
theorem tc_dv_oks (ty : FieldType) : tc_ok (tc_dv ty) := by
  cases ty <;> first | exact tc_r3_0 | exact trivial
theorem tc_3_nat (n : Nat) : tc_3 (n : Int) = Int32.ofNat n := by
  unfold tc_3
  exact Int32.ofInt_eq_ofNat
theorem tc_ws_ok {tr : Nat → Nat} {st : List AV} (h : tc_oks st) : ((st.map (tc_cv tr)).map fun v => v.category).sum = tc_ws st := by
  unfold tc_ws
  rw [List.map_map]
  congr 1
  exact List.map_congr_left fun v hv => tc_cv_cat (h v hv)
theorem tc_oks_d {st : List AV} {k : Nat} (h : tc_oks st) : tc_oks (st.drop k) := fun v hv => h v (List.mem_of_mem_drop hv)
section TCS
variable {p : Program} {l : Launch} {e : Env} {R : Room} {s : State} {m : MethodId} {args : Array Value} {below : List Frame} {meth : Method} {c : Code} {H : Heap} {locs : List Loc} {cells slots : Nat} {Q : State → Prop}
variable {B bs : Nat} {ak av : Nat → Nat} {D : va_G} {cy : Nat → ClassId} {xl : List Int} {K pc len h0 n0 n n' : Nat} {st st' : List AV} {h h' : List SC} {i : Instr} {act : Array Slot}
theorem tc_sized {g : JFrame} (k : H.size ≤ s.heap.size + cells → W p l e R s m args below meth c H locs cells slots Q g) : W p l e R s m args below meth c H locs cells slots Q g :=
  fun T hT X => k (by rw [← hT]; exact X.heapSize) T hT X
theorem tc_alloc {tr : Nat → Nat} {q : Nat} {x : va_E} {g : JFrame} (hP : va_P D tc_cl (tc_wO B tr cy h ++ [(q, x)]) H) (hD : va_D (fun q => B ≤ q) (tc_wO B tr cy h ++ [(q, x)])) (hl : 26 ≤ h0 ∧ h0 ≤ h.length) (hsz : s.heap.size = B + (h0 - 26)) (hc : cells = h.length - h0 + 1)
    (k : q = B + (h.length - 26) → W p l e R s m args below meth c H locs cells slots Q g) : W p l e R s m args below meth c H locs cells slots Q g := by
  refine tc_sized fun hz => k ?_
  have hq : q < H.size := (hP (tc_wO B tr cy h).length (q, x) (by rw [List.getElem?_append_right (Nat.le_refl _), Nat.sub_self]; rfl)).lt
  exact tc_new_at (n := 0) hD (by omega)
/-- a String's length -/
theorem tc_s_len (F : tc_Fr B bs ak av D cy xl p R s m args meth c K) {j idx : Nat} {rest : List AV} (hj : j < 25) {x : Nat × Nat × Nat} (he : (tc_tSL.find? fun e => e.1 == tc_o K && e.2.1 == idx) = some x) (hd : decode (tc_b K) pc = .ok (.invokevirtual idx, 3)) (hf : 2 ≤ tc_fr K ∧ 40 ≤ tc_lo K ∧ tc_ws rest ≤ 8) (hr : tc_oks rest) (hS : va_S (fun q => B ≤ q) s.heap H locs) (hact : act.size = tc_ml K) (hc : cells ≤ R.cells) (hs : slots ≤ R.slots)
    (kk : W p l e R s m args below meth c H locs cells slots Q (F0 m (pc + 3) act (.int (tc_3 (tc_chs.getD j []).length) :: rest.map (tc_cv (tc_tr B bs ak))))) : W p l e R s m args below meth c H locs cells slots Q (F0 m pc act (.ref (ak j) :: rest.map (tc_cv (tc_tr B bs ak)))) := by
  obtain ⟨hx, hb, hml, hown, hts, hin, hret, hlk, hfr, hlo, hSt⟩ := id F
  have hp := List.find?_some he
  simp only [Bool.and_eq_true, beq_iff_eq] at hp
  have hlnk := tc_ckSL x (List.mem_of_find?_eq_some he)
  rw [hp.1, hp.2] at hlnk
  refine tc_go (va_runV (C := "java/lang/String") (b := ak j) (As := []) (rest := rest.map (tc_cv (tc_tr B bs ak))) ⟨hx, hb, hml, hown, hts⟩ (tc_m22 (B := B) (bs := bs) (ak := ak) (av := av) (D := D) (cy := cy) (xl := xl) hj) ⟨callB_of 0 hts (tc_Ws_good ⟨by decide, by decide⟩) rfl rfl rfl (hts _ (tc_has_in (p := 1014) (by decide +kernel))) (hts _ (tc_has_in hlnk)) (by decide +kernel) ⟨by rw [hfr]; exact hf.1, by rw [hlo]; exact hf.2.1⟩, hts _ (tc_has_in (p := 2234) (by decide +kernel)), hts _ (tc_has_in (p := 2235) (by decide +kernel))⟩ ⟨tc_Ps_blind, vk_recv hSt.2.2.2.2.2.1 hj hS, fun U hU hW => ⟨rfl, tc_St_warm hW hS hU hSt⟩⟩ rfl rfl hact rfl (lv_room (by rw [tc_ws_ok hr]; exact hf.2.2)) hd ⟨hc, hs⟩) (fun v2 st₀ t L hs0 hL hq => ?_)
  obtain ⟨q1, q2⟩ := hq
  cases q1
  have hL0 : L = [] := List.eq_nil_iff_forall_not_mem.mpr hL
  subst hL0
  rw [q2, hs0, List.append_nil]
  rw [tc_3_nat] at kk
  exact kk
/-- a String's char -/
theorem tc_s_chr (F : tc_Fr B bs ak av D cy xl p R s m args meth c K) {j idx : Nat} {z v : Int} {rest : List AV} (hj : j < 25) {x : Nat × Nat × Nat} (he : (tc_tSC.find? fun e => e.1 == tc_o K && e.2.1 == idx) = some x) (hd : decode (tc_b K) pc = .ok (.invokevirtual idx, 3)) (hf : 4 ≤ tc_fr K ∧ 85 ≤ tc_lo K ∧ tc_ws rest ≤ 8) (hr : tc_oks rest) (hS : va_S (fun q => B ≤ q) s.heap H locs) (hact : act.size = tc_ml K) (hz : 0 ≤ z) (hv : (tc_chs.getD j [])[z.toNat]? = some v) (hzr : tc_r3 z) (hc : cells ≤ R.cells) (hs : slots ≤ R.slots)
    (kk : W p l e R s m args below meth c H locs cells slots Q (F0 m (pc + 3) act (.int (tc_3 v) :: rest.map (tc_cv (tc_tr B bs ak))))) : W p l e R s m args below meth c H locs cells slots Q (F0 m pc act (.int (tc_3 z) :: .ref (ak j) :: rest.map (tc_cv (tc_tr B bs ak)))) := by
  obtain ⟨hx, hb, hml, hown, hts, hin, hret, hlk, hfr, hlo, hSt⟩ := id F
  have hp := List.find?_some he
  simp only [Bool.and_eq_true, beq_iff_eq] at hp
  have hlnk := tc_ckSC x (List.mem_of_find?_eq_some he)
  rw [hp.1, hp.2] at hlnk
  have hlt := (List.getElem?_eq_some_iff.mp hv).1
  refine tc_go (va_runV (C := "java/lang/String") (b := ak j) (As := [.int (tc_3 z)]) (rest := rest.map (tc_cv (tc_tr B bs ak))) ⟨hx, hb, hml, hown, hts⟩ (tc_m24 (B := B) (bs := bs) (ak := ak) (av := av) (D := D) (cy := cy) (xl := xl) hj (tc_vp hz hzr hlt)) ⟨callB_of 1 hts (tc_Ws_good ⟨by decide, by decide⟩) rfl rfl rfl (hts _ (tc_has_in (p := 1014) (by decide +kernel))) (hts _ (tc_has_in hlnk)) (by decide +kernel) ⟨by rw [hfr]; exact hf.1, by rw [hlo]; exact hf.2.1⟩, hts _ (tc_has_in (p := 3004) (by decide +kernel)), hts _ (tc_has_in (p := 3005) (by decide +kernel))⟩ ⟨tc_Ps_blind, vk_recv hSt.2.2.2.2.2.1 hj hS, fun U hU hW => ⟨rfl, tc_St_warm hW hS hU hSt⟩⟩ rfl rfl hact rfl (lv_room (by rw [tc_ws_ok hr]; exact hf.2.2)) hd ⟨hc, hs⟩) (fun v2 st₀ t L hs0 hL hq => ?_)
  obtain ⟨q1, q2⟩ := hq
  cases q1
  have hL0 : L = [] := List.eq_nil_iff_forall_not_mem.mpr hL
  subst hL0
  rw [q2, hs0, List.append_nil]
  rw [tc_ix hz hzr, List.getD_eq_getElem?_getD, hv]
  exact kk
theorem tc_HR_str {a : Nat} {q : Nat × List Int} (hR : tc_HR B bs ak D cy xl h H) (hc : h[a]? = some (.inl q)) (hk : q.1 = 9) : a < 25 ∧ q.2 = tc_chs.getD a [] := by
  have h25 : a < 25 := by
    by_cases h1 : a < 25
    · exact h1
    · exfalso
      by_cases h2 : a = 25
      · subst h2
        have h3 := hR.2.1
        rw [hc] at h3
        cases h3
        cases hk
      · have h3 := hR.2.2.1 (a - 26) (.inl q) (by rw [show 26 + (a - 26) = a by omega]; exact hc)
        have := h3.1
        omega
  refine ⟨h25, ?_⟩
  have h3 := hR.1 a h25
  rw [hc] at h3
  cases h3
  rfl
theorem tc_HR_scr {a : Nat} {q : Nat × List Int} (hR : tc_HR B bs ak D cy xl h H) (hc : h[a]? = some (.inl q)) (hk : q.1 = 5) : a = 25 ∧ q.2 = xl := by
  have h25 : a = 25 := by
    by_cases h1 : a < 25
    · have h3 := hR.1 a h1
      rw [hc] at h3
      cases h3
      cases hk
    · by_cases h2 : a = 25
      · exact h2
      · exfalso
        have h3 := hR.2.2.1 (a - 26) (.inl q) (by rw [show 26 + (a - 26) = a by omega]; exact hc)
        have := h3.1
        omega
  refine ⟨h25, ?_⟩
  subst h25
  have h3 := hR.2.1
  rw [hc] at h3
  cases h3
  rfl
theorem tc_chs_ok {j : Nat} : (tc_chs.getD j []).length ≤ 100 ∧ ∀ z ∈ tc_chs.getD j [], tc_r3 z := by
  by_cases hj : j < 25
  · have h1 : ∀ j, j < 25 → (tc_chs.getD j []).length ≤ 100 ∧ ∀ z ∈ tc_chs.getD j [], -2147483648 ≤ z ∧ z < 2147483648 := by decide +kernel
    exact h1 j hj
  · rw [List.getD_eq_getElem?_getD, List.getElem?_eq_none (by have : tc_chs.length = 25 := by decide +kernel
                                                              omega)]
    exact ⟨Nat.zero_le _, fun z hz => by cases hz⟩
end TCS

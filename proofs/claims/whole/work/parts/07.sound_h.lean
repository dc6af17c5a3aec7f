/-! what reads or writes cells is sound -/
def tc_tys (cy : Nat → ClassId) : List (ClassId × FieldType) := [(cy 0, .int), (cy 1, .byte), (cy 2, .boolean), (cy 3, .long), (cy 11, .object (tc_cn 1)), (cy 15, .object (tc_cn 5)), (cy 16, .object (tc_cn 6))]
def tc_str (i : Nat) : String × Nat × String := tc_strs.getD i ("", 0, "")
def tc_len : List Nat := tc_chs.map List.length
def tc_byt : List (List Int32) := tc_chs.map fun l => l.map tc_3
/-- what stands of the tables, of the Strings and of the script, at every method's entry -/
def tc_St (B bs : Nat) (ak av : Nat → Nat) (D : va_G) (cy : Nat → ClassId) (xl : List Int) (s : State) : Prop :=
  va_K D tc_cl (tc_tys cy) s ∧ (∀ w ∈ tc_nest, va_Nw w s) ∧ (va_AO (tc_cn 1) s ∧ va_AO (tc_cn 5) s ∧ va_AO (tc_cn 6) s) ∧ va_Nw (.castable "[I" "java/lang/Cloneable") s ∧ (∀ i, i < 25 → vk_R (tc_str i).1 (tc_str i).2.1 (tc_str i).2.2 (ak i) s) ∧ vk_S 25 tc_len tc_byt ak av (fun q => B ≤ q) s s.heap ∧ va_X bs xl.length (fun j => tc_3 (xl.getD j 0)) s s.heap ∧ (bs < B ∧ xl.length ≤ 100000 ∧ ∀ z ∈ xl, tc_r3 z) ∧ va_Z "java/lang/String" "COMPACT_STRINGS" "Z" (.int 1) (fun q => B ≤ q) s s.heap ∧ va_Zq "jdk/internal/util/Preconditions" "SIOOBE_FORMATTER" "Ljava/util/function/BiFunction;" (fun q => B ≤ q) s s.heap
/-- a frame of method K -/
def tc_Fr (B bs : Nat) (ak av : Nat → Nat) (D : va_G) (cy : Nat → ClassId) (xl : List Int) (p : Program) (R : Room) (s : State) (m : MethodId) (args : Array Value) (meth : Method) (c : Code) (K : Nat) : Prop :=
  p.tables.exec = Jvm.exec ∧ c.code = tc_b K ∧ c.maxLocals = tc_ml K ∧ s.vm.findClass (tc_cn (tc_o K)) = some m.cls ∧ (∀ w ∈ tc_TB, w.before args s = true) ∧ ((tc_y K).name = "<init>" → meth.name = "<init>") ∧ meth.sig.returnType = tc_rt K ∧ meth.locks = false ∧ R.frames = tc_fr K ∧ R.locals = tc_lo K ∧ tc_St B bs ak av D cy xl s
theorem tc_fit_ok {tr : Nat → Nat} {ty : FieldType} {v : AV} (h : tc_fit ty v = true) : narrow ty (tc_cv tr v) = tc_cv tr v ∧ fits ty (tc_cv tr v) = true := by
  unfold tc_fit at h
  split at h
  · exact ⟨rfl, rfl⟩
  · rename_i z
    rw [Bool.or_eq_true, beq_iff_eq, beq_iff_eq] at h
    rcases h with rfl | rfl
    · exact ⟨show narrow .boolean (.int (tc_3 0)) = .int (tc_3 0) by decide +kernel, show fits .boolean (.int (tc_3 0)) = true by decide +kernel⟩
    · exact ⟨show narrow .boolean (.int (tc_3 1)) = .int (tc_3 1) by decide +kernel, show fits .boolean (.int (tc_3 1)) = true by decide +kernel⟩
  · rename_i r
    cases r <;> exact ⟨rfl, rfl⟩
  · rename_i r
    cases r <;> exact ⟨rfl, rfl⟩
  · cases h
theorem tc_dv_ok {tr : Nat → Nat} {ty : FieldType} (h : tc_isDv ty = true) : defaultValue ty = tc_cv tr (tc_dv ty) := by
  cases ty <;> first | rfl | cases h
theorem tc_dv_oks (ty : FieldType) : tc_ok (tc_dv ty) := by
  cases ty <;> first | exact tc_r3_0 | exact trivial
theorem tc_3_nat (n : Nat) : tc_3 (n : Int) = Int32.ofNat n := by
  unfold tc_3
  exact Int32.ofInt_eq_ofNat
theorem tc_ws_ok {tr : Nat → Nat} {st : List AV} (h : tc_oks st) : ((st.map (tc_cv tr)).map fun v => v.category).sum = tc_ws st := by
  unfold tc_ws
  rw [List.map_map]
  congr 1
  exact List.map_congr_left fun v hv => tc_cv_cat (h v hv)
theorem tc_oks_d {st : List AV} {k : Nat} (h : tc_oks st) : tc_oks (st.drop k) := fun v hv => h v (List.mem_of_mem_drop hv)
section TCS
variable {p : Program} {l : Launch} {e : Env} {R : Room} {s : State} {m : MethodId} {args : Array Value} {below : List Frame} {meth : Method} {c : Code} {H : Heap} {locs : List Loc} {cells slots : Nat} {Q : State → Prop}
variable {B bs : Nat} {ak av : Nat → Nat} {D : va_G} {cy : Nat → ClassId} {xl : List Int} {K pc len h0 n0 n n' : Nat} {st st' : List AV} {h h' : List SC} {i : Instr} {act : Array Slot}
theorem tc_sized {g : JFrame} (k : H.size ≤ s.heap.size + cells → W p l e R s m args below meth c H locs cells slots Q g) : W p l e R s m args below meth c H locs cells slots Q g :=
  fun T hT X => k (by rw [← hT]; exact X.heapSize) T hT X
theorem tc_alloc {tr : Nat → Nat} {q : Nat} {x : va_E} {g : JFrame} (hP : va_P D tc_cl (tc_wO B tr cy h ++ [(q, x)]) H) (hD : va_D (fun q => B ≤ q) (tc_wO B tr cy h ++ [(q, x)])) (hl : 26 ≤ h0 ∧ h0 ≤ h.length) (hsz : s.heap.size = B + (h0 - 26)) (hc : cells = h.length - h0 + 1)
    (k : q = B + (h.length - 26) → W p l e R s m args below meth c H locs cells slots Q g) : W p l e R s m args below meth c H locs cells slots Q g := by
  refine tc_sized fun hz => k ?_
  have hq : q < H.size := (hP (tc_wO B tr cy h).length (q, x) (by rw [List.getElem?_append_right (Nat.le_refl _), Nat.sub_self]; rfl)).lt
  exact tc_new_at (n := 0) hD (by omega)
/-- a String's length -/
theorem tc_s_len (F : tc_Fr B bs ak av D cy xl p R s m args meth c K) {j idx : Nat} {rest : List AV} (hj : j < 25) {x : Nat × Nat × Nat} (he : (tc_tSL.find? fun e => e.1 == tc_o K && e.2.1 == idx) = some x) (hd : decode (tc_b K) pc = .ok (.invokevirtual idx, 3)) (hf : 2 ≤ tc_fr K ∧ 40 ≤ tc_lo K ∧ tc_ws rest ≤ 8) (hr : tc_oks rest) (hS : va_S (fun q => B ≤ q) s.heap H locs) (hact : act.size = tc_ml K) (hc : cells ≤ R.cells) (hs : slots ≤ R.slots)
    (kk : W p l e R s m args below meth c H locs cells slots Q (F0 m (pc + 3) act (.int (tc_3 (tc_chs.getD j []).length) :: rest.map (tc_cv (tc_tr B bs ak))))) : W p l e R s m args below meth c H locs cells slots Q (F0 m pc act (.ref (ak j) :: rest.map (tc_cv (tc_tr B bs ak)))) := by
  sorry
/-- a String's char -/
theorem tc_s_chr (F : tc_Fr B bs ak av D cy xl p R s m args meth c K) {j idx : Nat} {z v : Int} {rest : List AV} (hj : j < 25) {x : Nat × Nat × Nat} (he : (tc_tSC.find? fun e => e.1 == tc_o K && e.2.1 == idx) = some x) (hd : decode (tc_b K) pc = .ok (.invokevirtual idx, 3)) (hf : 4 ≤ tc_fr K ∧ 85 ≤ tc_lo K ∧ tc_ws rest ≤ 8) (hr : tc_oks rest) (hS : va_S (fun q => B ≤ q) s.heap H locs) (hact : act.size = tc_ml K) (hz : 0 ≤ z) (hv : (tc_chs.getD j [])[z.toNat]? = some v) (hzr : tc_r3 z) (hc : cells ≤ R.cells) (hs : slots ≤ R.slots)
    (kk : W p l e R s m args below meth c H locs cells slots Q (F0 m (pc + 3) act (.int (tc_3 v) :: rest.map (tc_cv (tc_tr B bs ak))))) : W p l e R s m args below meth c H locs cells slots Q (F0 m pc act (.int (tc_3 z) :: .ref (ak j) :: rest.map (tc_cv (tc_tr B bs ak)))) := by
  sorry
theorem tc_HR_str {a : Nat} {q : Nat × List Int} (hR : tc_HR B bs ak D cy xl h H) (hc : h[a]? = some (.inl q)) (hk : q.1 = 9) : a < 25 ∧ q.2 = tc_chs.getD a [] := by
  have h25 : a < 25 := by
    by_cases h1 : a < 25
    · exact h1
    · exfalso
      by_cases h2 : a = 25
      · subst h2
        have h3 := hR.2.1
        rw [hc] at h3
        cases h3
        cases hk
      · have h3 := hR.2.2.1 (a - 26) (.inl q) (by rw [show 26 + (a - 26) = a by omega]; exact hc)
        have := h3.1
        omega
  refine ⟨h25, ?_⟩
  have h3 := hR.1 a h25
  rw [hc] at h3
  cases h3
  rfl
theorem tc_HR_scr {a : Nat} {q : Nat × List Int} (hR : tc_HR B bs ak D cy xl h H) (hc : h[a]? = some (.inl q)) (hk : q.1 = 5) : a = 25 ∧ q.2 = xl := by
  have h25 : a = 25 := by
    by_cases h1 : a < 25
    · have h3 := hR.1 a h1
      rw [hc] at h3
      cases h3
      cases hk
    · by_cases h2 : a = 25
      · exact h2
      · exfalso
        have h3 := hR.2.2.1 (a - 26) (.inl q) (by rw [show 26 + (a - 26) = a by omega]; exact hc)
        have := h3.1
        omega
  refine ⟨h25, ?_⟩
  subst h25
  have h3 := hR.2.1
  rw [hc] at h3
  cases h3
  rfl
theorem tc_chs_ok {j : Nat} : (tc_chs.getD j []).length ≤ 100 ∧ ∀ z ∈ tc_chs.getD j [], tc_r3 z := by
  by_cases hj : j < 25
  · have h1 : ∀ j, j < 25 → (tc_chs.getD j []).length ≤ 100 ∧ ∀ z ∈ tc_chs.getD j [], -2147483648 ≤ z ∧ z < 2147483648 := by decide +kernel
    exact h1 j hj
  · rw [List.getD_eq_getElem?_getD, List.getElem?_eq_none (by have : tc_chs.length = 25 := by decide +kernel
                                                              omega)]
    exact ⟨Nat.zero_le _, fun z hz => by cases hz⟩
end TCS

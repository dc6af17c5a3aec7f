/-! what stands at every frame -/
def tc_tys (cy : Nat → ClassId) : List (ClassId × FieldType) := [(cy 0, .int), (cy 1, .byte), (cy 2, .boolean), (cy 3, .long), (cy 11, .object (tc_cn 1)), (cy 15, .object (tc_cn 5)), (cy 16, .object (tc_cn 6))]
def tc_str (i : Nat) : String × Nat × String := tc_strs.getD i ("", 0, "")
def tc_len : List Nat := tc_chs.map List.length
def tc_byt : List (List Int32) := tc_chs.map fun l => l.map tc_3
/-- what stands of the tables, of the Strings and of the script, at every method's entry -/
def tc_St (B bs : Nat) (ak av : Nat → Nat) (D : va_G) (cy : Nat → ClassId) (xl : List Int) (s : State) : Prop :=
  va_K D tc_cl (tc_tys cy) s ∧ (∀ w ∈ tc_nest, va_Nw w s) ∧ (va_AO (tc_cn 1) s ∧ va_AO (tc_cn 5) s ∧ va_AO (tc_cn 6) s) ∧ va_Nw (.castable "[I" "java/lang/Cloneable") s ∧ (∀ i, i < 25 → vk_R (tc_str i).1 (tc_str i).2.1 (tc_str i).2.2 (ak i) s) ∧ vk_S 25 tc_len tc_byt ak av (fun q => B ≤ q) s s.heap ∧ va_X bs xl.length (fun j => tc_3 (xl.getD j 0)) s s.heap ∧ (bs < B ∧ xl.length ≤ 100000 ∧ ∀ z ∈ xl, tc_r3 z) ∧ va_Z "java/lang/String" "COMPACT_STRINGS" "Z" (.int 1) (fun q => B ≤ q) s s.heap ∧ va_Zq "jdk/internal/util/Preconditions" "SIOOBE_FORMATTER" "Ljava/util/function/BiFunction;" (fun q => B ≤ q) s s.heap
/-- a frame of method K -/
def tc_Fr (B bs : Nat) (ak av : Nat → Nat) (D : va_G) (cy : Nat → ClassId) (xl : List Int) (p : Program) (R : Room) (s : State) (m : MethodId) (args : Array Value) (meth : Method) (c : Code) (K : Nat) : Prop :=
  p.tables.exec = Jvm.exec ∧ c.code = tc_b K ∧ c.maxLocals = tc_ml K ∧ s.vm.findClass (tc_cn (tc_o K)) = some m.cls ∧ (∀ w ∈ tc_TB, w.before args s = true) ∧ ((tc_y K).name = "<init>" → meth.name = "<init>") ∧ meth.sig.returnType = tc_rt K ∧ meth.locks = false ∧ R.frames = tc_fr K ∧ R.locals = tc_lo K ∧ tc_St B bs ak av D cy xl s
theorem tc_St_warm {B bs : Nat} {ak av : Nat → Nat} {D : va_G} {cy : Nat → ClassId} {xl : List Int} {s U : State} {H : Heap} {locs : List Loc} (hW : s.WarmedH U.vm) (hS : va_S (fun q => B ≤ q) s.heap H locs) (hU : U.heap = H) (h : tc_St B bs ak av D cy xl s) : tc_St B bs ak av D cy xl U := by
  obtain ⟨h1, h2, h3, h4, h5, h6, h7, h8, h9, h10⟩ := h
  subst hU
  refine ⟨va_K.moved hW.alike h1, fun w hw => ?_, ⟨h3.1.moved hW.alike, h3.2.1.moved hW.alike, h3.2.2.moved hW.alike⟩, va_Nw.warmC hW h4, fun i hi => (h5 i hi).warm hW, (h6.moved hW.alike).kept hS.2.1, (h7.moved hW.alike).kept ?_, h8, (h9.moved hW.alike).kept hS.2.1, (h10.moved hW.alike).kept hS.2.1⟩
  · have h11 := h2 w hw
    have h12 := (List.mem_filter.mp hw).2
    cases w with
    | methodLinkNest a b c d => exact va_Nw.warmM hW h11
    | _ => cases h12
  · obtain ⟨scr, g1, -⟩ := h7
    exact hS.2.1 bs (Array.getElem?_eq_some_iff.mp g1).1 (by show ¬ B ≤ bs; omega)
theorem tc_St_call {B bs : Nat} {ak av : Nat → Nat} {D : va_G} {cy : Nat → ClassId} {xl : List Int} {U : State} {g : JFrame} {mk : MethodId} {a : Array Value} (h : tc_St B bs ak av D cy xl U) : tc_St B bs ak av D cy xl (U.calling g mk a) :=
  tc_St_warm (U := U.calling g mk a) (State.WarmedH.refl U) (va_S.rf (H0 := U.heap)) rfl h
def tc_Ws (K : Nat) : List Cond := Cond.code (tc_y K) (tc_b K) (tc_ml K) (tc_rt K) :: tc_TB
theorem tc_K_ok {K : Nat} (h : K < 279 ∧ K ≠ 1) : Cond.code (tc_y K) (tc_b K) (tc_ml K) (tc_rt K) ∈ tc_TB ∧ Cond.initialized (tc_y K).cls ∈ tc_TB ∧ ((tc_y K).cls ≠ "java/lang/invoke/MethodHandle" ∧ (tc_y K).cls ≠ "java/lang/invoke/VarHandle") ∧ (parseMethodDescriptor (tc_y K).desc).map (fun d => d.parameters.length) = some (tc_np K) ∧ (tc_y K).cls = tc_cn (tc_o K) := by
  have h1 := List.all_eq_true.mp tc_ckK_ok K (List.mem_range.mpr h.1)
  unfold tc_ckK at h1
  rw [Bool.or_eq_true, Bool.and_eq_true, Bool.and_eq_true, Bool.and_eq_true, Bool.and_eq_true, decide_eq_true_eq, decide_eq_true_eq, decide_eq_true_eq] at h1
  rcases h1 with h1 | ⟨h1, h2, h3, h4, h5⟩
  · exact absurd (by simpa using h1) h.2
  · refine ⟨?_, tc_has_in h2, h3, h4, h5⟩
    cases hq : tc_cw (tc_lpc.getD K 0) with
    | none => rw [hq] at h1; cases h1
    | some q =>
      rw [hq] at h1
      have h6 : q.1 = tc_y K ∧ q.2.2.1 = tc_ml K ∧ q.2.2.2 = tc_rt K := decide_eq_true_eq.mp h1
      have h7 : tc_b K = q.2.1 := by
        unfold tc_b
        rw [if_neg (by omega), hq]
      rw [← h6.1, ← h6.2.1, ← h6.2.2, h7]
      exact tc_cw_in hq
theorem tc_Ws_good {K : Nat} (h : K < 279 ∧ K ≠ 1) : GoodIn tc_TB (tc_Ws K) := fun w hw => (List.mem_cons.mp hw).elim (fun e => e ▸ tc_TB_good _ (tc_K_ok h).1) (fun e => tc_TB_good w e)
section TCR
variable {p : Program} {l : Launch} {e : Env} {R : Room} {s : State} {m : MethodId} {args : Array Value} {below : List Frame} {meth : Method} {c : Code} {H : Heap} {locs : List Loc} {cells slots : Nat} {Q : State → Prop}
variable {pc mc ms : Nat} {act : Array Slot} {st0 rest : List Value} {A : Nat → Prop} {Qa : State → Outcome → State → Prop} {free : Addr → Prop}
theorem tc_go (hr : va_Run p l e R s m args below meth c H locs cells slots mc ms (F0 m pc act st0) rest Qa free) (kk : ∀ (v : Option Value) (st₀ t : State) (L : List Loc), st₀.heap = H → (∀ q ∈ L, free q.base) → Qa st₀ (.returned v) t → W p l e R s m args below meth c t.heap (locs ++ L) (cells + mc) (slots + ms) Q (F0 m (pc + 3) act (v.toList ++ rest))) : W p l e R s m args below meth c H locs cells slots Q (F0 m pc act st0) := by
  intro T hT X
  obtain ⟨v, st₀, t, T', L, h0, X', hL, e1, e2, hq, st⟩ := hr T hT X
  obtain ⟨t2, a1, b1⟩ := kk v st₀ t L h0 hL hq T' e1 X'
  exact ⟨t2, st t2 a1, b1⟩
end TCR
section TCLW
variable {p : Program} {l : Launch} {e : Env} {R : Room} {s : State} {m : MethodId} {args : Array Value} {below : List Frame} {meth : Method} {c : Code} {H : Heap} {locs : List Loc} {cells slots : Nat} {Q : State → Prop}
theorem tc_ldcwX {T : State} (X : Stand p l e R s m args below meth c T locs cells slots) (hexec : p.tables.exec = Jvm.exec) {own text : String} {index : Nat} {a : Addr} (hown : s.vm.findClass own = some m.cls)
    (hconst : (Cond.stringRef own index text).before #[] s = true) (hev : (Term.string own index).eval #[] s none [] s = some (.ref a)) {g : JFrame} (hg : g.method = m) (hdg : decode c.code g.pc = .ok (.ldc_w index, 3)) :
    ∀ target, Steps p.tables e below (T.setTop { g with pc := g.pc + 3, stack := .ref a :: g.stack }) target → Steps p.tables e below (T.setTop g) target := by
  obtain ⟨k, cf, i, a', hk, hcf, hcp, -, hr, hev'⟩ := Cond.stringRef_spec hown hconst
  cases hev.symm.trans hev'
  obtain ⟨k', hk', he⟩ := X.warmed.alike.2.2 _ _ hk
  have hr' : k'.resolved[index]? = some (some (.string a)) := by
    rcases X.warmed.entry hk hk' index with h | ⟨h, -⟩
    · rw [h]; exact hr
    · rw [hr] at h; cases h
  intro target hrest
  subst hg
  jvm_step X.here [hexec, hdg, ldc_w.wp_string (e := e) (s := T) (f := g) X.here.top hk' (by rw [he]; exact hcf) hcp hr']
  exact hrest
theorem tc_ldcwS {cc : ByteArray} {pc : Nat} {ls : Array Slot} {rest : List Value} (hexec : p.tables.exec = Jvm.exec) (hb : c.code = cc) {own tx : String} {index q : Nat} (hown : s.vm.findClass own = some m.cls) (hZ : vk_R own index tx q s) (hdg : decode cc pc = .ok (.ldc_w index, 3))
    (k : W p l e R s m args below meth c H locs cells slots Q (F0 m (pc + 3) ls (.ref q :: rest))) : W p l e R s m args below meth c H locs cells slots Q (F0 m pc ls rest) := by
  intro T hT X
  obtain ⟨t, a1, b1⟩ := k T hT X
  exact ⟨t, tc_ldcwX X hexec hown (text := tx) (a := q) hZ.1 hZ.2 (g := F0 m pc ls rest) rfl (by rw [hb]; exact hdg) t a1, b1⟩
end TCLW

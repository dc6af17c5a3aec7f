/-! calls by contract, and the whole run -/
def tc_P (l : Launch) (B bs : Nat) (ak av : Nat → Nat) (D : va_G) (cy : Nat → ClassId) (xl : List Int) (f : Nat) : Prop :=
  ∀ (K pc : Nat) (ls st : List AV) (h : List SC) (n : Nat) (r : Option AV) (h' : List SC) (n' : Nat), tc_run f K pc ls st h n = some (r, h', n') →
    ∀ (p : Program) (e : Env) (R : Room) (s : State) (m : MethodId) (args : Array Value) (below : List Frame) (meth : Method) (c : Code) (H : Heap) (locs : List Loc) (act : Array Slot) (h0 n0 : Nat) (Q : State → Prop), tc_Fr B bs ak av D cy xl p R s m args meth c K → tc_HR B bs ak D cy xl h H → va_S (fun q => B ≤ q) s.heap H locs → s.heap.size = B + (h0 - 26) → 26 ≤ h0 ∧ h0 ≤ h.length → n0 ≤ n → tc_L (tc_tr B bs ak) ls (tc_ml K) act → tc_oks st → h'.length - h0 ≤ R.cells → n' - n0 ≤ R.slots →
      (∀ (pc' : Nat) (act' : Array Slot) (st' : List AV) (H' : Heap) (locs' : List Loc) (i : Instr), decode (tc_b K) pc' = .ok (i, 1) → tc_ret K i 1 st' = some r → tc_oks st' → tc_HR B bs ak D cy xl h' H' → va_S (fun q => B ≤ q) s.heap H' locs' → W p l e R s m args below meth c H' locs' (h'.length - h0) (n' - n0) Q (F0 m pc' act' (st'.map (tc_cv (tc_tr B bs ak))))) →
      W p l e R s m args below meth c H locs (h.length - h0) (n - n0) Q (F0 m pc act (st.map (tc_cv (tc_tr B bs ak))))
def tc_Pc (B bs : Nat) (ak av : Nat → Nat) (D : va_G) (cy : Nat → ClassId) (xl : List Int) (as : List AV) (h : List SC) : Array Value → State → Prop := fun a U =>
  a = (as.map (tc_cv (tc_tr B bs ak))).toArray ∧ tc_HR B bs ak D cy xl h U.heap ∧ U.heap.size = B + (h.length - 26) ∧ tc_St B bs ak av D cy xl U
def tc_Qc (B bs : Nat) (ak : Nat → Nat) (D : va_G) (cy : Nat → ClassId) (xl : List Int) (r : Option AV) (h : List SC) : Array Value → State → Outcome → State → Prop := fun _ st o t =>
  o = .returned (r.map (tc_cv (tc_tr B bs ak))) ∧ (∀ v, r = some v → tc_ok v) ∧ tc_HR B bs ak D cy xl h t.heap ∧ st.heap.size ≤ t.heap.size ∧ ∀ q : Nat, q < st.heap.size → ¬ B ≤ q → t.heap[q]? = st.heap[q]?
theorem tc_blind {B bs : Nat} {ak av : Nat → Nat} {D : va_G} {cy : Nat → ClassId} {xl : List Int} {as : List AV} {h : List SC} : FrameBlind (tc_Pc B bs ak av D cy xl as h) := by
  intro a U g mk q
  exact ⟨q.1, q.2.1, q.2.2.1, tc_St_call q.2.2.2⟩
set_option maxHeartbeats 1000000 in
theorem tc_met {l : Launch} {B bs : Nat} {ak av : Nat → Nat} {D : va_G} {cy : Nat → ClassId} {xl : List Int} {f K : Nat} {as : List AV} {h : List SC} {n : Nat} {r : Option AV} {h' : List SC} {n' : Nat} (ih : tc_P l B bs ak av D cy xl f) (hrun : tc_run f K 0 (tc_ent K as) [] h n = some (r, h', n')) (hK : K < 279 ∧ K ≠ 1) (hpl : plainName (tc_y K).cls = true) (hok : tc_oks as) (hl : (tc_sl as).length ≤ tc_ml K) (h26 : 26 ≤ h.length) :
    Met l (tc_y K) (tc_Ws K) { frames := tc_fr K, cells := h'.length - h.length, slots := n' - n, locals := tc_lo K } (tc_Pc B bs ak av D cy xl as h) (tc_Qc B bs ak D cy xl r h') (h'.length - h.length) (n' - n) (fun q => B ≤ q) := by
  refine Met.ofW (cc := tc_b K) (maxL := tc_ml K) (ret := tc_rt K) hpl rfl ?_
  intro p e s m args below meth c s₁ BB hml hv
  obtain ⟨rfl, hR, hsz, hSt⟩ := hv
  have hts0 := atoms_spec (ws := tc_Ws K) BB.pre
  have hr := BB.returns
  have hlk := BB.notSynchronized
  have hb := BB.bytes
  have hx := BB.exec
  have F : tc_Fr B bs ak av D cy xl p { frames := tc_fr K, cells := h'.length - h.length, slots := n' - n, locals := tc_lo K } s m (as.map (tc_cv (tc_tr B bs ak))).toArray meth c K :=
    ⟨BB.exec, BB.bytes, hml, by rw [← (tc_K_ok hK).2.2.2.2]; exact findClass_of_methodNamed BB.named, fun w hw => hts0 w (List.mem_cons_of_mem _ hw), fun q => (name_of_methodNamed BB.named BB.method).1.trans q, BB.returns, BB.notSynchronized, rfl, rfl, hSt⟩
  rw [lg_entry_eq]
  have K1 := ih K 0 (tc_ent K as) [] h n r h' n' hrun p e { frames := tc_fr K, cells := h'.length - h.length, slots := n' - n, locals := tc_lo K } s m (as.map (tc_cv (tc_tr B bs ak))).toArray below meth c s.heap [] _ h.length n (MQ below (tc_Qc B bs ak D cy xl r h') (as.map (tc_cv (tc_tr B bs ak))).toArray s (h'.length - h.length) (n' - n) (fun q => B ≤ q)) F hR va_S.rf hsz ⟨h26, Nat.le_refl _⟩ (Nat.le_refl _) (tc_ent_L hok hl) (fun v hv => by cases hv) (Nat.le_refl _) (Nat.le_refl _) ?_
  · rw [Nat.sub_self, Nat.sub_self] at K1
    exact K1
  · intro pc' act' st' H' locs' i hd hret hst' hR' hS'
    have hq : ∀ (t : State), t.heap = H' → (∀ v, r = some v → tc_ok v) → tc_Qc B bs ak D cy xl r h' (as.map (tc_cv (tc_tr B bs ak))).toArray s (.returned (r.map (tc_cv (tc_tr B bs ak)))) t := by
      intro t ht hrok
      refine ⟨rfl, hrok, by rw [ht]; exact hR', by rw [ht]; exact hS'.1, fun q h1 h2 => by rw [ht]; exact hS'.2.1 q h1 h2⟩
    unfold tc_ret at hret
    split at hret
    · rename_i z hrt
      cases hret
      rw [hrt] at hr
      exact W.iret hx hb hr (fun t ht _ => hq t ht (fun v hv => by cases hv; exact tc_oks_h hst')) hS'.2.2 hd hlk
    · rename_i z hrt
      split at hret
      · rename_i h01
        cases hret
        rw [hrt] at hr
        refine W.zret hx hb hr ?_ (fun t ht _ => hq t ht (fun v hv => by cases hv; exact tc_oks_h hst')) hS'.2.2 hd hlk
        rcases h01 with rfl | rfl
        · exact show narrow .boolean (.int (tc_3 0)) = .int (tc_3 0) by decide +kernel
        · exact show narrow .boolean (.int (tc_3 1)) = .int (tc_3 1) by decide +kernel
      · cases hret
    · rename_i z hrt
      cases hret
      rw [hrt] at hr
      exact W.lret hx hb hr (fun t ht _ => hq t ht (fun v hv => by cases hv; exact tc_oks_h hst')) hS'.2.2 hd hlk
    · rename_i z nm _ hrt
      cases hret
      rw [hrt] at hr
      refine W.aret hx hb hr (Or.inl ⟨_, rfl⟩) ?_ (fun t ht _ => hq t ht (fun v hv => by cases hv; exact tc_oks_h hst')) hS'.2.2 hd hlk
      cases z with
      | none => exact Or.inl rfl
      | some z => exact Or.inr ⟨_, rfl⟩
    · rename_i z nm _ hrt
      cases hret
      rw [hrt] at hr
      refine W.aret hx hb hr (Or.inr ⟨_, rfl⟩) ?_ (fun t ht _ => hq t ht (fun v hv => by cases hv; exact tc_oks_h hst')) hS'.2.2 hd hlk
      cases z with
      | none => exact Or.inl rfl
      | some z => exact Or.inr ⟨_, rfl⟩
    · rename_i hrt
      cases hret
      rw [hrt] at hr
      exact W.vret hx hb hr (fun t ht _ => hq t ht (fun v hv => by cases hv)) hS'.2.2 hd hlk
    · cases hret
section TCM
variable {p : Program} {l : Launch} {e : Env} {R : Room} {s : State} {m : MethodId} {args : Array Value} {below : List Frame} {meth : Method} {c : Code} {H : Heap} {locs : List Loc} {Q : State → Prop}
variable {B bs : Nat} {ak av : Nat → Nat} {D : va_G} {cy : Nat → ClassId} {xl : List Int} {f K K' pc len h0 n0 n n1 : Nat} {st as rest : List AV} {h h1 : List SC} {r1 : Option AV} {i : Instr} {act : Array Slot}
theorem tc_recv_ok (hK : va_K D tc_cl (tc_tys cy) s) (hR : tc_HR B bs ak D cy xl h H) {a ci : Nat} {fs : List AV} (hc : h[a]? = some (.inr (.inr (.inr (ci, fs))))) : ∃ cell : Cell, H[tc_tr B bs ak a]? = some cell ∧ cell.vm.isStatics = false ∧ s.vm.findClass (tc_cn ci) = some cell.cls := by
  obtain ⟨hok, hw⟩ := tc_HR_own hR hc trivial
  exact va_recv hK hR.2.2.2 (q := (tc_cn ci, tc_T ci, tc_N ci)) (tc_cls_at hok.1) hw
set_option maxHeartbeats 1000000 in
theorem tc_call_sound (ih : tc_P l B bs ak av D cy xl f) (F : tc_Fr B bs ak av D cy xl p R s m args meth c K) (hd : decode (tc_b K) pc = .ok (i, len)) (hC : tc_call K i len st h = some (K', as, rest)) (hcnd : tc_fr K' + 1 ≤ tc_fr K ∧ 8 + (tc_ml K' + 11) + tc_lo K' ≤ tc_lo K ∧ tc_ws rest ≤ 8 ∧ (tc_sl as).length ≤ tc_ml K') (hrun : tc_run f K' 0 (tc_ent K' as) [] h n = some (r1, h1, n1)) (hst : tc_oks st) (hR : tc_HR B bs ak D cy xl h H) (hS : va_S (fun q => B ≤ q) s.heap H locs) (hsz : s.heap.size = B + (h0 - 26)) (hh0 : 26 ≤ h0 ∧ h0 ≤ h.length) (hn0 : n0 ≤ n) (hact : act.size = tc_ml K) (hrc : h1.length - h0 ≤ R.cells) (hrs : n1 - n0 ≤ R.slots)
    (kk : ∀ H' locs', tc_HR B bs ak D cy xl h1 H' → va_S (fun q => B ≤ q) s.heap H' locs' → tc_oks (r1.toList ++ rest) → W p l e R s m args below meth c H' locs' (h1.length - h0) (n1 - n0) Q (F0 m (pc + 3) act ((r1.toList ++ rest).map (tc_cv (tc_tr B bs ak))))) :
    W p l e R s m args below meth c H locs (h.length - h0) (n - n0) Q (F0 m pc act (st.map (tc_cv (tc_tr B bs ak)))) := by
  obtain ⟨hx, hb, hml, hown, hts, hin, hret, hlk, hfr, hlo, hSt⟩ := id F
  obtain ⟨mo1, mo2⟩ := tc_mono _ _ _ _ _ _ _ _ _ _ hrun
  refine tc_sized fun hup => ?_
  have hsizeH : H.size = B + (h.length - 26) := by
    have h1 := hS.1
    by_cases hq : h.length = 26
    · omega
    · have hl := tc_HR_len hR
      obtain ⟨cl, hcl⟩ : ∃ cl, (tc_wO B (tc_tr B bs ak) cy h)[h.length - 27]? = some cl := ⟨_, List.getElem?_eq_getElem (by rw [tc_wO_len]; omega)⟩
      have h2 := (hR.2.2.2 _ _ hcl).lt
      rw [tc_wO_at] at hcl
      obtain ⟨c1, -, h3⟩ := Option.map_eq_some_iff.mp hcl
      rw [← h3] at h2
      simp only at h2
      omega
  have hPc : ∀ U : State, U.heap = H → s.WarmedH U.vm → tc_Pc B bs ak av D cy xl as h (as.map (tc_cv (tc_tr B bs ak))).toArray U := fun U hU hW => ⟨rfl, by rw [hU]; exact hR, by rw [hU]; exact hsizeH, tc_St_warm hW hS hU hSt⟩
  have hfin : ∀ (v : Option Value) (st₀ t : State) (L : List Loc), st₀.heap = H → (∀ q ∈ L, (fun q => B ≤ q) q.base) → tc_Qc B bs ak D cy xl r1 h1 (as.map (tc_cv (tc_tr B bs ak))).toArray st₀ (.returned v) t → tc_oks rest → W p l e R s m args below meth c t.heap (locs ++ L) (h.length - h0 + (h1.length - h.length)) (n - n0 + (n1 - n)) Q (F0 m (pc + 3) act (v.toList ++ rest.map (tc_cv (tc_tr B bs ak)))) := by
    intro v st₀ t L hs0 hL hq hrest
    obtain ⟨q1, q2, q3, q4, q5⟩ := hq
    rw [hs0] at q4 q5
    have q6 : v = r1.map (tc_cv (tc_tr B bs ak)) := by
      cases q1
      rfl
    have K1 := kk t.heap (locs ++ L) q3 ⟨Nat.le_trans hS.1 q4, fun q g1 g2 => (q5 q (Nat.lt_of_lt_of_le g1 hS.1) g2).trans (hS.2.1 q g1 g2), fun q hq => (List.mem_append.mp hq).elim (hS.2.2 q) (hL q)⟩ (fun w hw => (List.mem_append.mp hw).elim (fun h => q2 w (by cases r1 with
      | none => cases h
      | some z => rw [List.mem_singleton.mp h])) (hrest w))
    rw [show h.length - h0 + (h1.length - h.length) = h1.length - h0 by omega, show n - n0 + (n1 - n) = n1 - n0 by omega]
    refine W.eq ?_ K1
    rw [q6, List.map_append]
    cases r1 <;> rfl
  unfold tc_call at hC
  split at hC
  -- static
  · rename_i idx
    split at hC
    · rename_i K2 hK2
      split at hC
      · rename_i hnp
        cases hC
        unfold tc_fS at hK2
        obtain ⟨x, hf, hx2⟩ := Option.map_eq_some_iff.mp hK2
        obtain ⟨g1, g2, g3⟩ := tc_find_at hf
        have g4 := List.all_eq_true.mp tc_ckS_ok x g1
        unfold tc_ckS at g4
        simp only [Bool.and_eq_true, decide_eq_true_eq] at g4
        rw [hx2, g2, g3] at g4
        obtain ⟨g5, g6, g7, g8⟩ := g4
        have hoka : tc_oks (st.take (tc_np K')).reverse := fun v hv => hst v (List.mem_of_mem_take (List.mem_reverse.mp hv))
        have hokr : tc_oks (st.drop (tc_np K')) := tc_oks_d hst
        have hM := tc_met (B := B) (bs := bs) (ak := ak) (av := av) (D := D) (cy := cy) (xl := xl) ih hrun g5 g6 hoka hcnd.2.2.2 (tc_HR_len hR)
        obtain ⟨k1, k2, k3, k4, k5⟩ := tc_K_ok g5
        refine tc_go (va_runS (As := ((st.take (tc_np K')).reverse).map (tc_cv (tc_tr B bs ak))) (rest := (st.drop (tc_np K')).map (tc_cv (tc_tr B bs ak))) ⟨hx, hb, hml, hown, hts⟩ hM ⟨callB_of (tc_np K') hts (tc_Ws_good g5) rfl rfl rfl (hts _ k2) (hts _ (tc_has_in g7)) ⟨k3.1, k3.2, k4⟩ ⟨by rw [hfr]; exact hcnd.1, by rw [hlo]; exact hcnd.2.1⟩, hts _ (tc_has_in g8)⟩ ⟨tc_blind, hPc⟩ rfl (by rw [List.length_map, List.length_reverse, List.length_take]; omega) hact ?_ (lv_room (by rw [tc_ws_ok hokr]; exact hcnd.2.2.1)) hd ⟨by omega, by omega⟩) (fun v st₀ t L a1 a2 a3 => hfin v st₀ t L a1 a2 a3 hokr)
        show st.map (tc_cv (tc_tr B bs ak)) = _
        rw [← List.map_reverse, List.reverse_reverse, ← List.map_append, List.take_append_drop]
      · cases hC
    · cases hC
  -- special
  · rename_i idx
    split at hC
    · rename_i K2 hK2
      split at hC
      · rename_i a rs hdr
        cases hC
        unfold tc_fI at hK2
        obtain ⟨x, hf, hx2⟩ := Option.map_eq_some_iff.mp hK2
        obtain ⟨g1, g2, g3⟩ := tc_find_at hf
        have g4 := List.all_eq_true.mp tc_ckI_ok x g1
        obtain ⟨o, ix, KK, kd, pl, pn⟩ := x
        simp only at g2 g3 hx2
        subst g2; subst g3; subst hx2
        simp only [tc_ckI, Bool.and_eq_true, decide_eq_true_eq] at g4
        obtain ⟨⟨g5, g6⟩, g7, g8, g9, g10⟩ := g4
        have hst2 : st = st.take (tc_np KK) ++ .inr (.inr (.inl (some a))) :: rest := by rw [← hdr, List.take_append_drop]
        have hoka : tc_oks (.inr (.inr (.inl (some a))) :: (st.take (tc_np KK)).reverse) := tc_oks_c trivial (fun v hv => hst v (List.mem_of_mem_take (List.mem_reverse.mp hv)))
        have hokr : tc_oks rest := fun v hv => hst v (by rw [hst2]; exact List.mem_append_right _ (List.mem_cons_of_mem _ hv))
        have hM := tc_met (B := B) (bs := bs) (ak := ak) (av := av) (D := D) (cy := cy) (xl := xl) ih hrun g5 g6 hoka hcnd.2.2.2 (tc_HR_len hR)
        obtain ⟨k1, k2, k3, k4, k5⟩ := tc_K_ok g5
        have hnl : tc_np KK ≤ st.length := by
          have := congrArg List.length hdr
          rw [List.length_drop, List.length_cons] at this
          omega
        have hstk : st.map (tc_cv (tc_tr B bs ak)) = (((st.take (tc_np KK)).reverse).map (tc_cv (tc_tr B bs ak))).reverse ++ .ref (tc_tr B bs ak a) :: rest.map (tc_cv (tc_tr B bs ak)) := by
          rw [← List.map_reverse, List.reverse_reverse]
          conv => lhs; rw [hst2]
          rw [List.map_append]
          rfl
        have hW1 : Cond.code (tc_y KK) (tc_b KK) (tc_ml KK) none :: tc_TB = tc_Ws KK := by unfold tc_Ws; rw [g9]
        by_cases hkd : kd = 0
        · rw [if_pos hkd] at g10
          exact tc_go (va_runI (As := ((st.take (tc_np KK)).reverse).map (tc_cv (tc_tr B bs ak))) (rest := rest.map (tc_cv (tc_tr B bs ak))) ⟨hx, hb, hml, hown, hts⟩ hM ⟨callB_of (tc_np KK) hts (tc_Ws_good g5) hW1.symm rfl rfl (hts _ k2) (hts _ (tc_has_in g10)) ⟨k3.1, k3.2, k4⟩ ⟨by rw [hfr]; exact hcnd.1, by rw [hlo]; exact hcnd.2.1⟩, g8, hts _ (tc_has_in g7)⟩ ⟨tc_blind, hPc⟩ rfl (by rw [List.length_map, List.length_reverse, List.length_take]; omega) hact hstk (lv_room (by rw [tc_ws_ok hokr]; exact hcnd.2.2.1)) hd ⟨by omega, by omega⟩) (fun v st₀ t L a1 a2 a3 => hfin v st₀ t L a1 a2 a3 hokr)
        · rw [if_neg hkd] at g10
          exact tc_go (va_runIN (host := "TideCastle") (As := ((st.take (tc_np KK)).reverse).map (tc_cv (tc_tr B bs ak))) (rest := rest.map (tc_cv (tc_tr B bs ak))) ⟨hx, hb, hml, hown, hts⟩ hM ⟨va_cnB (tc_np KK) hts (tc_Ws_good g5) hW1.symm rfl rfl (hSt.2.1 _ (List.mem_filter.mpr ⟨tc_is_in g10, rfl⟩)) (hts _ k2) ⟨k3.1, k3.2, k4⟩ ⟨by rw [hfr]; exact hcnd.1, by rw [hlo]; exact hcnd.2.1⟩, g8, hts _ (tc_has_in g7)⟩ ⟨tc_blind, hPc⟩ rfl (by rw [List.length_map, List.length_reverse, List.length_take]; omega) hact hstk (lv_room (by rw [tc_ws_ok hokr]; exact hcnd.2.2.1)) hd ⟨by omega, by omega⟩) (fun v st₀ t L a1 a2 a3 => hfin v st₀ t L a1 a2 a3 hokr)
      · cases hC
    · cases hC
  -- virtual
  · rename_i idx
    split at hC
    · rename_i mm hmm
      split at hC
      · rename_i a rs hdr
        split at hC
        · rename_i ci fs hc
          split at hC
          · rename_i K2 hK2
            split at hC
            · rename_i hnp
              cases hC
              unfold tc_fV at hK2
              obtain ⟨x, hf, hx2⟩ := Option.map_eq_some_iff.mp hK2
              have hp := List.find?_some hf
              simp only [Bool.and_eq_true, beq_iff_eq] at hp
              obtain ⟨g1, g2, g3⟩ := hp
              have g4 := List.all_eq_true.mp tc_ckV_ok x (List.mem_of_find?_eq_some hf)
              obtain ⟨o, ix, cj, KK, kd, xo, pl, ps, pn, pm⟩ := x
              simp only at g1 g2 g3 hx2
              subst g1; subst g2; subst g3; subst hx2
              simp only [tc_ckV, Bool.and_eq_true, decide_eq_true_eq] at g4
              obtain ⟨⟨g5, g6⟩, g7, g8⟩ := g4
              subst hnp
              have hst2 : st = st.take (tc_np KK) ++ .inr (.inr (.inl (some a))) :: rest := by rw [← hdr, List.take_append_drop]
              have hoka : tc_oks (.inr (.inr (.inl (some a))) :: (st.take (tc_np KK)).reverse) := tc_oks_c trivial (fun v hv => hst v (List.mem_of_mem_take (List.mem_reverse.mp hv)))
              have hokr : tc_oks rest := fun v hv => hst v (by rw [hst2]; exact List.mem_append_right _ (List.mem_cons_of_mem _ hv))
              have hM := tc_met (B := B) (bs := bs) (ak := ak) (av := av) (D := D) (cy := cy) (xl := xl) ih hrun g5 g6 hoka hcnd.2.2.2 (tc_HR_len hR)
              obtain ⟨k1, k2, k3, k4, k5⟩ := tc_K_ok g5
              have hnl : tc_np KK ≤ st.length := by
                have := congrArg List.length hdr
                rw [List.length_drop, List.length_cons] at this
                omega
              have hstk : st.map (tc_cv (tc_tr B bs ak)) = (((st.take (tc_np KK)).reverse).map (tc_cv (tc_tr B bs ak))).reverse ++ .ref (tc_tr B bs ak a) :: rest.map (tc_cv (tc_tr B bs ak)) := by
                rw [← List.map_reverse, List.reverse_reverse]
                conv => lhs; rw [hst2]
                rw [List.map_append]
                rfl
              by_cases hkd : kd = 0
              · rw [if_pos hkd] at g8
                unfold tc_ckV0 at g8
                simp only [Bool.and_eq_true, decide_eq_true_eq] at g8
                obtain ⟨c1, c2, c3, c4, c5⟩ := g8
                exact tc_go (va_runV (C := tc_cn cj) (As := ((st.take (tc_np KK)).reverse).map (tc_cv (tc_tr B bs ak))) (rest := rest.map (tc_cv (tc_tr B bs ak))) ⟨hx, hb, hml, hown, hts⟩ hM ⟨callB_of (tc_np KK) hts (tc_Ws_good g5) rfl rfl rfl (hts _ k2) (hts _ (tc_has_in c1)) ⟨k3.1, k3.2, k4⟩ ⟨by rw [hfr]; exact hcnd.1, by rw [hlo]; exact hcnd.2.1⟩, hts _ (tc_has_in c3), hts _ (tc_has_in c2)⟩ ⟨tc_blind, tc_recv_ok hSt.1 hR hc, hPc⟩ rfl (by rw [List.length_map, List.length_reverse, List.length_take]; omega) hact hstk (lv_room (by rw [tc_ws_ok hokr]; exact hcnd.2.2.1)) hd ⟨by omega, by omega⟩) (fun v st₀ t L a1 a2 a3 => hfin v st₀ t L a1 a2 a3 hokr)
              · rw [if_neg hkd] at g8
                unfold tc_ckV1 at g8
                simp only [Bool.and_eq_true] at g8
                obtain ⟨c1, c2, c3, c4⟩ := g8
                have hG : GoodIn tc_TB (va_wsU (tc_cn (tc_o K)) ix (tc_cn cj) (tc_y KK).cls ⟨tc_cn xo, (tc_y KK).name, (tc_y KK).desc⟩ (tc_y KK) (tc_Ws KK)) := by
                  intro w hw
                  unfold va_wsU at hw
                  rcases List.mem_append.mp hw with hw | hw
                  · simp only [List.mem_cons, List.not_mem_nil, or_false] at hw
                    rcases hw with rfl | rfl | rfl | rfl | rfl
                    · exact tc_TB_good _ (tc_has_in c1)
                    · exact tc_TB_good _ (tc_has_in c4)
                    · exact tc_TB_good _ (tc_has_in c2)
                    · exact tc_TB_good _ (tc_has_in c3)
                    · exact tc_TB_good _ k2
                  · exact tc_Ws_good g5 w hw
                exact tc_go (va_runU (C := tc_cn cj) (owner := (tc_y KK).cls) (x := ⟨tc_cn xo, (tc_y KK).name, (tc_y KK).desc⟩) (As := ((st.take (tc_np KK)).reverse).map (tc_cv (tc_tr B bs ak))) (rest := rest.map (tc_cv (tc_tr B bs ak))) ⟨hx, hb, hml, hown, hts⟩ hM (va_cwU (tc_np KK) hts hG rfl rfl rfl rfl ⟨k3.1, k3.2, k4⟩ ⟨by rw [hfr]; exact hcnd.1, by rw [hlo]; exact hcnd.2.1⟩) ⟨tc_blind, tc_recv_ok hSt.1 hR hc, hPc⟩ rfl (by rw [List.length_map, List.length_reverse, List.length_take]; omega) hact hstk (lv_room (by rw [tc_ws_ok hokr]; exact hcnd.2.2.1)) hd ⟨by omega, by omega⟩) (fun v st₀ t L a1 a2 a3 => hfin v st₀ t L a1 a2 a3 hokr)
            · cases hC
          · cases hC
        · cases hC
      · cases hC
    · cases hC
  · cases hC
end TCM
/-- THE SMALL MACHINE IS SOUND -/
theorem tc_sound (l : Launch) (B bs : Nat) (ak av : Nat → Nat) (D : va_G) (cy : Nat → ClassId) (xl : List Int) : ∀ f, tc_P l B bs ak av D cy xl f := by
  intro f
  induction f with
  | zero => intro K pc ls st h n r h' n' hr; cases hr
  | succ f ih =>
    intro K pc ls st h n r h' n' hr p e R s m args below meth c H locs act h0 n0 Q F hR hS hsz hh0 hn0 hL hst hrc hrs fin
    unfold tc_run at hr
    split at hr
    · cases hr
    · rename_i i len hd
      split at hr
      · rename_i r0 hret
        cases hr
        have hlen := tc_ret_len hret
        subst hlen
        exact fin pc act st H locs i hd hret hst hR hS
      · split at hr
        · rename_i K' as rest hC
          split at hr
          · rename_i hcnd
            split at hr
            · rename_i r1 h1 n1 hr1
              obtain ⟨m1, m2⟩ := tc_mono _ _ _ _ _ _ _ _ _ _ hr
              obtain ⟨m3, m4⟩ := tc_mono _ _ _ _ _ _ _ _ _ _ hr1
              exact tc_call_sound ih F hd hC hcnd hr1 hst hR hS hsz hh0 hn0 hL.2.1.1 (by omega) (by omega) (fun H' locs' hR' hS' hst' => ih K (pc + 3) ls _ h1 n1 r h' n' hr p e R s m args below meth c H' locs' act h0 n0 Q F hR' hS' hsz ⟨hh0.1, by omega⟩ (by omega) hL hst' hrc hrs fin)
            · cases hr
          · cases hr
        · split at hr
          · rename_i pc' ls' st' hA
            exact tc_A_sound F.1 F.2.1 hd hA hL hst (fun act' hL' hst' => ih K pc' ls' st' h n r h' n' hr p e R s m args below meth c H locs act' h0 n0 Q F hR hS hsz hh0 hn0 hL' hst' hrc hrs fin)
          · split at hr
            · rename_i st' h1 n1 hH
              obtain ⟨m1, m2⟩ := tc_mono _ _ _ _ _ _ _ _ _ _ hr
              obtain ⟨m3, m4⟩ := tc_H_mono hH
              exact tc_H_sound F hd hH hst hR hS hsz hh0 hn0 hL.2.1.1 (by omega) (by omega) (fun H' locs' hR' hS' hst' => ih K (pc + len) ls st' h1 n1 r h' n' hr p e R s m args below meth c H' locs' act h0 n0 Q F hR' hS' hsz ⟨hh0.1, by omega⟩ (by omega) hL hst' hrc hrs fin)
            · cases hr

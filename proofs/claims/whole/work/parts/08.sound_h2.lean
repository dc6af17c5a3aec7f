section TCS2
variable {p : Program} {l : Launch} {e : Env} {R : Room} {s : State} {m : MethodId} {args : Array Value} {below : List Frame} {meth : Method} {c : Code} {H : Heap} {locs : List Loc} {cells slots : Nat} {Q : State → Prop}
variable {B bs : Nat} {ak av : Nat → Nat} {D : va_G} {cy : Nat → ClassId} {xl : List Int} {K pc len h0 n0 n n' : Nat} {st st' : List AV} {h h' : List SC} {i : Instr} {act : Array Slot}
theorem tc_find_at {α : Type} {t : List (Nat × Nat × α)} {o idx : Nat} {x : Nat × Nat × α} (h : (t.find? fun e => e.1 == o && e.2.1 == idx) = some x) : x ∈ t ∧ x.1 = o ∧ x.2.1 = idx := by
  have hp := List.find?_some h
  simp only [Bool.and_eq_true, beq_iff_eq] at hp
  exact ⟨List.mem_of_find?_eq_some h, hp.1, hp.2⟩
theorem tc_rep_getD {α : Type} (n j : Nat) (x : α) : (List.replicate n x).getD j x = x := by
  rw [List.getD_eq_getElem?_getD, List.getElem?_replicate]
  split <;> rfl
theorem tc_len_ok {k : Nat} (h : k ≤ 100000) : tc_ok (.inl (k : Int)) := ⟨by omega, by omega⟩
set_option maxHeartbeats 4000000 in
theorem tc_H_sound (F : tc_Fr B bs ak av D cy xl p R s m args meth c K) (hd : decode (tc_b K) pc = .ok (i, len)) (hH : tc_H K i len st h n = some (st', h', n')) (hst : tc_oks st) (hR : tc_HR B bs ak D cy xl h H) (hS : va_S (fun q => B ≤ q) s.heap H locs) (hsz : s.heap.size = B + (h0 - 26)) (hh0 : 26 ≤ h0 ∧ h0 ≤ h.length) (hn0 : n0 ≤ n) (hact : act.size = tc_ml K) (hrc : h'.length - h0 ≤ R.cells) (hrs : n' - n0 ≤ R.slots)
    (kk : ∀ H' locs', tc_HR B bs ak D cy xl h' H' → va_S (fun q => B ≤ q) s.heap H' locs' → tc_oks st' → W p l e R s m args below meth c H' locs' (h'.length - h0) (n' - n0) Q (F0 m (pc + len) act (st'.map (tc_cv (tc_tr B bs ak))))) :
    W p l e R s m args below meth c H locs (h.length - h0) (n - n0) Q (F0 m pc act (st.map (tc_cv (tc_tr B bs ak)))) := by
  obtain ⟨hx, hb, hml, hown, hts, hin, hret, hlk, hfr, hlo, hK, hNe, hAO, hCa, hStr, hSk, hX, hXl, hZ1, hZ2⟩ := id F
  have hA : ∀ q, s.heap.size ≤ q → (fun q => B ≤ q) q := fun q hq => by
    show B ≤ q
    omega
  have hD := tc_wO_D B (tc_tr B bs ak) cy h
  have hP := hR.2.2.2
  have hmlA : c.maxLocals = act.size := hml.trans hact.symm
  unfold tc_H at hH
  split at hH
  -- ldc
  · rename_i idx st
    split at hH
    · rename_i x hf
      cases hH
      obtain ⟨g1, g2, g3⟩ := tc_find_at hf
      have g4 := List.all_eq_true.mp tc_ckCI_ok x g1
      obtain ⟨o, ix, v, q⟩ := x
      simp only at g2 g3
      subst g2; subst g3
      simp only [tc_ckCI, Bool.and_eq_true, decide_eq_true_eq] at g4
      exact lv_ldc hx hb hown (hts _ (tc_has_in g4.1)) hd (kk H locs hR hS (tc_oks_c g4.2 hst))
    · split at hH
      · rename_i x hf
        cases hH
        obtain ⟨g1, g2, g3⟩ := tc_find_at hf
        have g4 : ∀ x ∈ tc_tCS, x.2.2 < 25 ∧ (tc_str x.2.2).1 = tc_cn x.1 ∧ (tc_str x.2.2).2.1 = x.2.1 := by decide +kernel
        obtain ⟨g5, g6, g7⟩ := g4 x g1
        have g8 := hStr _ g5
        rw [g6, g7, g2, g3] at g8
        refine va_ldcS hx hb hown g8 hd (W.eq ?_ (kk H locs hR hS (tc_oks_c trivial hst)))
        simp only [List.map_cons, tc_cv, tc_tr, if_pos g5]
      · cases hH
  -- ldc_w
  · rename_i idx st
    split at hH
    · rename_i x hf
      cases hH
      obtain ⟨g1, g2, g3⟩ := tc_find_at hf
      have g4 := List.all_eq_true.mp tc_ckCI_ok x g1
      obtain ⟨o, ix, v, q⟩ := x
      simp only at g2 g3
      subst g2; subst g3
      simp only [tc_ckCI, Bool.and_eq_true, decide_eq_true_eq] at g4
      exact lv_ldcw hx hb hown (hts _ (tc_has_in g4.1)) hd (kk H locs hR hS (tc_oks_c g4.2 hst))
    · split at hH
      · rename_i x hf
        cases hH
        obtain ⟨g1, g2, g3⟩ := tc_find_at hf
        have g4 : ∀ x ∈ tc_tCS, x.2.2 < 25 ∧ (tc_str x.2.2).1 = tc_cn x.1 ∧ (tc_str x.2.2).2.1 = x.2.1 := by decide +kernel
        obtain ⟨g5, g6, g7⟩ := g4 x g1
        have g8 := hStr _ g5
        rw [g6, g7, g2, g3] at g8
        refine tc_ldcwS hx hb hown g8 hd (W.eq ?_ (kk H locs hR hS (tc_oks_c trivial hst)))
        simp only [List.map_cons, tc_cv, tc_tr, if_pos g5]
      · cases hH
  -- ldc2_w
  · rename_i idx st
    split at hH
    · rename_i x hf
      cases hH
      obtain ⟨g1, g2, g3⟩ := tc_find_at hf
      have g4 := List.all_eq_true.mp tc_ckCL_ok x g1
      obtain ⟨o, ix, v, q⟩ := x
      simp only at g2 g3
      subst g2; subst g3
      simp only [tc_ckCL, Bool.and_eq_true, decide_eq_true_eq] at g4
      exact lv_ldc2 hx hb hown (hts _ (tc_has_in g4.1)) hd (kk H locs hR hS (tc_oks_c g4.2 hst))
    · cases hH
  -- getfield
  · rename_i idx a st
    split at hH
    · rename_i ci fs hc
      split at hH
      · rename_i k hk
        split at hH
        · rename_i v hv
          cases hH
          obtain ⟨hok, hw⟩ := tc_HR_own hR hc trivial
          obtain ⟨ref, g1, g2, g3, g4⟩ := tc_fld_ok hk
          exact va_get (ref := tc_cn ref) (C := tc_cn ci) (T := tc_T ci) (N := tc_N ci) (ci := ci) (v := tc_cv (tc_tr B bs ak) v) hx hb hts (tc_cls_in g1) hown hK hP (a - 26) hw (tc_cls_at g1) k g2 (hts _ g3) (g4.elim (fun q x hx => by rw [← q]; exact hx) (fun q => u_same (hts _ q))) (by rw [List.getElem?_map, hv]; rfl) hd (kk H locs hR hS (tc_oks_c (hok.2.2 v (List.mem_of_getElem? hv)) (tc_oks_t hst)))
        · cases hH
      · cases hH
    · cases hH
  -- putfield
  · rename_i idx v a st
    split at hH
    · rename_i ci fs hc
      split at hH
      · rename_i k hk
        split at hH
        · rename_i hcnd
          cases hH
          obtain ⟨hok, hw⟩ := tc_HR_own hR hc trivial
          obtain ⟨ref, g1, g2, g3, g4⟩ := tc_fld_ok hk
          obtain ⟨q1, q2, q3⟩ := hcnd
          obtain ⟨f1, f2⟩ := tc_fit_ok (tr := tc_tr B bs ak) q2
          have hsame : ∀ x, s.fieldFound? (tc_T ci k).1 (tc_T ci k).2.1 (tc_T ci k).2.2.1 = some x → s.fieldFound? (tc_cn ref) (tc_T ci k).2.1 (tc_T ci k).2.2.1 = some x := g4.elim (fun q x hx => by rw [← q]; exact hx) (fun q => u_same (hts _ q))
          have fin : ∀ (H1 : Heap) (locs1 : List Loc), va_P D tc_cl ((tc_wO B (tc_tr B bs ak) cy h).set (a - 26) (tc_tr B bs ak a, .inr (ci, (fs.map (tc_cv (tc_tr B bs ak))).set k (tc_cv (tc_tr B bs ak) v)))) H1 → va_S (fun q => B ≤ q) s.heap H1 locs1 → W p l e R s m args below meth c H1 locs1 (h.length - h0) (n - n0) Q (F0 m (pc + 3) act (st'.map (tc_cv (tc_tr B bs ak)))) := by
            intro H1 locs1 hP1 hS1
            have K1 := kk H1 locs1 (tc_HR_set hR hc trivial (c1 := .inr (.inr (.inr (ci, fs.set k v)))) ⟨hok.1, by rw [List.length_set]; exact hok.2.1, tc_set_ok hok.2.2 (tc_oks_h hst)⟩ (by
              show va_P D tc_cl (List.set _ _ (_, .inr (ci, (fs.set k v).map (tc_cv (tc_tr B bs ak))))) H1
              rw [List.map_set]
              exact hP1)) hS1 (tc_oks_t (tc_oks_t hst))
            rw [List.length_set] at K1
            exact K1
          unfold tc_may at q3
          rw [Bool.or_eq_true, Bool.not_eq_true', Bool.and_eq_true, decide_eq_true_eq, decide_eq_true_eq] at q3
          by_cases hfin : (tc_T ci k).2.2.2 = false
          · exact va_put (ref := tc_cn ref) (C := tc_cn ci) (T := tc_T ci) (N := tc_N ci) (ci := ci) (v := tc_cv (tc_tr B bs ak) v) hx hb hts (tc_cls_in g1) (tc_ty ci) (tc_cls_ty g1) (tc_cls_nm g1) hown hK hP hD hS (a - 26) hw (tc_cls_at g1) k g2 (hts _ g3) hsame hfin (tc_cls_ty g1 k g2) f1 f2 (by rw [List.length_map]; exact q1) hd (fun H1 locs1 hP1 _ hS1 => fin H1 locs1 hP1 hS1)
          · obtain ⟨r1, r2⟩ := q3.resolve_left hfin
            exact va_putF (ref := tc_cn ref) (C := tc_cn ci) (T := tc_T ci) (N := tc_N ci) (ci := ci) (v := tc_cv (tc_tr B bs ak) v) hx hb hts (tc_cls_in g1) (tc_ty ci) (tc_cls_ty g1) (tc_cls_nm g1) hown hK hP hD hS (a - 26) hw (tc_cls_at g1) k g2 (hts _ g3) hsame (by simpa using hfin) (hin r1) r2 (tc_cls_ty g1 k g2) f1 f2 (by rw [List.length_map]; exact q1) hd (fun H1 locs1 hP1 _ hS1 => fin H1 locs1 hP1 hS1)
        · cases hH
      · cases hH
    · cases hH
  -- arraylength
  · rename_i a st
    split at hH
    · rename_i k lx hc
      split at hH
      · rename_i hk
        cases hH
        by_cases h5 : k = 5
        · obtain ⟨g1, g2⟩ := tc_HR_scr hR hc h5
          simp only at g2
          subst g1; subst g2
          refine va_slen (b := bs) hx hb hX (by rw [hsz]; omega) (by show ¬ B ≤ bs; omega) hS hd (W.eq ?_ (kk H locs hR hS (tc_oks_c (tc_len_ok hXl.2.1) (tc_oks_t hst))))
          simp only [List.map_cons, tc_cv, tc_3_nat]
        · obtain ⟨hok, hw⟩ := tc_HR_own hR hc (show tc_own (.inl (k, lx)) from ⟨h5, by show k ≠ 9; omega⟩)
          have hk3 : k = 0 ∨ k = 1 ∨ k = 2 := by omega
          rcases hk3 with rfl | rfl | rfl
          · exact va_alen hx hb hK hP (a - 26) 0 hw rfl (tc_3_nat _).symm hd (kk H locs hR hS (tc_oks_c (tc_len_ok hok.2.1) (tc_oks_t hst)))
          · exact va_alen hx hb hK hP (a - 26) 1 hw rfl (tc_3_nat _).symm hd (kk H locs hR hS (tc_oks_c (tc_len_ok hok.2.1) (tc_oks_t hst)))
          · exact va_alen hx hb hK hP (a - 26) 2 hw rfl (tc_3_nat _).symm hd (kk H locs hR hS (tc_oks_c (tc_len_ok hok.2.1) (tc_oks_t hst)))
      · cases hH
    · rename_i lx hc
      cases hH
      obtain ⟨hok, hw⟩ := tc_HR_own hR hc trivial
      exact va_alen hx hb hK hP (a - 26) 3 hw rfl (tc_3_nat _).symm hd (kk H locs hR hS (tc_oks_c (tc_len_ok hok.1) (tc_oks_t hst)))
    · rename_i k lx hc
      cases hH
      obtain ⟨hok, hw⟩ := tc_HR_own hR hc trivial
      rcases hok.1 with hk | hk | hk
      · simp only at hk
        subst hk
        exact va_alen hx hb hK hP (a - 26) 4 hw rfl (tc_3_nat _).symm hd (kk H locs hR hS (tc_oks_c (tc_len_ok hok.2) (tc_oks_t hst)))
      · simp only at hk
        subst hk
        exact va_alen hx hb hK hP (a - 26) 5 hw rfl (tc_3_nat _).symm hd (kk H locs hR hS (tc_oks_c (tc_len_ok hok.2) (tc_oks_t hst)))
      · simp only at hk
        subst hk
        exact va_alen hx hb hK hP (a - 26) 6 hw rfl (tc_3_nat _).symm hd (kk H locs hR hS (tc_oks_c (tc_len_ok hok.2) (tc_oks_t hst)))
    · cases hH
  -- iaload
  · rename_i z a st
    split at hH
    · rename_i k lx hc
      split at hH
      · rename_i hk
        split at hH
        · rename_i v hv
          cases hH
          have hzr : tc_r3 z := tc_oks_h hst
          have hlt := (List.getElem?_eq_some_iff.mp hv).1
          have ev : tc_3 (lx.getD (tc_3 z).toNatClampNeg 0) = tc_3 v := by rw [tc_ix hk.2 hzr, List.getD_eq_getElem?_getD, hv]; rfl
          rcases hk.1 with rfl | h5
          · obtain ⟨hok, hw⟩ := tc_HR_own hR hc (show tc_own (.inl (0, lx)) from ⟨by show 0 ≠ 5; omega, by show 0 ≠ 9; omega⟩)
            refine va_iald hx hb hK hP (a - 26) 0 hw rfl (tc_vp hk.2 hzr hlt) hd (W.eq ?_ (kk H locs hR hS (tc_oks_c (hok.2.2 v (List.mem_of_getElem? hv)) (tc_oks_t (tc_oks_t hst)))))
            simp only [List.map_cons, tc_cv, ev]
          · obtain ⟨g1, g2⟩ := tc_HR_scr hR hc h5
            simp only at g2
            subst g1; subst g2
            refine va_sld (b := bs) hx hb hX (by rw [hsz]; omega) (by show ¬ B ≤ bs; omega) hS (tc_vp hk.2 hzr hlt) hd (W.eq ?_ (kk H locs hR hS (tc_oks_c (hXl.2.2 v (List.mem_of_getElem? hv)) (tc_oks_t (tc_oks_t hst)))))
            simp only [List.map_cons, tc_cv, ev]
        · cases hH
      · cases hH
    · cases hH
  -- baload
  · rename_i z a st
    split at hH
    · rename_i k lx hc
      split at hH
      · rename_i hk
        split at hH
        · rename_i v hv
          cases hH
          have hzr : tc_r3 z := tc_oks_h hst
          have hlt := (List.getElem?_eq_some_iff.mp hv).1
          have ev : tc_3 (lx.getD (tc_3 z).toNatClampNeg 0) = tc_3 v := by rw [tc_ix hk.2 hzr, List.getD_eq_getElem?_getD, hv]; rfl
          obtain ⟨hok, hw⟩ := tc_HR_own hR hc (show tc_own (.inl (k, lx)) from ⟨by show k ≠ 5; omega, by show k ≠ 9; omega⟩)
          rcases hk.1 with rfl | rfl
          · refine va_bald hx hb hK hP (a - 26) 1 hw rfl (tc_vp hk.2 hzr hlt) hd (W.eq ?_ (kk H locs hR hS (tc_oks_c (hok.2.2 v (List.mem_of_getElem? hv)) (tc_oks_t (tc_oks_t hst)))))
            simp only [List.map_cons, tc_cv, ev]
          · refine va_zald hx hb hK hP (a - 26) 2 hw rfl (tc_vp hk.2 hzr hlt) hd (W.eq ?_ (kk H locs hR hS (tc_oks_c (hok.2.2 v (List.mem_of_getElem? hv)) (tc_oks_t (tc_oks_t hst)))))
            simp only [List.map_cons, tc_cv, ev]
        · cases hH
      · cases hH
    · cases hH
  -- laload
  · rename_i z a st
    split at hH
    · rename_i lx hc
      split at hH
      · rename_i hk
        split at hH
        · rename_i v hv
          cases hH
          have hzr : tc_r3 z := tc_oks_h hst
          have hlt := (List.getElem?_eq_some_iff.mp hv).1
          have ev : tc_6 (lx.getD (tc_3 z).toNatClampNeg 0) = tc_6 v := by rw [tc_ix hk hzr, List.getD_eq_getElem?_getD, hv]; rfl
          obtain ⟨hok, hw⟩ := tc_HR_own hR hc trivial
          refine va_lald hx hb hK hP (a - 26) 3 hw rfl (tc_vp hk hzr hlt) hd (W.eq ?_ (kk H locs hR hS (tc_oks_c (hok.2 v (List.mem_of_getElem? hv)) (tc_oks_t (tc_oks_t hst)))))
          simp only [List.map_cons, tc_cv, ev]
        · cases hH
      · cases hH
    · cases hH
  -- aaload
  · rename_i z a st
    split at hH
    · rename_i k lx hc
      split at hH
      · rename_i hk
        split at hH
        · rename_i v hv
          cases hH
          have hzr : tc_r3 z := tc_oks_h hst
          have hlt := (List.getElem?_eq_some_iff.mp hv).1
          have ev : va_rf ((lx.getD (tc_3 z).toNatClampNeg none).map (tc_tr B bs ak)) = tc_cv (tc_tr B bs ak) (.inr (.inr (.inl v))) := by
            rw [tc_ix hk hzr, List.getD_eq_getElem?_getD, hv]
            cases v <;> rfl
          obtain ⟨hok, hw⟩ := tc_HR_own hR hc trivial
          have hq : ∃ (t0 : Nat) (C : String), (tc_tys cy)[t0]? = some (cy (10 + k), FieldType.object C) := by
            rcases hok.1 with hk | hk | hk <;> simp only at hk <;> subst hk
            · exact ⟨4, _, rfl⟩
            · exact ⟨5, _, rfl⟩
            · exact ⟨6, _, rfl⟩
          obtain ⟨t0, C, ht0⟩ := hq
          refine va_aldq hx hb hK hP (a - 26) t0 hw ht0 (tc_vp hk hzr hlt) hd (W.eq ?_ (kk H locs hR hS (tc_oks_c trivial (tc_oks_t (tc_oks_t hst)))))
          simp only [List.map_cons, ev]
        · cases hH
      · cases hH
    · cases hH
  -- iastore
  · rename_i x z a st
    split at hH
    · rename_i k lx hc
      split at hH
      · rename_i hk
        obtain ⟨hk0, hz, hlt⟩ := hk
        subst hk0
        cases hH
        have hzr : tc_r3 z := tc_oks_h (tc_oks_t hst)
        obtain ⟨hok, hw⟩ := tc_HR_own hR hc (show tc_own (.inl (0, lx)) from ⟨by show 0 ≠ 5; omega, by show 0 ≠ 9; omega⟩)
        refine va_iast hx hb hK hP hD hS (a - 26) 0 hw rfl (tc_vp hz hzr hlt) hd (fun H1 locs1 hP1 _ hS1 => ?_)
        have K1 := kk H1 locs1 (tc_HR_set hR hc ⟨by show 0 ≠ 5; omega, by show 0 ≠ 9; omega⟩ (c1 := .inl (0, lx.set z.toNat x)) ⟨hok.1, by rw [List.length_set]; exact hok.2.1, tc_set_ok hok.2.2 (tc_oks_h hst)⟩ (by
          show va_P D tc_cl (List.set _ _ (_, .inl (cy 0, (lx.set z.toNat x).length, .inl (fun j => tc_3 ((lx.set z.toNat x).getD j 0))))) H1
          rw [List.length_set, ← tc_upd3 hlt, ← tc_ix hz hzr]
          exact hP1)) hS1 (tc_oks_t (tc_oks_t (tc_oks_t hst)))
        rw [List.length_set] at K1
        exact K1
      · cases hH
    · cases hH
  -- bastore
  · rename_i x z a st
    split at hH
    · rename_i k lx hc
      have hzr : tc_r3 z := tc_oks_h (tc_oks_t hst)
      split at hH
      · rename_i hk
        obtain ⟨hk0, hz, hlt⟩ := hk
        subst hk0
        cases hH
        obtain ⟨hok, hw⟩ := tc_HR_own hR hc (show tc_own (.inl (1, lx)) from ⟨by show 1 ≠ 5; omega, by show 1 ≠ 9; omega⟩)
        refine va_bast hx hb hK hP hD hS (a - 26) 1 hw rfl (tc_vp hz hzr hlt) hd (fun H1 locs1 hP1 _ hS1 => ?_)
        have K1 := kk H1 locs1 (tc_HR_set hR hc ⟨by show 1 ≠ 5; omega, by show 1 ≠ 9; omega⟩ (c1 := .inl (1, lx.set z.toNat (i3_b x))) ⟨hok.1, by rw [List.length_set]; exact hok.2.1, tc_set_ok hok.2.2 (tc_r3_of _)⟩ (by
          show va_P D tc_cl (List.set _ _ (_, .inl (cy 1, (lx.set z.toNat (i3_b x)).length, .inl (fun j => tc_3 ((lx.set z.toNat (i3_b x)).getD j 0))))) H1
          rw [List.length_set, ← tc_upd3 hlt, ← tc_ix hz hzr, i3_b, tc_3_of, ← vp_nar_byte]
          exact hP1)) hS1 (tc_oks_t (tc_oks_t (tc_oks_t hst)))
        rw [List.length_set] at K1
        exact K1
      · split at hH
        · rename_i hk
          obtain ⟨hk0, hz, hlt, hx01⟩ := hk
          subst hk0
          cases hH
          obtain ⟨hok, hw⟩ := tc_HR_own hR hc (show tc_own (.inl (2, lx)) from ⟨by show 2 ≠ 5; omega, by show 2 ≠ 9; omega⟩)
          have hnx : vp_nar .boolean (tc_3 x) = tc_3 x := by rcases hx01 with rfl | rfl <;> decide +kernel
          refine va_zast hx hb hK hP hD hS (a - 26) 2 hw rfl (tc_vp hz hzr hlt) hd (fun H1 locs1 hP1 _ hS1 => ?_)
          have K1 := kk H1 locs1 (tc_HR_set hR hc ⟨by show 2 ≠ 5; omega, by show 2 ≠ 9; omega⟩ (c1 := .inl (2, lx.set z.toNat x)) ⟨hok.1, by rw [List.length_set]; exact hok.2.1, tc_set_ok hok.2.2 (tc_oks_h hst)⟩ (by
            show va_P D tc_cl (List.set _ _ (_, .inl (cy 2, (lx.set z.toNat x).length, .inl (fun j => tc_3 ((lx.set z.toNat x).getD j 0))))) H1
            rw [List.length_set, ← tc_upd3 hlt, ← tc_ix hz hzr, ← hnx]
            exact hP1)) hS1 (tc_oks_t (tc_oks_t (tc_oks_t hst)))
          rw [List.length_set] at K1
          exact K1
        · cases hH
    · cases hH
  -- lastore
  · rename_i x z a st
    split at hH
    · rename_i lx hc
      split at hH
      · rename_i hk
        obtain ⟨hz, hlt⟩ := hk
        cases hH
        have hzr : tc_r3 z := tc_oks_h (tc_oks_t hst)
        obtain ⟨hok, hw⟩ := tc_HR_own hR hc trivial
        refine va_last hx hb hK hP hD hS (a - 26) 3 hw rfl (tc_vp hz hzr hlt) hd (fun H1 locs1 hP1 _ hS1 => ?_)
        have K1 := kk H1 locs1 (tc_HR_set hR hc trivial (c1 := .inr (.inl (lx.set z.toNat x))) ⟨by rw [List.length_set]; exact hok.1, tc_set_ok hok.2 (tc_oks_h hst)⟩ (by
          show va_P D tc_cl (List.set _ _ (_, .inl (cy 3, (lx.set z.toNat x).length, .inr (.inl (fun j => tc_6 ((lx.set z.toNat x).getD j 0)))))) H1
          rw [List.length_set, ← tc_upd6 hlt, ← tc_ix hz hzr]
          exact hP1)) hS1 (tc_oks_t (tc_oks_t (tc_oks_t hst)))
        rw [List.length_set] at K1
        exact K1
      · cases hH
    · cases hH
  -- aastore
  · rename_i v z a st
    split at hH
    · rename_i k lx ci fs hc hcv
      split at hH
      · rename_i hk
        obtain ⟨hk0, hz, hlt⟩ := hk
        subst hk0
        cases hH
        have hzr : tc_r3 z := tc_oks_h (tc_oks_t hst)
        obtain ⟨hok, hw⟩ := tc_HR_own hR hc trivial
        obtain ⟨hokv, hwv⟩ := tc_HR_own hR hcv trivial
        have hq : ∃ t0 : Nat, (tc_tys cy)[t0]? = some (cy (10 + k), FieldType.object (tc_cn k)) := by
          rcases hok.1 with hk | hk | hk <;> simp only at hk <;> subst hk
          · exact ⟨4, rfl⟩
          · exact ⟨5, rfl⟩
          · exact ⟨6, rfl⟩
        obtain ⟨t0, ht0⟩ := hq
        refine va_astq (r := (tc_cn k, tc_T k, tc_N k)) hx hb hK hP hD hS (a - 26) t0 (v - 26) k hw ht0 hwv (tc_cls_at hokv.1) (tc_vp hz hzr hlt) hd (fun H1 locs1 hP1 _ hS1 => ?_)
        have K1 := kk H1 locs1 (tc_HR_set hR hc trivial (c1 := .inr (.inr (.inl (k, lx.set z.toNat (some v))))) ⟨hok.1, by rw [List.length_set]; exact hok.2⟩ (by
          show va_P D tc_cl (List.set _ _ (_, .inl (cy (10 + k), (lx.set z.toNat (some v)).length, .inr (.inr (.inr (.inr (fun j => ((lx.set z.toNat (some v)).getD j none).map (tc_tr B bs ak)))))))) H1
          rw [List.length_set, ← tc_updq hlt, ← tc_ix hz hzr]
          exact hP1)) hS1 (tc_oks_t (tc_oks_t (tc_oks_t hst)))
        rw [List.length_set] at K1
        exact K1
      · cases hH
    · cases hH
  -- newarray
  · rename_i t z st
    split at hH
    · rename_i hz
      have hzr : tc_r3 z := tc_oks_h hst
      have hnn : ¬ tc_3 z < 0 := fun q => by
        have := (tc_3_lt hzr tc_r3_0).mp q
        omega
      have hlen : ∀ cx : SC, (h ++ [cx]).length - h0 = h.length - h0 + 1 := fun cx => by
        rw [List.length_append]
        show h.length + 1 - h0 = _
        omega
      have hns : n + z.toNat - n0 = n - n0 + z.toNat := by omega
      have htr : tc_tr B bs ak h.length = B + (h.length - 26) := tc_tr_26 (by omega)
      split at hH
      · rename_i cx hcx
        cases hH
        rw [hlen] at hrc
        rw [hns] at hrs
        unfold tc_blank at hcx
        split at hcx
        · cases hcx
          refine va_newa hx hb (hts _ (tc_has_in tc_w_ar.1)) rfl hK hP hD hS hA (a0 := (z.toNat, .inl (fun _ => 0))) (fun cA => rfl) hnn (tc_ix hz.1 hzr) (by show z.toNat * 4 ≤ _; omega) hrc hrs hd (fun q cA H1 hK1 hP1 hD1 hS1 => ?_)
          have hcA : cA = cy 0 := Option.some.inj ((hK1.2 7 (cA, .int) rfl).2.symm.trans (hK.2 0 _ rfl).2)
          refine tc_alloc hP1 hD1 hh0 hsz rfl (fun hq => ?_)
          subst hcA
          rw [hq] at hP1 ⊢
          have K1 := kk H1 locs (tc_HR_app hR (c1 := .inl (0, List.replicate z.toNat 0)) ⟨by show 0 ≤ 2; omega, by show (List.replicate z.toNat (0 : Int)).length ≤ 100000; rw [List.length_replicate]; omega, fun w hw => by rw [List.eq_of_mem_replicate hw]; exact tc_r3_0⟩ (by
            show va_P D tc_cl (_ ++ [(_, .inl (cy 0, (List.replicate z.toNat (0 : Int)).length, .inl (fun j => tc_3 ((List.replicate z.toNat (0 : Int)).getD j 0))))]) H1
            rw [List.length_replicate, show (fun j => tc_3 ((List.replicate z.toNat (0 : Int)).getD j 0)) = fun _ => (0 : Int32) from funext fun j => by rw [tc_rep_getD]; rfl]
            exact hP1)) hS1 (tc_oks_c trivial (tc_oks_t hst))
          rw [hlen, hns] at K1
          exact W.eq (by simp only [List.map_cons, tc_cv, htr]) K1
        · cases hcx
          refine va_newa hx hb (hts _ (tc_has_in tc_w_ar.2.1)) rfl hK hP hD hS hA (a0 := (z.toNat, .inl (fun _ => 0))) (fun cA => rfl) hnn (tc_ix hz.1 hzr) (by show z.toNat * 1 ≤ _; omega) hrc hrs hd (fun q cA H1 hK1 hP1 hD1 hS1 => ?_)
          have hcA : cA = cy 1 := Option.some.inj ((hK1.2 7 (cA, .byte) rfl).2.symm.trans (hK.2 1 _ rfl).2)
          refine tc_alloc hP1 hD1 hh0 hsz rfl (fun hq => ?_)
          subst hcA
          rw [hq] at hP1 ⊢
          have K1 := kk H1 locs (tc_HR_app hR (c1 := .inl (1, List.replicate z.toNat 0)) ⟨by show 1 ≤ 2; omega, by show (List.replicate z.toNat (0 : Int)).length ≤ 100000; rw [List.length_replicate]; omega, fun w hw => by rw [List.eq_of_mem_replicate hw]; exact tc_r3_0⟩ (by
            show va_P D tc_cl (_ ++ [(_, .inl (cy 1, (List.replicate z.toNat (0 : Int)).length, .inl (fun j => tc_3 ((List.replicate z.toNat (0 : Int)).getD j 0))))]) H1
            rw [List.length_replicate, show (fun j => tc_3 ((List.replicate z.toNat (0 : Int)).getD j 0)) = fun _ => (0 : Int32) from funext fun j => by rw [tc_rep_getD]; rfl]
            exact hP1)) hS1 (tc_oks_c trivial (tc_oks_t hst))
          rw [hlen, hns] at K1
          exact W.eq (by simp only [List.map_cons, tc_cv, htr]) K1
        · cases hcx
          refine va_newa hx hb (hts _ (tc_has_in tc_w_ar.2.2.1)) rfl hK hP hD hS hA (a0 := (z.toNat, .inl (fun _ => 0))) (fun cA => rfl) hnn (tc_ix hz.1 hzr) (by show z.toNat * 1 ≤ _; omega) hrc hrs hd (fun q cA H1 hK1 hP1 hD1 hS1 => ?_)
          have hcA : cA = cy 2 := Option.some.inj ((hK1.2 7 (cA, .boolean) rfl).2.symm.trans (hK.2 2 _ rfl).2)
          refine tc_alloc hP1 hD1 hh0 hsz rfl (fun hq => ?_)
          subst hcA
          rw [hq] at hP1 ⊢
          have K1 := kk H1 locs (tc_HR_app hR (c1 := .inl (2, List.replicate z.toNat 0)) ⟨by show 2 ≤ 2; omega, by show (List.replicate z.toNat (0 : Int)).length ≤ 100000; rw [List.length_replicate]; omega, fun w hw => by rw [List.eq_of_mem_replicate hw]; exact tc_r3_0⟩ (by
            show va_P D tc_cl (_ ++ [(_, .inl (cy 2, (List.replicate z.toNat (0 : Int)).length, .inl (fun j => tc_3 ((List.replicate z.toNat (0 : Int)).getD j 0))))]) H1
            rw [List.length_replicate, show (fun j => tc_3 ((List.replicate z.toNat (0 : Int)).getD j 0)) = fun _ => (0 : Int32) from funext fun j => by rw [tc_rep_getD]; rfl]
            exact hP1)) hS1 (tc_oks_c trivial (tc_oks_t hst))
          rw [hlen, hns] at K1
          exact W.eq (by simp only [List.map_cons, tc_cv, htr]) K1
        · cases hcx
          refine va_newa hx hb (hts _ (tc_has_in tc_w_ar.2.2.2)) rfl hK hP hD hS hA (a0 := (z.toNat, .inr (.inl (fun _ => 0)))) (fun cA => rfl) hnn (tc_ix hz.1 hzr) (by show z.toNat * 8 ≤ _; omega) hrc hrs hd (fun q cA H1 hK1 hP1 hD1 hS1 => ?_)
          have hcA : cA = cy 3 := Option.some.inj ((hK1.2 7 (cA, .long) rfl).2.symm.trans (hK.2 3 _ rfl).2)
          refine tc_alloc hP1 hD1 hh0 hsz rfl (fun hq => ?_)
          subst hcA
          rw [hq] at hP1 ⊢
          have K1 := kk H1 locs (tc_HR_app hR (c1 := .inr (.inl (List.replicate z.toNat 0))) ⟨by show (List.replicate z.toNat (0 : Int)).length ≤ 100000; rw [List.length_replicate]; omega, fun w hw => by rw [List.eq_of_mem_replicate hw]; exact tc_r36 tc_r3_0⟩ (by
            show va_P D tc_cl (_ ++ [(_, .inl (cy 3, (List.replicate z.toNat (0 : Int)).length, .inr (.inl (fun j => tc_6 ((List.replicate z.toNat (0 : Int)).getD j 0)))))]) H1
            rw [List.length_replicate, show (fun j => tc_6 ((List.replicate z.toNat (0 : Int)).getD j 0)) = fun _ => (0 : Int64) from funext fun j => by rw [tc_rep_getD]; rfl]
            exact hP1)) hS1 (tc_oks_c trivial (tc_oks_t hst))
          rw [hlen, hns] at K1
          exact W.eq (by simp only [List.map_cons, tc_cv, htr]) K1
        · cases hcx
      · cases hH
    · cases hH
  -- anewarray
  · rename_i idx z st
    split at hH
    · rename_i hz
      have hzr : tc_r3 z := tc_oks_h hst
      have hnn : ¬ tc_3 z < 0 := fun q => by
        have := (tc_3_lt hzr tc_r3_0).mp q
        omega
      split at hH
      · rename_i x hf
        cases hH
        obtain ⟨g1, g2, g3⟩ := tc_find_at hf
        have g4 := List.all_eq_true.mp tc_ckA_ok x g1
        obtain ⟨o, ix, ci, q4⟩ := x
        simp only at g2 g3
        subst g2; subst g3
        simp only [tc_ckA, Bool.and_eq_true, Bool.or_eq_true, beq_iff_eq] at g4
        have hlen : ∀ cx : SC, (h ++ [cx]).length - h0 = h.length - h0 + 1 := fun cx => by
          rw [List.length_append]
          show h.length + 1 - h0 = _
          omega
        have hns : n + z.toNat - n0 = n - n0 + z.toNat := by omega
        have htr : tc_tr B bs ak h.length = B + (h.length - 26) := tc_tr_26 (by omega)
        rw [hlen] at hrc
        rw [hns] at hrs
        have hao : va_AO (tc_cn ci) s := by
          rcases g4.1 with q | q | q <;> rw [q]
          · exact hAO.1
          · exact hAO.2.1
          · exact hAO.2.2
        refine va_newq hx hb hown (hts _ (tc_has_in g4.2)) hao hK hP hD hS hA hnn (tc_ix hz.1 hzr) (by omega) hrc hrs hd (fun q cA H1 hK1 hP1 hD1 hS1 => ?_)
        have hcA : cA = cy (10 + ci) := by
          obtain ⟨_, _, _, _, _, q1⟩ := (hK1.2 7 (cA, .object (tc_cn ci)) rfl).2
          rcases g4.1 with q | q | q <;> subst q
          · obtain ⟨_, _, _, _, _, q2⟩ := (hK.2 4 _ rfl).2
            exact Option.some.inj (q1.symm.trans q2)
          · obtain ⟨_, _, _, _, _, q2⟩ := (hK.2 5 _ rfl).2
            exact Option.some.inj (q1.symm.trans q2)
          · obtain ⟨_, _, _, _, _, q2⟩ := (hK.2 6 _ rfl).2
            exact Option.some.inj (q1.symm.trans q2)
        refine tc_alloc hP1 hD1 hh0 hsz rfl (fun hq => ?_)
        subst hcA
        rw [hq] at hP1 ⊢
        have K1 := kk H1 locs (tc_HR_app hR (c1 := .inr (.inr (.inl (ci, List.replicate z.toNat none)))) ⟨g4.1, by show (List.replicate z.toNat (none : Option Nat)).length ≤ 100000; rw [List.length_replicate]; omega⟩ (by
          show va_P D tc_cl (_ ++ [(_, .inl (cy (10 + ci), (List.replicate z.toNat (none : Option Nat)).length, .inr (.inr (.inr (.inr (fun j => ((List.replicate z.toNat (none : Option Nat)).getD j none).map (tc_tr B bs ak)))))))]) H1
          rw [List.length_replicate, show (fun j => ((List.replicate z.toNat (none : Option Nat)).getD j none).map (tc_tr B bs ak)) = fun _ => (none : Option Nat) from funext fun j => by rw [tc_rep_getD]; rfl]
          exact hP1)) hS1 (tc_oks_c trivial (tc_oks_t hst))
        rw [hlen, hns] at K1
        exact W.eq (by simp only [List.map_cons, tc_cv, htr]) K1
      · cases hH
    · cases hH
  -- new
  · rename_i idx st
    split at hH
    · rename_i x hf
      cases hH
      obtain ⟨g1, g2, g3⟩ := tc_find_at hf
      have g4 := List.all_eq_true.mp tc_ckN_ok x g1
      obtain ⟨o, ix, ci, q4⟩ := x
      simp only at g2 g3
      subst g2; subst g3
      simp only [tc_ckN, Bool.and_eq_true, decide_eq_true_eq] at g4
      obtain ⟨c1, c2, c3, c4, c5, c6⟩ := g4
      have hlen : ∀ cx : SC, (h ++ [cx]).length - h0 = h.length - h0 + 1 := fun cx => by
        rw [List.length_append]
        show h.length + 1 - h0 = _
        omega
      have hns : n + tc_N ci - n0 = n - n0 + tc_N ci := by omega
      have htr : tc_tr B bs ak h.length = B + (h.length - 26) := tc_tr_26 (by omega)
      rw [hlen] at hrc
      rw [hns] at hrs
      refine va_new (C := tc_cn ci) (T := tc_T ci) (N := tc_N ci) (ci := ci) (fs := ((tc_tyl.getD ci []).map tc_dv).map (tc_cv (tc_tr B bs ak))) hx hb hts (tc_cls_in c1) (tc_ty ci) (tc_cls_ty c1) hown (hts _ (tc_has_in c2)) (hts _ (tc_has_in c3)) (hts _ (tc_has_in c4)) hK hP hD hS hA (tc_cls_at c1) (fun j hj => ?_) hrc hrs hd (fun q H1 hP1 hD1 hS1 => ?_)
      · have hj2 : j < (tc_tyl.getD ci []).length := by rw [c5]; exact hj
        obtain ⟨ty, hg⟩ : ∃ ty, (tc_tyl.getD ci [])[j]? = some ty := ⟨_, List.getElem?_eq_getElem hj2⟩
        have hty : tc_ty ci j = ty := by
          unfold tc_ty
          rw [List.getD_eq_getElem?_getD (l := tc_tyl.getD ci []), hg]
          rfl
        rw [hty, tc_dv_ok (tr := tc_tr B bs ak) (List.all_eq_true.mp c6 _ (List.mem_of_getElem? hg))]
        unfold vp_V
        rw [List.getD_eq_getElem?_getD (l := List.map _ _), List.getElem?_map, List.getElem?_map, hg]
        rfl
      · refine tc_alloc hP1 hD1 hh0 hsz rfl (fun hq => ?_)
        rw [hq] at hP1 ⊢
        have K1 := kk H1 locs (tc_HR_app hR (c1 := .inr (.inr (.inr (ci, (tc_tyl.getD ci []).map tc_dv)))) ⟨c1, by rw [List.length_map]; exact c5, fun v hv => by
          obtain ⟨ty, -, rfl⟩ := List.mem_map.mp hv
          exact tc_dv_oks ty⟩ hP1) hS1 (tc_oks_c trivial hst)
        rw [hlen, hns] at K1
        exact W.eq (by simp only [List.map_cons, tc_cv, htr]) K1
    · cases hH
  -- Object's constructor
  · rename_i idx a st
    split at hH
    · rename_i x hf
      split at hH
      · rename_i hcnd
        cases hH
        obtain ⟨g1, g2, g3⟩ := tc_find_at hf
        have g4 := List.all_eq_true.mp tc_ckO_ok x g1
        obtain ⟨o, ix, q4⟩ := x
        simp only at g2 g3
        subst g2; subst g3
        refine W.objInit hx hb hown (hts _ (tc_has_in g4)) (hts _ (tc_has_in tc_w_obj.1)) (hts _ (tc_has_in tc_w_obj.2)) rfl (show act.size = c.maxLocals from hmlA.symm) rfl hd (by rw [hfr]; exact hcnd.1) ?_ (W.eq (g2 := F0 m (pc + 3) act (st'.map (tc_cv (tc_tr B bs ak)))) rfl (kk H locs hR hS (tc_oks_t hst)))
        show 2 * 0 + _ + 12 ≤ R.locals
        rw [tc_ws_ok (tc_oks_t hst), hlo]
        omega
      · cases hH
    · cases hH
  -- a String's length, an array's clone
  · rename_i idx a st
    split at hH
    · rename_i k lx hc
      split at hH
      · rename_i hk9
        split at hH
        · rename_i x hf
          split at hH
          · rename_i hcnd
            cases hH
            obtain ⟨g1, g2⟩ := tc_HR_str hR hc hk9
            simp only at g2
            subst g2
            have K1 := kk H locs hR hS (tc_oks_c (tc_len_ok (Nat.le_trans (tc_chs_ok (j := a)).1 (by omega))) (tc_oks_t hst))
            exact W.eq (by simp only [List.map_cons, tc_cv, tc_tr, if_pos g1]) (tc_s_len F g1 hf hd hcnd (tc_oks_t hst) hS hact (by omega) (by omega) K1)
          · cases hH
        · cases hH
      · split at hH
        · rename_i hk0
          split at hH
          · rename_i x hf
            split at hH
            · rename_i hcnd
              cases hH
              subst hk0
              obtain ⟨g1, g2, g3⟩ := tc_find_at hf
              have g4 := List.all_eq_true.mp tc_ckCl_ok x g1
              obtain ⟨o, ix, q4⟩ := x
              simp only at g2 g3
              subst g2; subst g3
              obtain ⟨hok, hw⟩ := tc_HR_own hR hc (show tc_own (.inl (0, lx)) from ⟨by show 0 ≠ 5; omega, by show 0 ≠ 9; omega⟩)
              have hlen : ∀ cx : SC, (h ++ [cx]).length - h0 = h.length - h0 + 1 := fun cx => by
                rw [List.length_append]
                show h.length + 1 - h0 = _
                omega
              have hns : n + lx.length - n0 = n - n0 + lx.length := by omega
              have htr : tc_tr B bs ak h.length = B + (h.length - 26) := tc_tr_26 (by omega)
              rw [hlen] at hrc
              rw [hns] at hrs
              refine va_clone (ad := "[I") (x := (lx.length, .inl (fun j => tc_3 (lx.getD j 0)))) hx hb hmlA hown (hts _ (tc_has_in g4)) (hts _ (tc_has_in tc_w_cl.1)) (hts _ (tc_has_in tc_w_cl.2.1)) (hts _ (tc_has_in tc_w_cl.2.2.1)) (hts _ (tc_has_in tc_w_cl.2.2.2.1)) hCa hK hP hD hS hA (a - 26) 0 hw rfl (hK.2 0 _ rfl).2 (fun j v hv => ?_) (by rw [hfr]; exact hcnd.1) ?_ hrc hrs hd (fun q H1 hK1 hP1 hD1 hS1 => ?_)
              · have hlt : j < lx.length := by
                  have := (Array.getElem?_eq_some_iff.mp hv).1
                  rw [vp_cell_i, arrV_size] at this
                  exact this
                rw [vp_cell_i, arrV_read _ _ hlt] at hv
                cases hv
                rfl
              · rw [tc_ws_ok (tc_oks_t hst), hlo]
                exact hcnd.2
              · refine tc_alloc hP1 hD1 hh0 hsz rfl (fun hq => ?_)
                rw [hq] at hP1 ⊢
                have K1 := kk H1 locs (tc_HR_app hR (c1 := .inl (0, lx)) hok hP1) hS1 (tc_oks_c trivial (tc_oks_t hst))
                rw [hlen, hns] at K1
                exact W.eq (by simp only [List.map_cons, tc_cv, htr]) K1
            · cases hH
          · cases hH
        · cases hH
    · cases hH
  -- a String's char
  · rename_i idx z a st
    split at hH
    · rename_i k lx hc
      split at hH
      · rename_i hk9
        split at hH
        · rename_i x hf
          split at hH
          · rename_i hcnd
            split at hH
            · rename_i v hv
              cases hH
              obtain ⟨g1, g2⟩ := tc_HR_str hR hc hk9.1
              simp only at g2
              subst g2
              have K1 := kk H locs hR hS (tc_oks_c ((tc_chs_ok (j := a)).2 v (List.mem_of_getElem? hv)) (tc_oks_t (tc_oks_t hst)))
              exact W.eq (by simp only [List.map_cons, tc_cv, tc_tr, if_pos g1]) (tc_s_chr F g1 hf hd hcnd (tc_oks_t (tc_oks_t hst)) hS hact hk9.2 hv (tc_oks_h hst) (by omega) (by omega) K1)
            · cases hH
          · cases hH
        · cases hH
      · cases hH
    · cases hH
  -- checkcast
  · rename_i idx a st
    split at hH
    · rename_i k lx hc
      split at hH
      · rename_i hk
        obtain ⟨hk0, hoK, hi⟩ := hk
        cases hH
        subst hk0; subst hi
        obtain ⟨hok, hw⟩ := tc_HR_own hR hc (show tc_own (.inl (0, lx)) from ⟨by show 0 ≠ 5; omega, by show 0 ≠ 9; omega⟩)
        exact va_castA (nm := "[I") hx hb hown (by rw [hoK]; exact hts _ (tc_has_in tc_w_cl.2.2.2.2.2)) hP (a - 26) hw (hK.2 0 _ rfl).2 hd (kk H locs hR hS hst)
      · cases hH
    · cases hH
  -- Math's own, and arraycopy
  · rename_i idx
    split at hH
    · rename_i x hf
      split at hH
      · rename_i hcnd
        obtain ⟨g1, g2, g3⟩ := tc_find_at hf
        have g4 := List.all_eq_true.mp tc_ckM_ok x g1
        obtain ⟨o, ix, k, q4⟩ := x
        simp only at g2 g3
        subst g2; subst g3
        simp only [tc_ckM, Bool.and_eq_true, decide_eq_true_eq] at g4
        obtain ⟨sx, hsx, hq⟩ := Option.map_eq_some_iff.mp hH
        cases hq
        unfold tc_math at hsx
        simp only at hsx
        split at hsx
        · rename_i b a st
          cases hsx
          have ha : tc_r3 a := tc_oks_h (tc_oks_t hst)
          have hb2 : tc_r3 b := tc_oks_h hst
          refine va_mmax hx hb hmlA hown (hts _ (tc_has_in g4.1)) (hts _ (tc_has_in tc_w_m0.1)) (hts _ (tc_has_in tc_w_m0.2.1)) (hts _ (tc_has_in tc_w_m0.2.2)) (by rw [hfr]; exact hcnd.1) ?_ (by omega) (by omega) hd (W.eq ?_ (kk H locs hR hS (tc_oks_c (show tc_r3 (if a < b then b else a) by split <;> assumption) (tc_oks_t (tc_oks_t hst)))))
          · rw [tc_ws_ok (tc_oks_t (tc_oks_t hst)), hlo]
            have h3 := hcnd.2.2
            rw [show (Sum.inl b :: Sum.inl a :: st : List AV).drop 2 = st from rfl] at h3
            omega
          · simp only [List.map_cons, tc_cv, tc_3_lt ha hb2, apply_ite tc_3]
        · rename_i b a st
          cases hsx
          have ha : tc_r3 a := tc_oks_h (tc_oks_t hst)
          have hb2 : tc_r3 b := tc_oks_h hst
          refine va_mmin hx hb hmlA hown (hts _ (tc_has_in g4.1)) (hts _ (tc_has_in tc_w_m1.1)) (hts _ (tc_has_in tc_w_m0.2.1)) (hts _ (tc_has_in tc_w_m1.2)) (by rw [hfr]; exact hcnd.1) ?_ (by omega) (by omega) hd (W.eq ?_ (kk H locs hR hS (tc_oks_c (show tc_r3 (if b < a then b else a) by split <;> assumption) (tc_oks_t (tc_oks_t hst)))))
          · rw [tc_ws_ok (tc_oks_t (tc_oks_t hst)), hlo]
            have h3 := hcnd.2.2
            rw [show (Sum.inl b :: Sum.inl a :: st : List AV).drop 2 = st from rfl] at h3
            omega
          · simp only [List.map_cons, tc_cv, tc_3_lt hb2 ha, apply_ite tc_3]
        · rename_i b a st
          cases hsx
          have ha : tc_r6 a := tc_oks_h (tc_oks_t hst)
          have hb2 : tc_r6 b := tc_oks_h hst
          refine va_mmax_long hx hb hmlA hown (hts _ (tc_has_in g4.1)) (hts _ (tc_has_in tc_w_m2.1)) (hts _ (tc_has_in tc_w_m0.2.1)) (hts _ (tc_has_in tc_w_m2.2)) (by rw [hfr]; exact hcnd.1) ?_ (by omega) (by omega) hd (W.eq ?_ (kk H locs hR hS (tc_oks_c (show tc_r6 (if a < b then b else a) by split <;> assumption) (tc_oks_t (tc_oks_t hst)))))
          · rw [tc_ws_ok (tc_oks_t (tc_oks_t hst)), hlo]
            have h3 := hcnd.2.2
            rw [show (Sum.inr (Sum.inl b) :: Sum.inr (Sum.inl a) :: st : List AV).drop 2 = st from rfl] at h3
            omega
          · simp only [List.map_cons, tc_cv, tc_6_lt hb2 ha]
            by_cases h1 : b < a
            · rw [if_pos h1, if_neg (by omega)]
            · by_cases h2 : a < b
              · rw [if_neg h1, if_pos h2]
              · rw [if_neg h1, if_neg h2, show a = b by omega]
        · rename_i b a st
          cases hsx
          have ha : tc_r6 a := tc_oks_h (tc_oks_t hst)
          have hb2 : tc_r6 b := tc_oks_h hst
          refine va_mmin_long hx hb hmlA hown (hts _ (tc_has_in g4.1)) (hts _ (tc_has_in tc_w_m3.1)) (hts _ (tc_has_in tc_w_m0.2.1)) (hts _ (tc_has_in tc_w_m3.2)) (by rw [hfr]; exact hcnd.1) ?_ (by omega) (by omega) hd (W.eq ?_ (kk H locs hR hS (tc_oks_c (show tc_r6 (if b < a then b else a) by split <;> assumption) (tc_oks_t (tc_oks_t hst)))))
          · rw [tc_ws_ok (tc_oks_t (tc_oks_t hst)), hlo]
            have h3 := hcnd.2.2
            rw [show (Sum.inr (Sum.inl b) :: Sum.inr (Sum.inl a) :: st : List AV).drop 2 = st from rfl] at h3
            omega
          · simp only [List.map_cons, tc_cv, tc_6_lt hb2 ha, apply_ite tc_6]
        · cases hsx
      · cases hH
    · split at hH
      · rename_i x hf
        split at hH
        · rename_i hcnd
          obtain ⟨g1, g2, g3⟩ := tc_find_at hf
          have g4 := List.all_eq_true.mp tc_ckAC_ok x g1
          obtain ⟨o, ix, q4⟩ := x
          simp only at g2 g3
          subst g2; subst g3
          obtain ⟨sx, hsx, hq⟩ := Option.map_eq_some_iff.mp hH
          cases hq
          unfold tc_acopy at hsx
          split at hsx
          · rename_i mm dp a sp b st
            split at hsx
            · rename_i k g k' f hca hcb
              split at hsx
              · rename_i hq
                obtain ⟨e1, e2, hab, hm, hdp, hsp, hl1, hl2⟩ := hq
                cases hsx
                subst e1; subst e2
                have hmr : tc_r3 mm := tc_oks_h hst
                have hdr : tc_r3 dp := tc_oks_h (tc_oks_t hst)
                have hsr : tc_r3 sp := tc_oks_h (tc_oks_t (tc_oks_t (tc_oks_t hst)))
                have hoks : tc_oks st := tc_oks_t (tc_oks_t (tc_oks_t (tc_oks_t (tc_oks_t hst))))
                have nn : ∀ z : Int, 0 ≤ z → tc_r3 z → ¬ tc_3 z < 0 := fun z hz hr q => by
                  have := (tc_3_lt hr tc_r3_0).mp q
                  omega
                obtain ⟨hoka, hwa⟩ := tc_HR_own hR hca (show tc_own (.inl (0, g)) from ⟨by show 0 ≠ 5; omega, by show 0 ≠ 9; omega⟩)
                obtain ⟨hokb, hwb⟩ := tc_HR_own hR hcb (show tc_own (.inl (0, f)) from ⟨by show 0 ≠ 5; omega, by show 0 ≠ 9; omega⟩)
                refine va_copyi (ty := .int) hx hb hmlA hown (hts _ (tc_has_in g4)) (hts _ (tc_has_in tc_w_ac.1)) (hts _ (tc_has_in tc_w_ac.2.1)) (hts _ (tc_has_in tc_w_ac.2.2)) hK hP hD hS (b - 26) (a - 26) 0 0 hwb hwa rfl rfl rfl (nn sp hsp hsr) (nn dp hdp hdr) (nn mm hm hmr) (by rw [tc_ix hsp hsr, tc_ix hm hmr]; exact hl1) (by rw [tc_ix hdp hdr, tc_ix hm hmr]; exact hl2) (fun _ _ => rfl) (by rw [hfr]; exact hcnd.1) ?_ hd (fun H1 locs1 hP1 _ hS1 => ?_)
                · rw [tc_ws_ok hoks, hlo]
                  have h3 := hcnd.2.2
                  rw [show (Sum.inl mm :: Sum.inl dp :: Sum.inr (Sum.inr (Sum.inl (some a))) :: Sum.inl sp :: Sum.inr (Sum.inr (Sum.inl (some b))) :: st : List AV).drop 5 = st from rfl] at h3
                  show _ + (7 + 11) ≤ _
                  omega
                · have K1 := kk H1 locs1 (tc_HR_set hR hca ⟨by show 0 ≠ 5; omega, by show 0 ≠ 9; omega⟩ (c1 := .inl (0, tc_cpy f g sp.toNat dp.toNat mm.toNat)) ⟨hoka.1, by show (tc_cpy f g sp.toNat dp.toNat mm.toNat).length ≤ 100000; rw [tc_cpy_len hl1 hl2]; exact hoka.2.1, tc_cpy_ok hokb.2.2 hoka.2.2⟩ (by
                    show va_P D tc_cl (List.set _ _ (_, .inl (cy 0, (tc_cpy f g sp.toNat dp.toNat mm.toNat).length, .inl (fun j => tc_3 ((tc_cpy f g sp.toNat dp.toNat mm.toNat).getD j 0))))) H1
                    rw [tc_cpy_len hl1 hl2, ← tc_cpy3 hl1 hl2, ← tc_ix hsp hsr, ← tc_ix hdp hdr, ← tc_ix hm hmr]
                    exact hP1)) hS1 hoks
                  rw [List.length_set] at K1
                  exact K1
              · cases hsx
            · cases hsx
          · cases hsx
        · cases hH
      · cases hH
  · cases hH
end TCS2

/-! the reference: test, behind a fact -/
def RN2 (e : Nat → Int → Int) (N : Int) : Prop := (0 ≤ e 75 22 ∧ e 75 22 ≤ N + 1) ∧ 0 ≤ e 75 28 ∧ e 75 28 ≤ 63
section TESTP
variable {L : Nat} {sh : Nat → SH} {c : Nat → Int → Int} {n : Nat} {Q : Option AV → List SC → Nat → Prop} {g : Int → Int} {N p m s z f p' m' F W W' mo : Int} {T T' : List Tk} {O O' S : List Int}
theorem stq_two {q : Int} {a b : Nat} {l l' : Nat} (h : stq g N q (chs a) l = 1) (h2 : stq g N q (chs b) l' = 1) : l = l' := by
  have := stq_rn h
  have := stq_rn h2
  omega
theorem m197_c (hS : MS L sh) (hST : STRS sh c) (hTP : TP g N) (hs : 0 ≤ s ∧ s ≤ 5) (hz0 : 0 ≤ z) {Z : Int} (hm : 0 ≤ m ∧ m ≤ 60)
    (hx : ¬ f = 0 → ∀ e, MTQ c e Z → RN2 e N → e 75 23 = f → Q none (hp L sh e) n)
    (hend : f = 0 → mo = 0 → ∀ e, MTQ c e Z → ME e g N p' m s z T' → e 75 23 = 0 → e 75 27 = 0 → Q none (hp L sh e) n)
    (hgo : f = 0 → mo = 1 → ∀ (e : Nat → Int → Int) (a3 a4 : AV), MTQ c e Z → ME e g N p' m s z T' → e 75 23 = 0 → SR e (sto O' W') → e 75 27 = O'.length → tc_W 197 9 [rf 75, .inl 1, .inl 1, a3, a4] [] (hp L sh e) n Q) : ∀ (k : Nat) (p W : Int) (T : List Tk) (O : List Int) (d : Nat → Int → Int) (a3 a4 : AV), ME d g N p m s z T → d 75 23 = 0 → SR d (sto O W) → d 75 27 = O.length → MTQ c d Z → Z ≤ 300 * s + (z + T.length) → okO O → 0 ≤ W → W ≤ 3 → O.length ≤ 10 → O.length < k → 0 ≤ p → p ≤ N → z + T.length + wn W + pnb O + nnt O < 298 → cls g N k p T O W = (f, mo, p', T', O', W') → tc_W 197 9 [rf 75, .inl 0, .inl 1, a3, a4] [] (hp L sh d) n Q := by
  have hN := hTP.1
  have hL := hS.1
  intro k
  induction k with
  | zero => intro p W T O d a3 a4 _ _ _ _ _ _ _ _ _ _ h; omega
  | succ k ih =>
    intro p W T O d a3 a4 hE h23 hSR hD hM hZ hok hW1 hW2 hOl hOk hp1 hp2 hz hr
    have hsr := nm_rng (g := g) (p := p) (N := N) ⟨hp1, hp2⟩
    have hkr := sk_rng (g := g) (n := N) (p := p)
    obtain ⟨q1, q2, q3, q4, q5, q6⟩ := drp_f O hok
    have hpn := pnb_nn O
    have hnn := nnt_nn (drp O)
    have hwn := wn_rng W
    have hwn2 := wn_rng (W - W % 2)
    have hwm : wn (W - W % 2) ≤ wn W := by
      rcases (by omega : W = 0 ∨ W = 1 ∨ W = 2 ∨ W = 3) with rfl | rfl | rfl | rfl <;> decide
    have a10 := (t10_f (X := T ++ List.replicate (nts O) (9, 0)) (W := W) (n := pnb O) ⟨hW1, hW2⟩ hpn).2.2.1
    have el : (((T ++ List.replicate (nts O) (9, 0)).length : Nat) : Int) = T.length + nts O := by
      rw [List.length_append, List.length_replicate]
      omega
    have htn : tn T O W = T ++ List.replicate (nts O) (9, 0) ++ t10 W := rfl
    rw [← htn, el] at a10
    have a11 := (t11_f (X := tn T O W) (W := W) (n := pnb O) ⟨hW1, hW2⟩ hpn).2.2
    obtain ⟨w10, wt10, w11, wt11⟩ := wts_10 ⟨hW1, hW2⟩
    obtain ⟨R, hR1, hR2, hR3, hR4⟩ := sto_lv q5 W
    have hsl := sto_len O W
    have hsl2 := sto_len (drp O) W
    have hsl3 := sto_len (drp O) (W - W % 2)
    have hj10 : (((W % 2).toNat : Nat) : Int) = wn W - wn (W - W % 2) := by
      rcases (by omega : W = 0 ∨ W = 1 ∨ W = 2 ∨ W = 3) with rfl | rfl | rfl | rfl <;> decide
    have hj11 : (((if 2 ≤ W then 1 else 0 : Nat) : Nat) : Int) = wn (W - W % 2) := by
      rcases (by omega : W = 0 ∨ W = 1 ∨ W = 2 ∨ W = 3) with rfl | rfl | rfl | rfl <;> decide
    simp only [r197_9]
    repeat' (first | (simp (disch := first | omega | exact Nat.le_of_ble_eq_true rfl | exact rfl | assumption | (simp only [fr_at, Nat.reduceEqDiff, if_false, if_true, reduceIte]; first | assumption | omega)) only [r197_0, r197_1, r197_2, r197_5, r197_6r, r197_7, r197_8i, r197_13, r197_14, r197_20, r197_24, r197_25, v197_25_11, r197_31, r197_32, r197_35, r197_36r, r197_37, r197_40, r197_41, r197_43, v197_43_11, r197_46, r197_47, v197_47_11, r197_50, r197_51, r197_54, v197_54_11, r197_57i, r197_58, r197_59, r197_62, v197_62_11, r197_65i, r197_67, r197_68, r197_70, v197_70_11, r197_73, r197_77, r197_82, r197_87, r197_88, r197_90, v197_90_11, r197_93, r197_94, r197_98, r197_100, r197_103, r197_105, v197_105_11, r197_108, r197_109, r197_109A, r197_110, r197_113, r197_117, r197_118, r197_121, r197_122, r197_123, r197_126, r197_127r, r197_128, r197_131, r197_132, r197_134, v197_134_11, r197_137, r197_138, v197_138_11, r197_141, r197_146, r197_147, v197_147_11, r197_150, r197_155, r197_156, r197_157, r197_158, r197_161, v197_161_11, r197_164, r197_165, r197_165A, r197_166, r197_169, r197_170, r197_171, r197_174, r197_175, r197_175A, r197_176, r197_179, r197_180, r197_181, r197_184, r197_185, r197_185A, r197_186, r197_189, r197_190, r197_191, r197_194, r197_197, r197_198i, r197_199, r197_202, p11_241_11, g11_171_11, g11_174_11, p11_174_11, g11_241_11, g11_244_11, p11_244_11, mo_len, ms75 hS, mt75 hS, mo_s29, mo_g23, mo_g22, mo_s22, mo_g29, mo_g27, mo_s27, il_s, bl_s, bl_z, ll_s, is_s, bs_s, bs_z, ls_s, al_s, al_b, al_l, fr_at, fr_fr, Nat.reduceEqDiff, tc_gf3_s, tc_ql2_s, tc_ws_0, tc_ws_i, tc_ws_l, tc_ws_r, Nat.reduceLeDiff, Nat.reduceAdd, Nat.reduceLT, true_and, and_true, if_true, if_false, tc_K, Option.toList_some, Option.toList_none, List.nil_append, List.cons_append, ite_true, ite_false, Int.cast_ofNat_Int, reduceIte, i3_add_eq, i3_sub_eq, Int.add_sub_cancel, Int.add_neg_cancel_right, h23]) | (simp only [r197_10, r197_17, r197_21, r197_28, r197_74, r197_79, r197_84, r197_95, r197_114, r197_143, r197_152, i6_lt0, i6_0lt, i6_0le, i6_le0, i6_eq0, b10_0, ite_not, Int.reduceLT, Int.reduceLE, Int.reduceEq, Int.reduceNeg, if_true, if_false, ite_true, ite_false, reduceIte, eq_self, not_true, not_false_eq_true]; try refine tc_ite (fun _ => ?_) (fun _ => ?_) <;> try (exfalso; omega)))
    all_goals try omega
    refine m201 (c := d) (j := nts O) (R := sto (drp O) W) (S := sto O W) (D := O.length) hS (Or.inl rfl) hs ?_ hE h23 hSR (sto_nts O W) (by omega) hD (by omega) ⟨hz0, by omega⟩ ?_
    · rw [hR2 W]
      rcases (by omega : W = 0 ∨ W = 1 ∨ W = 2 ∨ W = 3) with rfl | rfl | rfl | rfl
      · show ¬ R.headD (-1) = 9
        omega
      · show ¬ (10 : Int) = 9
        omega
      · show ¬ (11 : Int) = 9
        omega
      · show ¬ (10 : Int) = 9
        omega
    intro e1 g1 g2 g3 g4 g5
    rw [if_pos rfl] at g5
    have hM1 := hM.trans g1 hZ
    have g5' : e1 75 27 = (drp O).length := by rw [g5]; omega
    obtain ⟨h95, h21, h22, h24, h26, h28, h30, hTT⟩ := id g2
    have h171 := fun n Q => c171q (c := e1) (n := n) (Q := Q) (N := N) (p := p) hS (by rw [h95]; exact hTP) h21 h22 (by omega)
    rw [h95] at h171
    have hat := g2.at (sk g N p)
    unfold cls at hr
    generalize hq0 : sk g N p = q at hsr hkr h171 hat hr
    generalize hc1 : fr e1 75 (fu (e1 75) 22 q) = c1 at h171 hat
    have hM2 := hM1.trans (hat.2 Z).t (Int.le_refl _)
    have x75 : ∀ i, ¬ i = 22 → c1 75 i = e1 75 i := fun i hi => by rw [← hc1, fr_same, fu_ne hi]
    have xo : ∀ a, ¬ a = 75 → c1 a = e1 a := fun a ha => by rw [← hc1, fr_ne ha]
    have h231 : c1 75 23 = 0 := by rw [x75 23 (by omega)]; exact g3
    have hSR1 : SR c1 (sto (drp O) W) := ⟨by rw [xo 102 (by omega)]; exact g4.1, by rw [x75 29 (by omega)]; exact g4.2⟩
    have hD1 : c1 75 27 = (drp O).length := by rw [x75 27 (by omega)]; exact g5'
    have hST1 : STRS sh c1 := STRS.mt hST hM2
    have h174 : ∀ (a l : Nat), a < 25 → (tc_chs.getD a []).length = l → l ≤ 100 → ∀ n Q, tc_C 174 [rf 75, rf a] (hp L sh c1) n Q = Q (some (.inl (stq g N q (chs a) l))) (hp L sh c1) n := fun a l ha hl hl2 n Q => by
      have hst := hST1 a ha
      rw [hl] at hst
      rw [c174 (l := l) hS (by rw [hat.1.1]; exact hTP) hat.1.2.1 hat.1.2.2.1 (by omega) (by omega) hst.1 hl2, hat.1.1, hst.2]
    have k23 := h174 23 3 (by omega) rfl (by omega)
    have k24 := h174 24 2 (by omega) rfl (by omega)
    generalize hva : stq g N q (chs 23) 3 = va at k23 hr
    generalize hvo : stq g N q (chs 24) 2 = vo at k24 hr
    have hva01 : va = 0 ∨ va = 1 := by rw [← hva]; exact stq_01 _ _ _ _ _
    have hvo01 : vo = 0 ∨ vo = 1 := by rw [← hvo]; exact stq_01 _ _ _ _ _
    have hexc : ¬ (va = 1 ∧ vo = 1) := fun x => by
      have := stq_two (hva.trans x.1) (hvo.trans x.2)
      omega
    repeat' (first | (simp (disch := first | omega | exact Nat.le_of_ble_eq_true rfl | exact rfl | assumption | (simp only [fr_at, Nat.reduceEqDiff, if_false, if_true, reduceIte]; first | assumption | omega)) only [r197_0, r197_1, r197_2, r197_5, r197_6r, r197_7, r197_8i, r197_13, r197_14, r197_20, r197_24, r197_25, v197_25_11, r197_31, r197_32, r197_35, r197_36r, r197_37, r197_40, r197_41, r197_43, v197_43_11, r197_46, r197_47, v197_47_11, r197_50, r197_51, r197_54, v197_54_11, r197_57i, r197_58, r197_59, r197_62, v197_62_11, r197_65i, r197_67, r197_68, r197_70, v197_70_11, r197_73, r197_77, r197_82, r197_87, r197_88, r197_90, v197_90_11, r197_93, r197_94, r197_98, r197_100, r197_103, r197_105, v197_105_11, r197_108, r197_109, r197_109A, r197_110, r197_113, r197_117, r197_118, r197_121, r197_122, r197_123, r197_126, r197_127r, r197_128, r197_131, r197_132, r197_134, v197_134_11, r197_137, r197_138, v197_138_11, r197_141, r197_146, r197_147, v197_147_11, r197_150, r197_155, r197_156, r197_157, r197_158, r197_161, v197_161_11, r197_164, r197_165, r197_165A, r197_166, r197_169, r197_170, r197_171, r197_174, r197_175, r197_175A, r197_176, r197_179, r197_180, r197_181, r197_184, r197_185, r197_185A, r197_186, r197_189, r197_190, r197_191, r197_194, r197_197, r197_198i, r197_199, r197_202, p11_241_11, g11_171_11, g11_174_11, p11_174_11, g11_241_11, g11_244_11, p11_244_11, mo_len, ms75 hS, mt75 hS, mo_s29, mo_g23, mo_g22, mo_s22, mo_g29, mo_g27, mo_s27, il_s, bl_s, bl_z, ll_s, is_s, bs_s, bs_z, ls_s, al_s, al_b, al_l, fr_at, fr_fr, Nat.reduceEqDiff, tc_gf3_s, tc_ql2_s, tc_ws_0, tc_ws_i, tc_ws_l, tc_ws_r, Nat.reduceLeDiff, Nat.reduceAdd, Nat.reduceLT, true_and, and_true, if_true, if_false, tc_K, Option.toList_some, Option.toList_none, List.nil_append, List.cons_append, ite_true, ite_false, Int.cast_ofNat_Int, reduceIte, i3_add_eq, i3_sub_eq, Int.add_sub_cancel, Int.add_neg_cancel_right, h171, k23, k24]) | (simp only [r197_10, r197_17, r197_21, r197_28, r197_74, r197_79, r197_84, r197_95, r197_114, r197_143, r197_152, i6_lt0, i6_0lt, i6_0le, i6_le0, i6_eq0, b10_0, ite_not, Int.reduceLT, Int.reduceLE, Int.reduceEq, Int.reduceNeg, if_true, if_false, ite_true, ite_false, reduceIte, eq_self, not_true, not_false_eq_true]; try refine tc_ite (fun _ => ?_) (fun _ => ?_) <;> try (exfalso; omega)))
    -- the and that waits
    refine m201 (c := c1) (j := (W % 2).toNat) (k := 10) (R := sto (drp O) (W - W % 2)) (S := sto (drp O) W) (D := (drp O).length) hS (Or.inr (Or.inl rfl)) hs ?_ hat.1 h231 hSR1 ?_ (by omega) hD1 (by omega) ⟨hz0, by omega⟩ ?_
    · rw [hR2 (W - W % 2), w11]
      by_cases h2 : 2 ≤ W
      · rw [if_pos h2]
        show ¬ (11 : Int) = 10
        omega
      · rw [if_neg h2]
        show ¬ R.headD (-1) = 10
        omega
    · rw [hR2 W, hR2 (W - W % 2), w10, List.append_assoc]
    intro e2 i1 i2 i3 i4 i5
    rw [← wt10, ← htn] at i2
    rw [if_neg (by omega), Int.sub_zero] at i5
    have hM3 := hM2.trans i1 (by rw [el]; omega)
    have hlen2 : (((tn T O W).length : Nat) : Int) = T.length + nts O + wn W - wn (W - W % 2) := a10
    have e22 : e2 75 22 = q := i2.2.2.1
    -- the or that waits
    have ors : ∀ (Q : Option AV → List SC → Nat → Prop), (∀ e, MTQ c e Z → ME e g N q m s z (tn T O W ++ t11 W) → e 75 23 = 0 → SR e (sto (drp O) 0) → e 75 27 = (drp O).length → Q none (hp L sh e) n) → tc_C 201 [rf 75, .inl 11] (hp L sh e2) n Q := fun Q hQ => by
      refine m201 (c := e2) (j := if 2 ≤ W then 1 else 0) (k := 11) (R := R) (S := sto (drp O) (W - W % 2)) (D := (drp O).length) hS (Or.inr (Or.inr rfl)) hs (by omega) i2 i3 i4 (by rw [hR2, w11]) (by omega) i5 (by omega) ⟨hz0, by omega⟩ ?_
      intro e y1 y2 y3 y4 y5
      rw [← wt11] at y2
      rw [if_neg (by omega), Int.sub_zero] at y5
      refine hQ e (hM3.trans y1 (by omega)) y2 y3 ?_ y5
      rw [hR2 0]
      exact y4
    have hlen3 : (((tn T O W ++ t11 W).length : Nat) : Int) = (tn T O W).length + wn (W - W % 2) := a11
    rcases hva01 with hv0 | hv1
    · rw [if_neg (by omega)] at hr
      rcases hvo01 with ho0 | ho1
      · -- neither
        rw [if_neg (by omega)] at hr
        repeat' (first | (simp (disch := first | omega | exact Nat.le_of_ble_eq_true rfl | exact rfl | assumption | (simp only [fr_at, Nat.reduceEqDiff, if_false, if_true, reduceIte]; first | assumption | omega)) only [r197_0, r197_1, r197_2, r197_5, r197_6r, r197_7, r197_8i, r197_13, r197_14, r197_20, r197_24, r197_25, v197_25_11, r197_31, r197_32, r197_35, r197_36r, r197_37, r197_40, r197_41, r197_43, v197_43_11, r197_46, r197_47, v197_47_11, r197_50, r197_51, r197_54, v197_54_11, r197_57i, r197_58, r197_59, r197_62, v197_62_11, r197_65i, r197_67, r197_68, r197_70, v197_70_11, r197_73, r197_77, r197_82, r197_87, r197_88, r197_90, v197_90_11, r197_93, r197_94, r197_98, r197_100, r197_103, r197_105, v197_105_11, r197_108, r197_109, r197_109A, r197_110, r197_113, r197_117, r197_118, r197_121, r197_122, r197_123, r197_126, r197_127r, r197_128, r197_131, r197_132, r197_134, v197_134_11, r197_137, r197_138, v197_138_11, r197_141, r197_146, r197_147, v197_147_11, r197_150, r197_155, r197_156, r197_157, r197_158, r197_161, v197_161_11, r197_164, r197_165, r197_165A, r197_166, r197_169, r197_170, r197_171, r197_174, r197_175, r197_175A, r197_176, r197_179, r197_180, r197_181, r197_184, r197_185, r197_185A, r197_186, r197_189, r197_190, r197_191, r197_194, r197_197, r197_198i, r197_199, r197_202, p11_241_11, g11_171_11, g11_174_11, p11_174_11, g11_241_11, g11_244_11, p11_244_11, mo_len, ms75 hS, mt75 hS, mo_s29, mo_g23, mo_g22, mo_s22, mo_g29, mo_g27, mo_s27, il_s, bl_s, bl_z, ll_s, is_s, bs_s, bs_z, ls_s, al_s, al_b, al_l, fr_at, fr_fr, Nat.reduceEqDiff, tc_gf3_s, tc_ql2_s, tc_ws_0, tc_ws_i, tc_ws_l, tc_ws_r, Nat.reduceLeDiff, Nat.reduceAdd, Nat.reduceLT, true_and, and_true, if_true, if_false, tc_K, Option.toList_some, Option.toList_none, List.nil_append, List.cons_append, ite_true, ite_false, Int.cast_ofNat_Int, reduceIte, i3_add_eq, i3_sub_eq, Int.add_sub_cancel, Int.add_neg_cancel_right, hv0, ho0]) | (simp only [r197_10, r197_17, r197_21, r197_28, r197_74, r197_79, r197_84, r197_95, r197_114, r197_143, r197_152, i6_lt0, i6_0lt, i6_0le, i6_le0, i6_eq0, b10_0, ite_not, Int.reduceLT, Int.reduceLE, Int.reduceEq, Int.reduceNeg, if_true, if_false, ite_true, ite_false, reduceIte, eq_self, not_true, not_false_eq_true]; try refine tc_ite (fun _ => ?_) (fun _ => ?_) <;> try (exfalso; omega)))
        all_goals try omega
        refine ors _ ?_
        intro e3 y1 y2 y3 y4 y5
        have h202 := fun n Q => m202 (c := e3) (n := n) (Q := Q) hS y4 (by have := sto_len (drp O) 0; omega)
        cases hdO : drp O with
        | nil =>
          rw [hdO] at hr h202
          dsimp only at hr
          obtain ⟨f1, f2, f3, f4, f5, f6⟩ := prC hr
          have hh : (sto [] 0).headD (-1) = -1 := by decide
          rw [hh] at h202
          have hq' := hend f1.symm f2.symm e3 y1 (by rw [← f3, ← f4]; exact y2) y3 (by rw [y5, hdO]; rfl)
          repeat' (first | (simp (disch := first | omega | exact Nat.le_of_ble_eq_true rfl | exact rfl | assumption | (simp only [fr_at, Nat.reduceEqDiff, if_false, if_true, reduceIte]; first | assumption | omega)) only [r197_0, r197_1, r197_2, r197_5, r197_6r, r197_7, r197_8i, r197_13, r197_14, r197_20, r197_24, r197_25, v197_25_11, r197_31, r197_32, r197_35, r197_36r, r197_37, r197_40, r197_41, r197_43, v197_43_11, r197_46, r197_47, v197_47_11, r197_50, r197_51, r197_54, v197_54_11, r197_57i, r197_58, r197_59, r197_62, v197_62_11, r197_65i, r197_67, r197_68, r197_70, v197_70_11, r197_73, r197_77, r197_82, r197_87, r197_88, r197_90, v197_90_11, r197_93, r197_94, r197_98, r197_100, r197_103, r197_105, v197_105_11, r197_108, r197_109, r197_109A, r197_110, r197_113, r197_117, r197_118, r197_121, r197_122, r197_123, r197_126, r197_127r, r197_128, r197_131, r197_132, r197_134, v197_134_11, r197_137, r197_138, v197_138_11, r197_141, r197_146, r197_147, v197_147_11, r197_150, r197_155, r197_156, r197_157, r197_158, r197_161, v197_161_11, r197_164, r197_165, r197_165A, r197_166, r197_169, r197_170, r197_171, r197_174, r197_175, r197_175A, r197_176, r197_179, r197_180, r197_181, r197_184, r197_185, r197_185A, r197_186, r197_189, r197_190, r197_191, r197_194, r197_197, r197_198i, r197_199, r197_202, p11_241_11, g11_171_11, g11_174_11, p11_174_11, g11_241_11, g11_244_11, p11_244_11, mo_len, ms75 hS, mt75 hS, mo_s29, mo_g23, mo_g22, mo_s22, mo_g29, mo_g27, mo_s27, il_s, bl_s, bl_z, ll_s, is_s, bs_s, bs_z, ls_s, al_s, al_b, al_l, fr_at, fr_fr, Nat.reduceEqDiff, tc_gf3_s, tc_ql2_s, tc_ws_0, tc_ws_i, tc_ws_l, tc_ws_r, Nat.reduceLeDiff, Nat.reduceAdd, Nat.reduceLT, true_and, and_true, if_true, if_false, tc_K, Option.toList_some, Option.toList_none, List.nil_append, List.cons_append, ite_true, ite_false, Int.cast_ofNat_Int, reduceIte, i3_add_eq, i3_sub_eq, Int.add_sub_cancel, Int.add_neg_cancel_right, h202]) | (simp only [r197_10, r197_17, r197_21, r197_28, r197_74, r197_79, r197_84, r197_95, r197_114, r197_143, r197_152, i6_lt0, i6_0lt, i6_0le, i6_le0, i6_eq0, b10_0, ite_not, Int.reduceLT, Int.reduceLE, Int.reduceEq, Int.reduceNeg, if_true, if_false, ite_true, ite_false, reduceIte, eq_self, not_true, not_false_eq_true]; try refine tc_ite (fun _ => ?_) (fun _ => ?_) <;> try (exfalso; omega)))
          simp only [r197_9]
          repeat' (first | (simp (disch := first | omega | exact Nat.le_of_ble_eq_true rfl | exact rfl | assumption | (simp only [fr_at, Nat.reduceEqDiff, if_false, if_true, reduceIte]; first | assumption | omega)) only [r197_0, r197_1, r197_2, r197_5, r197_6r, r197_7, r197_8i, r197_13, r197_14, r197_20, r197_24, r197_25, v197_25_11, r197_31, r197_32, r197_35, r197_36r, r197_37, r197_40, r197_41, r197_43, v197_43_11, r197_46, r197_47, v197_47_11, r197_50, r197_51, r197_54, v197_54_11, r197_57i, r197_58, r197_59, r197_62, v197_62_11, r197_65i, r197_67, r197_68, r197_70, v197_70_11, r197_73, r197_77, r197_82, r197_87, r197_88, r197_90, v197_90_11, r197_93, r197_94, r197_98, r197_100, r197_103, r197_105, v197_105_11, r197_108, r197_109, r197_109A, r197_110, r197_113, r197_117, r197_118, r197_121, r197_122, r197_123, r197_126, r197_127r, r197_128, r197_131, r197_132, r197_134, v197_134_11, r197_137, r197_138, v197_138_11, r197_141, r197_146, r197_147, v197_147_11, r197_150, r197_155, r197_156, r197_157, r197_158, r197_161, v197_161_11, r197_164, r197_165, r197_165A, r197_166, r197_169, r197_170, r197_171, r197_174, r197_175, r197_175A, r197_176, r197_179, r197_180, r197_181, r197_184, r197_185, r197_185A, r197_186, r197_189, r197_190, r197_191, r197_194, r197_197, r197_198i, r197_199, r197_202, p11_241_11, g11_171_11, g11_174_11, p11_174_11, g11_241_11, g11_244_11, p11_244_11, mo_len, ms75 hS, mt75 hS, mo_s29, mo_g23, mo_g22, mo_s22, mo_g29, mo_g27, mo_s27, il_s, bl_s, bl_z, ll_s, is_s, bs_s, bs_z, ls_s, al_s, al_b, al_l, fr_at, fr_fr, Nat.reduceEqDiff, tc_gf3_s, tc_ql2_s, tc_ws_0, tc_ws_i, tc_ws_l, tc_ws_r, Nat.reduceLeDiff, Nat.reduceAdd, Nat.reduceLT, true_and, and_true, if_true, if_false, tc_K, Option.toList_some, Option.toList_none, List.nil_append, List.cons_append, ite_true, ite_false, Int.cast_ofNat_Int, reduceIte, i3_add_eq, i3_sub_eq, Int.add_sub_cancel, Int.add_neg_cancel_right]) | (simp only [r197_10, r197_17, r197_21, r197_28, r197_74, r197_79, r197_84, r197_95, r197_114, r197_143, r197_152, i6_lt0, i6_0lt, i6_0le, i6_le0, i6_eq0, b10_0, ite_not, Int.reduceLT, Int.reduceLE, Int.reduceEq, Int.reduceNeg, if_true, if_false, ite_true, ite_false, reduceIte, eq_self, not_true, not_false_eq_true]; try refine tc_ite (fun _ => ?_) (fun _ => ?_) <;> try (exfalso; omega)))
          all_goals first
            | exact hq'
            | omega
        | cons w O2 =>
          rw [hdO] at hr h202 y4 y5 q1 q2 q6 q4
          dsimp only at hr
          have hw := q5 w O2 hdO
          have hwr : 0 ≤ w ∧ w ≤ 3 := by
            rcases q1.1 with x | x
            · exact absurd x hw
            · exact x
          have hst0 : sto (w :: O2) 0 = 12 :: sto O2 w := by
            show (if w = -1 then 9 :: sto O2 0 else wts 0 ++ 12 :: sto O2 w) = _
            rw [if_neg hw]
            rfl
          rw [hst0] at h202 y4
          have hh : (12 :: sto O2 w).headD (-1) = 12 := rfl
          rw [hh] at h202
          have hlO : (w :: O2).length = O2.length + 1 := rfl
          have z29 : e3 75 29 = ((sto O2 w).length : Int) + 1 := by
            rw [y4.2]
            show (((sto O2 w).length + 1 : Nat) : Int) = _
            omega
          have z27 : e3 75 27 = (O2.length : Int) + 1 := by
            rw [y5, hlO]
            omega
          have hs4 := sto_len O2 w
          have h172 := fun n Q => c172t (c := e3) (n := n) (Q := Q) (N := N) (p := q) hS (by rw [y2.1]; exact hTP) y2.2.1 y2.2.2.1 (by omega)
          rw [y2.1] at h172
          have z22 : e3 75 22 = q := y2.2.2.1
          generalize hM29 : (((sto O2 w).length : Nat) : Int) = M9 at z29
          generalize hM27 : ((O2.length : Nat) : Int) = M7 at z27
          have hM0 : 0 ≤ M9 ∧ M9 ≤ 100 ∧ 0 ≤ M7 ∧ M7 ≤ 10 := by omega
          by_cases hb : byt g N q = 93
          · rw [if_pos hb] at hr
            have hblt := byt_lt hb (by omega)
            have e6 : pnb O = wn w + pnb O2 := by
              rw [← q2]
              show (if w = -1 then 0 else wn w) + pnb O2 = _
              rw [if_neg hw]
            have e7 : nnt O = nts O + nnt O2 := by
              rw [q3, hdO]
              show _ + ((if w = -1 then 1 else 0) + nnt O2) = _
              rw [if_neg hw]
              omega
            obtain ⟨l1, l2, l3, l4, l5, l6, l7, l8⟩ := id y2
            have hih := fun a3 a4 => ih (q + 1) w (tn T O W ++ t11 W) O2 (fr e3 75 (fu (fu (fu (e3 75) 22 (q + 1)) 29 M9) 27 M7)) a3 a4 ⟨l1, by rw [fr_same]; simp (disch := omega) only [fu_ne]; exact l2, by rw [fr_same]; simp (disch := omega) only [fu_ne, fu_same], by rw [fr_same]; simp (disch := omega) only [fu_ne]; exact l4, by rw [fr_same]; simp (disch := omega) only [fu_ne]; exact l5, by rw [fr_same]; simp (disch := omega) only [fu_ne]; exact l6, by rw [fr_same]; simp (disch := omega) only [fu_ne]; exact l7, l8⟩ (by rw [fr_same]; simp (disch := omega) only [fu_ne]; exact y3) ⟨y4.1.2, by rw [fr_same]; simp (disch := omega) only [fu_ne, fu_same]; omega⟩ (by rw [fr_same, fu_same]; omega) (y1.trans ⟨fun a a1 _ _ _ => fr_ne a1, fun i _ => ⟨rfl, rfl⟩, fun i i1 i2 i3 i4 i5 i6 => by rw [fr_same, fu_ne i4, fu_ne i6, fu_ne i1]⟩ (Int.le_refl _)) (by omega) q1.2 hwr.1 hwr.2 (by omega) (by omega) (by omega) (by omega) (by omega) hr
            rw [hb] at h172
            repeat' (first | (simp (disch := first | omega | exact Nat.le_of_ble_eq_true rfl | exact rfl | assumption | (simp (disch := omega) only [fr_ne, fr_same]; first | assumption | omega)) only [r197_0, r197_1, r197_2, r197_5, r197_6r, r197_7, r197_8i, r197_13, r197_14, r197_20, r197_24, r197_25, v197_25_11, r197_31, r197_32, r197_35, r197_36r, r197_37, r197_40, r197_41, r197_43, v197_43_11, r197_46, r197_47, v197_47_11, r197_50, r197_51, r197_54, v197_54_11, r197_57i, r197_58, r197_59, r197_62, v197_62_11, r197_65i, r197_67, r197_68, r197_70, v197_70_11, r197_73, r197_77, r197_82, r197_87, r197_88, r197_90, v197_90_11, r197_93, r197_94, r197_98, r197_100, r197_103, r197_105, v197_105_11, r197_108, r197_109, r197_109A, r197_110, r197_113, r197_117, r197_118, r197_121, r197_122, r197_123, r197_126, r197_127r, r197_128, r197_131, r197_132, r197_134, v197_134_11, r197_137, r197_138, v197_138_11, r197_141, r197_146, r197_147, v197_147_11, r197_150, r197_155, r197_156, r197_157, r197_158, r197_161, v197_161_11, r197_164, r197_165, r197_165A, r197_166, r197_169, r197_170, r197_171, r197_174, r197_175, r197_175A, r197_176, r197_179, r197_180, r197_181, r197_184, r197_185, r197_185A, r197_186, r197_189, r197_190, r197_191, r197_194, r197_197, r197_198i, r197_199, r197_202, p11_241_11, g11_171_11, g11_174_11, p11_174_11, g11_241_11, g11_244_11, p11_244_11, mo_len, ms75 hS, mt75 hS, mo_s29, mo_g23, mo_g22, mo_s22, mo_g29, mo_g27, mo_s27, il_s, bl_s, bl_z, ll_s, is_s, bs_s, bs_z, ls_s, al_s, al_b, al_l, fr_ne, fr_same, fr_fr, Nat.reduceEqDiff, tc_gf3_s, tc_ql2_s, tc_ws_0, tc_ws_i, tc_ws_l, tc_ws_r, Nat.reduceLeDiff, Nat.reduceAdd, Nat.reduceLT, true_and, and_true, if_true, if_false, tc_K, Option.toList_some, Option.toList_none, List.nil_append, List.cons_append, ite_true, ite_false, Int.cast_ofNat_Int, reduceIte, i3_add_eq, i3_sub_eq, Int.add_sub_cancel, Int.add_neg_cancel_right, ms75 hS, mt75 hS, h202, h172, z22, z29, z27, fu_ne, fu_same]) | (simp only [r197_10, r197_17, r197_21, r197_28, r197_74, r197_79, r197_84, r197_95, r197_114, r197_143, r197_152, i6_lt0, i6_0lt, i6_0le, i6_le0, i6_eq0, b10_0, ite_not, Int.reduceLT, Int.reduceLE, Int.reduceEq, Int.reduceNeg, if_true, if_false, ite_true, ite_false, reduceIte, eq_self, not_true, not_false_eq_true]; try refine tc_ite (fun _ => ?_) (fun _ => ?_) <;> try (exfalso; omega)))
            all_goals first
              | exact hih _ _
              | omega
          · rw [if_neg hb] at hr
            obtain ⟨f1, _⟩ := prC hr
            have hf : ¬ f = 0 := by omega
            have h175 := fun n Q => c175 (c := e3) (n := n) (Q := Q) (k := 0) (p := q) hS (by omega) (by omega)
            rw [if_pos y3, show 1 + 8 * q + 0 = f by omega] at h175
            generalize byt g N q = bb at h172 hb
            have hqx : ∀ F : Int → Int, (∀ i, ¬ i = 22 → ¬ i = 23 → ¬ i = 27 → ¬ i = 29 → F i = e3 75 i) → (F 22 = q + 1) → F 23 = f → ∀ a3 a4, tc_W 197 9 [rf 75, .inl 0, .inl 1, a3, a4] [] (hp L sh (fr e3 75 F)) n Q := fun F r1 r2 r3 a3 a4 => by
              refine m197_x hS (by rw [fr_same, r3]; exact hf) (hx hf _ (y1.trans ⟨fun a a1 _ _ _ => fr_ne a1, fun i _ => ⟨rfl, rfl⟩, fun i i1 i2 i3 i4 i5 i6 => by rw [fr_same, r1 i i1 i2 i4 i6]⟩ (Int.le_refl _)) ⟨by rw [fr_same, r2]; omega, by rw [fr_same, r1 28 (by omega) (by omega) (by omega) (by omega), y2.2.2.2.2.2.1]; omega⟩ (by rw [fr_same]; exact r3))
            repeat' (first | (simp (disch := first | omega | exact Nat.le_of_ble_eq_true rfl | exact rfl | assumption | (simp (disch := omega) only [fr_ne, fr_same]; first | assumption | omega)) only [r197_0, r197_1, r197_2, r197_5, r197_6r, r197_7, r197_8i, r197_13, r197_14, r197_20, r197_24, r197_25, v197_25_11, r197_31, r197_32, r197_35, r197_36r, r197_37, r197_40, r197_41, r197_43, v197_43_11, r197_46, r197_47, v197_47_11, r197_50, r197_51, r197_54, v197_54_11, r197_57i, r197_58, r197_59, r197_62, v197_62_11, r197_65i, r197_67, r197_68, r197_70, v197_70_11, r197_73, r197_77, r197_82, r197_87, r197_88, r197_90, v197_90_11, r197_93, r197_94, r197_98, r197_100, r197_103, r197_105, v197_105_11, r197_108, r197_109, r197_109A, r197_110, r197_113, r197_117, r197_118, r197_121, r197_122, r197_123, r197_126, r197_127r, r197_128, r197_131, r197_132, r197_134, v197_134_11, r197_137, r197_138, v197_138_11, r197_141, r197_146, r197_147, v197_147_11, r197_150, r197_155, r197_156, r197_157, r197_158, r197_161, v197_161_11, r197_164, r197_165, r197_165A, r197_166, r197_169, r197_170, r197_171, r197_174, r197_175, r197_175A, r197_176, r197_179, r197_180, r197_181, r197_184, r197_185, r197_185A, r197_186, r197_189, r197_190, r197_191, r197_194, r197_197, r197_198i, r197_199, r197_202, p11_241_11, g11_171_11, g11_174_11, p11_174_11, g11_241_11, g11_244_11, p11_244_11, mo_len, ms75 hS, mt75 hS, mo_s29, mo_g23, mo_g22, mo_s22, mo_g29, mo_g27, mo_s27, il_s, bl_s, bl_z, ll_s, is_s, bs_s, bs_z, ls_s, al_s, al_b, al_l, fr_ne, fr_same, fr_fr, Nat.reduceEqDiff, tc_gf3_s, tc_ql2_s, tc_ws_0, tc_ws_i, tc_ws_l, tc_ws_r, Nat.reduceLeDiff, Nat.reduceAdd, Nat.reduceLT, true_and, and_true, if_true, if_false, tc_K, Option.toList_some, Option.toList_none, List.nil_append, List.cons_append, ite_true, ite_false, Int.cast_ofNat_Int, reduceIte, i3_add_eq, i3_sub_eq, Int.add_sub_cancel, Int.add_neg_cancel_right, ms75 hS, mt75 hS, h202, h172, z22, h175, z29, z27, fu_ne, fu_same]) | (simp only [r197_10, r197_17, r197_21, r197_28, r197_74, r197_79, r197_84, r197_95, r197_114, r197_143, r197_152, i6_lt0, i6_0lt, i6_0le, i6_le0, i6_eq0, b10_0, ite_not, Int.reduceLT, Int.reduceLE, Int.reduceEq, Int.reduceNeg, if_true, if_false, ite_true, ite_false, reduceIte, eq_self, not_true, not_false_eq_true]; try refine tc_ite (fun _ => ?_) (fun _ => ?_) <;> try (exfalso; omega)))
            all_goals first
              | (refine hqx _ (fun i i1 i2 i3 i4 => ?_) ?_ ?_ _ _
                 · rw [fu_ne i3, fu_ne i4, fu_ne i1, fu_ne i2]
                 · simp (disch := omega) only [fu_ne, fu_same]
                 · simp (disch := omega) only [fu_ne, fu_same])
              | omega
      · -- or
        rw [if_pos ho1] at hr
        have hrn := stq_rn (hvo.trans ho1)
        have hr2 := rn_rng (g := g) (n := N) (p := q)
        obtain ⟨f1, f2, f3, f4, f5, f6⟩ := prC hr
        repeat' (first | (simp (disch := first | omega | exact Nat.le_of_ble_eq_true rfl | exact rfl | assumption | (simp only [fr_at, Nat.reduceEqDiff, if_false, if_true, reduceIte]; first | assumption | omega)) only [r197_0, r197_1, r197_2, r197_5, r197_6r, r197_7, r197_8i, r197_13, r197_14, r197_20, r197_24, r197_25, v197_25_11, r197_31, r197_32, r197_35, r197_36r, r197_37, r197_40, r197_41, r197_43, v197_43_11, r197_46, r197_47, v197_47_11, r197_50, r197_51, r197_54, v197_54_11, r197_57i, r197_58, r197_59, r197_62, v197_62_11, r197_65i, r197_67, r197_68, r197_70, v197_70_11, r197_73, r197_77, r197_82, r197_87, r197_88, r197_90, v197_90_11, r197_93, r197_94, r197_98, r197_100, r197_103, r197_105, v197_105_11, r197_108, r197_109, r197_109A, r197_110, r197_113, r197_117, r197_118, r197_121, r197_122, r197_123, r197_126, r197_127r, r197_128, r197_131, r197_132, r197_134, v197_134_11, r197_137, r197_138, v197_138_11, r197_141, r197_146, r197_147, v197_147_11, r197_150, r197_155, r197_156, r197_157, r197_158, r197_161, v197_161_11, r197_164, r197_165, r197_165A, r197_166, r197_169, r197_170, r197_171, r197_174, r197_175, r197_175A, r197_176, r197_179, r197_180, r197_181, r197_184, r197_185, r197_185A, r197_186, r197_189, r197_190, r197_191, r197_194, r197_197, r197_198i, r197_199, r197_202, p11_241_11, g11_171_11, g11_174_11, p11_174_11, g11_241_11, g11_244_11, p11_244_11, mo_len, ms75 hS, mt75 hS, mo_s29, mo_g23, mo_g22, mo_s22, mo_g29, mo_g27, mo_s27, il_s, bl_s, bl_z, ll_s, is_s, bs_s, bs_z, ls_s, al_s, al_b, al_l, fr_at, fr_fr, Nat.reduceEqDiff, tc_gf3_s, tc_ql2_s, tc_ws_0, tc_ws_i, tc_ws_l, tc_ws_r, Nat.reduceLeDiff, Nat.reduceAdd, Nat.reduceLT, true_and, and_true, if_true, if_false, tc_K, Option.toList_some, Option.toList_none, List.nil_append, List.cons_append, ite_true, ite_false, Int.cast_ofNat_Int, reduceIte, i3_add_eq, i3_sub_eq, Int.add_sub_cancel, Int.add_neg_cancel_right, hv0, ho1]) | (simp only [r197_10, r197_17, r197_21, r197_28, r197_74, r197_79, r197_84, r197_95, r197_114, r197_143, r197_152, i6_lt0, i6_0lt, i6_0le, i6_le0, i6_eq0, b10_0, ite_not, Int.reduceLT, Int.reduceLE, Int.reduceEq, Int.reduceNeg, if_true, if_false, ite_true, ite_false, reduceIte, eq_self, not_true, not_false_eq_true]; try refine tc_ite (fun _ => ?_) (fun _ => ?_) <;> try (exfalso; omega)))
        all_goals try omega
        refine ors _ ?_
        intro e3 y1 y2 y3 y4 y5
        have hs0 := sto_len (drp O) 0
        obtain ⟨e4, b1, b2, b3, b4, b5, b6⟩ := m199 (c := e3) (k := 11) (D := (drp O).length) (p := q) (b := 0) hS y4 (by omega) y5 (by omega) y2.2.2.1 (by omega) y3 (by rw [if_neg (by omega)])
        have e42 : e4 75 22 = q := by rw [b6 22 (by omega) (by omega) (by omega)]; exact y2.2.2.1
        rw [if_neg (fun x => by omega)] at b4
        obtain ⟨l1, l2, l3, l4, l5, l6, l7, l8⟩ := id y2
        have hfin := fun a3 a4 => hgo f1.symm f2.symm (fr e4 75 (fu (e4 75) 22 (q + 2))) a3 a4 (y1.trans ⟨fun a a1 _ _ a4 => by rw [fr_ne a1]; exact b5 a a1 a4, fun i _ => ⟨by rw [fr_ne (by omega), b5 96 (by omega) (by omega)], by rw [fr_ne (by omega), b5 97 (by omega) (by omega)]⟩, fun i i1 i2 i3 i4 i5 i6 => by rw [fr_same, fu_ne i1, b6 i i2 i4 i6]⟩ (Int.le_refl _)) (by
          rw [← f3, ← f4]
          exact ⟨by rw [fr_ne (by omega), b5 95 (by omega) (by omega)]; exact l1, by rw [fr_same, fu_ne (by omega), b6 21 (by omega) (by omega) (by omega)]; exact l2, by rw [fr_same, fu_same], by rw [fr_same, fu_ne (by omega), b6 24 (by omega) (by omega) (by omega)]; exact l4, by rw [fr_same, fu_ne (by omega), b6 26 (by omega) (by omega) (by omega)]; exact l5, by rw [fr_same, fu_ne (by omega), b6 28 (by omega) (by omega) (by omega)]; exact l6, by rw [fr_same, fu_ne (by omega), b6 30 (by omega) (by omega) (by omega)]; exact l7, by rw [fr_ne (show ¬ 96 = 75 by omega), fr_ne (show ¬ 97 = 75 by omega), b5 96 (by omega) (by omega), b5 97 (by omega) (by omega)]; exact l8⟩) (by rw [fr_same, fu_ne (by omega)]; exact b4) (by
          rw [← f5, ← f6, hR2 2]
          have e0 := hR2 0
          have w0 : wts 0 = [] := rfl
          have w2 : wts 2 = [11] := rfl
          rw [w0, List.nil_append] at e0
          rw [w2, ← e0]
          exact ⟨by rw [fr_ne (by omega)]; exact b2.1, by rw [fr_same, fu_ne (by omega)]; exact b2.2⟩) (by rw [fr_same, fu_ne (by omega), b3, ← f5]; omega)
        repeat' (first | (simp (disch := first | omega | exact Nat.le_of_ble_eq_true rfl | exact rfl | assumption | (simp only [fr_at, Nat.reduceEqDiff, if_false, if_true, reduceIte]; first | assumption | omega)) only [r197_0, r197_1, r197_2, r197_5, r197_6r, r197_7, r197_8i, r197_13, r197_14, r197_20, r197_24, r197_25, v197_25_11, r197_31, r197_32, r197_35, r197_36r, r197_37, r197_40, r197_41, r197_43, v197_43_11, r197_46, r197_47, v197_47_11, r197_50, r197_51, r197_54, v197_54_11, r197_57i, r197_58, r197_59, r197_62, v197_62_11, r197_65i, r197_67, r197_68, r197_70, v197_70_11, r197_73, r197_77, r197_82, r197_87, r197_88, r197_90, v197_90_11, r197_93, r197_94, r197_98, r197_100, r197_103, r197_105, v197_105_11, r197_108, r197_109, r197_109A, r197_110, r197_113, r197_117, r197_118, r197_121, r197_122, r197_123, r197_126, r197_127r, r197_128, r197_131, r197_132, r197_134, v197_134_11, r197_137, r197_138, v197_138_11, r197_141, r197_146, r197_147, v197_147_11, r197_150, r197_155, r197_156, r197_157, r197_158, r197_161, v197_161_11, r197_164, r197_165, r197_165A, r197_166, r197_169, r197_170, r197_171, r197_174, r197_175, r197_175A, r197_176, r197_179, r197_180, r197_181, r197_184, r197_185, r197_185A, r197_186, r197_189, r197_190, r197_191, r197_194, r197_197, r197_198i, r197_199, r197_202, p11_241_11, g11_171_11, g11_174_11, p11_174_11, g11_241_11, g11_244_11, p11_244_11, mo_len, ms75 hS, mt75 hS, mo_s29, mo_g23, mo_g22, mo_s22, mo_g29, mo_g27, mo_s27, il_s, bl_s, bl_z, ll_s, is_s, bs_s, bs_z, ls_s, al_s, al_b, al_l, fr_at, fr_fr, Nat.reduceEqDiff, tc_gf3_s, tc_ql2_s, tc_ws_0, tc_ws_i, tc_ws_l, tc_ws_r, Nat.reduceLeDiff, Nat.reduceAdd, Nat.reduceLT, true_and, and_true, if_true, if_false, tc_K, Option.toList_some, Option.toList_none, List.nil_append, List.cons_append, ite_true, ite_false, Int.cast_ofNat_Int, reduceIte, i3_add_eq, i3_sub_eq, Int.add_sub_cancel, Int.add_neg_cancel_right, hv0, ho1, b1, e42]) | (simp only [r197_10, r197_17, r197_21, r197_28, r197_74, r197_79, r197_84, r197_95, r197_114, r197_143, r197_152, i6_lt0, i6_0lt, i6_0le, i6_le0, i6_eq0, b10_0, ite_not, Int.reduceLT, Int.reduceLE, Int.reduceEq, Int.reduceNeg, if_true, if_false, ite_true, ite_false, reduceIte, eq_self, not_true, not_false_eq_true]; try refine tc_ite (fun _ => ?_) (fun _ => ?_) <;> try (exfalso; omega)))
        all_goals first
          | exact hfin _ _
          | omega
    · -- and
      rw [if_pos hv1] at hr
      have ho0 : vo = 0 := by
        rcases hvo01 with x | x
        · exact x
        · exact absurd ⟨hv1, x⟩ hexc
      have hrn := stq_rn (hva.trans hv1)
      have hr2 := rn_rng (g := g) (n := N) (p := q)
      obtain ⟨f1, f2, f3, f4, f5, f6⟩ := prC hr
      obtain ⟨e4, b1, b2, b3, b4, b5, b6⟩ := m199 (c := e2) (k := 10) (D := (drp O).length) (p := q) (b := 0) hS i4 (by omega) i5 (by omega) e22 (by omega) i3 (by rw [if_neg (by omega)])
      have e42 : e4 75 22 = q := by rw [b6 22 (by omega) (by omega) (by omega)]; exact e22
      rw [if_neg (fun x => by omega)] at b4
      obtain ⟨l1, l2, l3, l4, l5, l6, l7, l8⟩ := id i2
      have hwo : wts (W - W % 2 + 1) = 10 :: wts (W - W % 2) := by
        rcases (by omega : W = 0 ∨ W = 1 ∨ W = 2 ∨ W = 3) with rfl | rfl | rfl | rfl <;> decide
      have hfin := fun a3 a4 => hgo f1.symm f2.symm (fr e4 75 (fu (e4 75) 22 (q + 3))) a3 a4 (hM3.trans ⟨fun a a1 _ _ a4 => by rw [fr_ne a1]; exact b5 a a1 a4, fun i _ => ⟨by rw [fr_ne (by omega), b5 96 (by omega) (by omega)], by rw [fr_ne (by omega), b5 97 (by omega) (by omega)]⟩, fun i i1 i2 i3 i4 i5 i6 => by rw [fr_same, fu_ne i1, b6 i i2 i4 i6]⟩ (Int.le_refl _)) (by
        rw [← f3, ← f4]
        exact ⟨by rw [fr_ne (by omega), b5 95 (by omega) (by omega)]; exact l1, by rw [fr_same, fu_ne (by omega), b6 21 (by omega) (by omega) (by omega)]; exact l2, by rw [fr_same, fu_same], by rw [fr_same, fu_ne (by omega), b6 24 (by omega) (by omega) (by omega)]; exact l4, by rw [fr_same, fu_ne (by omega), b6 26 (by omega) (by omega) (by omega)]; exact l5, by rw [fr_same, fu_ne (by omega), b6 28 (by omega) (by omega) (by omega)]; exact l6, by rw [fr_same, fu_ne (by omega), b6 30 (by omega) (by omega) (by omega)]; exact l7, by rw [fr_ne (show ¬ 96 = 75 by omega), fr_ne (show ¬ 97 = 75 by omega), b5 96 (by omega) (by omega), b5 97 (by omega) (by omega)]; exact l8⟩) (by rw [fr_same, fu_ne (by omega)]; exact b4) (by
        rw [← f5, ← f6, hR2 (W - W % 2 + 1), hwo, List.cons_append, ← hR2 (W - W % 2)]
        exact ⟨by rw [fr_ne (by omega)]; exact b2.1, by rw [fr_same, fu_ne (by omega)]; exact b2.2⟩) (by rw [fr_same, fu_ne (by omega), b3, ← f5]; omega)
      repeat' (first | (simp (disch := first | omega | exact Nat.le_of_ble_eq_true rfl | exact rfl | assumption | (simp only [fr_at, Nat.reduceEqDiff, if_false, if_true, reduceIte]; first | assumption | omega)) only [r197_0, r197_1, r197_2, r197_5, r197_6r, r197_7, r197_8i, r197_13, r197_14, r197_20, r197_24, r197_25, v197_25_11, r197_31, r197_32, r197_35, r197_36r, r197_37, r197_40, r197_41, r197_43, v197_43_11, r197_46, r197_47, v197_47_11, r197_50, r197_51, r197_54, v197_54_11, r197_57i, r197_58, r197_59, r197_62, v197_62_11, r197_65i, r197_67, r197_68, r197_70, v197_70_11, r197_73, r197_77, r197_82, r197_87, r197_88, r197_90, v197_90_11, r197_93, r197_94, r197_98, r197_100, r197_103, r197_105, v197_105_11, r197_108, r197_109, r197_109A, r197_110, r197_113, r197_117, r197_118, r197_121, r197_122, r197_123, r197_126, r197_127r, r197_128, r197_131, r197_132, r197_134, v197_134_11, r197_137, r197_138, v197_138_11, r197_141, r197_146, r197_147, v197_147_11, r197_150, r197_155, r197_156, r197_157, r197_158, r197_161, v197_161_11, r197_164, r197_165, r197_165A, r197_166, r197_169, r197_170, r197_171, r197_174, r197_175, r197_175A, r197_176, r197_179, r197_180, r197_181, r197_184, r197_185, r197_185A, r197_186, r197_189, r197_190, r197_191, r197_194, r197_197, r197_198i, r197_199, r197_202, p11_241_11, g11_171_11, g11_174_11, p11_174_11, g11_241_11, g11_244_11, p11_244_11, mo_len, ms75 hS, mt75 hS, mo_s29, mo_g23, mo_g22, mo_s22, mo_g29, mo_g27, mo_s27, il_s, bl_s, bl_z, ll_s, is_s, bs_s, bs_z, ls_s, al_s, al_b, al_l, fr_at, fr_fr, Nat.reduceEqDiff, tc_gf3_s, tc_ql2_s, tc_ws_0, tc_ws_i, tc_ws_l, tc_ws_r, Nat.reduceLeDiff, Nat.reduceAdd, Nat.reduceLT, true_and, and_true, if_true, if_false, tc_K, Option.toList_some, Option.toList_none, List.nil_append, List.cons_append, ite_true, ite_false, Int.cast_ofNat_Int, reduceIte, i3_add_eq, i3_sub_eq, Int.add_sub_cancel, Int.add_neg_cancel_right, hv1, ho0, b1, e42]) | (simp only [r197_10, r197_17, r197_21, r197_28, r197_74, r197_79, r197_84, r197_95, r197_114, r197_143, r197_152, i6_lt0, i6_0lt, i6_0le, i6_le0, i6_eq0, b10_0, ite_not, Int.reduceLT, Int.reduceLE, Int.reduceEq, Int.reduceNeg, if_true, if_false, ite_true, ite_false, reduceIte, eq_self, not_true, not_false_eq_true]; try refine tc_ite (fun _ => ?_) (fun _ => ?_) <;> try (exfalso; omega)))
      all_goals first
        | exact hfin _ _
        | omega
theorem m197_l (hS : MS L sh) (hST : STRS sh c) (hTP : TP g N) (hs : 0 ≤ s ∧ s ≤ 5) (hz0 : 0 ≤ z) {Z : Int} {K : Nat} (hK : N ≤ K) (hx : ¬ f = 0 → ∀ e, MTQ c e Z → RN2 e N → e 75 23 = f → Q none (hp L sh e) n) (hend : f = 0 → ∀ e, MTQ c e Z → ME e g N p' m' s z T' → e 75 23 = 0 → e 75 27 = 0 → Q none (hp L sh e) n) : ∀ (k : Nat) (p m W : Int) (T : List Tk) (O : List Int) (d : Nat → Int → Int) (a3 a4 : AV), ME d g N p m s z T → d 75 23 = 0 → SR d (sto O W) → d 75 27 = O.length → MTQ c d Z → Z ≤ 300 * s + (z + T.length) → okO O → 0 ≤ W → W ≤ 3 → O.length ≤ 10 → 0 ≤ p → p ≤ N → N - p < k → 0 ≤ m → m ≤ 60 → 3 * (z + T.length + wn W + pnb O + nnt O) ≤ 7 * m + p → tst g N K k p m T O W = (f, p', m', T') → tc_W 197 9 [rf 75, .inl 1, .inl 1, a3, a4] [] (hp L sh d) n Q := by
  have hN := hTP.1
  intro k
  induction k with
  | zero => intro p m W T O d a3 a4 _ _ _ _ _ _ _ _ _ _ _ _ h; omega
  | succ k ih =>
    intro p m W T O d a3 a4 hE h23 hSR hD hM hZ hok hW1 hW2 hOl hp1 hp2 hk hm1 hm2 hz hr
    rcases ho : opn g N K p O W with ⟨f1, p1, O1, W1⟩
    rcases hf : fct g N K p1 m T with ⟨f2, p2, m2, T2⟩
    rcases hc : cls g N 11 p2 T2 O1 W1 with ⟨f3, mo, p3, T3, O3, W3⟩
    rw [tst_st ho hf hc] at hr
    have hwn := wn_rng W
    have hpn := pnb_nn O
    have hnn := nnt_nn O
    refine m197_o (c := c) (T := T) (m := m) hS hST hTP hs hz0 (Z := Z) (K := K) hK ⟨hm1, hm2⟩ hf ?_ ?_ K p W O d a3 a4 hE h23 hSR hD hM hZ hok hW1 hW2 hOl hp1 hp2 (by omega) (by omega) ho
    · intro e j1 j2 j3 j4 j5
      have hff : e 75 23 = f := by
        by_cases q1 : f1 = 0
        · rw [if_neg (fun x => x q1)] at hr
          have h2 := j5 q1
          rw [if_pos (by omega)] at hr
          rw [h2]
          exact (prL hr).1
        · rw [if_pos q1] at hr
          rw [j4 q1]
          exact (prL hr).1
      exact hx (by rw [← hff]; exact j3) e j1 ⟨by have := j2.1; omega, j2.2⟩ hff
    · intro q1 q2 e a3 a4 j1 j2 j3 j4 j5
      subst q1 q2
      rw [if_neg (fun x => x rfl), if_neg (fun x => x rfl)] at hr
      obtain ⟨a1, a2, a3', a4', a5, a6, a7⟩ := opn_g K p p1 W W1 O O1 ho hok hW1 hW2 hOl hp1 hp2
      obtain ⟨b1, b2, b3, b4, b5, b6, b7⟩ := fct_g hf (by omega) [] []
      have hwn1 := wn_rng W1
      have hpn1 := pnb_nn O1
      have hnn1 := nnt_nn O1
      refine m197_c (c := c) (f := f3) (mo := mo) (p' := p3) (T' := T3) (O' := O3) (W' := W3) (m := m2) hS hST hTP hs hz0 (Z := Z) (by omega) ?_ ?_ ?_ 11 p2 W1 T2 O1 e a3 a4 j2 j3 j4 j5 j1 (by omega) a1 a2.1 a2.2 a3' (by omega) (by omega) (by omega) (by omega) hc
      · intro q3 e2 k1 k2 k3
        rw [if_pos q3] at hr
        have hff := (prL hr).1
        exact hx (by omega) e2 k1 k2 (by rw [k3]; exact hff)
      · intro q3 q4 e2 k1 k2 k3 k27
        rw [if_neg (fun x => x q3), if_neg (by omega)] at hr
        obtain ⟨e1, e2', e3, e4⟩ := prL hr
        refine hend e1.symm e2 k1 ?_ k3 k27
        rw [← e2', ← e3, ← e4]
        exact k2
      · intro q3 q4 e2 a3 a4 k1 k2 k3 k4 k5
        subst q3 q4
        rw [if_neg (fun x => x rfl), if_pos rfl] at hr
        obtain ⟨c1, c2, c3, c4, c5, c6⟩ := cls_g 11 p2 1 p3 W1 W3 T2 T3 O1 O3 hc a1 a2.1 a2.2 (by omega) (by omega) (by omega)
        obtain ⟨i1, i2, i3, i4, i5, i6⟩ := c5 rfl
        exact ih p3 m2 W3 T3 O3 e2 a3 a4 k2 k3 k4 k5 k1 (by omega) i2 i3.1 i3.2 (by omega) (by omega) (by omega) (by omega) (by omega) (by omega) (by omega) hr
theorem m197 (hS : MS L sh) (hST : STRS sh c) (hTP : TP g N) (hE : ME c g N p m s z []) (h23 : c 75 23 = 0) (h27 : c 75 27 = 0) (hp0 : 0 ≤ p ∧ p ≤ N) (hm : 0 ≤ m ∧ m ≤ 60) (hs : 0 ≤ s ∧ s ≤ 5) (hz : 0 ≤ z ∧ 3 * z ≤ 7 * m + p) {K : Nat} (hK : N ≤ K) (hb : tst g N K (K + 1) p m [] [] 0 = (f, p', m', T'))
    (hx : ¬ f = 0 → ∀ e, MTQ c e (300 * s + z) → RN2 e N → e 75 23 = f → Q none (hp L sh e) n)
    (hend : f = 0 → ∀ e, MTQ c e (300 * s + z) → ME e g N p' m' s z T' → e 75 23 = 0 → e 75 27 = 0 → Q none (hp L sh e) n) : tc_C 197 [rf 75] (hp L sh c) n Q := by
  have hl0 : (([] : List Tk).length : Int) = 0 := rfl
  have w0 : wn 0 = 0 := by decide
  have pn0 : pnb [] = 0 := rfl
  have nn0 : nnt [] = 0 := rfl
  obtain ⟨h1, h2, h3, h4, h5, h6, h7, h8⟩ := hE
  show tc_W 197 0 [rf 75, tc_nil, tc_nil, tc_nil, tc_nil] [] _ _ Q
  repeat' (first | (simp (disch := first | omega | exact Nat.le_of_ble_eq_true rfl | exact rfl | assumption | (simp only [fr_at, Nat.reduceEqDiff, if_false, if_true, reduceIte]; first | assumption | omega)) only [r197_0, r197_1, r197_2, r197_5, r197_6r, r197_7, r197_8i, r197_13, r197_14, r197_20, r197_24, r197_25, v197_25_11, r197_31, r197_32, r197_35, r197_36r, r197_37, r197_40, r197_41, r197_43, v197_43_11, r197_46, r197_47, v197_47_11, r197_50, r197_51, r197_54, v197_54_11, r197_57i, r197_58, r197_59, r197_62, v197_62_11, r197_65i, r197_67, r197_68, r197_70, v197_70_11, r197_73, r197_77, r197_82, r197_87, r197_88, r197_90, v197_90_11, r197_93, r197_94, r197_98, r197_100, r197_103, r197_105, v197_105_11, r197_108, r197_109, r197_109A, r197_110, r197_113, r197_117, r197_118, r197_121, r197_122, r197_123, r197_126, r197_127r, r197_128, r197_131, r197_132, r197_134, v197_134_11, r197_137, r197_138, v197_138_11, r197_141, r197_146, r197_147, v197_147_11, r197_150, r197_155, r197_156, r197_157, r197_158, r197_161, v197_161_11, r197_164, r197_165, r197_165A, r197_166, r197_169, r197_170, r197_171, r197_174, r197_175, r197_175A, r197_176, r197_179, r197_180, r197_181, r197_184, r197_185, r197_185A, r197_186, r197_189, r197_190, r197_191, r197_194, r197_197, r197_198i, r197_199, r197_202, p11_241_11, g11_171_11, g11_174_11, p11_174_11, g11_241_11, g11_244_11, p11_244_11, mo_len, ms75 hS, mt75 hS, mo_s29, mo_g23, mo_g22, mo_s22, mo_g29, mo_g27, mo_s27, il_s, bl_s, bl_z, ll_s, is_s, bs_s, bs_z, ls_s, al_s, al_b, al_l, fr_at, fr_fr, Nat.reduceEqDiff, tc_gf3_s, tc_ql2_s, tc_ws_0, tc_ws_i, tc_ws_l, tc_ws_r, Nat.reduceLeDiff, Nat.reduceAdd, Nat.reduceLT, true_and, and_true, if_true, if_false, tc_K, Option.toList_some, Option.toList_none, List.nil_append, List.cons_append, ite_true, ite_false, Int.cast_ofNat_Int, reduceIte, i3_add_eq, i3_sub_eq, Int.add_sub_cancel, Int.add_neg_cancel_right]) | (simp only [r197_10, r197_17, r197_21, r197_28, r197_74, r197_79, r197_84, r197_95, r197_114, r197_143, r197_152, i6_lt0, i6_0lt, i6_0le, i6_le0, i6_eq0, b10_0, ite_not, Int.reduceLT, Int.reduceLE, Int.reduceEq, Int.reduceNeg, if_true, if_false, ite_true, ite_false, reduceIte, eq_self, not_true, not_false_eq_true]; try refine tc_ite (fun _ => ?_) (fun _ => ?_) <;> try (exfalso; omega)))
  refine m197_l (c := c) (Z := 300 * s + z) (K := K) (f := f) (p' := p') (m' := m') (T' := T') hS hST hTP hs hz.1 hK hx hend (K + 1) p m 0 [] [] _ tc_nil tc_nil ⟨h1, ?_, ?_, ?_, ?_, ?_, ?_, rfl⟩ ?_ ⟨trivial, ?_⟩ ?_ ⟨fun a a1 _ _ _ => fr_ne a1, fun i _ => ⟨rfl, rfl⟩, fun i i1 i2 i3 i4 i5 i6 => by rw [fr_same, fu_ne i6]⟩ (by rw [hl0]; omega) trivial (by omega) (by omega) (by show (0 : Nat) ≤ 10; omega) hp0.1 hp0.2 (by omega) hm.1 hm.2 (by rw [w0, pn0, nn0, hl0]; omega) hb
  · rw [fr_same, fu_ne (by omega)]; exact h2
  · rw [fr_same, fu_ne (by omega)]; exact h3
  · rw [fr_same, fu_ne (by omega)]; exact h4
  · rw [fr_same, fu_ne (by omega)]; exact h5
  · rw [fr_same, fu_ne (by omega)]; exact h6
  · rw [fr_same, fu_ne (by omega)]; exact h7
  · rw [fr_same, fu_ne (by omega)]; exact h23
  · rw [fr_same, fu_same]; rfl
  · rw [fr_same, fu_ne (by omega)]; exact h27
end TESTP

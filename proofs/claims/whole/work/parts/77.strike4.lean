/-! the class: a WAVE, whole -/
/-- the rule that the sea faces -/
def LA (L : Nat) (sh : Nat → SH) (c : Nat → Int → Int) (lo : Option Nat) (la : Option Law) : Prop := (lo = none ∧ la = none) ∨ ∃ lr l, lo = some lr ∧ la = some l ∧ CL L sh c lr l
/-- a Sand lies apart from the rule -/
def AL (r : Nat) (lo : Option Nat) : Prop := ∀ lr, lo = some lr → r + 3 < lr ∨ lr + 2 < r
section CWAVE4
variable {L : Nat} {sh : Nat → SH} {c : Nat → Int → Int} {n : Nat} {Q : Option AV → List SC → Nat → Prop} {r s : Nat} {lo : Option Nat} {b σ : Nat → Int → Int} {la : Option Law} {F : Int}
theorem WB.n25 (hb : WB b) : 0 ≤ b 0 0 * b 0 1 ∧ b 0 0 * b 0 1 ≤ 25 := by
  have h1 := hb.1
  have h3 : b 0 0 * b 0 1 ≤ 5 * 5 := Int.mul_le_mul h1.2.1 h1.2.2.2 (by omega) (by omega)
  have h4 := Int.mul_nonneg (show 0 ≤ b 0 0 by omega) (show 0 ≤ b 0 1 by omega)
  omega
/-- one cell -/
theorem c90_x (hE : SeaS L sh (some s) lo) (hO : ShoS L sh s) (hs : s = 30 ∨ 115 ≤ s) (hR : SanS L sh r) (hr : AP r s) (hb : WB b) (hw : WS b σ) (hl : LA L sh c lo la) (hB : SHO b s c) (h0 : σ 0 = c (r + 1)) (h2 : σ 2 = c (r + 2)) (h3 : c r 3 = (mk (stn (σ 3)) (b 0 2).toNat : Nat)) (h4 : c r 4 = (mk (fun x => decide (σ 1 x = 1)) (b 0 0 * b 0 1).toNat : Nat)) (h6 : c r 6 = σ 4 0) {g : Int → Int} {k : Int} (hk : 0 ≤ k) (hk2 : k < b 0 0 * b 0 1) (hg : c 50 k = g k)
    (ih : ∀ d, (∀ a, ¬ a = 52 → ¬ a = 54 → ¬ a = 55 → d a = c a) → d 52 = fu (c 52) k (tks b σ la F g k) → tc_W 90 14 [rf 49, rf r, .inl F, .inl (mk (fun j => decide (0 < g j)) (k + 1).toNat : Nat), .inl (k + 1)] [] (hp L sh d) n Q) : tc_W 90 14 [rf 49, rf r, .inl F, .inl (mk (fun j => decide (0 < g j)) k.toNat : Nat), .inl k] [] (hp L sh c) n Q := by
  obtain ⟨hr1, hr2⟩ := id hr
  have hN := hb.n25
  have hc2 := hB.1.2.1
  simp only [r90_14]
  by_cases hgk : 0 < g k
  · have eor := mk_or (p := fun j => decide (0 < g j)) hk (by omega) (decide_eq_true hgk)
    rcases hl with ⟨rfl, rfl⟩ | ⟨lr, l, rfl, rfl, hcl⟩
    · have et : tks b σ none F g k = if 3 ≤ g k then 1 else 0 := if_pos hgk
      repeat' (first | (simp (disch := first | omega | exact Nat.le_of_ble_eq_true rfl | exact rfl | assumption | (simp (disch := omega) only [fr_ne, fr_same]; first | assumption | omega)) only [r90_0, r90_1, r90_2, r90_5, r90_6, v90_6_7, r90_9, r90_10i, r90_11, r90_12i, r90_16, r90_17, r90_20, r90_26, r90_27, r90_30, r90_32, r90_33, r90_34, r90_35, r90_38, r90_40, r90_44, r90_45, r90_46, r90_48, r90_49, r90_50i, r90_51, r90_52, r90_55, r90_55A, r90_58, r90_59, r90_62, r90_64, r90_65, r90_68, r90_69, r90_70, r90_72, r90_73, v90_73_7, r90_76, r90_77, r90_80, v90_80_1, r90_83, r90_84, r90_87, r90_88, r90_91, r90_93, r90_94, r90_98, r90_99, r90_102, r90_104, r90_105, r90_106i, r90_109, r90_112, r90_113i, r90_117, r90_118, r90_121, r90_127, r90_128, r90_131, r90_133, r90_134, r90_135, r90_138, r90_140, r90_141, r90_142, r90_145, r90_147, r90_148, r90_149, r90_152, r90_153i, r90_156, r90_159, r90_160, r90_161, v90_161_7, r90_164, r90_165, r90_165A, r90_166, r90_169, r90_170, r90_173, r90_174, r90_177, v90_177_8, r90_180, r90_181, r90_184, r90_185, r90_186, r90_189, r90_190, r90_193, r90_194, r90_197, r90_198, r90_199, r90_202, r90_205, r90_206, r90_209, g7_79_5, g7_9_7, g7_41_8, g7_26_7, g7_19_7, g7_15_7, g7_38_7, g7_97_5, g7_100_5, p7_97_5, p7_106_5, g7_66_5, p7_66_5, o5_len, o5_g0, o7_len, o7_g0, o8_len, o8_g2, o7_g4, o7_g2, o7_g1, o7_g7, o5_g5, o5_g3, o5_s5, o5_s4, o5_g6, o5_s6, il_s, bl_s, bl_z, ll_s, is_s, bs_s, bs_z, ls_s, al_s, al_b, al_l, fr_ne, fr_same, fr_fr, Nat.reduceEqDiff, tc_gf3_s, tc_ql2_s, tc_ws_0, tc_ws_i, tc_ws_l, tc_ws_r, Nat.reduceLeDiff, Nat.reduceAdd, Nat.reduceLT, true_and, and_true, if_true, if_false, tc_K, Option.toList_some, Option.toList_none, List.nil_append, List.cons_append, ite_true, ite_false, Int.cast_ofNat_Int, reduceIte, i3_add_eq, i3_sub_eq, Int.add_sub_cancel, Int.add_neg_cancel_right, SeaS_g0 hE, SeaS_s0 hE, SeaS_g1 hE, SeaS_s1 hE, SeaS_g2 hE, SeaS_s2 hE, SeaS_g3 hE, SeaS_s3 hE, SeaS_g4 hE, SeaS_s4 hE, SeaS_g5 hE, SeaS_s5 hE, SeaS_g6 hE, SeaS_s6 hE, ShoS_g0 hO, ShoS_s0 hO, ShoS_g1 hO, ShoS_s1 hO, ShoS_g2 hO, ShoS_s2 hO, ShoS_g3 hO, ShoS_s3 hO, ShoS_g4 hO, ShoS_s4 hO, ShoS_g5 hO, ShoS_s5 hO, ShoS_g6 hO, ShoS_s6 hO, ShoS_g7 hO, ShoS_s7 hO, SanS_g0 hR, SanS_s0 hR, SanS_g1 hR, SanS_s1 hR, SanS_g2 hR, SanS_s2 hR, SanS_g3 hR, SanS_s3 hR, hc2, hg, eor, fu_fu]) | (simp only [r90_23, r90_41, r90_95, r90_124, i6_lt0, i6_0lt, i6_0le, i6_le0, i6_eq0, b10_0, ite_not, Int.reduceLT, Int.reduceLE, Int.reduceEq, Int.reduceNeg, if_true, if_false, ite_true, ite_false, reduceIte, eq_self, not_true, not_false_eq_true]; try refine tc_ite (fun _ => ?_) (fun _ => ?_) <;> try (exfalso; omega)))
      · refine ih _ (fun a h1 h2 h3 => fr_ne h1) ?_
        rw [fr_same, et, if_neg (by omega)]
      · refine ih _ (fun a h1 h2 h3 => fr_ne h1) ?_
        rw [fr_same, et, if_pos (by omega)]
    · have hlr := hcl.1
      have et : tks b σ (some l) F g k = lev (wds b σ F g k) l := if_pos hgk
      repeat' (first | (simp (disch := first | omega | exact Nat.le_of_ble_eq_true rfl | exact rfl | assumption | (simp (disch := omega) only [fr_ne, fr_same]; first | assumption | omega)) only [r90_0, r90_1, r90_2, r90_5, r90_6, v90_6_7, r90_9, r90_10i, r90_11, r90_12i, r90_16, r90_17, r90_20, r90_26, r90_27, r90_30, r90_32, r90_33, r90_34, r90_35, r90_38, r90_40, r90_44, r90_45, r90_46, r90_48, r90_49, r90_50i, r90_51, r90_52, r90_55, r90_55A, r90_58, r90_59, r90_62, r90_64, r90_65, r90_68, r90_69, r90_70, r90_72, r90_73, v90_73_7, r90_76, r90_77, r90_80, v90_80_1, r90_83, r90_84, r90_87, r90_88, r90_91, r90_93, r90_94, r90_98, r90_99, r90_102, r90_104, r90_105, r90_106i, r90_109, r90_112, r90_113i, r90_117, r90_118, r90_121, r90_127, r90_128, r90_131, r90_133, r90_134, r90_135, r90_138, r90_140, r90_141, r90_142, r90_145, r90_147, r90_148, r90_149, r90_152, r90_153i, r90_156, r90_159, r90_160, r90_161, v90_161_7, r90_164, r90_165, r90_165A, r90_166, r90_169, r90_170, r90_173, r90_174, r90_177, v90_177_8, r90_180, r90_181, r90_184, r90_185, r90_186, r90_189, r90_190, r90_193, r90_194, r90_197, r90_198, r90_199, r90_202, r90_205, r90_206, r90_209, g7_79_5, g7_9_7, g7_41_8, g7_26_7, g7_19_7, g7_15_7, g7_38_7, g7_97_5, g7_100_5, p7_97_5, p7_106_5, g7_66_5, p7_66_5, o5_len, o5_g0, o7_len, o7_g0, o8_len, o8_g2, o7_g4, o7_g2, o7_g1, o7_g7, o5_g5, o5_g3, o5_s5, o5_s4, o5_g6, o5_s6, il_s, bl_s, bl_z, ll_s, is_s, bs_s, bs_z, ls_s, al_s, al_b, al_l, fr_ne, fr_same, fr_fr, Nat.reduceEqDiff, tc_gf3_s, tc_ql2_s, tc_ws_0, tc_ws_i, tc_ws_l, tc_ws_r, Nat.reduceLeDiff, Nat.reduceAdd, Nat.reduceLT, true_and, and_true, if_true, if_false, tc_K, Option.toList_some, Option.toList_none, List.nil_append, List.cons_append, ite_true, ite_false, Int.cast_ofNat_Int, reduceIte, i3_add_eq, i3_sub_eq, Int.add_sub_cancel, Int.add_neg_cancel_right, SeaS_g0 hE, SeaS_s0 hE, SeaS_g1 hE, SeaS_s1 hE, SeaS_g2 hE, SeaS_s2 hE, SeaS_g3 hE, SeaS_s3 hE, SeaS_g4 hE, SeaS_s4 hE, SeaS_g5 hE, SeaS_s5 hE, SeaS_g6 hE, SeaS_s6 hE, ShoS_g0 hO, ShoS_s0 hO, ShoS_g1 hO, ShoS_s1 hO, ShoS_g2 hO, ShoS_s2 hO, ShoS_g3 hO, ShoS_s3 hO, ShoS_g4 hO, ShoS_s4 hO, ShoS_g5 hO, ShoS_s5 hO, ShoS_g6 hO, ShoS_s6 hO, ShoS_g7 hO, ShoS_s7 hO, SanS_g0 hR, SanS_s0 hR, SanS_g1 hR, SanS_s1 hR, SanS_g2 hR, SanS_s2 hR, SanS_g3 hR, SanS_s3 hR, hc2, hg, eor]) | (simp only [r90_23, r90_41, r90_95, r90_124, i6_lt0, i6_0lt, i6_0le, i6_le0, i6_eq0, b10_0, ite_not, Int.reduceLT, Int.reduceLE, Int.reduceEq, Int.reduceNeg, if_true, if_false, ite_true, ite_false, reduceIte, eq_self, not_true, not_false_eq_true]; try refine tc_ite (fun _ => ?_) (fun _ => ?_) <;> try (exfalso; omega)))
      refine c91 (c := fr c 52 (fu (c 52) k 0)) (b := b) (σ := σ) hE hO hs hR hr hb hw (hcl.of (Nat.le_refl L) (fun _ _ => rfl) (fr_ne (by omega)) (fr_ne (by omega)) (fr_ne (by omega))) (by unfold SB; rw [fr_ne (by omega), fr_ne (by omega)]; exact hB.1) (by rw [fr_ne (by omega)]; exact hB.2.1.2.1) (by rw [fr_ne (by omega)]; exact h0) (by rw [fr_ne (by omega)]; exact h2) (by rw [fr_ne (by omega)]; exact h3) (by rw [fr_ne (by omega)]; exact h4) (by rw [fr_ne (by omega)]; exact h6) hk hk2 ?_
      intro g1 hg1
      obtain ⟨_, m1, k1, hLS, _⟩ := id hcl
      repeat' (first | (simp (disch := first | omega | exact Nat.le_of_ble_eq_true rfl | exact rfl | assumption | (simp (disch := omega) only [fr_ne, fr_same]; first | assumption | omega)) only [r90_0, r90_1, r90_2, r90_5, r90_6, v90_6_7, r90_9, r90_10i, r90_11, r90_12i, r90_16, r90_17, r90_20, r90_26, r90_27, r90_30, r90_32, r90_33, r90_34, r90_35, r90_38, r90_40, r90_44, r90_45, r90_46, r90_48, r90_49, r90_50i, r90_51, r90_52, r90_55, r90_55A, r90_58, r90_59, r90_62, r90_64, r90_65, r90_68, r90_69, r90_70, r90_72, r90_73, v90_73_7, r90_76, r90_77, r90_80, v90_80_1, r90_83, r90_84, r90_87, r90_88, r90_91, r90_93, r90_94, r90_98, r90_99, r90_102, r90_104, r90_105, r90_106i, r90_109, r90_112, r90_113i, r90_117, r90_118, r90_121, r90_127, r90_128, r90_131, r90_133, r90_134, r90_135, r90_138, r90_140, r90_141, r90_142, r90_145, r90_147, r90_148, r90_149, r90_152, r90_153i, r90_156, r90_159, r90_160, r90_161, v90_161_7, r90_164, r90_165, r90_165A, r90_166, r90_169, r90_170, r90_173, r90_174, r90_177, v90_177_8, r90_180, r90_181, r90_184, r90_185, r90_186, r90_189, r90_190, r90_193, r90_194, r90_197, r90_198, r90_199, r90_202, r90_205, r90_206, r90_209, g7_79_5, g7_9_7, g7_41_8, g7_26_7, g7_19_7, g7_15_7, g7_38_7, g7_97_5, g7_100_5, p7_97_5, p7_106_5, g7_66_5, p7_66_5, o5_len, o5_g0, o7_len, o7_g0, o8_len, o8_g2, o7_g4, o7_g2, o7_g1, o7_g7, o5_g5, o5_g3, o5_s5, o5_s4, o5_g6, o5_s6, il_s, bl_s, bl_z, ll_s, is_s, bs_s, bs_z, ls_s, al_s, al_b, al_l, fr_ne, fr_same, fr_fr, Nat.reduceEqDiff, tc_gf3_s, tc_ql2_s, tc_ws_0, tc_ws_i, tc_ws_l, tc_ws_r, Nat.reduceLeDiff, Nat.reduceAdd, Nat.reduceLT, true_and, and_true, if_true, if_false, tc_K, Option.toList_some, Option.toList_none, List.nil_append, List.cons_append, ite_true, ite_false, Int.cast_ofNat_Int, reduceIte, i3_add_eq, i3_sub_eq, Int.add_sub_cancel, Int.add_neg_cancel_right, SeaS_g0 hE, SeaS_s0 hE, SeaS_g1 hE, SeaS_s1 hE, SeaS_g2 hE, SeaS_s2 hE, SeaS_g3 hE, SeaS_s3 hE, SeaS_g4 hE, SeaS_s4 hE, SeaS_g5 hE, SeaS_s5 hE, SeaS_g6 hE, SeaS_s6 hE, LawS_g0 hLS, LawS_s0 hLS, LawS_g1 hLS, LawS_s1 hLS, LawS_g2 hLS, LawS_s2 hLS]) | (simp only [r90_23, r90_41, r90_95, r90_124, i6_lt0, i6_0lt, i6_0le, i6_le0, i6_eq0, b10_0, ite_not, Int.reduceLT, Int.reduceLE, Int.reduceEq, Int.reduceNeg, if_true, if_false, ite_true, ite_false, reduceIte, eq_self, not_true, not_false_eq_true]; try refine tc_ite (fun _ => ?_) (fun _ => ?_) <;> try (exfalso; omega)))
      refine c95 (l := l) (hcl.of (Nat.le_refl L) (fun _ _ => rfl) (by rw [fr_ne (by omega), fr_ne (by omega)]) (by rw [fr_ne (by omega), fr_ne (by omega)]) (by rw [fr_ne (by omega), fr_ne (by omega)])) ⟨by have := hE.1; omega, hE.2.2.2.2.2.2.1⟩ ⟨by have := hE.1; omega, hE.2.2.2.2.2.2.2⟩ ?_
      intro g2
      have elev : lev (fr (fr c 52 (fu (c 52) k 0)) 54 g1 54) l = tks b σ (some l) F g k := by
        rw [fr_same, et]
        refine lev_w fun q hq k' hk' => ?_
        rw [hg1 k' ⟨q, hq, hk'⟩, fr_ne (by omega)]
        unfold wds
        rw [hg]
      rw [elev]
      have hrng := tks_rng b σ (some l) F g k
      generalize tks b σ (some l) F g k = tv at ih hrng
      repeat' (first | (simp (disch := first | omega | exact Nat.le_of_ble_eq_true rfl | exact rfl | assumption | (simp (disch := omega) only [fr_ne, fr_same]; first | assumption | omega)) only [r90_0, r90_1, r90_2, r90_5, r90_6, v90_6_7, r90_9, r90_10i, r90_11, r90_12i, r90_16, r90_17, r90_20, r90_26, r90_27, r90_30, r90_32, r90_33, r90_34, r90_35, r90_38, r90_40, r90_44, r90_45, r90_46, r90_48, r90_49, r90_50i, r90_51, r90_52, r90_55, r90_55A, r90_58, r90_59, r90_62, r90_64, r90_65, r90_68, r90_69, r90_70, r90_72, r90_73, v90_73_7, r90_76, r90_77, r90_80, v90_80_1, r90_83, r90_84, r90_87, r90_88, r90_91, r90_93, r90_94, r90_98, r90_99, r90_102, r90_104, r90_105, r90_106i, r90_109, r90_112, r90_113i, r90_117, r90_118, r90_121, r90_127, r90_128, r90_131, r90_133, r90_134, r90_135, r90_138, r90_140, r90_141, r90_142, r90_145, r90_147, r90_148, r90_149, r90_152, r90_153i, r90_156, r90_159, r90_160, r90_161, v90_161_7, r90_164, r90_165, r90_165A, r90_166, r90_169, r90_170, r90_173, r90_174, r90_177, v90_177_8, r90_180, r90_181, r90_184, r90_185, r90_186, r90_189, r90_190, r90_193, r90_194, r90_197, r90_198, r90_199, r90_202, r90_205, r90_206, r90_209, g7_79_5, g7_9_7, g7_41_8, g7_26_7, g7_19_7, g7_15_7, g7_38_7, g7_97_5, g7_100_5, p7_97_5, p7_106_5, g7_66_5, p7_66_5, o5_len, o5_g0, o7_len, o7_g0, o8_len, o8_g2, o7_g4, o7_g2, o7_g1, o7_g7, o5_g5, o5_g3, o5_s5, o5_s4, o5_g6, o5_s6, il_s, bl_s, bl_z, ll_s, is_s, bs_s, bs_z, ls_s, al_s, al_b, al_l, fr_ne, fr_same, fr_fr, Nat.reduceEqDiff, tc_gf3_s, tc_ql2_s, tc_ws_0, tc_ws_i, tc_ws_l, tc_ws_r, Nat.reduceLeDiff, Nat.reduceAdd, Nat.reduceLT, true_and, and_true, if_true, if_false, tc_K, Option.toList_some, Option.toList_none, List.nil_append, List.cons_append, ite_true, ite_false, Int.cast_ofNat_Int, reduceIte, i3_add_eq, i3_sub_eq, Int.add_sub_cancel, Int.add_neg_cancel_right, SeaS_g0 hE, SeaS_s0 hE, SeaS_g1 hE, SeaS_s1 hE, SeaS_g2 hE, SeaS_s2 hE, SeaS_g3 hE, SeaS_s3 hE, SeaS_g4 hE, SeaS_s4 hE, SeaS_g5 hE, SeaS_s5 hE, SeaS_g6 hE, SeaS_s6 hE, fu_fu]) | (simp only [r90_23, r90_41, r90_95, r90_124, i6_lt0, i6_0lt, i6_0le, i6_le0, i6_eq0, b10_0, ite_not, Int.reduceLT, Int.reduceLE, Int.reduceEq, Int.reduceNeg, if_true, if_false, ite_true, ite_false, reduceIte, eq_self, not_true, not_false_eq_true]; try refine tc_ite (fun _ => ?_) (fun _ => ?_) <;> try (exfalso; omega)))
      refine ih _ (fun a h1 h2 h3 => ?_) ?_
      · rw [fr_ne h1, fr_ne h3, fr_ne h2, fr_ne h1]
      · rw [fr_same]
  · have et : tks b σ la F g k = 0 := if_neg hgk
    have eno := mk_no (p := fun j => decide (0 < g j)) hk (decide_eq_false hgk)
    rw [et, eno] at ih
    repeat' (first | (simp (disch := first | omega | exact Nat.le_of_ble_eq_true rfl | exact rfl | assumption | (simp (disch := omega) only [fr_ne, fr_same]; first | assumption | omega)) only [r90_0, r90_1, r90_2, r90_5, r90_6, v90_6_7, r90_9, r90_10i, r90_11, r90_12i, r90_16, r90_17, r90_20, r90_26, r90_27, r90_30, r90_32, r90_33, r90_34, r90_35, r90_38, r90_40, r90_44, r90_45, r90_46, r90_48, r90_49, r90_50i, r90_51, r90_52, r90_55, r90_55A, r90_58, r90_59, r90_62, r90_64, r90_65, r90_68, r90_69, r90_70, r90_72, r90_73, v90_73_7, r90_76, r90_77, r90_80, v90_80_1, r90_83, r90_84, r90_87, r90_88, r90_91, r90_93, r90_94, r90_98, r90_99, r90_102, r90_104, r90_105, r90_106i, r90_109, r90_112, r90_113i, r90_117, r90_118, r90_121, r90_127, r90_128, r90_131, r90_133, r90_134, r90_135, r90_138, r90_140, r90_141, r90_142, r90_145, r90_147, r90_148, r90_149, r90_152, r90_153i, r90_156, r90_159, r90_160, r90_161, v90_161_7, r90_164, r90_165, r90_165A, r90_166, r90_169, r90_170, r90_173, r90_174, r90_177, v90_177_8, r90_180, r90_181, r90_184, r90_185, r90_186, r90_189, r90_190, r90_193, r90_194, r90_197, r90_198, r90_199, r90_202, r90_205, r90_206, r90_209, g7_79_5, g7_9_7, g7_41_8, g7_26_7, g7_19_7, g7_15_7, g7_38_7, g7_97_5, g7_100_5, p7_97_5, p7_106_5, g7_66_5, p7_66_5, o5_len, o5_g0, o7_len, o7_g0, o8_len, o8_g2, o7_g4, o7_g2, o7_g1, o7_g7, o5_g5, o5_g3, o5_s5, o5_s4, o5_g6, o5_s6, il_s, bl_s, bl_z, ll_s, is_s, bs_s, bs_z, ls_s, al_s, al_b, al_l, fr_ne, fr_same, fr_fr, Nat.reduceEqDiff, tc_gf3_s, tc_ql2_s, tc_ws_0, tc_ws_i, tc_ws_l, tc_ws_r, Nat.reduceLeDiff, Nat.reduceAdd, Nat.reduceLT, true_and, and_true, if_true, if_false, tc_K, Option.toList_some, Option.toList_none, List.nil_append, List.cons_append, ite_true, ite_false, Int.cast_ofNat_Int, reduceIte, i3_add_eq, i3_sub_eq, Int.add_sub_cancel, Int.add_neg_cancel_right, SeaS_g0 hE, SeaS_s0 hE, SeaS_g1 hE, SeaS_s1 hE, SeaS_g2 hE, SeaS_s2 hE, SeaS_g3 hE, SeaS_s3 hE, SeaS_g4 hE, SeaS_s4 hE, SeaS_g5 hE, SeaS_s5 hE, SeaS_g6 hE, SeaS_s6 hE, ShoS_g0 hO, ShoS_s0 hO, ShoS_g1 hO, ShoS_s1 hO, ShoS_g2 hO, ShoS_s2 hO, ShoS_g3 hO, ShoS_s3 hO, ShoS_g4 hO, ShoS_s4 hO, ShoS_g5 hO, ShoS_s5 hO, ShoS_g6 hO, ShoS_s6 hO, ShoS_g7 hO, ShoS_s7 hO, SanS_g0 hR, SanS_s0 hR, SanS_g1 hR, SanS_s1 hR, SanS_g2 hR, SanS_s2 hR, SanS_g3 hR, SanS_s3 hR, hc2, hg]) | (simp only [r90_23, r90_41, r90_95, r90_124, i6_lt0, i6_0lt, i6_0le, i6_le0, i6_eq0, b10_0, ite_not, Int.reduceLT, Int.reduceLE, Int.reduceEq, Int.reduceNeg, if_true, if_false, ite_true, ite_false, reduceIte, eq_self, not_true, not_false_eq_true]; try refine tc_ite (fun _ => ?_) (fun _ => ?_) <;> try (exfalso; omega)))
    exact ih _ (fun a h1 h2 h3 => fr_ne h1) (fr_same _ _ _)
/-- what comes behind the cells -/
theorem c90_t (hE : SeaS L sh (some s) lo) (hO : ShoS L sh s) (hs : s = 30 ∨ 115 ≤ s) (hR : SanS L sh r) (hr : AP r s) (hb : WB b) (hw : WS b σ) (hB : SHO b s c) (h9 : σ 4 0 < 900) {k : Prop} (hf : ∀ f, 0 ≤ f → f < b 0 2 → (k ∨ ¬ σ 3 f = -1) → c (r + 3) f = σ 3 f) (h0 : σ 0 = c (r + 1)) (h2 : σ 2 = c (r + 2)) (h3 : c r 3 = (mk (stn (σ 3)) (b 0 2).toNat : Nat)) (h5 : c r 5 = σ 4 1) (h6 : c r 6 = σ 4 0) (hg : ∀ x, 0 ≤ x → x < b 0 0 * b 0 1 → c 50 x = sgb b σ F x) (ht : ∀ x, 0 ≤ x → x < b 0 0 * b 0 1 → c 52 x = tks b σ la F (sgb b σ F) x)
    (hq : ∀ e, (∀ a, ¬ a = r → ¬ a = r + 1 → ¬ a = r + 3 → e a = c a) → SAN k b r e (stp b σ la F) → Q (some (.inl (sm (nws (sgb b σ F)) (b 0 0 * b 0 1).toNat))) (hp L sh e) n) : tc_W 90 112 [rf 49, rf r, .inl F, .inl (mk (fun j => decide (0 < sgb b σ F j)) (b 0 0 * b 0 1).toNat : Nat), .inl (b 0 0 * b 0 1)] [] (hp L sh c) n Q := by
  obtain ⟨hr1, hr2⟩ := id hr
  have hN := hb.n25
  have hc2 := hB.1.2.1
  have hm := hb.2.1
  have hs3 := hB.2.1.2.1
  repeat' (first | (simp (disch := first | omega | exact Nat.le_of_ble_eq_true rfl | exact rfl | assumption | (simp (disch := omega) only [fr_ne, fr_same]; first | assumption | omega)) only [r90_0, r90_1, r90_2, r90_5, r90_6, v90_6_7, r90_9, r90_10i, r90_11, r90_12i, r90_16, r90_17, r90_20, r90_26, r90_27, r90_30, r90_32, r90_33, r90_34, r90_35, r90_38, r90_40, r90_44, r90_45, r90_46, r90_48, r90_49, r90_50i, r90_51, r90_52, r90_55, r90_55A, r90_58, r90_59, r90_62, r90_64, r90_65, r90_68, r90_69, r90_70, r90_72, r90_73, v90_73_7, r90_76, r90_77, r90_80, v90_80_1, r90_83, r90_84, r90_87, r90_88, r90_91, r90_93, r90_94, r90_98, r90_99, r90_102, r90_104, r90_105, r90_106i, r90_109, r90_112, r90_113i, r90_117, r90_118, r90_121, r90_127, r90_128, r90_131, r90_133, r90_134, r90_135, r90_138, r90_140, r90_141, r90_142, r90_145, r90_147, r90_148, r90_149, r90_152, r90_153i, r90_156, r90_159, r90_160, r90_161, v90_161_7, r90_164, r90_165, r90_165A, r90_166, r90_169, r90_170, r90_173, r90_174, r90_177, v90_177_8, r90_180, r90_181, r90_184, r90_185, r90_186, r90_189, r90_190, r90_193, r90_194, r90_197, r90_198, r90_199, r90_202, r90_205, r90_206, r90_209, g7_79_5, g7_9_7, g7_41_8, g7_26_7, g7_19_7, g7_15_7, g7_38_7, g7_97_5, g7_100_5, p7_97_5, p7_106_5, g7_66_5, p7_66_5, o5_len, o5_g0, o7_len, o7_g0, o8_len, o8_g2, o7_g4, o7_g2, o7_g1, o7_g7, o5_g5, o5_g3, o5_s5, o5_s4, o5_g6, o5_s6, il_s, bl_s, bl_z, ll_s, is_s, bs_s, bs_z, ls_s, al_s, al_b, al_l, fr_ne, fr_same, fr_fr, Nat.reduceEqDiff, tc_gf3_s, tc_ql2_s, tc_ws_0, tc_ws_i, tc_ws_l, tc_ws_r, Nat.reduceLeDiff, Nat.reduceAdd, Nat.reduceLT, true_and, and_true, if_true, if_false, tc_K, Option.toList_some, Option.toList_none, List.nil_append, List.cons_append, ite_true, ite_false, Int.cast_ofNat_Int, reduceIte, i3_add_eq, i3_sub_eq, Int.add_sub_cancel, Int.add_neg_cancel_right]) | (simp only [r90_23, r90_41, r90_95, r90_124, i6_lt0, i6_0lt, i6_0le, i6_le0, i6_eq0, b10_0, ite_not, Int.reduceLT, Int.reduceLE, Int.reduceEq, Int.reduceNeg, if_true, if_false, ite_true, ite_false, reduceIte, eq_self, not_true, not_false_eq_true]; try refine tc_ite (fun _ => ?_) (fun _ => ?_) <;> try (exfalso; omega)))
  have hlp := upI (N := b 0 0 * b 0 1) (P := fun x => tc_W 90 115 [rf 49, rf r, .inl F, .inl (mk (fun j => decide (0 < sgb b σ F j)) (b 0 0 * b 0 1).toNat : Nat), .inl x] [] (hp L sh (fr c (r + 1) (lay x (nhs b σ la F (sgb b σ F)) (c (r + 1))))) n Q) hN.1 ?_ ?_
  · rw [lay_0, fr_id] at hlp
    exact hlp
  · intro x hx hx2 ih
    have h1 := ht x hx hx2
    have h7 := tks_rng b σ la F (sgb b σ F) x
    have h8 := hw.1 x hx hx2
    have e1 : lay x (nhs b σ la F (sgb b σ F)) (c (r + 1)) x = σ 0 x := by rw [lay_out (by omega), h0]
    have e2 : nhs b σ la F (sgb b σ F) x = if tks b σ la F (sgb b σ F) x < σ 0 x then σ 0 x - tks b σ la F (sgb b σ F) x else 0 := rfl
    simp only [r90_115]
    generalize tks b σ la F (sgb b σ F) x = tv at h1 h7 e2
    generalize hsx : σ 0 x = sv at h8 e1 e2
    repeat' (first | (simp (disch := first | omega | exact Nat.le_of_ble_eq_true rfl | exact rfl | assumption | (simp (disch := omega) only [fr_ne, fr_same]; first | assumption | omega)) only [r90_0, r90_1, r90_2, r90_5, r90_6, v90_6_7, r90_9, r90_10i, r90_11, r90_12i, r90_16, r90_17, r90_20, r90_26, r90_27, r90_30, r90_32, r90_33, r90_34, r90_35, r90_38, r90_40, r90_44, r90_45, r90_46, r90_48, r90_49, r90_50i, r90_51, r90_52, r90_55, r90_55A, r90_58, r90_59, r90_62, r90_64, r90_65, r90_68, r90_69, r90_70, r90_72, r90_73, v90_73_7, r90_76, r90_77, r90_80, v90_80_1, r90_83, r90_84, r90_87, r90_88, r90_91, r90_93, r90_94, r90_98, r90_99, r90_102, r90_104, r90_105, r90_106i, r90_109, r90_112, r90_113i, r90_117, r90_118, r90_121, r90_127, r90_128, r90_131, r90_133, r90_134, r90_135, r90_138, r90_140, r90_141, r90_142, r90_145, r90_147, r90_148, r90_149, r90_152, r90_153i, r90_156, r90_159, r90_160, r90_161, v90_161_7, r90_164, r90_165, r90_165A, r90_166, r90_169, r90_170, r90_173, r90_174, r90_177, v90_177_8, r90_180, r90_181, r90_184, r90_185, r90_186, r90_189, r90_190, r90_193, r90_194, r90_197, r90_198, r90_199, r90_202, r90_205, r90_206, r90_209, g7_79_5, g7_9_7, g7_41_8, g7_26_7, g7_19_7, g7_15_7, g7_38_7, g7_97_5, g7_100_5, p7_97_5, p7_106_5, g7_66_5, p7_66_5, o5_len, o5_g0, o7_len, o7_g0, o8_len, o8_g2, o7_g4, o7_g2, o7_g1, o7_g7, o5_g5, o5_g3, o5_s5, o5_s4, o5_g6, o5_s6, il_s, bl_s, bl_z, ll_s, is_s, bs_s, bs_z, ls_s, al_s, al_b, al_l, fr_ne, fr_same, fr_fr, Nat.reduceEqDiff, tc_gf3_s, tc_ql2_s, tc_ws_0, tc_ws_i, tc_ws_l, tc_ws_r, Nat.reduceLeDiff, Nat.reduceAdd, Nat.reduceLT, true_and, and_true, if_true, if_false, tc_K, Option.toList_some, Option.toList_none, List.nil_append, List.cons_append, ite_true, ite_false, Int.cast_ofNat_Int, reduceIte, i3_add_eq, i3_sub_eq, Int.add_sub_cancel, Int.add_neg_cancel_right, SeaS_g0 hE, SeaS_s0 hE, SeaS_g1 hE, SeaS_s1 hE, SeaS_g2 hE, SeaS_s2 hE, SeaS_g3 hE, SeaS_s3 hE, SeaS_g4 hE, SeaS_s4 hE, SeaS_g5 hE, SeaS_s5 hE, SeaS_g6 hE, SeaS_s6 hE, ShoS_g0 hO, ShoS_s0 hO, ShoS_g1 hO, ShoS_s1 hO, ShoS_g2 hO, ShoS_s2 hO, ShoS_g3 hO, ShoS_s3 hO, ShoS_g4 hO, ShoS_s4 hO, ShoS_g5 hO, ShoS_s5 hO, ShoS_g6 hO, ShoS_s6 hO, ShoS_g7 hO, ShoS_s7 hO, SanS_g0 hR, SanS_s0 hR, SanS_g1 hR, SanS_s1 hR, SanS_g2 hR, SanS_s2 hR, SanS_g3 hR, SanS_s3 hR, hc2, h1, e1]) | (simp only [r90_23, r90_41, r90_95, r90_124, i6_lt0, i6_0lt, i6_0le, i6_le0, i6_eq0, b10_0, ite_not, Int.reduceLT, Int.reduceLE, Int.reduceEq, Int.reduceNeg, if_true, if_false, ite_true, ite_false, reduceIte, eq_self, not_true, not_false_eq_true]; try refine tc_ite (fun _ => ?_) (fun _ => ?_) <;> try (exfalso; omega)))
    have e3 : (if 0 < sv - tv then sv - tv else 0) = nhs b σ la F (sgb b σ F) x := by
      rw [e2]
      split <;> split <;> omega
    rw [e3, lay_up hx]
    exact ih
  · have hat : ∀ f, 0 ≤ f → f < b 0 2 → 0 ≤ σ 2 f ∧ σ 2 f < b 0 0 * b 0 1 := fun f h1 h2 => ⟨(hw.2.2.1 f h1 h2).1, (hw.2.2.1 f h1 h2).2.1⟩
    have hmk : ∀ f, 0 ≤ f → f < b 0 2 → 0 ≤ c (s + 4) f ∧ c (s + 4) f ≤ 50 := fun f h1 h2 => by
      rw [(hB.2.2.1 f h1 h2).2.2]
      have := hb.2.2.2.1 f h1 h2
      omega
    have h100 := fun Q => c100 (c := fr c (r + 1) (lay (b 0 0 * b 0 1) (nhs b σ la F (sgb b σ F)) (c (r + 1)))) (n := n) (Q := Q) (p := stn (σ 3)) (m := b 0 2) (N := b 0 0 * b 0 1) (fl := fun f => decide (b 1 f ≤ sgb b σ F (σ 2 f) ∨ nhs b σ la F (sgb b σ F) (σ 2 f) = 0)) hE hO hs hR hr (by omega) hN.2 (by rw [fr_ne (by omega)]; exact hs3) (by rw [fr_ne (by omega)]; exact h3) (fun f h1 h7 => by rw [fr_ne (by omega), ← h2]; exact hat f h1 h7) (fun f h1 h7 => by
      have h8 := hat f h1 h7
      rw [fr_ne (by omega), fr_ne (by omega), fr_ne (by omega), fr_same, ← h2, hg _ h8.1 h8.2, lay_in h8, (hB.2.2.1 f h1 h7).2.1])
    have hmk2 : ∀ f, 0 ≤ f → f < b 0 2 → (stn (σ 3) f && !decide (b 1 f ≤ sgb b σ F (σ 2 f) ∨ nhs b σ la F (sgb b σ F) (σ 2 f) = 0)) = stn (nes b σ la F (sgb b σ F)) f := by
      intro f h1 h7
      have h10 := hw.2.2.2.1
      unfold stn nes
      by_cases h8 : σ 3 f = -1
      · by_cases h9 : b 1 f ≤ sgb b σ F (σ 2 f) ∨ nhs b σ la F (sgb b σ F) (σ 2 f) = 0
        · rw [if_pos ⟨h8, h9⟩, decide_eq_true h9, decide_eq_false (by omega : ¬ σ 4 0 = -1), Bool.not_true, Bool.and_false]
        · rw [if_neg (fun q => h9 q.2), decide_eq_false h9, Bool.not_false, Bool.and_true]
      · rw [if_neg (fun q => h8 q.1), decide_eq_false h8, Bool.false_and]
    have emk : mk (fun f => stn (σ 3) f && !decide (b 1 f ≤ sgb b σ F (σ 2 f) ∨ nhs b σ la F (sgb b σ F) (σ 2 f) = 0)) (b 0 2).toNat = mk (stn (nes b σ la F (sgb b σ F))) (b 0 2).toNat := mk_ext fun j h1 h7 => hmk2 j h1 (by omega)
    simp (disch := omega) only [fr_ne, emk, h6] at h100
    generalize hG : (fun f => if stn (σ 3) f = true ∧ decide (b 1 f ≤ sgb b σ F (σ 2 f) ∨ nhs b σ la F (sgb b σ F) (σ 2 f) = 0) = true then σ 4 0 else c (r + 3) f) = G at h100
    have h102 := fun d hd1 hd2 Q => c102 (c := d) (n := n) (Q := Q) hO (p := stn (nes b σ la F (sgb b σ F))) (m := b 0 2) (by omega) hd1 hd2
    have esm : sm (fun f => if stn (nes b σ la F (sgb b σ F)) f = true then c (s + 4) f else 0) (b 0 2).toNat = sm (mks b σ la F (sgb b σ F)) (b 0 2).toNat := sm_ext fun f h1 h7 => by
      unfold mks stn
      rw [(hB.2.2.1 f h1 (by omega)).2.2]
      simp only [decide_eq_true_eq]
    have hge := sm_ge (s := mks b σ la F (sgb b σ F)) (b 0 2).toNat fun f h1 h7 => (mks_rng hb h1 (by omega)).1
    have hle := sm_le (s := mks b σ la F (sgb b σ F)) (F := 50) (by omega) (b 0 2).toNat fun f h1 h7 => (mks_rng hb h1 (by omega)).2
    have hw4 := hw.2.2.2
    have e103 : cn (fun j => decide (0 < sgb b σ F j)) (b 0 0 * b 0 1).toNat = sm (nws (sgb b σ F)) (b 0 0 * b 0 1).toNat := cn_sm fun j _ _ => by
      unfold nws
      simp only [decide_eq_true_eq]
    have h103 := fun h n Q => c103 (h := h) (n := n) (Q := Q) (p := fun j => decide (0 < sgb b σ F j)) (N := (b 0 0 * b 0 1).toNat) (by omega)
    simp only [r90_115]
    repeat' (first | (simp (disch := first | omega | exact Nat.le_of_ble_eq_true rfl | exact rfl | assumption | (simp (disch := omega) only [fr_ne, fr_same]; first | assumption | omega)) only [r90_0, r90_1, r90_2, r90_5, r90_6, v90_6_7, r90_9, r90_10i, r90_11, r90_12i, r90_16, r90_17, r90_20, r90_26, r90_27, r90_30, r90_32, r90_33, r90_34, r90_35, r90_38, r90_40, r90_44, r90_45, r90_46, r90_48, r90_49, r90_50i, r90_51, r90_52, r90_55, r90_55A, r90_58, r90_59, r90_62, r90_64, r90_65, r90_68, r90_69, r90_70, r90_72, r90_73, v90_73_7, r90_76, r90_77, r90_80, v90_80_1, r90_83, r90_84, r90_87, r90_88, r90_91, r90_93, r90_94, r90_98, r90_99, r90_102, r90_104, r90_105, r90_106i, r90_109, r90_112, r90_113i, r90_117, r90_118, r90_121, r90_127, r90_128, r90_131, r90_133, r90_134, r90_135, r90_138, r90_140, r90_141, r90_142, r90_145, r90_147, r90_148, r90_149, r90_152, r90_153i, r90_156, r90_159, r90_160, r90_161, v90_161_7, r90_164, r90_165, r90_165A, r90_166, r90_169, r90_170, r90_173, r90_174, r90_177, v90_177_8, r90_180, r90_181, r90_184, r90_185, r90_186, r90_189, r90_190, r90_193, r90_194, r90_197, r90_198, r90_199, r90_202, r90_205, r90_206, r90_209, g7_79_5, g7_9_7, g7_41_8, g7_26_7, g7_19_7, g7_15_7, g7_38_7, g7_97_5, g7_100_5, p7_97_5, p7_106_5, g7_66_5, p7_66_5, o5_len, o5_g0, o7_len, o7_g0, o8_len, o8_g2, o7_g4, o7_g2, o7_g1, o7_g7, o5_g5, o5_g3, o5_s5, o5_s4, o5_g6, o5_s6, il_s, bl_s, bl_z, ll_s, is_s, bs_s, bs_z, ls_s, al_s, al_b, al_l, fr_ne, fr_same, fr_fr, Nat.reduceEqDiff, tc_gf3_s, tc_ql2_s, tc_ws_0, tc_ws_i, tc_ws_l, tc_ws_r, Nat.reduceLeDiff, Nat.reduceAdd, Nat.reduceLT, true_and, and_true, if_true, if_false, tc_K, Option.toList_some, Option.toList_none, List.nil_append, List.cons_append, ite_true, ite_false, Int.cast_ofNat_Int, reduceIte, i3_add_eq, i3_sub_eq, Int.add_sub_cancel, Int.add_neg_cancel_right, SeaS_g0 hE, SeaS_s0 hE, SeaS_g1 hE, SeaS_s1 hE, SeaS_g2 hE, SeaS_s2 hE, SeaS_g3 hE, SeaS_s3 hE, SeaS_g4 hE, SeaS_s4 hE, SeaS_g5 hE, SeaS_s5 hE, SeaS_g6 hE, SeaS_s6 hE, ShoS_g0 hO, ShoS_s0 hO, ShoS_g1 hO, ShoS_s1 hO, ShoS_g2 hO, ShoS_s2 hO, ShoS_g3 hO, ShoS_s3 hO, ShoS_g4 hO, ShoS_s4 hO, ShoS_g5 hO, ShoS_s5 hO, ShoS_g6 hO, ShoS_s6 hO, ShoS_g7 hO, ShoS_s7 hO, SanS_g0 hR, SanS_s0 hR, SanS_g1 hR, SanS_s1 hR, SanS_g2 hR, SanS_s2 hR, SanS_g3 hR, SanS_s3 hR, hc2, h100, fu_same, fu_ne]) | (simp only [r90_23, r90_41, r90_95, r90_124, i6_lt0, i6_0lt, i6_0le, i6_le0, i6_eq0, b10_0, ite_not, Int.reduceLT, Int.reduceLE, Int.reduceEq, Int.reduceNeg, if_true, if_false, ite_true, ite_false, reduceIte, eq_self, not_true, not_false_eq_true]; try refine tc_ite (fun _ => ?_) (fun _ => ?_) <;> try (exfalso; omega)))
    rw [h102 _ (by simp (disch := omega) only [fr_ne]; exact hs3) (by simp (disch := omega) only [fr_ne]; exact hmk)]
    simp (disch := omega) only [fr_ne]
    rw [esm]
    generalize hms : sm (mks b σ la F (sgb b σ F)) (b 0 2).toNat = ms at hge hle
    repeat' (first | (simp (disch := first | omega | exact Nat.le_of_ble_eq_true rfl | exact rfl | assumption | (simp (disch := omega) only [fr_ne, fr_same]; first | assumption | omega)) only [r90_0, r90_1, r90_2, r90_5, r90_6, v90_6_7, r90_9, r90_10i, r90_11, r90_12i, r90_16, r90_17, r90_20, r90_26, r90_27, r90_30, r90_32, r90_33, r90_34, r90_35, r90_38, r90_40, r90_44, r90_45, r90_46, r90_48, r90_49, r90_50i, r90_51, r90_52, r90_55, r90_55A, r90_58, r90_59, r90_62, r90_64, r90_65, r90_68, r90_69, r90_70, r90_72, r90_73, v90_73_7, r90_76, r90_77, r90_80, v90_80_1, r90_83, r90_84, r90_87, r90_88, r90_91, r90_93, r90_94, r90_98, r90_99, r90_102, r90_104, r90_105, r90_106i, r90_109, r90_112, r90_113i, r90_117, r90_118, r90_121, r90_127, r90_128, r90_131, r90_133, r90_134, r90_135, r90_138, r90_140, r90_141, r90_142, r90_145, r90_147, r90_148, r90_149, r90_152, r90_153i, r90_156, r90_159, r90_160, r90_161, v90_161_7, r90_164, r90_165, r90_165A, r90_166, r90_169, r90_170, r90_173, r90_174, r90_177, v90_177_8, r90_180, r90_181, r90_184, r90_185, r90_186, r90_189, r90_190, r90_193, r90_194, r90_197, r90_198, r90_199, r90_202, r90_205, r90_206, r90_209, g7_79_5, g7_9_7, g7_41_8, g7_26_7, g7_19_7, g7_15_7, g7_38_7, g7_97_5, g7_100_5, p7_97_5, p7_106_5, g7_66_5, p7_66_5, o5_len, o5_g0, o7_len, o7_g0, o8_len, o8_g2, o7_g4, o7_g2, o7_g1, o7_g7, o5_g5, o5_g3, o5_s5, o5_s4, o5_g6, o5_s6, il_s, bl_s, bl_z, ll_s, is_s, bs_s, bs_z, ls_s, al_s, al_b, al_l, fr_ne, fr_same, fr_fr, Nat.reduceEqDiff, tc_gf3_s, tc_ql2_s, tc_ws_0, tc_ws_i, tc_ws_l, tc_ws_r, Nat.reduceLeDiff, Nat.reduceAdd, Nat.reduceLT, true_and, and_true, if_true, if_false, tc_K, Option.toList_some, Option.toList_none, List.nil_append, List.cons_append, ite_true, ite_false, Int.cast_ofNat_Int, reduceIte, i3_add_eq, i3_sub_eq, Int.add_sub_cancel, Int.add_neg_cancel_right, SeaS_g0 hE, SeaS_s0 hE, SeaS_g1 hE, SeaS_s1 hE, SeaS_g2 hE, SeaS_s2 hE, SeaS_g3 hE, SeaS_s3 hE, SeaS_g4 hE, SeaS_s4 hE, SeaS_g5 hE, SeaS_s5 hE, SeaS_g6 hE, SeaS_s6 hE, ShoS_g0 hO, ShoS_s0 hO, ShoS_g1 hO, ShoS_s1 hO, ShoS_g2 hO, ShoS_s2 hO, ShoS_g3 hO, ShoS_s3 hO, ShoS_g4 hO, ShoS_s4 hO, ShoS_g5 hO, ShoS_s5 hO, ShoS_g6 hO, ShoS_s6 hO, ShoS_g7 hO, ShoS_s7 hO, SanS_g0 hR, SanS_s0 hR, SanS_g1 hR, SanS_s1 hR, SanS_g2 hR, SanS_s2 hR, SanS_g3 hR, SanS_s3 hR, h5, h6, fu_same, fu_ne]) | (simp only [r90_23, r90_41, r90_95, r90_124, i6_lt0, i6_0lt, i6_0le, i6_le0, i6_eq0, b10_0, ite_not, Int.reduceLT, Int.reduceLE, Int.reduceEq, Int.reduceNeg, if_true, if_false, ite_true, ite_false, reduceIte, eq_self, not_true, not_false_eq_true]; try refine tc_ite (fun _ => ?_) (fun _ => ?_) <;> try (exfalso; omega)))
    rw [h103, e103]
    repeat' (first | (simp (disch := first | omega | exact Nat.le_of_ble_eq_true rfl | exact rfl | assumption | (simp (disch := omega) only [fr_ne, fr_same]; first | assumption | omega)) only [r90_0, r90_1, r90_2, r90_5, r90_6, v90_6_7, r90_9, r90_10i, r90_11, r90_12i, r90_16, r90_17, r90_20, r90_26, r90_27, r90_30, r90_32, r90_33, r90_34, r90_35, r90_38, r90_40, r90_44, r90_45, r90_46, r90_48, r90_49, r90_50i, r90_51, r90_52, r90_55, r90_55A, r90_58, r90_59, r90_62, r90_64, r90_65, r90_68, r90_69, r90_70, r90_72, r90_73, v90_73_7, r90_76, r90_77, r90_80, v90_80_1, r90_83, r90_84, r90_87, r90_88, r90_91, r90_93, r90_94, r90_98, r90_99, r90_102, r90_104, r90_105, r90_106i, r90_109, r90_112, r90_113i, r90_117, r90_118, r90_121, r90_127, r90_128, r90_131, r90_133, r90_134, r90_135, r90_138, r90_140, r90_141, r90_142, r90_145, r90_147, r90_148, r90_149, r90_152, r90_153i, r90_156, r90_159, r90_160, r90_161, v90_161_7, r90_164, r90_165, r90_165A, r90_166, r90_169, r90_170, r90_173, r90_174, r90_177, v90_177_8, r90_180, r90_181, r90_184, r90_185, r90_186, r90_189, r90_190, r90_193, r90_194, r90_197, r90_198, r90_199, r90_202, r90_205, r90_206, r90_209, g7_79_5, g7_9_7, g7_41_8, g7_26_7, g7_19_7, g7_15_7, g7_38_7, g7_97_5, g7_100_5, p7_97_5, p7_106_5, g7_66_5, p7_66_5, o5_len, o5_g0, o7_len, o7_g0, o8_len, o8_g2, o7_g4, o7_g2, o7_g1, o7_g7, o5_g5, o5_g3, o5_s5, o5_s4, o5_g6, o5_s6, il_s, bl_s, bl_z, ll_s, is_s, bs_s, bs_z, ls_s, al_s, al_b, al_l, fr_ne, fr_same, fr_fr, Nat.reduceEqDiff, tc_gf3_s, tc_ql2_s, tc_ws_0, tc_ws_i, tc_ws_l, tc_ws_r, Nat.reduceLeDiff, Nat.reduceAdd, Nat.reduceLT, true_and, and_true, if_true, if_false, tc_K, Option.toList_some, Option.toList_none, List.nil_append, List.cons_append, ite_true, ite_false, Int.cast_ofNat_Int, reduceIte, i3_add_eq, i3_sub_eq, Int.add_sub_cancel, Int.add_neg_cancel_right]) | (simp only [r90_23, r90_41, r90_95, r90_124, i6_lt0, i6_0lt, i6_0le, i6_le0, i6_eq0, b10_0, ite_not, Int.reduceLT, Int.reduceLE, Int.reduceEq, Int.reduceNeg, if_true, if_false, ite_true, ite_false, reduceIte, eq_self, not_true, not_false_eq_true]; try refine tc_ite (fun _ => ?_) (fun _ => ?_) <;> try (exfalso; omega)))
    rw [if_pos (by omega : σ 4 0 + 1 < 999)]
    refine hq _ (fun a a1 a2 a3 => ?_) ⟨fun x x1 x2 => ?_, fun f f1 f2 => ⟨?_, fun hkf => ?_⟩, ?_, ?_, ?_, ?_⟩
    · simp (disch := assumption) only [fr_ne]
    · simp (disch := omega) only [fr_ne, fr_same]
      exact lay_in ⟨x1, x2⟩
    · simp (disch := omega) only [fr_ne, fr_same]
      rw [← h2]
      rfl
    · simp (disch := omega) only [fr_ne, fr_same]
      rw [lay_in ⟨f1, f2⟩, ← hG]
      have hkf' : k ∨ ¬ nes b σ la F (sgb b σ F) f = -1 := hkf
      show _ = nes b σ la F (sgb b σ F) f
      unfold nes at hkf' ⊢
      by_cases hc : σ 3 f = -1 ∧ (b 1 f ≤ sgb b σ F (σ 2 f) ∨ nhs b σ la F (sgb b σ F) (σ 2 f) = 0)
      · rw [if_pos hc]
        simp only
        rw [if_pos ⟨decide_eq_true hc.1, decide_eq_true hc.2⟩]
      · rw [if_neg hc] at hkf' ⊢
        simp only
        rw [if_neg (fun h => hc ⟨of_decide_eq_true h.1, of_decide_eq_true h.2⟩)]
        exact hf f f1 f2 hkf'
    · simp (disch := omega) only [fr_ne, fr_same, fu_ne, fu_same]
      rfl
    · simp (disch := omega) only [fr_ne, fr_same, fu_ne, fu_same]
      congr 1
      refine mk_ext fun j _ _ => ?_
      show decide (0 < sgb b σ F j) = decide (nws (sgb b σ F) j = 1)
      unfold nws
      by_cases hj : 0 < sgb b σ F j
      · rw [if_pos hj, decide_eq_true hj]
        rfl
      · rw [if_neg hj, decide_eq_false hj]
        rfl
    · simp (disch := omega) only [fr_ne, fr_same, fu_ne, fu_same]
      show _ = (if (1 : Int) = 0 then σ 4 0 + 1 else σ 4 1 + sm (mks b σ la F (sgb b σ F)) (b 0 2).toNat)
      rw [if_neg (by omega), hms]
    · simp (disch := omega) only [fr_ne, fr_same, fu_ne, fu_same]
      show _ = (if (0 : Int) = 0 then σ 4 0 + 1 else σ 4 1 + sm (mks b σ la F (sgb b σ F)) (b 0 2).toNat)
      rw [if_pos rfl]
theorem LA.ok (h : LA L sh c lo la) : ∀ l, la = some l → LOk l := by
  intro l hl
  rcases h with ⟨_, h⟩ | ⟨lr, l', _, h, hc⟩
  · rw [h] at hl
    cases hl
  · rw [h] at hl
    cases hl
    obtain ⟨_, m1, k, _, _, _, _, _, h8, _⟩ := hc
    exact h8
theorem LA.of {L2 : Nat} {sh2 : Nat → SH} {d : Nat → Int → Int} (h : LA L sh c lo la) (hL : L ≤ L2) (hs : ∀ a, a < L → sh2 a = sh a) (hd : ∀ lr a, lo = some lr → lr ≤ a → a ≤ lr + 2 → d a = c a) : LA L2 sh2 d lo la := by
  rcases h with h | ⟨lr, l', h1, h, hc⟩
  · exact Or.inl h
  · exact Or.inr ⟨lr, l', h1, h, hc.of hL hs (hd lr _ h1 (by omega) (by omega)) (hd lr _ h1 (by omega) (by omega)) (hd lr _ h1 (by omega) (by omega))⟩
theorem c90 {k : Prop} (hE : SeaS L sh (some s) lo) (hO : ShoS L sh s) (hs : s = 30 ∨ 115 ≤ s) (hR : SanS L sh r) (hr : AP r s) (hb : WB b) (hw : WS b σ) (hl : LA L sh c lo la) (hal : ∀ lr, lo = some lr → 115 ≤ lr) (hB : SHO b s c) (hσ : SAN k b r c σ) (hF : 0 ≤ F ∧ F ≤ 60) (h9 : σ 4 0 < 900)
    (hq : ∀ e, (∀ a, ¬ a = 50 → ¬ a = 52 → ¬ a = 53 → ¬ a = 54 → ¬ a = 55 → ¬ a = r → ¬ a = r + 1 → ¬ a = r + 3 → e a = c a) → SAN k b r e (stp b σ la F) → Q (some (.inl (sm (nws (sgb b σ F)) (b 0 0 * b 0 1).toNat))) (hp L sh e) n) : tc_C 90 [rf 49, rf r, .inl F] (hp L sh c) n Q := by
  obtain ⟨hr1, hr2⟩ := id hr
  have hN := hb.n25
  have hse : SEq b (fun a => if a = 0 then c (r + 1) else if a = 2 then c (r + 2) else σ a) σ := ⟨fun x x1 x2 => ⟨hσ.1 x x1 x2, rfl⟩, fun f f1 f2 => ⟨(hσ.2.1 f f1 f2).1, rfl⟩, rfl, rfl⟩
  generalize hS : (fun a => if a = 0 then c (r + 1) else if a = 2 then c (r + 2) else σ a) = S at hse
  have s0 : S 0 = c (r + 1) := by rw [← hS]; rfl
  have s2 : S 2 = c (r + 2) := by rw [← hS]; rfl
  have s1 : S 1 = σ 1 := by rw [← hS]; rfl
  have s3 : S 3 = σ 3 := by rw [← hS]; rfl
  have s4 : S 4 = σ 4 := by rw [← hS]; rfl
  have hwS : WS b S := WS.of hse.symm hw
  rw [← sgb_ext hb hse] at hq
  have hq' : ∀ e, (∀ a, ¬ a = 50 → ¬ a = 52 → ¬ a = 53 → ¬ a = 54 → ¬ a = 55 → ¬ a = r → ¬ a = r + 1 → ¬ a = r + 3 → e a = c a) → SAN k b r e (stp b S la F) → Q (some (.inl (sm (nws (sgb b S F)) (b 0 0 * b 0 1).toNat))) (hp L sh e) n := fun e h1 h2 => hq e h1 (SAN.of hb h2 (stp_ext hb hwS hse hl.ok))
  show tc_W 90 0 [rf 49, rf r, .inl F, tc_nil, tc_nil] [] _ _ Q
  repeat' (first | (simp (disch := first | omega | exact Nat.le_of_ble_eq_true rfl | exact rfl | assumption | (simp (disch := omega) only [fr_ne, fr_same]; first | assumption | omega)) only [r90_0, r90_1, r90_2, r90_5, r90_6, v90_6_7, r90_9, r90_10i, r90_11, r90_12i, r90_16, r90_17, r90_20, r90_26, r90_27, r90_30, r90_32, r90_33, r90_34, r90_35, r90_38, r90_40, r90_44, r90_45, r90_46, r90_48, r90_49, r90_50i, r90_51, r90_52, r90_55, r90_55A, r90_58, r90_59, r90_62, r90_64, r90_65, r90_68, r90_69, r90_70, r90_72, r90_73, v90_73_7, r90_76, r90_77, r90_80, v90_80_1, r90_83, r90_84, r90_87, r90_88, r90_91, r90_93, r90_94, r90_98, r90_99, r90_102, r90_104, r90_105, r90_106i, r90_109, r90_112, r90_113i, r90_117, r90_118, r90_121, r90_127, r90_128, r90_131, r90_133, r90_134, r90_135, r90_138, r90_140, r90_141, r90_142, r90_145, r90_147, r90_148, r90_149, r90_152, r90_153i, r90_156, r90_159, r90_160, r90_161, v90_161_7, r90_164, r90_165, r90_165A, r90_166, r90_169, r90_170, r90_173, r90_174, r90_177, v90_177_8, r90_180, r90_181, r90_184, r90_185, r90_186, r90_189, r90_190, r90_193, r90_194, r90_197, r90_198, r90_199, r90_202, r90_205, r90_206, r90_209, g7_79_5, g7_9_7, g7_41_8, g7_26_7, g7_19_7, g7_15_7, g7_38_7, g7_97_5, g7_100_5, p7_97_5, p7_106_5, g7_66_5, p7_66_5, o5_len, o5_g0, o7_len, o7_g0, o8_len, o8_g2, o7_g4, o7_g2, o7_g1, o7_g7, o5_g5, o5_g3, o5_s5, o5_s4, o5_g6, o5_s6, il_s, bl_s, bl_z, ll_s, is_s, bs_s, bs_z, ls_s, al_s, al_b, al_l, fr_ne, fr_same, fr_fr, Nat.reduceEqDiff, tc_gf3_s, tc_ql2_s, tc_ws_0, tc_ws_i, tc_ws_l, tc_ws_r, Nat.reduceLeDiff, Nat.reduceAdd, Nat.reduceLT, true_and, and_true, if_true, if_false, tc_K, Option.toList_some, Option.toList_none, List.nil_append, List.cons_append, ite_true, ite_false, Int.cast_ofNat_Int, reduceIte, i3_add_eq, i3_sub_eq, Int.add_sub_cancel, Int.add_neg_cancel_right, SeaS_g0 hE, SeaS_s0 hE, SeaS_g1 hE, SeaS_s1 hE, SeaS_g2 hE, SeaS_s2 hE, SeaS_g3 hE, SeaS_s3 hE, SeaS_g4 hE, SeaS_s4 hE, SeaS_g5 hE, SeaS_s5 hE, SeaS_g6 hE, SeaS_s6 hE, ShoS_g0 hO, ShoS_s0 hO, ShoS_g1 hO, ShoS_s1 hO, ShoS_g2 hO, ShoS_s2 hO, ShoS_g3 hO, ShoS_s3 hO, ShoS_g4 hO, ShoS_s4 hO, ShoS_g5 hO, ShoS_s5 hO, ShoS_g6 hO, ShoS_s6 hO, ShoS_g7 hO, ShoS_s7 hO, SanS_g0 hR, SanS_s0 hR, SanS_g1 hR, SanS_s1 hR, SanS_g2 hR, SanS_s2 hR, SanS_g3 hR, SanS_s3 hR]) | (simp only [r90_23, r90_41, r90_95, r90_124, i6_lt0, i6_0lt, i6_0le, i6_le0, i6_eq0, b10_0, ite_not, Int.reduceLT, Int.reduceLE, Int.reduceEq, Int.reduceNeg, if_true, if_false, ite_true, ite_false, reduceIte, eq_self, not_true, not_false_eq_true]; try refine tc_ite (fun _ => ?_) (fun _ => ?_) <;> try (exfalso; omega)))
  refine c77 (c := c) hE hO hs hR.2.2.1 (by have := hR.1; omega) (by omega) ⟨hb.1.1, hb.1.2.1⟩ hN hB.1 (s0 ▸ hwS.1) hF ?_
  intro e he1 he2
  repeat' (first | (simp (disch := first | omega | exact Nat.le_of_ble_eq_true rfl | exact rfl | assumption | (simp (disch := omega) only [fr_ne, fr_same]; first | assumption | omega)) only [r90_0, r90_1, r90_2, r90_5, r90_6, v90_6_7, r90_9, r90_10i, r90_11, r90_12i, r90_16, r90_17, r90_20, r90_26, r90_27, r90_30, r90_32, r90_33, r90_34, r90_35, r90_38, r90_40, r90_44, r90_45, r90_46, r90_48, r90_49, r90_50i, r90_51, r90_52, r90_55, r90_55A, r90_58, r90_59, r90_62, r90_64, r90_65, r90_68, r90_69, r90_70, r90_72, r90_73, v90_73_7, r90_76, r90_77, r90_80, v90_80_1, r90_83, r90_84, r90_87, r90_88, r90_91, r90_93, r90_94, r90_98, r90_99, r90_102, r90_104, r90_105, r90_106i, r90_109, r90_112, r90_113i, r90_117, r90_118, r90_121, r90_127, r90_128, r90_131, r90_133, r90_134, r90_135, r90_138, r90_140, r90_141, r90_142, r90_145, r90_147, r90_148, r90_149, r90_152, r90_153i, r90_156, r90_159, r90_160, r90_161, v90_161_7, r90_164, r90_165, r90_165A, r90_166, r90_169, r90_170, r90_173, r90_174, r90_177, v90_177_8, r90_180, r90_181, r90_184, r90_185, r90_186, r90_189, r90_190, r90_193, r90_194, r90_197, r90_198, r90_199, r90_202, r90_205, r90_206, r90_209, g7_79_5, g7_9_7, g7_41_8, g7_26_7, g7_19_7, g7_15_7, g7_38_7, g7_97_5, g7_100_5, p7_97_5, p7_106_5, g7_66_5, p7_66_5, o5_len, o5_g0, o7_len, o7_g0, o8_len, o8_g2, o7_g4, o7_g2, o7_g1, o7_g7, o5_g5, o5_g3, o5_s5, o5_s4, o5_g6, o5_s6, il_s, bl_s, bl_z, ll_s, is_s, bs_s, bs_z, ls_s, al_s, al_b, al_l, fr_ne, fr_same, fr_fr, Nat.reduceEqDiff, tc_gf3_s, tc_ql2_s, tc_ws_0, tc_ws_i, tc_ws_l, tc_ws_r, Nat.reduceLeDiff, Nat.reduceAdd, Nat.reduceLT, true_and, and_true, if_true, if_false, tc_K, Option.toList_some, Option.toList_none, List.nil_append, List.cons_append, ite_true, ite_false, Int.cast_ofNat_Int, reduceIte, i3_add_eq, i3_sub_eq, Int.add_sub_cancel, Int.add_neg_cancel_right]) | (simp only [r90_23, r90_41, r90_95, r90_124, i6_lt0, i6_0lt, i6_0le, i6_le0, i6_eq0, b10_0, ite_not, Int.reduceLT, Int.reduceLE, Int.reduceEq, Int.reduceNeg, if_true, if_false, ite_true, ite_false, reduceIte, eq_self, not_true, not_false_eq_true]; try refine tc_ite (fun _ => ?_) (fun _ => ?_) <;> try (exfalso; omega)))
  have es : sgb b S F = stg (b 0 0) (b 0 0 * b 0 1) (c (r + 1)) F := by rw [← s0]; rfl
  rw [← es] at he2
  have h0 : mk (fun j => decide (0 < sgb b S F j)) (0 : Int).toNat = 0 := rfl
  have hlp := lq_1 (N := b 0 0 * b 0 1) (P := fun k (d : Nat → Int → Int) => tc_W 90 14 [rf 49, rf r, .inl F, .inl (mk (fun j => decide (0 < sgb b S F j)) k.toNat : Nat), .inl k] [] (hp L sh d) n Q) (I := fun k d => (∀ a, ¬ a = 52 → ¬ a = 54 → ¬ a = 55 → d a = e a) ∧ d 52 = lay k (tks b S la F (sgb b S F)) (e 52)) ?_ ?_ 0 e (by omega) hN.1 ⟨fun _ _ _ _ => rfl, by rw [lay_0]⟩
  · rw [h0] at hlp
    exact hlp
  · intro k d hk hk2 ⟨hI1, hI2⟩ ih
    have fd : ∀ a, ¬ a = 50 → ¬ a = 52 → ¬ a = 53 → ¬ a = 54 → ¬ a = 55 → d a = c a := fun a a1 a2 a3 a4 a5 => (hI1 a a2 a4 a5).trans (he1 a a1 a3)
    refine c90_x (c := d) (b := b) (σ := S) (la := la) hE hO hs hR hr hb hwS (hl.of (Nat.le_refl L) (fun _ _ => rfl) (fun lr a h1 h2 h3 => ?_)) (hB.fr fun a a1 a2 => ?_) ?_ ?_ ?_ ?_ ?_ hk hk2 ?_ ?_
    · have := hal lr h1
      exact fd a (by omega) (by omega) (by omega) (by omega) (by omega)
    · exact fd a (by omega) (by omega) (by omega) (by omega) (by omega)
    · rw [s0, fd (r + 1) (by omega) (by omega) (by omega) (by omega) (by omega)]
    · rw [s2, fd (r + 2) (by omega) (by omega) (by omega) (by omega) (by omega)]
    · rw [s3, fd r (by omega) (by omega) (by omega) (by omega) (by omega)]
      exact hσ.2.2.1
    · rw [s1, fd r (by omega) (by omega) (by omega) (by omega) (by omega)]
      exact hσ.2.2.2.1
    · rw [s4, fd r (by omega) (by omega) (by omega) (by omega) (by omega)]
      exact hσ.2.2.2.2.2
    · rw [hI1 50 (by omega) (by omega) (by omega), he2]
      exact lay_in ⟨hk, hk2⟩
    · intro d2 h1 h2
      refine ih d2 ⟨fun a a1 a2 a3 => (h1 a a1 a2 a3).trans (hI1 a a1 a2 a3), ?_⟩
      rw [h2, hI2]
      exact lay_up hk
  · intro d ⟨hI1, hI2⟩
    have fd : ∀ a, ¬ a = 50 → ¬ a = 52 → ¬ a = 53 → ¬ a = 54 → ¬ a = 55 → d a = c a := fun a a1 a2 a3 a4 a5 => (hI1 a a2 a4 a5).trans (he1 a a1 a3)
    have hcs : d s 2 = b 0 0 * b 0 1 := by
      rw [fd s (by omega) (by omega) (by omega) (by omega) (by omega)]
      exact hB.1.2.1
    simp only [r90_14]
    repeat' (first | (simp (disch := first | omega | exact Nat.le_of_ble_eq_true rfl | exact rfl | assumption | (simp (disch := omega) only [fr_ne, fr_same]; first | assumption | omega)) only [r90_0, r90_1, r90_2, r90_5, r90_6, v90_6_7, r90_9, r90_10i, r90_11, r90_12i, r90_16, r90_17, r90_20, r90_26, r90_27, r90_30, r90_32, r90_33, r90_34, r90_35, r90_38, r90_40, r90_44, r90_45, r90_46, r90_48, r90_49, r90_50i, r90_51, r90_52, r90_55, r90_55A, r90_58, r90_59, r90_62, r90_64, r90_65, r90_68, r90_69, r90_70, r90_72, r90_73, v90_73_7, r90_76, r90_77, r90_80, v90_80_1, r90_83, r90_84, r90_87, r90_88, r90_91, r90_93, r90_94, r90_98, r90_99, r90_102, r90_104, r90_105, r90_106i, r90_109, r90_113i, r90_117, r90_118, r90_121, r90_127, r90_128, r90_131, r90_133, r90_134, r90_135, r90_138, r90_140, r90_141, r90_142, r90_145, r90_147, r90_148, r90_149, r90_152, r90_153i, r90_156, r90_159, r90_160, r90_161, v90_161_7, r90_164, r90_165, r90_165A, r90_166, r90_169, r90_170, r90_173, r90_174, r90_177, v90_177_8, r90_180, r90_181, r90_184, r90_185, r90_186, r90_189, r90_190, r90_193, r90_194, r90_197, r90_198, r90_199, r90_202, r90_205, r90_206, r90_209, g7_79_5, g7_9_7, g7_41_8, g7_26_7, g7_19_7, g7_15_7, g7_38_7, g7_97_5, g7_100_5, p7_97_5, p7_106_5, g7_66_5, p7_66_5, o5_len, o5_g0, o7_len, o7_g0, o8_len, o8_g2, o7_g4, o7_g2, o7_g1, o7_g7, o5_g5, o5_g3, o5_s5, o5_s4, o5_g6, o5_s6, il_s, bl_s, bl_z, ll_s, is_s, bs_s, bs_z, ls_s, al_s, al_b, al_l, fr_ne, fr_same, fr_fr, Nat.reduceEqDiff, tc_gf3_s, tc_ql2_s, tc_ws_0, tc_ws_i, tc_ws_l, tc_ws_r, Nat.reduceLeDiff, Nat.reduceAdd, Nat.reduceLT, true_and, and_true, if_true, if_false, tc_K, Option.toList_some, Option.toList_none, List.nil_append, List.cons_append, ite_true, ite_false, Int.cast_ofNat_Int, reduceIte, i3_add_eq, i3_sub_eq, Int.add_sub_cancel, Int.add_neg_cancel_right, SeaS_g0 hE, SeaS_s0 hE, SeaS_g1 hE, SeaS_s1 hE, SeaS_g2 hE, SeaS_s2 hE, SeaS_g3 hE, SeaS_s3 hE, SeaS_g4 hE, SeaS_s4 hE, SeaS_g5 hE, SeaS_s5 hE, SeaS_g6 hE, SeaS_s6 hE, ShoS_g0 hO, ShoS_s0 hO, ShoS_g1 hO, ShoS_s1 hO, ShoS_g2 hO, ShoS_s2 hO, ShoS_g3 hO, ShoS_s3 hO, ShoS_g4 hO, ShoS_s4 hO, ShoS_g5 hO, ShoS_s5 hO, ShoS_g6 hO, ShoS_s6 hO, ShoS_g7 hO, ShoS_s7 hO, hcs]) | (simp only [r90_23, r90_41, r90_95, r90_124, i6_lt0, i6_0lt, i6_0le, i6_le0, i6_eq0, b10_0, ite_not, Int.reduceLT, Int.reduceLE, Int.reduceEq, Int.reduceNeg, if_true, if_false, ite_true, ite_false, reduceIte, eq_self, not_true, not_false_eq_true]; try refine tc_ite (fun _ => ?_) (fun _ => ?_) <;> try (exfalso; omega)))
    refine c90_t (c := d) (b := b) (σ := S) (la := la) (k := k) hE hO hs hR hr hb hwS (hB.fr fun a a1 a2 => ?_) (by rw [s4]; exact h9) (fun f f1 f2 f3 => ?_) ?_ ?_ ?_ ?_ ?_ (fun x x1 x2 => ?_) (fun x x1 x2 => ?_) ?_
    · exact fd a (by omega) (by omega) (by omega) (by omega) (by omega)
    · rw [s3] at f3 ⊢
      rw [fd (r + 3) (by omega) (by omega) (by omega) (by omega) (by omega)]
      exact (hσ.2.1 f f1 f2).2 f3
    · rw [s0, fd (r + 1) (by omega) (by omega) (by omega) (by omega) (by omega)]
    · rw [s2, fd (r + 2) (by omega) (by omega) (by omega) (by omega) (by omega)]
    · rw [s3, fd r (by omega) (by omega) (by omega) (by omega) (by omega)]
      exact hσ.2.2.1
    · rw [s4, fd r (by omega) (by omega) (by omega) (by omega) (by omega)]
      exact hσ.2.2.2.2.1
    · rw [s4, fd r (by omega) (by omega) (by omega) (by omega) (by omega)]
      exact hσ.2.2.2.2.2
    · rw [hI1 50 (by omega) (by omega) (by omega), he2]
      exact lay_in ⟨x1, x2⟩
    · rw [hI2]
      exact lay_in ⟨x1, x2⟩
    · intro e2 h1 h2
      exact hq' e2 (fun a a1 a2 a3 a4 a5 a6 a7 a8 => (h1 a a6 a7 a8).trans (fd a a1 a2 a3 a4 a5)) h2
end CWAVE4

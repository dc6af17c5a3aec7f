/-! the class: Sands -/
theorem cpy_al (m : Nat) (f g : Int → Int) : tc_cpy (al m f) (al m g) (0 : Int).toNat (0 : Int).toNat ((m : Nat) : Int).toNat = al m f := by
  unfold tc_cpy
  rw [show (0 : Int).toNat = 0 from rfl, Int.toNat_natCast, List.take_zero, List.nil_append, List.drop_zero, Nat.zero_add]
  rw [List.take_of_length_le (by rw [al_len]; exact Nat.le_refl m), List.drop_of_length_le (by rw [al_len]; exact Nat.le_refl m), List.append_nil]
section SANDS
variable {L : Nat} {sh : Nat → SH} {c : Nat → Int → Int} {n : Nat} {Q : Option AV → List SC → Nat → Prop} {r q s : Nat} {b σ : Nat → Int → Int} {k : Prop}
theorem c88 (hR : SanS L sh r) (hO : SanS L sh q) (hd : r + 3 < q ∨ q + 3 < r) (hq : ∀ e, (∀ a, (a < r ∨ r + 3 < a) → e a = c a) → (∀ i, (i = 3 ∨ i = 4 ∨ i = 5 ∨ i = 6) → e r i = c q i) → e (r + 1) = c (q + 1) → e (r + 2) = c (q + 2) → e (r + 3) = c (q + 3) → Q none (hp L sh e) n) : tc_C 88 [rf r, rf q] (hp L sh c) n Q := by
  show tc_W 88 0 [rf r, rf q] [] _ _ Q
  repeat' (simp (disch := first | omega | exact Nat.le_of_ble_eq_true rfl | exact rfl | assumption | (simp (disch := omega) only [fr_ne, fr_same]; first | assumption | omega)) only [r88_0, r88_1, r88_4, r88_5, r88_6, r88_9, r88_10, r88_12, r88_15, r88_16, r88_19, r88_20, r88_21, r88_24, r88_25, r88_27, r88_30, r88_31, r88_34, r88_35, r88_36, r88_39, r88_40, r88_42, r88_45, r88_46, r88_47, r88_50, r88_53, r88_54, r88_55, r88_58, r88_61, r88_62, r88_63, r88_66, r88_69, r88_70, r88_71, r88_74, r88_77, g5_9_5, g5_15_5, g5_18_5, g5_21_5, p5_21_5, g5_25_5, p5_25_5, g5_28_5, p5_28_5, g5_31_5, p5_31_5, o5_len, o5_g0, o5_g1, o5_g2, o5_g3, o5_s3, o5_g4, o5_s4, o5_g5, o5_s5, o5_g6, o5_s6, il_s, bl_s, bl_z, ll_s, is_s, bs_s, bs_z, ls_s, al_s, al_b, al_l, fr_ne, fr_same, fr_fr, Nat.reduceEqDiff, tc_gf3_s, tc_ql2_s, tc_ws_0, tc_ws_i, tc_ws_l, tc_ws_r, Nat.reduceLeDiff, Nat.reduceAdd, Nat.reduceLT, true_and, and_true, if_true, if_false, tc_K, Option.toList_some, Option.toList_none, List.nil_append, List.cons_append, ite_true, ite_false, Int.cast_ofNat_Int, reduceIte, i3_add_eq, i3_sub_eq, Int.add_sub_cancel, Int.add_neg_cancel_right, SanS_g0 hR, SanS_s0 hR, SanS_g1 hR, SanS_s1 hR, SanS_g2 hR, SanS_s2 hR, SanS_g3 hR, SanS_s3 hR, SanS_g0 hO, SanS_s0 hO, SanS_g1 hO, SanS_s1 hO, SanS_g2 hO, SanS_s2 hO, SanS_g3 hO, SanS_s3 hO])
  rw [r88_12 (Nat.le_of_ble_eq_true rfl) (SanS_g1 hR) (SanS_g1 hO) ⟨by omega, by omega, by omega, by omega, by rw [al_len]; decide, by rw [al_len]; decide⟩]
  rw [show (25 : Int).toNat = ((25 : Nat) : Int).toNat from rfl, cpy_al 25]
  repeat' (simp (disch := first | omega | exact Nat.le_of_ble_eq_true rfl | exact rfl | assumption | (simp (disch := omega) only [fr_ne, fr_same]; first | assumption | omega)) only [r88_0, r88_1, r88_4, r88_5, r88_6, r88_9, r88_10, r88_12, r88_15, r88_16, r88_19, r88_20, r88_21, r88_24, r88_25, r88_27, r88_30, r88_31, r88_34, r88_35, r88_36, r88_39, r88_40, r88_42, r88_45, r88_46, r88_47, r88_50, r88_53, r88_54, r88_55, r88_58, r88_61, r88_62, r88_63, r88_66, r88_69, r88_70, r88_71, r88_74, r88_77, g5_9_5, g5_15_5, g5_18_5, g5_21_5, p5_21_5, g5_25_5, p5_25_5, g5_28_5, p5_28_5, g5_31_5, p5_31_5, o5_len, o5_g0, o5_g1, o5_g2, o5_g3, o5_s3, o5_g4, o5_s4, o5_g5, o5_s5, o5_g6, o5_s6, il_s, bl_s, bl_z, ll_s, is_s, bs_s, bs_z, ls_s, al_s, al_b, al_l, fr_ne, fr_same, fr_fr, Nat.reduceEqDiff, tc_gf3_s, tc_ql2_s, tc_ws_0, tc_ws_i, tc_ws_l, tc_ws_r, Nat.reduceLeDiff, Nat.reduceAdd, Nat.reduceLT, true_and, and_true, if_true, if_false, tc_K, Option.toList_some, Option.toList_none, List.nil_append, List.cons_append, ite_true, ite_false, Int.cast_ofNat_Int, reduceIte, i3_add_eq, i3_sub_eq, Int.add_sub_cancel, Int.add_neg_cancel_right, SanS_g0 hR, SanS_s0 hR, SanS_g1 hR, SanS_s1 hR, SanS_g2 hR, SanS_s2 hR, SanS_g3 hR, SanS_s3 hR, SanS_g0 hO, SanS_s0 hO, SanS_g1 hO, SanS_s1 hO, SanS_g2 hO, SanS_s2 hO, SanS_g3 hO, SanS_s3 hO])
  rw [r88_27 (Nat.le_of_ble_eq_true rfl) (SanS_g2 hR) (SanS_g2 hO) ⟨by omega, by omega, by omega, by omega, by rw [al_len]; decide, by rw [al_len]; decide⟩]
  rw [show (6 : Int).toNat = ((6 : Nat) : Int).toNat from rfl, cpy_al 6]
  repeat' (simp (disch := first | omega | exact Nat.le_of_ble_eq_true rfl | exact rfl | assumption | (simp (disch := omega) only [fr_ne, fr_same]; first | assumption | omega)) only [r88_0, r88_1, r88_4, r88_5, r88_6, r88_9, r88_10, r88_12, r88_15, r88_16, r88_19, r88_20, r88_21, r88_24, r88_25, r88_27, r88_30, r88_31, r88_34, r88_35, r88_36, r88_39, r88_40, r88_42, r88_45, r88_46, r88_47, r88_50, r88_53, r88_54, r88_55, r88_58, r88_61, r88_62, r88_63, r88_66, r88_69, r88_70, r88_71, r88_74, r88_77, g5_9_5, g5_15_5, g5_18_5, g5_21_5, p5_21_5, g5_25_5, p5_25_5, g5_28_5, p5_28_5, g5_31_5, p5_31_5, o5_len, o5_g0, o5_g1, o5_g2, o5_g3, o5_s3, o5_g4, o5_s4, o5_g5, o5_s5, o5_g6, o5_s6, il_s, bl_s, bl_z, ll_s, is_s, bs_s, bs_z, ls_s, al_s, al_b, al_l, fr_ne, fr_same, fr_fr, Nat.reduceEqDiff, tc_gf3_s, tc_ql2_s, tc_ws_0, tc_ws_i, tc_ws_l, tc_ws_r, Nat.reduceLeDiff, Nat.reduceAdd, Nat.reduceLT, true_and, and_true, if_true, if_false, tc_K, Option.toList_some, Option.toList_none, List.nil_append, List.cons_append, ite_true, ite_false, Int.cast_ofNat_Int, reduceIte, i3_add_eq, i3_sub_eq, Int.add_sub_cancel, Int.add_neg_cancel_right, SanS_g0 hR, SanS_s0 hR, SanS_g1 hR, SanS_s1 hR, SanS_g2 hR, SanS_s2 hR, SanS_g3 hR, SanS_s3 hR, SanS_g0 hO, SanS_s0 hO, SanS_g1 hO, SanS_s1 hO, SanS_g2 hO, SanS_s2 hO, SanS_g3 hO, SanS_s3 hO])
  rw [r88_42 (Nat.le_of_ble_eq_true rfl) (SanS_g3 hR) (SanS_g3 hO) ⟨by omega, by omega, by omega, by omega, by rw [al_len]; decide, by rw [al_len]; decide⟩]
  rw [show (6 : Int).toNat = ((6 : Nat) : Int).toNat from rfl, cpy_al 6]
  repeat' (simp (disch := first | omega | exact Nat.le_of_ble_eq_true rfl | exact rfl | assumption | (simp (disch := omega) only [fr_ne, fr_same]; first | assumption | omega)) only [r88_0, r88_1, r88_4, r88_5, r88_6, r88_9, r88_10, r88_12, r88_15, r88_16, r88_19, r88_20, r88_21, r88_24, r88_25, r88_27, r88_30, r88_31, r88_34, r88_35, r88_36, r88_39, r88_40, r88_42, r88_45, r88_46, r88_47, r88_50, r88_53, r88_54, r88_55, r88_58, r88_61, r88_62, r88_63, r88_66, r88_69, r88_70, r88_71, r88_74, r88_77, g5_9_5, g5_15_5, g5_18_5, g5_21_5, p5_21_5, g5_25_5, p5_25_5, g5_28_5, p5_28_5, g5_31_5, p5_31_5, o5_len, o5_g0, o5_g1, o5_g2, o5_g3, o5_s3, o5_g4, o5_s4, o5_g5, o5_s5, o5_g6, o5_s6, il_s, bl_s, bl_z, ll_s, is_s, bs_s, bs_z, ls_s, al_s, al_b, al_l, fr_ne, fr_same, fr_fr, Nat.reduceEqDiff, tc_gf3_s, tc_ql2_s, tc_ws_0, tc_ws_i, tc_ws_l, tc_ws_r, Nat.reduceLeDiff, Nat.reduceAdd, Nat.reduceLT, true_and, and_true, if_true, if_false, tc_K, Option.toList_some, Option.toList_none, List.nil_append, List.cons_append, ite_true, ite_false, Int.cast_ofNat_Int, reduceIte, i3_add_eq, i3_sub_eq, Int.add_sub_cancel, Int.add_neg_cancel_right, SanS_g0 hR, SanS_s0 hR, SanS_g1 hR, SanS_s1 hR, SanS_g2 hR, SanS_s2 hR, SanS_g3 hR, SanS_s3 hR, SanS_g0 hO, SanS_s0 hO, SanS_g1 hO, SanS_s1 hO, SanS_g2 hO, SanS_s2 hO, SanS_g3 hO, SanS_s3 hO])
  refine hq _ (fun a ha => ?_) (fun i hi => ?_) ?_ ?_ ?_
  · simp (disch := omega) only [fr_ne]
  · simp (disch := omega) only [fr_ne, fr_same]
    rcases hi with rfl | rfl | rfl | rfl
    all_goals simp (disch := omega) only [fu_ne, fu_same]
  · simp (disch := omega) only [fr_ne, fr_same]
  · simp (disch := omega) only [fr_ne, fr_same]
  · simp (disch := omega) only [fr_ne, fr_same]
theorem SAN.cp {e : Nat → Int → Int} (h : SAN k b q c σ) (h1 : ∀ i, (i = 3 ∨ i = 4 ∨ i = 5 ∨ i = 6) → e r i = c q i) (h2 : e (r + 1) = c (q + 1)) (h3 : e (r + 2) = c (q + 2)) (h4 : e (r + 3) = c (q + 3)) : SAN k b r e σ := by
  unfold SAN
  rw [h2, h3, h4, h1 3 (by omega), h1 4 (by omega), h1 5 (by omega), h1 6 (by omega)]
  exact h
theorem mk_all : ∀ m : Fin 7, i3_sub (i3_shl 1 (m.val : Int)) 1 = ((mk (fun _ => true) m.val : Nat) : Int) := by decide +kernel
theorem c48 (hR : SanS L sh r) (hO : ShoS L sh s) (hd : r + 3 < s ∨ s + 7 < r) (hb : WB b) (hB : SHO b s c) (hq : ∀ e, (∀ a, (a < r ∨ r + 3 < a) → e a = c a) → SAN True b r e (bgn b) → Q none (hp L sh e) n) : tc_C 48 [rf r, rf s] (hp L sh c) n Q := by
  show tc_W 48 0 [rf r, rf s, tc_nil] [] _ _ Q
  have hm := hb.2.1
  have hN := hb.n25
  have hs3 := hB.2.1.2.1
  repeat' (first | (simp (disch := first | omega | exact Nat.le_of_ble_eq_true rfl | exact rfl | assumption | (simp (disch := omega) only [fr_ne, fr_same]; first | assumption | omega)) only [r48_0, r48_1, r48_4, r48_5, r48_6, r48_9, r48_10, r48_12, r48_15, r48_16, r48_19, r48_20, r48_21, r48_24, r48_25, r48_27, r48_30, r48_31r, r48_33, r48_38, r48_39, r48_42, r48_43, r48_44, r48_45r, r48_48, r48_51, r48_52, r48_53, r48_54, r48_57, r48_58, r48_59, r48_60, r48_63, r48_64, r48_65, r48_68, r48_69, r48_70, r48_73, r48_74, r48_75, r48_78, g5_34_8, g5_9_5, g5_43_8, g5_15_5, g5_18_5, g5_44_8, p5_21_5, p5_25_5, p5_28_5, p5_31_5, o8_len, o8_g5, o5_len, o5_g0, o8_g6, o5_g1, o5_g2, o8_g3, o5_s3, o5_s4, o5_s5, o5_s6, il_s, bl_s, bl_z, ll_s, is_s, bs_s, bs_z, ls_s, al_s, al_b, al_l, fr_ne, fr_same, fr_fr, Nat.reduceEqDiff, tc_gf3_s, tc_ql2_s, tc_ws_0, tc_ws_i, tc_ws_l, tc_ws_r, Nat.reduceLeDiff, Nat.reduceAdd, Nat.reduceLT, true_and, and_true, if_true, if_false, tc_K, Option.toList_some, Option.toList_none, List.nil_append, List.cons_append, ite_true, ite_false, Int.cast_ofNat_Int, reduceIte, i3_add_eq, i3_sub_eq, Int.add_sub_cancel, Int.add_neg_cancel_right, SanS_g0 hR, SanS_s0 hR, SanS_g1 hR, SanS_s1 hR, SanS_g2 hR, SanS_s2 hR, SanS_g3 hR, SanS_s3 hR, ShoS_g0 hO, ShoS_s0 hO, ShoS_g1 hO, ShoS_s1 hO, ShoS_g2 hO, ShoS_s2 hO, ShoS_g3 hO, ShoS_s3 hO, ShoS_g4 hO, ShoS_s4 hO, ShoS_g5 hO, ShoS_s5 hO, ShoS_g6 hO, ShoS_s6 hO, ShoS_g7 hO, ShoS_s7 hO]) | (simp only [r48_35, i6_lt0, i6_0lt, i6_0le, i6_le0, i6_eq0, b10_0, ite_not, Int.reduceLT, Int.reduceLE, Int.reduceEq, Int.reduceNeg, if_true, if_false, ite_true, ite_false, reduceIte, eq_self, not_true, not_false_eq_true]; try refine tc_ite (fun _ => ?_) (fun _ => ?_) <;> try (exfalso; omega)))
  rw [r48_12 (Nat.le_of_ble_eq_true rfl) (SanS_g1 hR) (ShoS_g1 hO) ⟨by omega, by omega, by omega, by omega, by rw [al_len]; decide, by rw [al_len]; decide⟩]
  rw [show (25 : Int).toNat = ((25 : Nat) : Int).toNat from rfl, cpy_al 25]
  repeat' (first | (simp (disch := first | omega | exact Nat.le_of_ble_eq_true rfl | exact rfl | assumption | (simp (disch := omega) only [fr_ne, fr_same]; first | assumption | omega)) only [r48_0, r48_1, r48_4, r48_5, r48_6, r48_9, r48_10, r48_12, r48_15, r48_16, r48_19, r48_20, r48_21, r48_24, r48_25, r48_27, r48_30, r48_31r, r48_33, r48_38, r48_39, r48_42, r48_43, r48_44, r48_45r, r48_48, r48_51, r48_52, r48_53, r48_54, r48_57, r48_58, r48_59, r48_60, r48_63, r48_64, r48_65, r48_68, r48_69, r48_70, r48_73, r48_74, r48_75, r48_78, g5_34_8, g5_9_5, g5_43_8, g5_15_5, g5_18_5, g5_44_8, p5_21_5, p5_25_5, p5_28_5, p5_31_5, o8_len, o8_g5, o5_len, o5_g0, o8_g6, o5_g1, o5_g2, o8_g3, o5_s3, o5_s4, o5_s5, o5_s6, il_s, bl_s, bl_z, ll_s, is_s, bs_s, bs_z, ls_s, al_s, al_b, al_l, fr_ne, fr_same, fr_fr, Nat.reduceEqDiff, tc_gf3_s, tc_ql2_s, tc_ws_0, tc_ws_i, tc_ws_l, tc_ws_r, Nat.reduceLeDiff, Nat.reduceAdd, Nat.reduceLT, true_and, and_true, if_true, if_false, tc_K, Option.toList_some, Option.toList_none, List.nil_append, List.cons_append, ite_true, ite_false, Int.cast_ofNat_Int, reduceIte, i3_add_eq, i3_sub_eq, Int.add_sub_cancel, Int.add_neg_cancel_right, SanS_g0 hR, SanS_s0 hR, SanS_g1 hR, SanS_s1 hR, SanS_g2 hR, SanS_s2 hR, SanS_g3 hR, SanS_s3 hR, ShoS_g0 hO, ShoS_s0 hO, ShoS_g1 hO, ShoS_s1 hO, ShoS_g2 hO, ShoS_s2 hO, ShoS_g3 hO, ShoS_s3 hO, ShoS_g4 hO, ShoS_s4 hO, ShoS_g5 hO, ShoS_s5 hO, ShoS_g6 hO, ShoS_s6 hO, ShoS_g7 hO, ShoS_s7 hO]) | (simp only [r48_35, i6_lt0, i6_0lt, i6_0le, i6_le0, i6_eq0, b10_0, ite_not, Int.reduceLT, Int.reduceLE, Int.reduceEq, Int.reduceNeg, if_true, if_false, ite_true, ite_false, reduceIte, eq_self, not_true, not_false_eq_true]; try refine tc_ite (fun _ => ?_) (fun _ => ?_) <;> try (exfalso; omega)))
  rw [r48_27 (Nat.le_of_ble_eq_true rfl) (SanS_g2 hR) (ShoS_g2 hO) ⟨by omega, by omega, by omega, by omega, by rw [al_len]; decide, by rw [al_len]; decide⟩]
  rw [show (6 : Int).toNat = ((6 : Nat) : Int).toNat from rfl, cpy_al 6]
  repeat' (first | (simp (disch := first | omega | exact Nat.le_of_ble_eq_true rfl | exact rfl | assumption | (simp (disch := omega) only [fr_ne, fr_same]; first | assumption | omega)) only [r48_0, r48_1, r48_4, r48_5, r48_6, r48_9, r48_10, r48_12, r48_15, r48_16, r48_19, r48_20, r48_21, r48_24, r48_25, r48_27, r48_30, r48_31r, r48_33, r48_38, r48_39, r48_42, r48_43, r48_44, r48_45r, r48_48, r48_51, r48_52, r48_53, r48_54, r48_57, r48_58, r48_59, r48_60, r48_63, r48_64, r48_65, r48_68, r48_69, r48_70, r48_73, r48_74, r48_75, r48_78, g5_34_8, g5_9_5, g5_43_8, g5_15_5, g5_18_5, g5_44_8, p5_21_5, p5_25_5, p5_28_5, p5_31_5, o8_len, o8_g5, o5_len, o5_g0, o8_g6, o5_g1, o5_g2, o8_g3, o5_s3, o5_s4, o5_s5, o5_s6, il_s, bl_s, bl_z, ll_s, is_s, bs_s, bs_z, ls_s, al_s, al_b, al_l, fr_ne, fr_same, fr_fr, Nat.reduceEqDiff, tc_gf3_s, tc_ql2_s, tc_ws_0, tc_ws_i, tc_ws_l, tc_ws_r, Nat.reduceLeDiff, Nat.reduceAdd, Nat.reduceLT, true_and, and_true, if_true, if_false, tc_K, Option.toList_some, Option.toList_none, List.nil_append, List.cons_append, ite_true, ite_false, Int.cast_ofNat_Int, reduceIte, i3_add_eq, i3_sub_eq, Int.add_sub_cancel, Int.add_neg_cancel_right, SanS_g0 hR, SanS_s0 hR, SanS_g1 hR, SanS_s1 hR, SanS_g2 hR, SanS_s2 hR, SanS_g3 hR, SanS_s3 hR, ShoS_g0 hO, ShoS_s0 hO, ShoS_g1 hO, ShoS_s1 hO, ShoS_g2 hO, ShoS_s2 hO, ShoS_g3 hO, ShoS_s3 hO, ShoS_g4 hO, ShoS_s4 hO, ShoS_g5 hO, ShoS_s5 hO, ShoS_g6 hO, ShoS_s6 hO, ShoS_g7 hO, ShoS_s7 hO]) | (simp only [r48_35, i6_lt0, i6_0lt, i6_0le, i6_le0, i6_eq0, b10_0, ite_not, Int.reduceLT, Int.reduceLE, Int.reduceEq, Int.reduceNeg, if_true, if_false, ite_true, ite_false, reduceIte, eq_self, not_true, not_false_eq_true]; try refine tc_ite (fun _ => ?_) (fun _ => ?_) <;> try (exfalso; omega)))
  generalize hd1 : fr (fr c (r + 1) (c (s + 1))) (r + 2) (c (s + 2)) = d
  have hlp := upI (N := 6) (P := fun x => tc_W 48 32 [rf r, rf s, .inl x] [] (hp L sh (fr d (r + 3) (lay x (fun _ => -1) (d (r + 3))))) n Q) (by omega) ?_ ?_
  · rw [lay_0, fr_id] at hlp
    exact hlp
  · intro x hx hx2 ih
    simp only [r48_32]
    repeat' (first | (simp (disch := first | omega | exact Nat.le_of_ble_eq_true rfl | exact rfl | assumption | (simp (disch := omega) only [fr_ne, fr_same]; first | assumption | omega)) only [r48_0, r48_1, r48_4, r48_5, r48_6, r48_9, r48_10, r48_12, r48_15, r48_16, r48_19, r48_20, r48_21, r48_24, r48_25, r48_27, r48_30, r48_31r, r48_33, r48_38, r48_39, r48_42, r48_43, r48_44, r48_45r, r48_48, r48_51, r48_52, r48_53, r48_54, r48_57, r48_58, r48_59, r48_60, r48_63, r48_64, r48_65, r48_68, r48_69, r48_70, r48_73, r48_74, r48_75, r48_78, g5_34_8, g5_9_5, g5_43_8, g5_15_5, g5_18_5, g5_44_8, p5_21_5, p5_25_5, p5_28_5, p5_31_5, o8_len, o8_g5, o5_len, o5_g0, o8_g6, o5_g1, o5_g2, o8_g3, o5_s3, o5_s4, o5_s5, o5_s6, il_s, bl_s, bl_z, ll_s, is_s, bs_s, bs_z, ls_s, al_s, al_b, al_l, fr_ne, fr_same, fr_fr, Nat.reduceEqDiff, tc_gf3_s, tc_ql2_s, tc_ws_0, tc_ws_i, tc_ws_l, tc_ws_r, Nat.reduceLeDiff, Nat.reduceAdd, Nat.reduceLT, true_and, and_true, if_true, if_false, tc_K, Option.toList_some, Option.toList_none, List.nil_append, List.cons_append, ite_true, ite_false, Int.cast_ofNat_Int, reduceIte, i3_add_eq, i3_sub_eq, Int.add_sub_cancel, Int.add_neg_cancel_right, SanS_g0 hR, SanS_s0 hR, SanS_g1 hR, SanS_s1 hR, SanS_g2 hR, SanS_s2 hR, SanS_g3 hR, SanS_s3 hR]) | (simp only [r48_35, i6_lt0, i6_0lt, i6_0le, i6_le0, i6_eq0, b10_0, ite_not, Int.reduceLT, Int.reduceLE, Int.reduceEq, Int.reduceNeg, if_true, if_false, ite_true, ite_false, reduceIte, eq_self, not_true, not_false_eq_true]; try refine tc_ite (fun _ => ?_) (fun _ => ?_) <;> try (exfalso; omega)))
    rw [lay_upv (f := fun _ => -1) hx rfl]
    exact ih
  · have ds : ∀ a, s ≤ a → a ≤ s + 7 → d a = c a := fun a a1 a2 => by
      rw [← hd1, fr_ne (by omega), fr_ne (by omega)]
    have ds3 : d s 3 = b 0 2 := by rw [ds s (by omega) (by omega)]; exact hs3
    have emk := mk_all ⟨(b 0 2).toNat, by omega⟩
    simp only [Int.toNat_of_nonneg hm.1] at emk
    simp only [r48_32]
    repeat' (first | (simp (disch := first | omega | exact Nat.le_of_ble_eq_true rfl | exact rfl | assumption | (simp (disch := omega) only [fr_ne, fr_same]; first | assumption | omega)) only [r48_0, r48_1, r48_4, r48_5, r48_6, r48_9, r48_10, r48_12, r48_15, r48_16, r48_19, r48_20, r48_21, r48_24, r48_25, r48_27, r48_30, r48_31r, r48_33, r48_38, r48_39, r48_42, r48_43, r48_44, r48_45r, r48_48, r48_51, r48_52, r48_53, r48_54, r48_57, r48_58, r48_59, r48_60, r48_63, r48_64, r48_65, r48_68, r48_69, r48_70, r48_73, r48_74, r48_75, r48_78, g5_34_8, g5_9_5, g5_43_8, g5_15_5, g5_18_5, g5_44_8, p5_21_5, p5_25_5, p5_28_5, p5_31_5, o8_len, o8_g5, o5_len, o5_g0, o8_g6, o5_g1, o5_g2, o8_g3, o5_s3, o5_s4, o5_s5, o5_s6, il_s, bl_s, bl_z, ll_s, is_s, bs_s, bs_z, ls_s, al_s, al_b, al_l, fr_ne, fr_same, fr_fr, Nat.reduceEqDiff, tc_gf3_s, tc_ql2_s, tc_ws_0, tc_ws_i, tc_ws_l, tc_ws_r, Nat.reduceLeDiff, Nat.reduceAdd, Nat.reduceLT, true_and, and_true, if_true, if_false, tc_K, Option.toList_some, Option.toList_none, List.nil_append, List.cons_append, ite_true, ite_false, Int.cast_ofNat_Int, reduceIte, i3_add_eq, i3_sub_eq, Int.add_sub_cancel, Int.add_neg_cancel_right, SanS_g0 hR, SanS_s0 hR, SanS_g1 hR, SanS_s1 hR, SanS_g2 hR, SanS_s2 hR, SanS_g3 hR, SanS_s3 hR, ShoS_g0 hO, ShoS_s0 hO, ShoS_g1 hO, ShoS_s1 hO, ShoS_g2 hO, ShoS_s2 hO, ShoS_g3 hO, ShoS_s3 hO, ShoS_g4 hO, ShoS_s4 hO, ShoS_g5 hO, ShoS_s5 hO, ShoS_g6 hO, ShoS_s6 hO, ShoS_g7 hO, ShoS_s7 hO, ds3, emk]) | (simp only [r48_35, i6_lt0, i6_0lt, i6_0le, i6_le0, i6_eq0, b10_0, ite_not, Int.reduceLT, Int.reduceLE, Int.reduceEq, Int.reduceNeg, if_true, if_false, ite_true, ite_false, reduceIte, eq_self, not_true, not_false_eq_true]; try refine tc_ite (fun _ => ?_) (fun _ => ?_) <;> try (exfalso; omega)))
    refine hq _ (fun a ha => ?_) ⟨fun x x1 x2 => ?_, fun f f1 f2 => ⟨?_, fun _ => ?_⟩, ?_, ?_, ?_, ?_⟩
    · simp (disch := omega) only [fr_ne]
      rw [← hd1]
      simp (disch := omega) only [fr_ne]
    · simp (disch := omega) only [fr_ne]
      rw [← hd1, fr_ne (by omega), fr_same]
      exact hB.2.2.2.2.2 x x1 x2
    · simp (disch := omega) only [fr_ne]
      rw [← hd1, fr_same]
      exact (hB.2.2.1 f f1 f2).1
    · simp (disch := omega) only [fr_ne, fr_same]
      exact lay_in ⟨f1, by omega⟩
    · simp (disch := omega) only [fr_same, fu_ne, fu_same]
      congr 1
    · simp (disch := omega) only [fr_same, fu_ne, fu_same]
      have : mk (fun x => decide (bgn b 1 x = 1)) (b 0 0 * b 0 1).toNat = mk (fun _ => false) (b 0 0 * b 0 1).toNat := mk_ext fun j _ _ => rfl
      rw [this]
      have z : ∀ m, mk (fun _ => false) m = 0 := by
        intro m
        induction m with
        | zero => rfl
        | succ m ih =>
          show mk (fun _ => false) m + (if false = true then 2 ^ m else 0) = 0
          rw [ih]
          rfl
      rw [z]
      rfl
    · simp (disch := omega) only [fr_same, fu_ne, fu_same]
      rfl
    · simp (disch := omega) only [fr_same, fu_ne, fu_same]
      rfl
theorem c105 (hR : SanS L sh r) (hO : ShoS L sh s) (hb : WB b) (hB : SHO b s c) (hσ : SAN k b r c σ) (hw : WS b σ) {m : Int} (hm : 0 ≤ m) (hm2 : m < 4 * (b 0 0 * b 0 1)) : tc_C 105 [rf r, rf s, .inl m] (hp L sh c) n Q = Q (some (.inl (if cdg b σ m = 1 then spt b m else -1))) (hp L sh c) n := tc_det fun Q hq => by
  show tc_W 105 0 [rf r, rf s, .inl m, tc_nil] [] _ _ Q
  have hN := hb.n25
  have h3 := spt_rng hb hm hm2
  have hbs : c (s + 7) m = spt b m := by
    have := hB.1.2.2 (m / 4) (m % 4) (by omega) (by omega) (by omega) (by omega)
    rw [show 4 * (m / 4) + m % 4 = m by omega] at this
    exact this
  have e1 : c (r + 1) (m / 4) = σ 0 (m / 4) := hσ.1 (m / 4) h3.2.2.1 h3.2.2.2
  have w1 := hw.1 (m / 4) h3.2.2.1 h3.2.2.2
  have hcd : cdg b σ m = if ¬ spt b m = -1 ∧ 0 < σ 0 (m / 4) ∧ σ 0 (spt b m) < 9 then 1 else 0 := rfl
  rw [hcd] at hq
  by_cases h0 : spt b m = -1
  · rw [if_neg (by rw [if_neg (fun h => h.1 h0)]; omega)] at hq
    repeat' (first | (simp (disch := first | omega | exact Nat.le_of_ble_eq_true rfl | exact rfl | assumption | (simp (disch := omega) only [fr_ne, fr_same]; first | assumption | omega)) only [r105_0, r105_1, r105_4, r105_5, r105_6i, r105_7, r105_8, r105_12, r105_13, r105_16, r105_17, r105_18, r105_19, r105_23, r105_24, r105_27, r105_28, r105_29, r105_34, r105_35, r105_36, r105_37, g5_47_8, g5_9_5, o8_len, o8_g11, o5_len, o5_g0, il_s, bl_s, bl_z, ll_s, is_s, bs_s, bs_z, ls_s, al_s, al_b, al_l, fr_ne, fr_same, fr_fr, Nat.reduceEqDiff, tc_gf3_s, tc_ql2_s, tc_ws_0, tc_ws_i, tc_ws_l, tc_ws_r, Nat.reduceLeDiff, Nat.reduceAdd, Nat.reduceLT, true_and, and_true, if_true, if_false, tc_K, Option.toList_some, Option.toList_none, List.nil_append, List.cons_append, ite_true, ite_false, Int.cast_ofNat_Int, reduceIte, i3_add_eq, i3_sub_eq, Int.add_sub_cancel, Int.add_neg_cancel_right, SanS_g0 hR, SanS_s0 hR, SanS_g1 hR, SanS_s1 hR, SanS_g2 hR, SanS_s2 hR, SanS_g3 hR, SanS_s3 hR, ShoS_g0 hO, ShoS_s0 hO, ShoS_g1 hO, ShoS_s1 hO, ShoS_g2 hO, ShoS_s2 hO, ShoS_g3 hO, ShoS_s3 hO, ShoS_g4 hO, ShoS_s4 hO, ShoS_g5 hO, ShoS_s5 hO, ShoS_g6 hO, ShoS_s6 hO, ShoS_g7 hO, ShoS_s7 hO, hbs, h0]) | (simp only [r105_9, r105_20, r105_31, i6_lt0, i6_0lt, i6_0le, i6_le0, i6_eq0, b10_0, ite_not, Int.reduceLT, Int.reduceLE, Int.reduceEq, Int.reduceNeg, if_true, if_false, ite_true, ite_false, reduceIte, eq_self, not_true, not_false_eq_true]; try refine tc_ite (fun _ => ?_) (fun _ => ?_) <;> try (exfalso; omega)))
    exact hq
  · have h31 : 0 ≤ spt b m ∧ spt b m < b 0 0 * b 0 1 := by
      rcases h3.1 with h | h
      · exact absurd h h0
      · exact h
    have e2 : c (r + 1) (spt b m) = σ 0 (spt b m) := hσ.1 _ h31.1 h31.2
    generalize hx1 : σ 0 (m / 4) = v1 at hq e1 w1
    generalize hx2 : σ 0 (spt b m) = v2 at hq e2
    by_cases hc : 0 < v1 ∧ v2 < 9
    · rw [if_pos (by rw [if_pos ⟨h0, hc⟩])] at hq
      repeat' (first | (simp (disch := first | omega | exact Nat.le_of_ble_eq_true rfl | exact rfl | assumption | (simp (disch := omega) only [fr_ne, fr_same]; first | assumption | omega)) only [r105_0, r105_1, r105_4, r105_5, r105_6i, r105_7, r105_8, r105_12, r105_13, r105_16, r105_17, r105_18, r105_19, r105_23, r105_24, r105_27, r105_28, r105_29, r105_34, r105_35, r105_36, r105_37, g5_47_8, g5_9_5, o8_len, o8_g11, o5_len, o5_g0, il_s, bl_s, bl_z, ll_s, is_s, bs_s, bs_z, ls_s, al_s, al_b, al_l, fr_ne, fr_same, fr_fr, Nat.reduceEqDiff, tc_gf3_s, tc_ql2_s, tc_ws_0, tc_ws_i, tc_ws_l, tc_ws_r, Nat.reduceLeDiff, Nat.reduceAdd, Nat.reduceLT, true_and, and_true, if_true, if_false, tc_K, Option.toList_some, Option.toList_none, List.nil_append, List.cons_append, ite_true, ite_false, Int.cast_ofNat_Int, reduceIte, i3_add_eq, i3_sub_eq, Int.add_sub_cancel, Int.add_neg_cancel_right, SanS_g0 hR, SanS_s0 hR, SanS_g1 hR, SanS_s1 hR, SanS_g2 hR, SanS_s2 hR, SanS_g3 hR, SanS_s3 hR, ShoS_g0 hO, ShoS_s0 hO, ShoS_g1 hO, ShoS_s1 hO, ShoS_g2 hO, ShoS_s2 hO, ShoS_g3 hO, ShoS_s3 hO, ShoS_g4 hO, ShoS_s4 hO, ShoS_g5 hO, ShoS_s5 hO, ShoS_g6 hO, ShoS_s6 hO, ShoS_g7 hO, ShoS_s7 hO, hbs, i3_div_nn, e1, e2]) | (simp only [r105_9, r105_20, r105_31, i6_lt0, i6_0lt, i6_0le, i6_le0, i6_eq0, b10_0, ite_not, Int.reduceLT, Int.reduceLE, Int.reduceEq, Int.reduceNeg, if_true, if_false, ite_true, ite_false, reduceIte, eq_self, not_true, not_false_eq_true]; try refine tc_ite (fun _ => ?_) (fun _ => ?_) <;> try (exfalso; omega)))
      all_goals first
        | exact hq
        | omega
    · rw [if_neg (by rw [if_neg (fun h => hc h.2)]; omega)] at hq
      repeat' (first | (simp (disch := first | omega | exact Nat.le_of_ble_eq_true rfl | exact rfl | assumption | (simp (disch := omega) only [fr_ne, fr_same]; first | assumption | omega)) only [r105_0, r105_1, r105_4, r105_5, r105_6i, r105_7, r105_8, r105_12, r105_13, r105_16, r105_17, r105_18, r105_19, r105_23, r105_24, r105_27, r105_28, r105_29, r105_34, r105_35, r105_36, r105_37, g5_47_8, g5_9_5, o8_len, o8_g11, o5_len, o5_g0, il_s, bl_s, bl_z, ll_s, is_s, bs_s, bs_z, ls_s, al_s, al_b, al_l, fr_ne, fr_same, fr_fr, Nat.reduceEqDiff, tc_gf3_s, tc_ql2_s, tc_ws_0, tc_ws_i, tc_ws_l, tc_ws_r, Nat.reduceLeDiff, Nat.reduceAdd, Nat.reduceLT, true_and, and_true, if_true, if_false, tc_K, Option.toList_some, Option.toList_none, List.nil_append, List.cons_append, ite_true, ite_false, Int.cast_ofNat_Int, reduceIte, i3_add_eq, i3_sub_eq, Int.add_sub_cancel, Int.add_neg_cancel_right, SanS_g0 hR, SanS_s0 hR, SanS_g1 hR, SanS_s1 hR, SanS_g2 hR, SanS_s2 hR, SanS_g3 hR, SanS_s3 hR, ShoS_g0 hO, ShoS_s0 hO, ShoS_g1 hO, ShoS_s1 hO, ShoS_g2 hO, ShoS_s2 hO, ShoS_g3 hO, ShoS_s3 hO, ShoS_g4 hO, ShoS_s4 hO, ShoS_g5 hO, ShoS_s5 hO, ShoS_g6 hO, ShoS_s6 hO, ShoS_g7 hO, ShoS_s7 hO, hbs, i3_div_nn, e1, e2]) | (simp only [r105_9, r105_20, r105_31, i6_lt0, i6_0lt, i6_0le, i6_le0, i6_eq0, b10_0, ite_not, Int.reduceLT, Int.reduceLE, Int.reduceEq, Int.reduceNeg, if_true, if_false, ite_true, ite_false, reduceIte, eq_self, not_true, not_false_eq_true]; try refine tc_ite (fun _ => ?_) (fun _ => ?_) <;> try (exfalso; omega)))
      all_goals first
        | exact hq
        | omega
theorem c106 (hR : SanS L sh r) {x y : Int} (hx : 0 ≤ x ∧ x < 25) (hy : 0 ≤ y ∧ y < 25) (hne : ¬ y = x) (h1 : 0 ≤ c (r + 1) x ∧ c (r + 1) x ≤ 100) (h2 : 0 ≤ c (r + 1) y ∧ c (r + 1) y ≤ 100) : tc_C 106 [rf r, .inl x, .inl y] (hp L sh c) n Q = Q none (hp L sh (fr c (r + 1) (fu (fu (c (r + 1)) x (c (r + 1) x - 1)) y (c (r + 1) y + 1)))) n := tc_det fun Q hq => by
  show tc_W 106 0 [rf r, .inl x, .inl y] [] _ _ Q
  repeat' (simp (disch := first | omega | exact Nat.le_of_ble_eq_true rfl | exact rfl | assumption | (simp (disch := omega) only [fr_ne, fr_same]; first | assumption | omega)) only [r106_0, r106_1, r106_4, r106_5, r106_6, r106_7, r106_8, r106_9, r106_10, r106_11, r106_14, r106_15, r106_16, r106_17, r106_18, r106_19, r106_20, g5_9_5, o5_len, o5_g0, il_s, bl_s, bl_z, ll_s, is_s, bs_s, bs_z, ls_s, al_s, al_b, al_l, fr_ne, fr_same, fr_fr, Nat.reduceEqDiff, tc_gf3_s, tc_ql2_s, tc_ws_0, tc_ws_i, tc_ws_l, tc_ws_r, Nat.reduceLeDiff, Nat.reduceAdd, Nat.reduceLT, true_and, and_true, if_true, if_false, tc_K, Option.toList_some, Option.toList_none, List.nil_append, List.cons_append, ite_true, ite_false, Int.cast_ofNat_Int, reduceIte, i3_add_eq, i3_sub_eq, Int.add_sub_cancel, Int.add_neg_cancel_right, SanS_g0 hR, SanS_s0 hR, SanS_g1 hR, SanS_s1 hR, SanS_g2 hR, SanS_s2 hR, SanS_g3 hR, SanS_s3 hR, fu_ne])
  exact hq
theorem c109 (hR : SanS L sh r) (hb : WB b) (hσ : SAN k b r c σ) (hw : WS b σ) {f : Int} (hf : 0 ≤ f ∧ f < b 0 2) (hq : ∀ e, (∀ a, ¬ a = r → ¬ a = r + 1 → ¬ a = r + 3 → e a = c a) → e (r + 1) = fu (c (r + 1)) (σ 2 f) (σ 0 (σ 2 f) + (if σ 0 (σ 2 f) < 9 then 1 else 0)) → (∀ i, ¬ i = 3 → e r i = c r i) → (∀ g, ¬ g = f → e (r + 3) g = c (r + 3) g) → SAN k b r e (giv σ f) → Q (some (.inl (giv σ f 0 (σ 2 f)))) (hp L sh e) n) : tc_C 109 [rf r, .inl f] (hp L sh c) n Q := by
  show tc_W 109 0 [rf r, .inl f, tc_nil] [] _ _ Q
  have hm := hb.2.1
  have hN := hb.n25
  have h1 := hw.2.2.1 f hf.1 hf.2
  have e2 : c (r + 2) f = σ 2 f := (hσ.2.1 f hf.1 hf.2).1
  have e0 : c (r + 1) (σ 2 f) = σ 0 (σ 2 f) := hσ.1 _ h1.1 h1.2.1
  have w0 := hw.1 (σ 2 f) h1.1 h1.2.1
  have h101 := fun Q => c101 (c := c) (n := n) (Q := Q) hR (f := f) hf.1 (by omega)
  have e3 := hσ.2.2.1
  have e6 := hσ.2.2.2.2.2
  rw [e3, mk_clear (by omega) hf.1 (by omega), e6] at h101
  have emk : mk (fun j => stn (σ 3) j && !decide (j = f)) (b 0 2).toNat = mk (stn (giv σ f 3)) (b 0 2).toNat := mk_ext fun j j1 j2 => by
    show (decide (σ 3 j = -1) && !decide (j = f)) = decide (fu (σ 3) f (σ 4 0) j = -1)
    have h4 := hw.2.2.2.1
    by_cases hj : j = f
    · rw [hj, fu_same, decide_eq_true rfl, Bool.not_true, Bool.and_false, decide_eq_false (by omega)]
    · rw [fu_ne hj, decide_eq_false hj, Bool.not_false, Bool.and_true]
  rw [emk] at h101
  repeat' (simp (disch := first | omega | exact Nat.le_of_ble_eq_true rfl | exact rfl | assumption | (simp (disch := omega) only [fr_ne, fr_same]; first | assumption | omega)) only [r109_0, r109_1, r109_4, r109_5, r109_6i, r109_7, r109_8, r109_9, v109_9_5, r109_12, r109_13, r109_16, r109_17, r109_19, r109_20, r109_23, r109_24, r109_25, r109_26, r109_27, r109_30, r109_31, r109_32, r109_35, r109_36, r109_37, g5_15_5, g5_9_5, o5_len, o5_g1, o5_g0, il_s, bl_s, bl_z, ll_s, is_s, bs_s, bs_z, ls_s, al_s, al_b, al_l, fr_ne, fr_same, fr_fr, Nat.reduceEqDiff, tc_gf3_s, tc_ql2_s, tc_ws_0, tc_ws_i, tc_ws_l, tc_ws_r, Nat.reduceLeDiff, Nat.reduceAdd, Nat.reduceLT, true_and, and_true, if_true, if_false, tc_K, Option.toList_some, Option.toList_none, List.nil_append, List.cons_append, ite_true, ite_false, Int.cast_ofNat_Int, reduceIte, i3_add_eq, i3_sub_eq, Int.add_sub_cancel, Int.add_neg_cancel_right, SanS_g0 hR, SanS_s0 hR, SanS_g1 hR, SanS_s1 hR, SanS_g2 hR, SanS_s2 hR, SanS_g3 hR, SanS_s3 hR, e2, h101, e0])
  have ev : (if σ 0 (σ 2 f) + 1 < 9 then σ 0 (σ 2 f) + 1 else 9) = σ 0 (σ 2 f) + (if σ 0 (σ 2 f) < 9 then 1 else 0) := by
    repeat' split
    all_goals omega
  rw [ev]
  have eg : giv σ f 0 (σ 2 f) = σ 0 (σ 2 f) + (if σ 0 (σ 2 f) < 9 then 1 else 0) := fu_same _ _ _
  rw [eg] at hq
  repeat' (simp (disch := first | omega | exact Nat.le_of_ble_eq_true rfl | exact rfl | assumption | (simp (disch := omega) only [fr_ne, fr_same]; first | assumption | omega)) only [r109_0, r109_1, r109_4, r109_5, r109_6i, r109_7, r109_8, r109_9, v109_9_5, r109_12, r109_13, r109_16, r109_17, r109_19, r109_20, r109_23, r109_24, r109_25, r109_26, r109_27, r109_30, r109_31, r109_32, r109_35, r109_36, r109_37, g5_15_5, g5_9_5, o5_len, o5_g1, o5_g0, il_s, bl_s, bl_z, ll_s, is_s, bs_s, bs_z, ls_s, al_s, al_b, al_l, fr_ne, fr_same, fr_fr, Nat.reduceEqDiff, tc_gf3_s, tc_ql2_s, tc_ws_0, tc_ws_i, tc_ws_l, tc_ws_r, Nat.reduceLeDiff, Nat.reduceAdd, Nat.reduceLT, true_and, and_true, if_true, if_false, tc_K, Option.toList_some, Option.toList_none, List.nil_append, List.cons_append, ite_true, ite_false, Int.cast_ofNat_Int, reduceIte, i3_add_eq, i3_sub_eq, Int.add_sub_cancel, Int.add_neg_cancel_right, SanS_g0 hR, SanS_s0 hR, SanS_g1 hR, SanS_s1 hR, SanS_g2 hR, SanS_s2 hR, SanS_g3 hR, SanS_s3 hR, fu_same])
  refine hq _ (fun a a1 a2 a3 => ?_) ?_ (fun i i1 => ?_) (fun g g1 => ?_) ⟨fun x x1 x2 => ?_, fun g g1 g2 => ⟨?_, fun hk => ?_⟩, ?_, ?_, ?_, ?_⟩
  · simp (disch := assumption) only [fr_ne]
  · simp (disch := omega) only [fr_ne, fr_same]
  · simp (disch := omega) only [fr_ne, fr_same]
    exact fu_ne i1
  · simp (disch := omega) only [fr_ne, fr_same]
    exact fu_ne g1
  · simp (disch := omega) only [fr_ne, fr_same]
    show _ = fu (σ 0) (σ 2 f) (σ 0 (σ 2 f) + (if σ 0 (σ 2 f) < 9 then 1 else 0)) x
    rw [fu_at, fu_at, hσ.1 x x1 x2]
  · simp (disch := omega) only [fr_ne]
    exact (hσ.2.1 g g1 g2).1
  · simp (disch := omega) only [fr_ne, fr_same]
    show _ = fu (σ 3) f (σ 4 0) g
    have hk' : k ∨ ¬ fu (σ 3) f (σ 4 0) g = -1 := hk
    rw [fu_at] at hk'
    rw [fu_at, fu_at]
    by_cases hg : g = f
    · rw [if_pos hg, if_pos hg]
    · rw [if_neg hg, if_neg hg]
      rw [if_neg hg] at hk'
      exact (hσ.2.1 g g1 g2).2 hk'
  · simp (disch := omega) only [fr_ne, fr_same, fu_same]
  · simp (disch := omega) only [fr_ne, fr_same, fu_ne]
    exact hσ.2.2.2.1
  · simp (disch := omega) only [fr_ne, fr_same, fu_ne]
    exact hσ.2.2.2.2.1
  · simp (disch := omega) only [fr_ne, fr_same, fu_ne]
    exact e6
end SANDS

/-! the class's constructors, with what they leave -/
section CTORS
variable {L : Nat} {sh : Nat → SH} {c : Nat → Int → Int} {n : Nat} {Q : Option AV → List SC → Nat → Prop} {r : Nat}
theorem nap_b {m : Nat} : hp L sh c ++ [.inl (1, List.replicate m 0)] = hp (L + 1) (fs sh L (1, m, [])) (fr c L (fun _ => 0)) := by
  rw [al_rep]
  exact hp_app (s := (1, m, []))
theorem nap_z {m : Nat} : hp L sh c ++ [.inl (2, List.replicate m 0)] = hp (L + 1) (fs sh L (2, m, [])) (fr c L (fun _ => 0)) := by
  rw [al_rep]
  exact hp_app (s := (2, m, []))
theorem nap_l {m : Nat} : hp L sh c ++ [.inr (.inl (List.replicate m 0))] = hp (L + 1) (fs sh L (3, m, [])) (fr c L (fun _ => 0)) := by
  rw [al_rep]
  exact hp_app (s := (3, m, []))
theorem px_l {m : Nat} {q : List (Option Nat)} {f : Int → Int} : px (3, m, q) f = .inr (.inl (al m f)) := rfl
theorem px_b {m : Nat} {q : List (Option Nat)} {f : Int → Int} : px (1, m, q) f = .inl (1, al m f) := rfl
theorem c6f (h5 : sh r = (6, 3, [none, none, none])) (hq : ∀ sh' c', (∀ a, a < r → sh' a = sh a ∧ c' a = c a) → LogS (r + 4) sh' r → c' r 3 = 0 → (c' (r + 1) = (fun _ => 0) ∧ c' (r + 2) = (fun _ => 0) ∧ c' (r + 3) = (fun _ => 0)) → Q none (hp (r + 4) sh' c') (n + 30)) : tc_C 6 [rf r] (hp (r + 1) sh c) n Q := by
  show tc_W 6 0 [rf r] [] _ _ Q
  repeat' (simp (disch := first | omega | exact Nat.le_of_ble_eq_true rfl | exact rfl | assumption | (simp (disch := omega) only [fr_ne, fr_same]; first | assumption | omega)) only [r6_0, r6_1, r6_4, r6_5, r6_7, r6_9, r6_12, r6_13, r6_15, r6_17, r6_20, r6_21, r6_23, r6_25, r6_28, r6_29, r6_30, r6_33, p3_9_3, p3_15_3, p3_18_3, p3_21_3, o3_len, o3_s0, o3_s1, o3_s2, o3_s3, il_s, bl_s, bl_z, ll_s, is_s, bs_s, bs_z, ls_s, al_s, al_b, al_l, fr_ne, fr_same, fr_fr, Nat.reduceEqDiff, tc_gf3_s, tc_ql2_s, tc_ws_0, tc_ws_i, tc_ws_l, tc_ws_r, Nat.reduceLeDiff, Nat.reduceAdd, Nat.reduceLT, true_and, and_true, if_true, if_false, tc_K, Option.toList_some, Option.toList_none, List.nil_append, List.cons_append, ite_true, ite_false, Int.cast_ofNat_Int, reduceIte, i3_add_eq, i3_sub_eq, Int.add_sub_cancel, Int.add_neg_cancel_right, hp_get, hp_len, h5, fs_same, fs_ne, px_o, px_i, hOr, nap_i, Int.reduceToNat])
  refine hq _ _ (fun a ha => ⟨?_, ?_⟩) ⟨by omega, ?_, ?_, ?_, ?_⟩ ?_ ⟨?_, ?_, ?_⟩
  all_goals simp (disch := omega) only [fs_same, fs_ne, fr_same, fr_ne, fu_same, fu_ne]
theorem c7f (h5 : sh r = (6, 7, [none, none, none, none, none, none, none, none])) (hq : ∀ sh' c', (∀ a, a < r → sh' a = sh a ∧ c' a = c a) → sh' r = (6, 7, [none, none, some (r + 1), some (r + 2), some (r + 3), some (r + 4), some (r + 5), some (r + 6)]) → (sh' (r + 1) = (0, 25, []) ∧ sh' (r + 2) = (0, 25, []) ∧ sh' (r + 3) = (0, 25, []) ∧ sh' (r + 4) = (0, 32, []) ∧ sh' (r + 5) = (3, 9, []) ∧ sh' (r + 6) = (3, 60, [])) → Q none (hp (r + 7) sh' c') (n + 176)) : tc_C 7 [rf r] (hp (r + 1) sh c) n Q := by
  show tc_W 7 0 [rf r] [] _ _ Q
  repeat' (simp (disch := first | omega | exact Nat.le_of_ble_eq_true rfl | exact rfl | assumption | (simp (disch := omega) only [fr_ne, fr_same]; first | assumption | omega)) only [r7_0, r7_1, r7_4, r7_5, r7_6, r7_9, r7_10, r7_11, r7_14, r7_15, r7_17, r7_19, r7_22, r7_23, r7_25, r7_27, r7_30, r7_31, r7_33, r7_35, r7_38, r7_39, r7_41, r7_43, r7_46, r7_47, r7_49, r7_51, r7_54, r7_55, r7_57, r7_59, r7_62, p7_9_7, p7_15_7, p7_19_7, p7_23_7, p7_26_7, p7_29_7, p7_34_7, p7_38_7, o7_len, o7_s0, o7_s1, o7_s2, o7_s3, o7_s4, o7_s5, o7_s6, o7_s7, il_s, bl_s, bl_z, ll_s, is_s, bs_s, bs_z, ls_s, al_s, al_b, al_l, fr_ne, fr_same, fr_fr, Nat.reduceEqDiff, tc_gf3_s, tc_ql2_s, tc_ws_0, tc_ws_i, tc_ws_l, tc_ws_r, Nat.reduceLeDiff, Nat.reduceAdd, Nat.reduceLT, true_and, and_true, if_true, if_false, tc_K, Option.toList_some, Option.toList_none, List.nil_append, List.cons_append, ite_true, ite_false, Int.cast_ofNat_Int, reduceIte, i3_add_eq, i3_sub_eq, Int.add_sub_cancel, Int.add_neg_cancel_right, hp_get, hp_len, h5, fs_same, fs_ne, px_o, px_i, px_l, hOr, nap_i, nap_l, Int.reduceToNat])
  refine hq _ _ (fun a ha => ⟨?_, ?_⟩) ?_ ⟨?_, ?_, ?_, ?_, ?_, ?_⟩
  all_goals simp (disch := omega) only [fs_same, fs_ne, fr_same, fr_ne, fu_same, fu_ne]
theorem c10a {t : Option Nat} (h5 : sh r = (6, 0, [t, none])) (hr : r < L) (hq : ∀ sh' c', (∀ a, ¬ a = r → sh' a = sh a ∧ c' a = c a) → sh' r = (6, 0, [none, none]) → Q none (hp L sh' c') n) : tc_C 10 [rf r] (hp L sh c) n Q := by
  show tc_W 10 0 [rf r] [] _ _ Q
  repeat' (simp (disch := first | omega | exact Nat.le_of_ble_eq_true rfl | exact rfl | assumption | (simp (disch := omega) only [fr_ne, fr_same]; first | assumption | omega)) only [r10_0, r10_1, r10_4, r10_5, r10_6, r10_9, r10_10, r10_11, r10_14, r10_15, r10_16, r10_19, r10_20, r10_21, r10_24, r10_25, r10_26, r10_29, p12_9_0, p12_9_2, p12_15_0, p12_15_2, p12_19_0, p12_19_2, p12_22_0, p12_22_2, p12_25_0, p12_25_2, o0_len, o0_s0, o2_len, o2_s0, o0_s1, o2_s1, o0_s2, o2_s2, o0_s3, o2_s3, o0_s4, o2_s4, il_s, bl_s, bl_z, ll_s, is_s, bs_s, bs_z, ls_s, al_s, al_b, al_l, fr_ne, fr_same, fr_fr, Nat.reduceEqDiff, tc_gf3_s, tc_ql2_s, tc_ws_0, tc_ws_i, tc_ws_l, tc_ws_r, Nat.reduceLeDiff, Nat.reduceAdd, Nat.reduceLT, true_and, and_true, if_true, if_false, tc_K, Option.toList_some, Option.toList_none, List.nil_append, List.cons_append, ite_true, ite_false, Int.cast_ofNat_Int, reduceIte, i3_add_eq, i3_sub_eq, Int.add_sub_cancel, Int.add_neg_cancel_right, hp_get, hp_len, h5, fs_same, fs_ne, px_o, hOr, fs_fs])
  refine hq _ _ (fun a ha => ⟨?_, ?_⟩) ?_
  all_goals simp (disch := omega) only [fs_same, fs_ne, fr_same, fr_ne]
theorem c10b {t : Option Nat} (h5 : sh r = (6, 2, [t, none, none, none])) (hr : r < L) (hq : ∀ sh' c', (∀ a, ¬ a = r → sh' a = sh a ∧ c' a = c a) → sh' r = (6, 2, [none, none, none, none]) → Q none (hp L sh' c') n) : tc_C 10 [rf r] (hp L sh c) n Q := by
  show tc_W 10 0 [rf r] [] _ _ Q
  repeat' (simp (disch := first | omega | exact Nat.le_of_ble_eq_true rfl | exact rfl | assumption | (simp (disch := omega) only [fr_ne, fr_same]; first | assumption | omega)) only [r10_0, r10_1, r10_4, r10_5, r10_6, r10_9, r10_10, r10_11, r10_14, r10_15, r10_16, r10_19, r10_20, r10_21, r10_24, r10_25, r10_26, r10_29, p12_9_0, p12_9_2, p12_15_0, p12_15_2, p12_19_0, p12_19_2, p12_22_0, p12_22_2, p12_25_0, p12_25_2, o0_len, o0_s0, o2_len, o2_s0, o0_s1, o2_s1, o0_s2, o2_s2, o0_s3, o2_s3, o0_s4, o2_s4, il_s, bl_s, bl_z, ll_s, is_s, bs_s, bs_z, ls_s, al_s, al_b, al_l, fr_ne, fr_same, fr_fr, Nat.reduceEqDiff, tc_gf3_s, tc_ql2_s, tc_ws_0, tc_ws_i, tc_ws_l, tc_ws_r, Nat.reduceLeDiff, Nat.reduceAdd, Nat.reduceLT, true_and, and_true, if_true, if_false, tc_K, Option.toList_some, Option.toList_none, List.nil_append, List.cons_append, ite_true, ite_false, Int.cast_ofNat_Int, reduceIte, i3_add_eq, i3_sub_eq, Int.add_sub_cancel, Int.add_neg_cancel_right, hp_get, hp_len, h5, fs_same, fs_ne, px_o, hOr, fs_fs])
  refine hq _ _ (fun a ha => ⟨?_, ?_⟩) ?_
  all_goals simp (disch := omega) only [fs_same, fs_ne, fr_same, fr_ne]
theorem c9f (h5 : sh r = (6, 0, [none, none])) (hq : ∀ sh' c', (∀ a, a < r → sh' a = sh a ∧ c' a = c a) → sh' r = (6, 0, [none, none]) → Q none (hp (r + 1) sh' c') n) : tc_C 9 [rf r] (hp (r + 1) sh c) n Q := by
  show tc_W 9 0 [rf r] [] _ _ Q
  repeat' (simp (disch := first | omega | exact Nat.le_of_ble_eq_true rfl | exact rfl | assumption | (simp (disch := omega) only [fr_ne, fr_same]; first | assumption | omega)) only [r9_0, r9_1, r9_4, r9_5, r9_6, r9_9, r9_10, r9_11, r9_14, r9_15, r9_16, r9_19, p0_9_0, p0_15_0, p0_19_0, o0_len, o0_s5, o0_s6, o0_s7, il_s, bl_s, bl_z, ll_s, is_s, bs_s, bs_z, ls_s, al_s, al_b, al_l, fr_ne, fr_same, fr_fr, Nat.reduceEqDiff, tc_gf3_s, tc_ql2_s, tc_ws_0, tc_ws_i, tc_ws_l, tc_ws_r, Nat.reduceLeDiff, Nat.reduceAdd, Nat.reduceLT, true_and, and_true, if_true, if_false, tc_K, Option.toList_some, Option.toList_none, List.nil_append, List.cons_append, ite_true, ite_false, Int.cast_ofNat_Int, reduceIte, i3_add_eq, i3_sub_eq, Int.add_sub_cancel, Int.add_neg_cancel_right])
  refine c10a h5 (by omega) ?_
  intro sh1 c1 k1 k2
  repeat' (simp (disch := first | omega | exact Nat.le_of_ble_eq_true rfl | exact rfl | assumption | (simp (disch := omega) only [fr_ne, fr_same]; first | assumption | omega)) only [r9_0, r9_1, r9_4, r9_5, r9_6, r9_9, r9_10, r9_11, r9_14, r9_15, r9_16, r9_19, p0_9_0, p0_15_0, p0_19_0, o0_len, o0_s5, o0_s6, o0_s7, il_s, bl_s, bl_z, ll_s, is_s, bs_s, bs_z, ls_s, al_s, al_b, al_l, fr_ne, fr_same, fr_fr, Nat.reduceEqDiff, tc_gf3_s, tc_ql2_s, tc_ws_0, tc_ws_i, tc_ws_l, tc_ws_r, Nat.reduceLeDiff, Nat.reduceAdd, Nat.reduceLT, true_and, and_true, if_true, if_false, tc_K, Option.toList_some, Option.toList_none, List.nil_append, List.cons_append, ite_true, ite_false, Int.cast_ofNat_Int, reduceIte, i3_add_eq, i3_sub_eq, Int.add_sub_cancel, Int.add_neg_cancel_right, hp_get, hp_len, k2, fs_same, fs_ne, px_o, hOr, fs_fs, p19_0])
  refine hq _ _ (fun a ha => ⟨?_, ?_⟩) ?_
  · simp (disch := omega) only [fs_ne, (k1 a (by omega)).1]
  · simp (disch := omega) only [fr_ne, (k1 a (by omega)).2]
  · simp (disch := omega) only [fs_same, fs_ne]
theorem c11f (h5 : sh r = (6, 2, [none, none, none, none])) (hq : ∀ sh' c', (∀ a, a < r → sh' a = sh a ∧ c' a = c a) → sh' r = (6, 2, [none, some (r + 1), some (r + 2), some (r + 3)]) → (sh' (r + 1) = (0, 400, []) ∧ sh' (r + 2) = (0, 25, []) ∧ sh' (r + 3) = (0, 10, [])) → Q none (hp (r + 4) sh' c') (n + 435)) : tc_C 11 [rf r] (hp (r + 1) sh c) n Q := by
  show tc_W 11 0 [rf r] [] _ _ Q
  repeat' (simp (disch := first | omega | exact Nat.le_of_ble_eq_true rfl | exact rfl | assumption | (simp (disch := omega) only [fr_ne, fr_same]; first | assumption | omega)) only [r11_0, r11_1, r11_4, r11_5, r11_8, r11_10, r11_13, r11_14, r11_16, r11_18, r11_21, r11_22, r11_24, r11_26, r11_29, r11_30, r11_31, r11_34, r11_35, r11_36, r11_39, r11_40, r11_41, r11_44, r11_45, r11_46, r11_49, p2_9_2, p2_15_2, p2_18_2, p2_21_2, p2_25_2, p2_28_2, p2_31_2, o2_len, o2_s5, o2_s6, o2_s7, o2_s8, o2_s9, o2_s10, o2_s11, il_s, bl_s, bl_z, ll_s, is_s, bs_s, bs_z, ls_s, al_s, al_b, al_l, fr_ne, fr_same, fr_fr, Nat.reduceEqDiff, tc_gf3_s, tc_ql2_s, tc_ws_0, tc_ws_i, tc_ws_l, tc_ws_r, Nat.reduceLeDiff, Nat.reduceAdd, Nat.reduceLT, true_and, and_true, if_true, if_false, tc_K, Option.toList_some, Option.toList_none, List.nil_append, List.cons_append, ite_true, ite_false, Int.cast_ofNat_Int, reduceIte, i3_add_eq, i3_sub_eq, Int.add_sub_cancel, Int.add_neg_cancel_right])
  refine c10b h5 (by omega) ?_
  intro sh1 c1 k1 k2
  repeat' (simp (disch := first | omega | exact Nat.le_of_ble_eq_true rfl | exact rfl | assumption | (simp (disch := omega) only [fr_ne, fr_same]; first | assumption | omega)) only [r11_0, r11_1, r11_4, r11_5, r11_8, r11_10, r11_13, r11_14, r11_16, r11_18, r11_21, r11_22, r11_24, r11_26, r11_29, r11_30, r11_31, r11_34, r11_35, r11_36, r11_39, r11_40, r11_41, r11_44, r11_45, r11_46, r11_49, p2_9_2, p2_15_2, p2_18_2, p2_21_2, p2_25_2, p2_28_2, p2_31_2, o2_len, o2_s5, o2_s6, o2_s7, o2_s8, o2_s9, o2_s10, o2_s11, il_s, bl_s, bl_z, ll_s, is_s, bs_s, bs_z, ls_s, al_s, al_b, al_l, fr_ne, fr_same, fr_fr, Nat.reduceEqDiff, tc_gf3_s, tc_ql2_s, tc_ws_0, tc_ws_i, tc_ws_l, tc_ws_r, Nat.reduceLeDiff, Nat.reduceAdd, Nat.reduceLT, true_and, and_true, if_true, if_false, tc_K, Option.toList_some, Option.toList_none, List.nil_append, List.cons_append, ite_true, ite_false, Int.cast_ofNat_Int, reduceIte, i3_add_eq, i3_sub_eq, Int.add_sub_cancel, Int.add_neg_cancel_right, hp_get, hp_len, k2, fs_same, fs_ne, px_o, px_i, hOr, nap_i, Int.reduceToNat])
  refine hq _ _ (fun a ha => ⟨?_, ?_⟩) ?_ ⟨?_, ?_, ?_⟩
  · simp (disch := omega) only [fs_ne, (k1 a (by omega)).1]
  · simp (disch := omega) only [fr_ne, (k1 a (by omega)).2]
  all_goals simp (disch := omega) only [fs_same, fs_ne]
theorem c8f (h5 : sh r = (6, 9, [none, none, none, none])) (hq : ∀ sh' c', (∀ a, a < r → sh' a = sh a ∧ c' a = c a) → sh' r = (6, 9, [none, none, some (r + 1), some (r + 5)]) → SanS (r + 9) sh' (r + 1) → SanS (r + 9) sh' (r + 5) → Q none (hp (r + 9) sh' c') (n + 88)) : tc_C 8 [rf r] (hp (r + 1) sh c) n Q := by
  show tc_W 8 0 [rf r] [] _ _ Q
  repeat' (simp (disch := first | omega | exact Nat.le_of_ble_eq_true rfl | exact rfl | assumption | (simp (disch := omega) only [fr_ne, fr_same]; first | assumption | omega)) only [r8_0, r8_1, r8_4, r8_5, r8_6, r8_9, r8_10, r8_11, r8_14, r8_15, r8_18, r8_18A, r8_19, r8_22, r8_25, r8_26, r8_29, r8_29A, r8_30, r8_33, r8_36, r8_37, r8_38, r8_41, r8_42, r8_43, r8_46, r8_47, r8_48, r8_51, r8_52, r8_53, r8_56, r8_57, r8_58, r8_61, r8_62, r8_63, r8_66, r8_67, r8_68, r8_71, p9_9_9, p9_15_9, p9_22_9, p9_26_9, p9_29_9, p9_33_9, p9_36_9, p9_39_9, p9_42_9, p9_45_9, p9_48_9, o9_len, o9_s0, o9_s1, o9_s2, o9_s3, o9_s4, o9_s5, o9_s6, o9_s7, o9_s8, o9_s9, o9_s10, il_s, bl_s, bl_z, ll_s, is_s, bs_s, bs_z, ls_s, al_s, al_b, al_l, fr_ne, fr_same, fr_fr, Nat.reduceEqDiff, tc_gf3_s, tc_ql2_s, tc_ws_0, tc_ws_i, tc_ws_l, tc_ws_r, Nat.reduceLeDiff, Nat.reduceAdd, Nat.reduceLT, true_and, and_true, if_true, if_false, tc_K, Option.toList_some, Option.toList_none, List.nil_append, List.cons_append, ite_true, ite_false, Int.cast_ofNat_Int, reduceIte, i3_add_eq, i3_sub_eq, Int.add_sub_cancel, Int.add_neg_cancel_right, hp_get, hp_len, h5, fs_same, fs_ne, px_o, hOr, fs_fs, o5_new, nap_o])
  refine c4 (r := r + 1) (fs_same _ _ _) ?_
  intro sh1 c1 k1 k2 k3
  have e1 : sh1 r = (6, 9, [none, none, none, none]) := by rw [(k1 r (by omega)).1, fs_ne (by omega), fs_same]
  repeat' (simp (disch := first | omega | exact Nat.le_of_ble_eq_true rfl | exact rfl | assumption | (simp (disch := omega) only [fr_ne, fr_same]; first | assumption | omega)) only [r8_0, r8_1, r8_4, r8_5, r8_6, r8_9, r8_10, r8_11, r8_14, r8_15, r8_18, r8_18A, r8_19, r8_22, r8_25, r8_26, r8_29, r8_29A, r8_30, r8_33, r8_36, r8_37, r8_38, r8_41, r8_42, r8_43, r8_46, r8_47, r8_48, r8_51, r8_52, r8_53, r8_56, r8_57, r8_58, r8_61, r8_62, r8_63, r8_66, r8_67, r8_68, r8_71, p9_9_9, p9_15_9, p9_22_9, p9_26_9, p9_29_9, p9_33_9, p9_36_9, p9_39_9, p9_42_9, p9_45_9, p9_48_9, o9_len, o9_s0, o9_s1, o9_s2, o9_s3, o9_s4, o9_s5, o9_s6, o9_s7, o9_s8, o9_s9, o9_s10, il_s, bl_s, bl_z, ll_s, is_s, bs_s, bs_z, ls_s, al_s, al_b, al_l, fr_ne, fr_same, fr_fr, Nat.reduceEqDiff, tc_gf3_s, tc_ql2_s, tc_ws_0, tc_ws_i, tc_ws_l, tc_ws_r, Nat.reduceLeDiff, Nat.reduceAdd, Nat.reduceLT, true_and, and_true, if_true, if_false, tc_K, Option.toList_some, Option.toList_none, List.nil_append, List.cons_append, ite_true, ite_false, Int.cast_ofNat_Int, reduceIte, i3_add_eq, i3_sub_eq, Int.add_sub_cancel, Int.add_neg_cancel_right, hp_get, hp_len, e1, fs_same, fs_ne, px_o, hOr, fs_fs, o5_new, nap_o])
  generalize hS1 : fs sh1 r (6, 9, [none, none, some (r + 1), none]) = S1
  have e2 : S1 r = (6, 9, [none, none, some (r + 1), none]) := by rw [← hS1, fs_same]
  have k2' : SanS (r + 5) S1 (r + 1) := by rw [← hS1]; exact SanS_fs k2 (by omega)
  refine c4 (r := r + 5) (fs_same _ _ _) ?_
  intro sh2 c2 j1 j2 j3
  have e3 : sh2 r = (6, 9, [none, none, some (r + 1), none]) := by rw [(j1 r (by omega)).1, fs_ne (by omega)]; exact e2
  repeat' (simp (disch := first | omega | exact Nat.le_of_ble_eq_true rfl | exact rfl | assumption | (simp (disch := omega) only [fr_ne, fr_same]; first | assumption | omega)) only [r8_0, r8_1, r8_4, r8_5, r8_6, r8_9, r8_10, r8_11, r8_14, r8_15, r8_18, r8_18A, r8_19, r8_22, r8_25, r8_26, r8_29, r8_29A, r8_30, r8_33, r8_36, r8_37, r8_38, r8_41, r8_42, r8_43, r8_46, r8_47, r8_48, r8_51, r8_52, r8_53, r8_56, r8_57, r8_58, r8_61, r8_62, r8_63, r8_66, r8_67, r8_68, r8_71, p9_9_9, p9_15_9, p9_22_9, p9_26_9, p9_29_9, p9_33_9, p9_36_9, p9_39_9, p9_42_9, p9_45_9, p9_48_9, o9_len, o9_s0, o9_s1, o9_s2, o9_s3, o9_s4, o9_s5, o9_s6, o9_s7, o9_s8, o9_s9, o9_s10, il_s, bl_s, bl_z, ll_s, is_s, bs_s, bs_z, ls_s, al_s, al_b, al_l, fr_ne, fr_same, fr_fr, Nat.reduceEqDiff, tc_gf3_s, tc_ql2_s, tc_ws_0, tc_ws_i, tc_ws_l, tc_ws_r, Nat.reduceLeDiff, Nat.reduceAdd, Nat.reduceLT, true_and, and_true, if_true, if_false, tc_K, Option.toList_some, Option.toList_none, List.nil_append, List.cons_append, ite_true, ite_false, Int.cast_ofNat_Int, reduceIte, i3_add_eq, i3_sub_eq, Int.add_sub_cancel, Int.add_neg_cancel_right, hp_get, hp_len, e3, fs_same, fs_ne, px_o, hOr, fs_fs])
  refine hq _ _ (fun a ha => ⟨?_, ?_⟩) (by simp only [fs_same]) (SanS_fs ?_ (by omega)) (SanS_fs j2 (by omega))
  · simp (disch := omega) only [fs_ne]
    rw [(j1 a (by omega)).1, fs_ne (by omega), ← hS1, fs_ne (by omega), (k1 a (by omega)).1]
    simp (disch := omega) only [fs_ne]
  · simp (disch := omega) only [fr_ne]
    rw [(j1 a (by omega)).2]
    simp (disch := omega) only [fr_ne]
    rw [(k1 a (by omega)).2]
    simp (disch := omega) only [fr_ne]
  · exact SanS_up k2' (by omega) fun a a1 a2 => by rw [(j1 a (by omega)).1, fs_ne (by omega)]
theorem c3f {s : Nat} (h5 : sh r = (6, 6, [none, none, none, none])) (hq : ∀ sh' c', (∀ a, a < r → sh' a = sh a ∧ c' a = c a) → sh' r = (6, 6, [some s, some (r + 1), some (r + 5), some (r + 7)]) → SanS (r + 11) sh' (r + 1) → sh' (r + 5) = (6, 4, [some (r + 6)]) → sh' (r + 6) = (4, 5, rol (fun _ => none)) → LogS (r + 11) sh' (r + 7) → (c' r 4 = -1 ∧ c' r 5 = 0) → (c' (r + 1) 3 = 0 ∧ c' (r + 1) 4 = 0 ∧ c' (r + 1) 5 = 0 ∧ c' (r + 1) 6 = 0) → c' (r + 5) 1 = 0 → c' (r + 7) 3 = 0 → (c' (r + 8) = (fun _ => 0) ∧ c' (r + 9) = (fun _ => 0) ∧ c' (r + 10) = (fun _ => 0)) → Q none (hp (r + 11) sh' c') (n + 100)) : tc_C 3 [rf r, rf s] (hp (r + 1) sh c) n Q := by
  show tc_W 3 0 [rf r, rf s] [] _ _ Q
  repeat' (simp (disch := first | omega | exact Nat.le_of_ble_eq_true rfl | exact rfl | assumption | (simp (disch := omega) only [fr_ne, fr_same]; first | assumption | omega)) only [r3_0, r3_1, r3_4, r3_5, r3_8, r3_8A, r3_9, r3_12, r3_15, r3_16, r3_19, r3_19A, r3_20, r3_23, r3_26, r3_27, r3_30, r3_30A, r3_31, r3_34, r3_37, r3_38, r3_39, r3_42, r3_43, r3_44, r3_47, r3_48, r3_49, r3_52, p6_12_6, p6_21_6, p6_28_6, p6_32_6, p6_36_6, p6_39_6, o6_len, o6_s1, o6_s2, o6_s3, o6_s4, o6_s5, o6_s0, il_s, bl_s, bl_z, ll_s, is_s, bs_s, bs_z, ls_s, al_s, al_b, al_l, fr_ne, fr_same, fr_fr, Nat.reduceEqDiff, tc_gf3_s, tc_ql2_s, tc_ws_0, tc_ws_i, tc_ws_l, tc_ws_r, Nat.reduceLeDiff, Nat.reduceAdd, Nat.reduceLT, true_and, and_true, if_true, if_false, tc_K, Option.toList_some, Option.toList_none, List.nil_append, List.cons_append, ite_true, ite_false, Int.cast_ofNat_Int, reduceIte, i3_add_eq, i3_sub_eq, Int.add_sub_cancel, Int.add_neg_cancel_right, hp_len, o5_new, nap_o])
  refine c4 (r := r + 1) (fs_same _ _ _) ?_
  intro sh1 c1 k1 k2 k3
  have e1 : sh1 r = (6, 6, [none, none, none, none]) := by rw [(k1 r (by omega)).1, fs_ne (by omega)]; exact h5
  repeat' (simp (disch := first | omega | exact Nat.le_of_ble_eq_true rfl | exact rfl | assumption | (simp (disch := omega) only [fr_ne, fr_same]; first | assumption | omega)) only [r3_0, r3_1, r3_4, r3_5, r3_8, r3_8A, r3_9, r3_12, r3_15, r3_16, r3_19, r3_19A, r3_20, r3_23, r3_26, r3_27, r3_30, r3_30A, r3_31, r3_34, r3_37, r3_38, r3_39, r3_42, r3_43, r3_44, r3_47, r3_48, r3_49, r3_52, p6_12_6, p6_21_6, p6_28_6, p6_32_6, p6_36_6, p6_39_6, o6_len, o6_s1, o6_s2, o6_s3, o6_s4, o6_s5, o6_s0, il_s, bl_s, bl_z, ll_s, is_s, bs_s, bs_z, ls_s, al_s, al_b, al_l, fr_ne, fr_same, fr_fr, Nat.reduceEqDiff, tc_gf3_s, tc_ql2_s, tc_ws_0, tc_ws_i, tc_ws_l, tc_ws_r, Nat.reduceLeDiff, Nat.reduceAdd, Nat.reduceLT, true_and, and_true, if_true, if_false, tc_K, Option.toList_some, Option.toList_none, List.nil_append, List.cons_append, ite_true, ite_false, Int.cast_ofNat_Int, reduceIte, i3_add_eq, i3_sub_eq, Int.add_sub_cancel, Int.add_neg_cancel_right, hp_get, hp_len, e1, px_o, hOr, o4_new, nap_o])
  generalize hS1 : fs sh1 r (6, 6, [none, some (r + 1), none, none]) = S1
  have e2 : S1 r = (6, 6, [none, some (r + 1), none, none]) := by rw [← hS1, fs_same]
  have f1 : ∀ a, a < r → S1 a = sh a := fun a ha => by rw [← hS1, fs_ne (by omega), (k1 a (by omega)).1, fs_ne (by omega)]
  have k2' : SanS (r + 5) S1 (r + 1) := by rw [← hS1]; exact SanS_fs k2 (by omega)
  refine c5 (r := r + 5) (fs_same _ _ _) ?_
  intro sh2 c2 j1 j2 j3 j4
  have e3 : sh2 r = (6, 6, [none, some (r + 1), none, none]) := by rw [(j1 r (by omega)).1, fs_ne (by omega)]; exact e2
  have y1 : ∀ k, ¬ k = 1 → True := fun _ _ => trivial
  have q38 : c2 (r + 1) = c1 (r + 1) := by
    rw [(j1 (r + 1) (by omega)).2]
    simp (disch := omega) only [fr_ne]
  repeat' (simp (disch := first | omega | exact Nat.le_of_ble_eq_true rfl | exact rfl | assumption | (simp (disch := omega) only [fr_ne, fr_same]; first | assumption | omega)) only [r3_0, r3_1, r3_4, r3_5, r3_8, r3_8A, r3_9, r3_12, r3_15, r3_16, r3_19, r3_19A, r3_20, r3_23, r3_26, r3_27, r3_30, r3_30A, r3_31, r3_34, r3_37, r3_38, r3_39, r3_42, r3_43, r3_44, r3_47, r3_48, r3_49, r3_52, p6_12_6, p6_21_6, p6_28_6, p6_32_6, p6_36_6, p6_39_6, o6_len, o6_s1, o6_s2, o6_s3, o6_s4, o6_s5, o6_s0, il_s, bl_s, bl_z, ll_s, is_s, bs_s, bs_z, ls_s, al_s, al_b, al_l, fr_ne, fr_same, fr_fr, Nat.reduceEqDiff, tc_gf3_s, tc_ql2_s, tc_ws_0, tc_ws_i, tc_ws_l, tc_ws_r, Nat.reduceLeDiff, Nat.reduceAdd, Nat.reduceLT, true_and, and_true, if_true, if_false, tc_K, Option.toList_some, Option.toList_none, List.nil_append, List.cons_append, ite_true, ite_false, Int.cast_ofNat_Int, reduceIte, i3_add_eq, i3_sub_eq, Int.add_sub_cancel, Int.add_neg_cancel_right, hp_get, hp_len, e3, px_o, hOr, o3_new, nap_o])
  generalize hS2 : fs sh2 r (6, 6, [none, some (r + 1), some (r + 5), none]) = S2
  have e4 : S2 r = (6, 6, [none, some (r + 1), some (r + 5), none]) := by rw [← hS2, fs_same]
  have f2 : ∀ a, a < r + 5 → ¬ a = r → S2 a = S1 a := fun a ha hn => by rw [← hS2, fs_ne hn, (j1 a (by omega)).1, fs_ne (by omega)]
  have g5 : S2 (r + 5) = (6, 4, [some (r + 6)]) := by rw [← hS2, fs_ne (by omega)]; exact j2
  have g6 : S2 (r + 6) = (4, 5, rol (fun _ => none)) := by rw [← hS2, fs_ne (by omega)]; exact j3
  refine c6f (r := r + 7) (fs_same _ _ _) ?_
  intro sh3 c3 l1 l2 l3 l4
  have e5 : sh3 r = (6, 6, [none, some (r + 1), some (r + 5), none]) := by rw [(l1 r (by omega)).1, fs_ne (by omega)]; exact e4
  have f3 : ∀ a, a < r + 7 → sh3 a = S2 a := fun a ha => by rw [(l1 a (by omega)).1, fs_ne (by omega)]
  have q38' : c3 (r + 1) = c1 (r + 1) := by
    rw [(l1 (r + 1) (by omega)).2]
    simp (disch := omega) only [fr_ne]
    exact q38
  have q42 : c3 (r + 5) = c2 (r + 5) := by
    rw [(l1 (r + 5) (by omega)).2]
    simp (disch := omega) only [fr_ne]
  repeat' (simp (disch := first | omega | exact Nat.le_of_ble_eq_true rfl | exact rfl | assumption | (simp (disch := omega) only [fr_ne, fr_same]; first | assumption | omega)) only [r3_0, r3_1, r3_4, r3_5, r3_8, r3_8A, r3_9, r3_12, r3_15, r3_16, r3_19, r3_19A, r3_20, r3_23, r3_26, r3_27, r3_30, r3_30A, r3_31, r3_34, r3_37, r3_38, r3_39, r3_42, r3_43, r3_44, r3_47, r3_48, r3_49, r3_52, p6_12_6, p6_21_6, p6_28_6, p6_32_6, p6_36_6, p6_39_6, o6_len, o6_s1, o6_s2, o6_s3, o6_s4, o6_s5, o6_s0, il_s, bl_s, bl_z, ll_s, is_s, bs_s, bs_z, ls_s, al_s, al_b, al_l, fr_ne, fr_same, fr_fr, Nat.reduceEqDiff, tc_gf3_s, tc_ql2_s, tc_ws_0, tc_ws_i, tc_ws_l, tc_ws_r, Nat.reduceLeDiff, Nat.reduceAdd, Nat.reduceLT, true_and, and_true, if_true, if_false, tc_K, Option.toList_some, Option.toList_none, List.nil_append, List.cons_append, ite_true, ite_false, Int.cast_ofNat_Int, reduceIte, i3_add_eq, i3_sub_eq, Int.add_sub_cancel, Int.add_neg_cancel_right, hp_get, hp_len, e5, fs_same, px_o, hOr, fs_fs])
  refine hq _ _ (fun a ha => ⟨?_, ?_⟩) (fs_same _ _ _) (SanS_fs ⟨by omega, ?_, ?_, ?_, ?_⟩ (by omega)) ?_ ?_ (LogS_fs l2 (by omega)) ⟨?_, ?_⟩ ⟨?_, ?_, ?_, ?_⟩ ?_ ?_ ⟨?_, ?_, ?_⟩
  · rw [fs_ne (by omega), f3 a (by omega), f2 a (by omega) (by omega), f1 a ha]
  · simp (disch := omega) only [fr_ne]
    rw [(l1 a (by omega)).2]
    simp (disch := omega) only [fr_ne]
    rw [(j1 a (by omega)).2]
    simp (disch := omega) only [fr_ne]
    rw [(k1 a (by omega)).2]
    simp (disch := omega) only [fr_ne]
  · rw [f3 _ (by omega), f2 _ (by omega) (by omega)]
    exact k2'.2.1
  · rw [f3 _ (by omega), f2 _ (by omega) (by omega)]
    exact k2'.2.2.1
  · rw [f3 _ (by omega), f2 _ (by omega) (by omega)]
    exact k2'.2.2.2.1
  · rw [f3 _ (by omega), f2 _ (by omega) (by omega)]
    exact k2'.2.2.2.2
  · rw [fs_ne (by omega), f3 _ (by omega)]
    exact g5
  · rw [fs_ne (by omega), f3 _ (by omega)]
    exact g6
  · simp (disch := omega) only [fr_same, fu_same, fu_ne]
  · simp (disch := omega) only [fr_same, fu_same, fu_ne]
  · simp (disch := omega) only [fr_ne, q38', k3.1]
  · simp (disch := omega) only [fr_ne, q38', k3.2.1]
  · simp (disch := omega) only [fr_ne, q38', k3.2.2.1]
  · simp (disch := omega) only [fr_ne, q38', k3.2.2.2]
  · simp (disch := omega) only [fr_ne, q42, j4]
  · simp (disch := omega) only [fr_ne, l3]
  · simp (disch := omega) only [fr_ne]
    exact l4.1
  · simp (disch := omega) only [fr_ne]
    exact l4.2.1
  · simp (disch := omega) only [fr_ne]
    exact l4.2.2
end CTORS

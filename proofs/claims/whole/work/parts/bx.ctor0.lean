/-! the class's own constructor -/
section CTOR0
variable {L : Nat} {sh : Nat → SH} {c : Nat → Int → Int} {n : Nat} {Q : Option AV → List SC → Nat → Prop} {r : Nat}
theorem c3g {s : Nat} (hr : r < L) (h5 : sh r = (6, 6, [none, none, none, none])) (hq : ∀ sh' c', (∀ a, a < L → ¬ a = r → sh' a = sh a ∧ c' a = c a) → sh' r = (6, 6, [some s, some L, some (L + 4), some (L + 6)]) → SanS (L + 10) sh' L → sh' (L + 4) = (6, 4, [some (L + 5)]) → sh' (L + 5) = (4, 5, rol (fun _ => none)) → LogS (L + 10) sh' (L + 6) → (c' r 4 = -1 ∧ c' r 5 = 0) → (c' L 3 = 0 ∧ c' L 4 = 0 ∧ c' L 5 = 0 ∧ c' L 6 = 0) → c' (L + 4) 1 = 0 → c' (L + 6) 3 = 0 → (c' (L + 7) = (fun _ => 0) ∧ c' (L + 8) = (fun _ => 0) ∧ c' (L + 9) = (fun _ => 0)) → Q none (hp (L + 10) sh' c') (n + 100)) : tc_C 3 [rf r, rf s] (hp L sh c) n Q := by
  show tc_W 3 0 [rf r, rf s] [] _ _ Q
  repeat' (simp (disch := first | omega | exact Nat.le_of_ble_eq_true rfl | exact rfl | assumption | (simp (disch := omega) only [fr_ne, fr_same]; first | assumption | omega)) only [r3_0, r3_1, r3_4, r3_5, r3_8, r3_8A, r3_9, r3_12, r3_15, r3_16, r3_19, r3_19A, r3_20, r3_23, r3_26, r3_27, r3_30, r3_30A, r3_31, r3_34, r3_37, r3_38, r3_39, r3_42, r3_43, r3_44, r3_47, r3_48, r3_49, r3_52, p6_12_6, p6_21_6, p6_28_6, p6_32_6, p6_36_6, p6_39_6, o6_len, o6_s1, o6_s2, o6_s3, o6_s4, o6_s5, o6_s0, il_s, bl_s, bl_z, ll_s, is_s, bs_s, bs_z, ls_s, al_s, al_b, al_l, fr_ne, fr_same, fr_fr, Nat.reduceEqDiff, tc_gf3_s, tc_ql2_s, tc_ws_0, tc_ws_i, tc_ws_l, tc_ws_r, Nat.reduceLeDiff, Nat.reduceAdd, Nat.reduceLT, true_and, and_true, if_true, if_false, tc_K, Option.toList_some, Option.toList_none, List.nil_append, List.cons_append, ite_true, ite_false, Int.cast_ofNat_Int, reduceIte, i3_add_eq, i3_sub_eq, Int.add_sub_cancel, Int.add_neg_cancel_right, hp_len, o5_new, nap_o])
  refine c4 (r := L) (fs_same _ _ _) ?_
  intro sh1 c1 k1 k2 k3
  have e1 : sh1 r = (6, 6, [none, none, none, none]) := by rw [(k1 r (by omega)).1, fs_ne (by omega)]; exact h5
  repeat' (simp (disch := first | omega | exact Nat.le_of_ble_eq_true rfl | exact rfl | assumption | (simp (disch := omega) only [fr_ne, fr_same]; first | assumption | omega)) only [r3_0, r3_1, r3_4, r3_5, r3_8, r3_8A, r3_9, r3_12, r3_15, r3_16, r3_19, r3_19A, r3_20, r3_23, r3_26, r3_27, r3_30, r3_30A, r3_31, r3_34, r3_37, r3_38, r3_39, r3_42, r3_43, r3_44, r3_47, r3_48, r3_49, r3_52, p6_12_6, p6_21_6, p6_28_6, p6_32_6, p6_36_6, p6_39_6, o6_len, o6_s1, o6_s2, o6_s3, o6_s4, o6_s5, o6_s0, il_s, bl_s, bl_z, ll_s, is_s, bs_s, bs_z, ls_s, al_s, al_b, al_l, fr_ne, fr_same, fr_fr, Nat.reduceEqDiff, tc_gf3_s, tc_ql2_s, tc_ws_0, tc_ws_i, tc_ws_l, tc_ws_r, Nat.reduceLeDiff, Nat.reduceAdd, Nat.reduceLT, true_and, and_true, if_true, if_false, tc_K, Option.toList_some, Option.toList_none, List.nil_append, List.cons_append, ite_true, ite_false, Int.cast_ofNat_Int, reduceIte, i3_add_eq, i3_sub_eq, Int.add_sub_cancel, Int.add_neg_cancel_right, hp_get, hp_len, e1, px_o, hOr, o4_new, nap_o])
  generalize hS1 : fs sh1 r (6, 6, [none, some L, none, none]) = S1
  have e2 : S1 r = (6, 6, [none, some L, none, none]) := by rw [← hS1, fs_same]
  have f1 : ∀ a, a < L → ¬ a = r → S1 a = sh a := fun a ha hn => by rw [← hS1, fs_ne hn, (k1 a (by omega)).1, fs_ne (by omega)]
  have k2' : SanS (L + 4) S1 L := by rw [← hS1]; exact SanS_fs k2 (by omega)
  refine c5 (r := L + 4) (fs_same _ _ _) ?_
  intro sh2 c2 j1 j2 j3 j4
  have e3 : sh2 r = (6, 6, [none, some L, none, none]) := by rw [(j1 r (by omega)).1, fs_ne (by omega)]; exact e2
  have q38 : c2 L = c1 L := by
    rw [(j1 L (by omega)).2]
    simp (disch := omega) only [fr_ne]
  repeat' (simp (disch := first | omega | exact Nat.le_of_ble_eq_true rfl | exact rfl | assumption | (simp (disch := omega) only [fr_ne, fr_same]; first | assumption | omega)) only [r3_0, r3_1, r3_4, r3_5, r3_8, r3_8A, r3_9, r3_12, r3_15, r3_16, r3_19, r3_19A, r3_20, r3_23, r3_26, r3_27, r3_30, r3_30A, r3_31, r3_34, r3_37, r3_38, r3_39, r3_42, r3_43, r3_44, r3_47, r3_48, r3_49, r3_52, p6_12_6, p6_21_6, p6_28_6, p6_32_6, p6_36_6, p6_39_6, o6_len, o6_s1, o6_s2, o6_s3, o6_s4, o6_s5, o6_s0, il_s, bl_s, bl_z, ll_s, is_s, bs_s, bs_z, ls_s, al_s, al_b, al_l, fr_ne, fr_same, fr_fr, Nat.reduceEqDiff, tc_gf3_s, tc_ql2_s, tc_ws_0, tc_ws_i, tc_ws_l, tc_ws_r, Nat.reduceLeDiff, Nat.reduceAdd, Nat.reduceLT, true_and, and_true, if_true, if_false, tc_K, Option.toList_some, Option.toList_none, List.nil_append, List.cons_append, ite_true, ite_false, Int.cast_ofNat_Int, reduceIte, i3_add_eq, i3_sub_eq, Int.add_sub_cancel, Int.add_neg_cancel_right, hp_get, hp_len, e3, px_o, hOr, o3_new, nap_o])
  generalize hS2 : fs sh2 r (6, 6, [none, some L, some (L + 4), none]) = S2
  have e4 : S2 r = (6, 6, [none, some L, some (L + 4), none]) := by rw [← hS2, fs_same]
  have f2 : ∀ a, a < L + 4 → ¬ a = r → S2 a = S1 a := fun a ha hn => by rw [← hS2, fs_ne hn, (j1 a (by omega)).1, fs_ne (by omega)]
  have g5 : S2 (L + 4) = (6, 4, [some (L + 5)]) := by rw [← hS2, fs_ne (by omega)]; exact j2
  have g6 : S2 (L + 5) = (4, 5, rol (fun _ => none)) := by rw [← hS2, fs_ne (by omega)]; exact j3
  refine c6f (r := L + 6) (fs_same _ _ _) ?_
  intro sh3 c3 l1 l2 l3 l4
  have e5 : sh3 r = (6, 6, [none, some L, some (L + 4), none]) := by rw [(l1 r (by omega)).1, fs_ne (by omega)]; exact e4
  have f3 : ∀ a, a < L + 6 → sh3 a = S2 a := fun a ha => by rw [(l1 a (by omega)).1, fs_ne (by omega)]
  have q38' : c3 L = c1 L := by
    rw [(l1 L (by omega)).2]
    simp (disch := omega) only [fr_ne]
    exact q38
  have q42 : c3 (L + 4) = c2 (L + 4) := by
    rw [(l1 (L + 4) (by omega)).2]
    simp (disch := omega) only [fr_ne]
  repeat' (simp (disch := first | omega | exact Nat.le_of_ble_eq_true rfl | exact rfl | assumption | (simp (disch := omega) only [fr_ne, fr_same]; first | assumption | omega)) only [r3_0, r3_1, r3_4, r3_5, r3_8, r3_8A, r3_9, r3_12, r3_15, r3_16, r3_19, r3_19A, r3_20, r3_23, r3_26, r3_27, r3_30, r3_30A, r3_31, r3_34, r3_37, r3_38, r3_39, r3_42, r3_43, r3_44, r3_47, r3_48, r3_49, r3_52, p6_12_6, p6_21_6, p6_28_6, p6_32_6, p6_36_6, p6_39_6, o6_len, o6_s1, o6_s2, o6_s3, o6_s4, o6_s5, o6_s0, il_s, bl_s, bl_z, ll_s, is_s, bs_s, bs_z, ls_s, al_s, al_b, al_l, fr_ne, fr_same, fr_fr, Nat.reduceEqDiff, tc_gf3_s, tc_ql2_s, tc_ws_0, tc_ws_i, tc_ws_l, tc_ws_r, Nat.reduceLeDiff, Nat.reduceAdd, Nat.reduceLT, true_and, and_true, if_true, if_false, tc_K, Option.toList_some, Option.toList_none, List.nil_append, List.cons_append, ite_true, ite_false, Int.cast_ofNat_Int, reduceIte, i3_add_eq, i3_sub_eq, Int.add_sub_cancel, Int.add_neg_cancel_right, hp_get, hp_len, e5, fs_same, px_o, hOr, fs_fs])
  refine hq _ _ (fun a ha hn => ⟨?_, ?_⟩) (fs_same _ _ _) (SanS_fs ⟨by omega, ?_, ?_, ?_, ?_⟩ (by omega)) ?_ ?_ (LogS_fs l2 (by omega)) ⟨?_, ?_⟩ ⟨?_, ?_, ?_, ?_⟩ ?_ ?_ ⟨?_, ?_, ?_⟩
  · rw [fs_ne (by omega), f3 a (by omega), f2 a (by omega) (by omega), f1 a ha hn]
  · simp (disch := omega) only [fr_ne]
    rw [(l1 a (by omega)).2]
    simp (disch := omega) only [fr_ne]
    rw [(j1 a (by omega)).2]
    simp (disch := omega) only [fr_ne]
    rw [(k1 a (by omega)).2]
    simp (disch := omega) only [fr_ne]
  · rw [f3 _ (by omega), f2 _ (by omega) (by omega)]
    exact k2'.2.1
  · rw [f3 _ (by omega), f2 _ (by omega) (by omega)]
    exact k2'.2.2.1
  · rw [f3 _ (by omega), f2 _ (by omega) (by omega)]
    exact k2'.2.2.2.1
  · rw [f3 _ (by omega), f2 _ (by omega) (by omega)]
    exact k2'.2.2.2.2
  · rw [fs_ne (by omega), f3 _ (by omega)]
    exact g5
  · rw [fs_ne (by omega), f3 _ (by omega)]
    exact g6
  · simp (disch := omega) only [fr_same, fu_same, fu_ne]
  · simp (disch := omega) only [fr_same, fu_same, fu_ne]
  · simp (disch := omega) only [fr_ne, q38', k3.1]
  · simp (disch := omega) only [fr_ne, q38', k3.2.1]
  · simp (disch := omega) only [fr_ne, q38', k3.2.2.1]
  · simp (disch := omega) only [fr_ne, q38', k3.2.2.2]
  · simp (disch := omega) only [fr_ne, q42, j4]
  · simp (disch := omega) only [fr_ne, l3]
  · simp (disch := omega) only [fr_ne]
    exact l4.1
  · simp (disch := omega) only [fr_ne]
    exact l4.2.1
  · simp (disch := omega) only [fr_ne]
    exact l4.2.2
/-- what the class's constructor leaves -/
def NEW0 (sh : Nat → SH) (c : Nat → Int → Int) : Prop := sh 26 = (6, 10, [some 27, some 28, some 29, some 48, some 49, some 56, some 60, some 69, some 70, some 74]) ∧ sh 27 = (1, 400, []) ∧ sh 28 = (4, 1, List.replicate 6 none) ∧ sh 29 = (6, 6, [some 30, some 38, some 42, some 44]) ∧ ShoS 115 sh 30 ∧ SanS 115 sh 38 ∧ (sh 42 = (6, 4, [some 43]) ∧ sh 43 = (4, 5, rol (fun _ => none))) ∧ LogS 115 sh 44 ∧ sh 48 = (4, 6, List.replicate 4 none) ∧ SeaS 115 sh none none ∧ SanS 115 sh 56 ∧ (sh 60 = (6, 9, [none, none, some 61, some 65]) ∧ SanS 115 sh 61 ∧ SanS 115 sh 65) ∧ sh 69 = (6, 0, [none, none]) ∧ (sh 70 = (6, 2, [none, some 71, some 72, some 73]) ∧ sh 71 = (0, 400, []) ∧ sh 72 = (0, 25, []) ∧ sh 73 = (0, 10, [])) ∧ sh 74 = (0, 250, []) ∧
  (c 26 1 = 0 ∧ c 26 3 = 0) ∧ c 27 = (fun _ => 0) ∧ (c 29 4 = -1 ∧ c 29 5 = 0) ∧ (c 30 0 = 0 ∧ c 30 1 = 0 ∧ c 30 2 = 0 ∧ c 30 3 = 0 ∧ c 30 4 = 0) ∧ (c 38 3 = 0 ∧ c 38 4 = 0 ∧ c 38 5 = 0 ∧ c 38 6 = 0) ∧ c 42 1 = 0 ∧ c 44 3 = 0 ∧ (c 45 = (fun _ => 0) ∧ c 46 = (fun _ => 0) ∧ c 47 = (fun _ => 0))
theorem c0f (h26 : sh 26 = (6, 10, [none, none, none, none, none, none, none, none, none, none])) (hq : ∀ sh' c' n', n' ≤ n + 2000 → (∀ a, a < 26 → sh' a = sh a ∧ c' a = c a) → NEW0 sh' c' → Q none (hp 75 sh' c') n') : tc_C 0 [rf 26] (hp 27 sh c) n Q := by
  show tc_W 0 0 [rf 26] [] _ _ Q
  repeat' (simp (disch := first | omega | exact Nat.le_of_ble_eq_true rfl | exact rfl | assumption | (simp (disch := omega) only [fr_ne, fr_same]; first | assumption | omega)) only [r0_0, r0_1, r0_4, r0_5, r0_8, r0_10, r0_13, r0_14, r0_15, r0_18, r0_19, r0_21, r0_24, r0_27, r0_28, r0_29, r0_32, r0_33, r0_36, r0_36A, r0_37, r0_40, r0_40A, r0_41, r0_44, r0_47, r0_50, r0_51, r0_52, r0_55, r0_58, r0_59, r0_62, r0_62A, r0_63, r0_66, r0_69, r0_70, r0_73, r0_73A, r0_74, r0_77, r0_80, r0_81, r0_84, r0_84A, r0_85, r0_88, r0_91, r0_92, r0_95, r0_95A, r0_96, r0_99, r0_102, r0_103, r0_106, r0_106A, r0_107, r0_110, r0_113, r0_114, r0_117, r0_119, r0_122, p10_9_10, p10_13_10, p10_19_10, p10_23_10, p10_34_10, p10_38_10, p10_45_10, p10_52_10, p10_59_10, p10_66_10, p10_73_10, p10_77_10, o10_len, o10_s0, o10_s1, o10_s2, o10_s3, o10_s4, o10_s5, o10_s6, o10_s7, o10_s8, o10_s9, o10_s10, o10_s11, il_s, bl_s, bl_z, ll_s, is_s, bs_s, bs_z, ls_s, al_s, al_b, al_l, fr_ne, fr_same, fr_fr, Nat.reduceEqDiff, tc_gf3_s, tc_ql2_s, tc_ws_0, tc_ws_i, tc_ws_l, tc_ws_r, Nat.reduceLeDiff, Nat.reduceAdd, Nat.reduceLT, true_and, and_true, if_true, if_false, tc_K, Option.toList_some, Option.toList_none, List.nil_append, List.cons_append, ite_true, ite_false, Int.cast_ofNat_Int, reduceIte, i3_add_eq, i3_sub_eq, Int.add_sub_cancel, Int.add_neg_cancel_right, hp_get, hp_len, h26, fs_same, fs_ne, px_o, hOr, nap_b, nap_q, nap_o, Int.reduceToNat, o6_new, o8_new])
  refine c2 (r := 30) (by simp only [fs_same]) ?_
  intro sh1 c1 k1 k2 k3 k4
  have w26 : sh1 26 = (6, 10, [some 27, some 28, none, none, none, none, none, none, none, none]) := by rw [(k1 26 (by omega)).1]; simp (disch := omega) only [fs_same, fs_ne]
  have w27 : sh1 27 = (1, 400, []) := by rw [(k1 27 (by omega)).1]; simp (disch := omega) only [fs_same, fs_ne]
  have w28 : sh1 28 = (4, 1, List.replicate 6 none) := by rw [(k1 28 (by omega)).1]; simp (disch := omega) only [fs_same, fs_ne]
  have w29 : sh1 29 = (6, 6, [none, none, none, none]) := by rw [(k1 29 (by omega)).1]; simp (disch := omega) only [fs_same, fs_ne]
  have x26 : c1 26 1 = 0 ∧ c1 26 3 = 0 := by
    rw [(k1 26 (by omega)).2]
    constructor <;> simp (disch := omega) only [fr_same, fr_ne, fu_same, fu_ne]
  have x27 : c1 27 = fun _ => 0 := by rw [(k1 27 (by omega)).2]; simp (disch := omega) only [fr_same, fr_ne]
  have low : ∀ a, a < 26 → sh1 a = sh a ∧ c1 a = c a := fun a ha => by
    rw [(k1 a (by omega)).1, (k1 a (by omega)).2]
    constructor
    · simp (disch := omega) only [fs_ne]
    · simp (disch := omega) only [fr_ne]
  clear k1
  repeat' (simp (disch := first | omega | exact Nat.le_of_ble_eq_true rfl | exact rfl | assumption | (simp (disch := omega) only [fr_ne, fr_same]; first | assumption | omega)) only [r0_0, r0_1, r0_4, r0_5, r0_8, r0_10, r0_13, r0_14, r0_15, r0_18, r0_19, r0_21, r0_24, r0_27, r0_28, r0_29, r0_32, r0_33, r0_36, r0_36A, r0_37, r0_40, r0_40A, r0_41, r0_44, r0_47, r0_50, r0_51, r0_52, r0_55, r0_58, r0_59, r0_62, r0_62A, r0_63, r0_66, r0_69, r0_70, r0_73, r0_73A, r0_74, r0_77, r0_80, r0_81, r0_84, r0_84A, r0_85, r0_88, r0_91, r0_92, r0_95, r0_95A, r0_96, r0_99, r0_102, r0_103, r0_106, r0_106A, r0_107, r0_110, r0_113, r0_114, r0_117, r0_119, r0_122, p10_9_10, p10_13_10, p10_19_10, p10_23_10, p10_34_10, p10_38_10, p10_45_10, p10_52_10, p10_59_10, p10_66_10, p10_73_10, p10_77_10, o10_len, o10_s0, o10_s1, o10_s2, o10_s3, o10_s4, o10_s5, o10_s6, o10_s7, o10_s8, o10_s9, o10_s10, o10_s11, il_s, bl_s, bl_z, ll_s, is_s, bs_s, bs_z, ls_s, al_s, al_b, al_l, fr_ne, fr_same, fr_fr, Nat.reduceEqDiff, tc_gf3_s, tc_ql2_s, tc_ws_0, tc_ws_i, tc_ws_l, tc_ws_r, Nat.reduceLeDiff, Nat.reduceAdd, Nat.reduceLT, true_and, and_true, if_true, if_false, tc_K, Option.toList_some, Option.toList_none, List.nil_append, List.cons_append, ite_true, ite_false, Int.cast_ofNat_Int, reduceIte, i3_add_eq, i3_sub_eq, Int.add_sub_cancel, Int.add_neg_cancel_right])
  refine c3g (r := 29) (s := 30) (L := 38) (by omega) w29 ?_
  intro sh2 c2 j1 j2 j3 j4 j5 j6 j7 j8 j9 j10 j11
  have y26 : sh2 26 = (6, 10, [some 27, some 28, none, none, none, none, none, none, none, none]) := by rw [(j1 26 (by omega) (by omega)).1]; exact w26
  repeat' (simp (disch := first | omega | exact Nat.le_of_ble_eq_true rfl | exact rfl | assumption | (simp (disch := omega) only [fr_ne, fr_same]; first | assumption | omega)) only [r0_0, r0_1, r0_4, r0_5, r0_8, r0_10, r0_13, r0_14, r0_15, r0_18, r0_19, r0_21, r0_24, r0_27, r0_28, r0_29, r0_32, r0_33, r0_36, r0_36A, r0_37, r0_40, r0_40A, r0_41, r0_44, r0_47, r0_50, r0_51, r0_52, r0_55, r0_58, r0_59, r0_62, r0_62A, r0_63, r0_66, r0_69, r0_70, r0_73, r0_73A, r0_74, r0_77, r0_80, r0_81, r0_84, r0_84A, r0_85, r0_88, r0_91, r0_92, r0_95, r0_95A, r0_96, r0_99, r0_102, r0_103, r0_106, r0_106A, r0_107, r0_110, r0_113, r0_114, r0_117, r0_119, r0_122, p10_9_10, p10_13_10, p10_19_10, p10_23_10, p10_34_10, p10_38_10, p10_45_10, p10_52_10, p10_59_10, p10_66_10, p10_73_10, p10_77_10, o10_len, o10_s0, o10_s1, o10_s2, o10_s3, o10_s4, o10_s5, o10_s6, o10_s7, o10_s8, o10_s9, o10_s10, o10_s11, il_s, bl_s, bl_z, ll_s, is_s, bs_s, bs_z, ls_s, al_s, al_b, al_l, fr_ne, fr_same, fr_fr, Nat.reduceEqDiff, tc_gf3_s, tc_ql2_s, tc_ws_0, tc_ws_i, tc_ws_l, tc_ws_r, Nat.reduceLeDiff, Nat.reduceAdd, Nat.reduceLT, true_and, and_true, if_true, if_false, tc_K, Option.toList_some, Option.toList_none, List.nil_append, List.cons_append, ite_true, ite_false, Int.cast_ofNat_Int, reduceIte, i3_add_eq, i3_sub_eq, Int.add_sub_cancel, Int.add_neg_cancel_right, hp_get, hp_len, y26, fs_same, fs_ne, px_o, hOr, nap_q, nap_o, Int.reduceToNat, o7_new])
  refine c7f (r := 49) (by simp only [fs_same]) ?_
  intro sh3 c3 l1 l2 l3
  have z26 : sh3 26 = (6, 10, [some 27, some 28, some 29, some 48, none, none, none, none, none, none]) := by rw [(l1 26 (by omega)).1]; simp (disch := omega) only [fs_same, fs_ne]
  have z48 : sh3 48 = (4, 6, List.replicate 4 none) := by rw [(l1 48 (by omega)).1]; simp (disch := omega) only [fs_same, fs_ne]
  have s3 : ∀ a, a < 48 → ¬ a = 26 → sh3 a = sh2 a := fun a ha hn => by rw [(l1 a (by omega)).1]; simp (disch := omega) only [fs_ne]
  have d3 : ∀ a, a < 48 → ¬ a = 26 → c3 a = c2 a := fun a ha hn => by rw [(l1 a (by omega)).2]; simp (disch := omega) only [fr_ne]
  have d3' : c3 26 1 = c2 26 1 ∧ c3 26 3 = c2 26 3 := by
    rw [(l1 26 (by omega)).2]
    constructor <;> simp (disch := omega) only [fr_same, fr_ne]
  clear l1
  repeat' (simp (disch := first | omega | exact Nat.le_of_ble_eq_true rfl | exact rfl | assumption | (simp (disch := omega) only [fr_ne, fr_same]; first | assumption | omega)) only [r0_0, r0_1, r0_4, r0_5, r0_8, r0_10, r0_13, r0_14, r0_15, r0_18, r0_19, r0_21, r0_24, r0_27, r0_28, r0_29, r0_32, r0_33, r0_36, r0_36A, r0_37, r0_40, r0_40A, r0_41, r0_44, r0_47, r0_50, r0_51, r0_52, r0_55, r0_58, r0_59, r0_62, r0_62A, r0_63, r0_66, r0_69, r0_70, r0_73, r0_73A, r0_74, r0_77, r0_80, r0_81, r0_84, r0_84A, r0_85, r0_88, r0_91, r0_92, r0_95, r0_95A, r0_96, r0_99, r0_102, r0_103, r0_106, r0_106A, r0_107, r0_110, r0_113, r0_114, r0_117, r0_119, r0_122, p10_9_10, p10_13_10, p10_19_10, p10_23_10, p10_34_10, p10_38_10, p10_45_10, p10_52_10, p10_59_10, p10_66_10, p10_73_10, p10_77_10, o10_len, o10_s0, o10_s1, o10_s2, o10_s3, o10_s4, o10_s5, o10_s6, o10_s7, o10_s8, o10_s9, o10_s10, o10_s11, il_s, bl_s, bl_z, ll_s, is_s, bs_s, bs_z, ls_s, al_s, al_b, al_l, fr_ne, fr_same, fr_fr, Nat.reduceEqDiff, tc_gf3_s, tc_ql2_s, tc_ws_0, tc_ws_i, tc_ws_l, tc_ws_r, Nat.reduceLeDiff, Nat.reduceAdd, Nat.reduceLT, true_and, and_true, if_true, if_false, tc_K, Option.toList_some, Option.toList_none, List.nil_append, List.cons_append, ite_true, ite_false, Int.cast_ofNat_Int, reduceIte, i3_add_eq, i3_sub_eq, Int.add_sub_cancel, Int.add_neg_cancel_right, hp_get, hp_len, z26, fs_same, fs_ne, px_o, hOr, nap_o, Int.reduceToNat, o5_new])
  refine c4 (r := 56) (by simp only [fs_same]) ?_
  intro sh4 c4 l1 m2 m3
  have a26 : sh4 26 = (6, 10, [some 27, some 28, some 29, some 48, some 49, none, none, none, none, none]) := by rw [(l1 26 (by omega)).1]; simp (disch := omega) only [fs_same, fs_ne]
  have s4 : ∀ a, a < 56 → ¬ a = 26 → sh4 a = sh3 a := fun a ha hn => by rw [(l1 a (by omega)).1]; simp (disch := omega) only [fs_ne]
  have d4 : ∀ a, a < 56 → ¬ a = 26 → c4 a = c3 a := fun a ha hn => by rw [(l1 a (by omega)).2]; simp (disch := omega) only [fr_ne]
  have d4' : c4 26 1 = c3 26 1 ∧ c4 26 3 = c3 26 3 := by
    rw [(l1 26 (by omega)).2]
    constructor <;> simp (disch := omega) only [fr_same, fr_ne]
  clear l1
  repeat' (simp (disch := first | omega | exact Nat.le_of_ble_eq_true rfl | exact rfl | assumption | (simp (disch := omega) only [fr_ne, fr_same]; first | assumption | omega)) only [r0_0, r0_1, r0_4, r0_5, r0_8, r0_10, r0_13, r0_14, r0_15, r0_18, r0_19, r0_21, r0_24, r0_27, r0_28, r0_29, r0_32, r0_33, r0_36, r0_36A, r0_37, r0_40, r0_40A, r0_41, r0_44, r0_47, r0_50, r0_51, r0_52, r0_55, r0_58, r0_59, r0_62, r0_62A, r0_63, r0_66, r0_69, r0_70, r0_73, r0_73A, r0_74, r0_77, r0_80, r0_81, r0_84, r0_84A, r0_85, r0_88, r0_91, r0_92, r0_95, r0_95A, r0_96, r0_99, r0_102, r0_103, r0_106, r0_106A, r0_107, r0_110, r0_113, r0_114, r0_117, r0_119, r0_122, p10_9_10, p10_13_10, p10_19_10, p10_23_10, p10_34_10, p10_38_10, p10_45_10, p10_52_10, p10_59_10, p10_66_10, p10_73_10, p10_77_10, o10_len, o10_s0, o10_s1, o10_s2, o10_s3, o10_s4, o10_s5, o10_s6, o10_s7, o10_s8, o10_s9, o10_s10, o10_s11, il_s, bl_s, bl_z, ll_s, is_s, bs_s, bs_z, ls_s, al_s, al_b, al_l, fr_ne, fr_same, fr_fr, Nat.reduceEqDiff, tc_gf3_s, tc_ql2_s, tc_ws_0, tc_ws_i, tc_ws_l, tc_ws_r, Nat.reduceLeDiff, Nat.reduceAdd, Nat.reduceLT, true_and, and_true, if_true, if_false, tc_K, Option.toList_some, Option.toList_none, List.nil_append, List.cons_append, ite_true, ite_false, Int.cast_ofNat_Int, reduceIte, i3_add_eq, i3_sub_eq, Int.add_sub_cancel, Int.add_neg_cancel_right, hp_get, hp_len, a26, fs_same, fs_ne, px_o, hOr, nap_o, Int.reduceToNat, o9_new])
  refine c8f (r := 60) (by simp only [fs_same]) ?_
  intro sh5 c5 l1 n2 n3 n4
  have b26 : sh5 26 = (6, 10, [some 27, some 28, some 29, some 48, some 49, some 56, none, none, none, none]) := by rw [(l1 26 (by omega)).1]; simp (disch := omega) only [fs_same, fs_ne]
  have s5 : ∀ a, a < 60 → ¬ a = 26 → sh5 a = sh4 a := fun a ha hn => by rw [(l1 a (by omega)).1]; simp (disch := omega) only [fs_ne]
  have d5 : ∀ a, a < 60 → ¬ a = 26 → c5 a = c4 a := fun a ha hn => by rw [(l1 a (by omega)).2]; simp (disch := omega) only [fr_ne]
  have d5' : c5 26 1 = c4 26 1 ∧ c5 26 3 = c4 26 3 := by
    rw [(l1 26 (by omega)).2]
    constructor <;> simp (disch := omega) only [fr_same, fr_ne]
  clear l1
  repeat' (simp (disch := first | omega | exact Nat.le_of_ble_eq_true rfl | exact rfl | assumption | (simp (disch := omega) only [fr_ne, fr_same]; first | assumption | omega)) only [r0_0, r0_1, r0_4, r0_5, r0_8, r0_10, r0_13, r0_14, r0_15, r0_18, r0_19, r0_21, r0_24, r0_27, r0_28, r0_29, r0_32, r0_33, r0_36, r0_36A, r0_37, r0_40, r0_40A, r0_41, r0_44, r0_47, r0_50, r0_51, r0_52, r0_55, r0_58, r0_59, r0_62, r0_62A, r0_63, r0_66, r0_69, r0_70, r0_73, r0_73A, r0_74, r0_77, r0_80, r0_81, r0_84, r0_84A, r0_85, r0_88, r0_91, r0_92, r0_95, r0_95A, r0_96, r0_99, r0_102, r0_103, r0_106, r0_106A, r0_107, r0_110, r0_113, r0_114, r0_117, r0_119, r0_122, p10_9_10, p10_13_10, p10_19_10, p10_23_10, p10_34_10, p10_38_10, p10_45_10, p10_52_10, p10_59_10, p10_66_10, p10_73_10, p10_77_10, o10_len, o10_s0, o10_s1, o10_s2, o10_s3, o10_s4, o10_s5, o10_s6, o10_s7, o10_s8, o10_s9, o10_s10, o10_s11, il_s, bl_s, bl_z, ll_s, is_s, bs_s, bs_z, ls_s, al_s, al_b, al_l, fr_ne, fr_same, fr_fr, Nat.reduceEqDiff, tc_gf3_s, tc_ql2_s, tc_ws_0, tc_ws_i, tc_ws_l, tc_ws_r, Nat.reduceLeDiff, Nat.reduceAdd, Nat.reduceLT, true_and, and_true, if_true, if_false, tc_K, Option.toList_some, Option.toList_none, List.nil_append, List.cons_append, ite_true, ite_false, Int.cast_ofNat_Int, reduceIte, i3_add_eq, i3_sub_eq, Int.add_sub_cancel, Int.add_neg_cancel_right, hp_get, hp_len, b26, fs_same, fs_ne, px_o, hOr, nap_o, Int.reduceToNat, o0_new])
  refine c9f (r := 69) (by simp only [fs_same]) ?_
  intro sh6 c6 l1 p2
  have g26 : sh6 26 = (6, 10, [some 27, some 28, some 29, some 48, some 49, some 56, some 60, none, none, none]) := by rw [(l1 26 (by omega)).1]; simp (disch := omega) only [fs_same, fs_ne]
  have s6 : ∀ a, a < 69 → ¬ a = 26 → sh6 a = sh5 a := fun a ha hn => by rw [(l1 a (by omega)).1]; simp (disch := omega) only [fs_ne]
  have d6 : ∀ a, a < 69 → ¬ a = 26 → c6 a = c5 a := fun a ha hn => by rw [(l1 a (by omega)).2]; simp (disch := omega) only [fr_ne]
  have d6' : c6 26 1 = c5 26 1 ∧ c6 26 3 = c5 26 3 := by
    rw [(l1 26 (by omega)).2]
    constructor <;> simp (disch := omega) only [fr_same, fr_ne]
  clear l1
  repeat' (simp (disch := first | omega | exact Nat.le_of_ble_eq_true rfl | exact rfl | assumption | (simp (disch := omega) only [fr_ne, fr_same]; first | assumption | omega)) only [r0_0, r0_1, r0_4, r0_5, r0_8, r0_10, r0_13, r0_14, r0_15, r0_18, r0_19, r0_21, r0_24, r0_27, r0_28, r0_29, r0_32, r0_33, r0_36, r0_36A, r0_37, r0_40, r0_40A, r0_41, r0_44, r0_47, r0_50, r0_51, r0_52, r0_55, r0_58, r0_59, r0_62, r0_62A, r0_63, r0_66, r0_69, r0_70, r0_73, r0_73A, r0_74, r0_77, r0_80, r0_81, r0_84, r0_84A, r0_85, r0_88, r0_91, r0_92, r0_95, r0_95A, r0_96, r0_99, r0_102, r0_103, r0_106, r0_106A, r0_107, r0_110, r0_113, r0_114, r0_117, r0_119, r0_122, p10_9_10, p10_13_10, p10_19_10, p10_23_10, p10_34_10, p10_38_10, p10_45_10, p10_52_10, p10_59_10, p10_66_10, p10_73_10, p10_77_10, o10_len, o10_s0, o10_s1, o10_s2, o10_s3, o10_s4, o10_s5, o10_s6, o10_s7, o10_s8, o10_s9, o10_s10, o10_s11, il_s, bl_s, bl_z, ll_s, is_s, bs_s, bs_z, ls_s, al_s, al_b, al_l, fr_ne, fr_same, fr_fr, Nat.reduceEqDiff, tc_gf3_s, tc_ql2_s, tc_ws_0, tc_ws_i, tc_ws_l, tc_ws_r, Nat.reduceLeDiff, Nat.reduceAdd, Nat.reduceLT, true_and, and_true, if_true, if_false, tc_K, Option.toList_some, Option.toList_none, List.nil_append, List.cons_append, ite_true, ite_false, Int.cast_ofNat_Int, reduceIte, i3_add_eq, i3_sub_eq, Int.add_sub_cancel, Int.add_neg_cancel_right, hp_get, hp_len, g26, fs_same, fs_ne, px_o, hOr, nap_o, Int.reduceToNat, o2_new])
  refine c11f (r := 70) (by simp only [fs_same]) ?_
  intro sh7 c7 l1 q2 q3
  have i26 : sh7 26 = (6, 10, [some 27, some 28, some 29, some 48, some 49, some 56, some 60, some 69, none, none]) := by rw [(l1 26 (by omega)).1]; simp (disch := omega) only [fs_same, fs_ne]
  have s7 : ∀ a, a < 70 → ¬ a = 26 → sh7 a = sh6 a := fun a ha hn => by rw [(l1 a (by omega)).1]; simp (disch := omega) only [fs_ne]
  have d7 : ∀ a, a < 70 → ¬ a = 26 → c7 a = c6 a := fun a ha hn => by rw [(l1 a (by omega)).2]; simp (disch := omega) only [fr_ne]
  have d7' : c7 26 1 = c6 26 1 ∧ c7 26 3 = c6 26 3 := by
    rw [(l1 26 (by omega)).2]
    constructor <;> simp (disch := omega) only [fr_same, fr_ne]
  clear l1
  repeat' (simp (disch := first | omega | exact Nat.le_of_ble_eq_true rfl | exact rfl | assumption | (simp (disch := omega) only [fr_ne, fr_same]; first | assumption | omega)) only [r0_0, r0_1, r0_4, r0_5, r0_8, r0_10, r0_13, r0_14, r0_15, r0_18, r0_19, r0_21, r0_24, r0_27, r0_28, r0_29, r0_32, r0_33, r0_36, r0_36A, r0_37, r0_40, r0_40A, r0_41, r0_44, r0_47, r0_50, r0_51, r0_52, r0_55, r0_58, r0_59, r0_62, r0_62A, r0_63, r0_66, r0_69, r0_70, r0_73, r0_73A, r0_74, r0_77, r0_80, r0_81, r0_84, r0_84A, r0_85, r0_88, r0_91, r0_92, r0_95, r0_95A, r0_96, r0_99, r0_102, r0_103, r0_106, r0_106A, r0_107, r0_110, r0_113, r0_114, r0_117, r0_119, r0_122, p10_9_10, p10_13_10, p10_19_10, p10_23_10, p10_34_10, p10_38_10, p10_45_10, p10_52_10, p10_59_10, p10_66_10, p10_73_10, p10_77_10, o10_len, o10_s0, o10_s1, o10_s2, o10_s3, o10_s4, o10_s5, o10_s6, o10_s7, o10_s8, o10_s9, o10_s10, o10_s11, il_s, bl_s, bl_z, ll_s, is_s, bs_s, bs_z, ls_s, al_s, al_b, al_l, fr_ne, fr_same, fr_fr, Nat.reduceEqDiff, tc_gf3_s, tc_ql2_s, tc_ws_0, tc_ws_i, tc_ws_l, tc_ws_r, Nat.reduceLeDiff, Nat.reduceAdd, Nat.reduceLT, true_and, and_true, if_true, if_false, tc_K, Option.toList_some, Option.toList_none, List.nil_append, List.cons_append, ite_true, ite_false, Int.cast_ofNat_Int, reduceIte, i3_add_eq, i3_sub_eq, Int.add_sub_cancel, Int.add_neg_cancel_right, hp_get, hp_len, i26, fs_same, fs_ne, px_o, hOr, nap_i, Int.reduceToNat])
  have S48 : ∀ a, a < 48 → ¬ a = 26 → sh7 a = sh2 a := fun a ha hn => by rw [s7 a (by omega) hn, s6 a (by omega) hn, s5 a (by omega) hn, s4 a (by omega) hn, s3 a ha hn]
  have D48 : ∀ a, a < 48 → ¬ a = 26 → c7 a = c2 a := fun a ha hn => by rw [d7 a (by omega) hn, d6 a (by omega) hn, d5 a (by omega) hn, d4 a (by omega) hn, d3 a ha hn]
  have S56 : ∀ a, a < 56 → ¬ a = 26 → sh7 a = sh3 a := fun a ha hn => by rw [s7 a (by omega) hn, s6 a (by omega) hn, s5 a (by omega) hn, s4 a (by omega) hn]
  have S60 : ∀ a, a < 60 → ¬ a = 26 → sh7 a = sh4 a := fun a ha hn => by rw [s7 a (by omega) hn, s6 a (by omega) hn, s5 a (by omega) hn]
  have S69 : ∀ a, a < 69 → ¬ a = 26 → sh7 a = sh5 a := fun a ha hn => by rw [s7 a (by omega) hn, s6 a (by omega) hn]
  have J : ∀ a, a < 38 → ¬ a = 29 → ¬ a = 26 → sh7 a = sh1 a ∧ c7 a = c1 a := fun a ha h1 h2 => ⟨(S48 a (by omega) h2).trans (j1 a ha h1).1, (D48 a (by omega) h2).trans (j1 a ha h1).2⟩
  have key : ∀ (T : Nat → SH) (C : Nat → Int → Int), T 26 = (6, 10, [some 27, some 28, some 29, some 48, some 49, some 56, some 60, some 69, some 70, some 74]) → T 74 = (0, 250, []) → (∀ a, a < 74 → ¬ a = 26 → T a = sh7 a ∧ C a = c7 a) → (C 26 1 = c7 26 1 ∧ C 26 3 = c7 26 3) → (∀ a, a < 26 → T a = sh a ∧ C a = c a) ∧ NEW0 T C := by
    intro T C t26 t74 tn tc
    have U48 : ∀ a, a < 48 → ¬ a = 26 → T a = sh2 a := fun a ha hn => (tn a (by omega) hn).1.trans (S48 a ha hn)
    have V48 : ∀ a, a < 48 → ¬ a = 26 → C a = c2 a := fun a ha hn => (tn a (by omega) hn).2.trans (D48 a ha hn)
    have U56 : ∀ a, a < 56 → ¬ a = 26 → T a = sh3 a := fun a ha hn => (tn a (by omega) hn).1.trans (S56 a ha hn)
    have U60 : ∀ a, a < 60 → ¬ a = 26 → T a = sh4 a := fun a ha hn => (tn a (by omega) hn).1.trans (S60 a ha hn)
    have U69 : ∀ a, a < 69 → ¬ a = 26 → T a = sh5 a := fun a ha hn => (tn a (by omega) hn).1.trans (S69 a ha hn)
    have U38 : ∀ a, a < 38 → ¬ a = 29 → ¬ a = 26 → T a = sh1 a ∧ C a = c1 a := fun a ha h1 h2 => ⟨(tn a (by omega) h2).1.trans (J a ha h1 h2).1, (tn a (by omega) h2).2.trans (J a ha h1 h2).2⟩
    have e26 : C 26 1 = 0 ∧ C 26 3 = 0 := by
      rw [tc.1, tc.2, d7'.1, d7'.2, d6'.1, d6'.2, d5'.1, d5'.2, d4'.1, d4'.2, d3'.1, d3'.2, (j1 26 (by omega) (by omega)).2]
      exact x26
    refine ⟨fun a ha => ⟨(U38 a (by omega) (by omega) (by omega)).1.trans (low a ha).1, (U38 a (by omega) (by omega) (by omega)).2.trans (low a ha).2⟩, t26, (U38 27 (by omega) (by omega) (by omega)).1.trans w27, (U38 28 (by omega) (by omega) (by omega)).1.trans w28, (U48 29 (by omega) (by omega)).trans j2, ShoS_up k2 (by omega) (fun a a1 a2 => (U38 a (by omega) (by omega) (by omega)).1), SanS_up j3 (by omega) (fun a a1 a2 => U48 a (by omega) (by omega)), ⟨(U48 42 (by omega) (by omega)).trans j4, (U48 43 (by omega) (by omega)).trans j5⟩, LogS_up j6 (by omega) (fun a a1 a2 => U48 a (by omega) (by omega)), (U56 48 (by omega) (by omega)).trans z48, ⟨by omega, (U56 49 (by omega) (by omega)).trans l2, (U56 50 (by omega) (by omega)).trans l3.1, (U56 51 (by omega) (by omega)).trans l3.2.1, (U56 52 (by omega) (by omega)).trans l3.2.2.1, (U56 53 (by omega) (by omega)).trans l3.2.2.2.1, (U56 54 (by omega) (by omega)).trans l3.2.2.2.2.1, (U56 55 (by omega) (by omega)).trans l3.2.2.2.2.2⟩, SanS_up m2 (by omega) (fun a a1 a2 => U60 a (by omega) (by omega)), ⟨(U69 60 (by omega) (by omega)).trans n2, SanS_up n3 (by omega) (fun a a1 a2 => U69 a (by omega) (by omega)), SanS_up n4 (by omega) (fun a a1 a2 => U69 a (by omega) (by omega))⟩, (tn 69 (by omega) (by omega)).1.trans ((s7 69 (by omega) (by omega)).trans p2), ⟨(tn 70 (by omega) (by omega)).1.trans q2, (tn 71 (by omega) (by omega)).1.trans q3.1, (tn 72 (by omega) (by omega)).1.trans q3.2.1, (tn 73 (by omega) (by omega)).1.trans q3.2.2⟩, t74, e26, (U38 27 (by omega) (by omega) (by omega)).2.trans x27, ?_, ?_, ?_, ?_, ?_, ?_⟩
    · rw [V48 29 (by omega) (by omega)]
      exact j7
    · rw [(U38 30 (by omega) (by omega) (by omega)).2]
      exact k3
    · rw [V48 38 (by omega) (by omega)]
      exact j8
    · rw [V48 42 (by omega) (by omega)]
      exact j9
    · rw [V48 44 (by omega) (by omega)]
      exact j10
    · rw [V48 45 (by omega) (by omega), V48 46 (by omega) (by omega), V48 47 (by omega) (by omega)]
      exact j11
  refine (fun q => hq _ _ _ (by omega) q.1 q.2) (key _ _ ?_ ?_ (fun a ha hn => ⟨?_, ?_⟩) ⟨?_, ?_⟩)
  all_goals simp (disch := omega) only [fs_same, fs_ne, fr_same, fr_ne]
end CTOR0

/-! the class: cells laid out -/
section LAYC
variable {L : Nat} {sh : Nat → SH} {c : Nat → Int → Int} {n : Nat} {Q : Option AV → List SC → Nat → Prop} {s : Nat}
theorem c39 (hSh : ShoS L sh s) {W D : Int} (hW : 2 ≤ W ∧ W ≤ 5) (hD : 2 ≤ D ∧ D ≤ 5)
    (hq : ∀ e, (∀ a, ¬ a = s → ¬ a = s + 1 → ¬ a = s + 7 → e a = c a) → e s 0 = W → e s 1 = D → e s 2 = W * D → (∀ i, ¬ i = 0 → ¬ i = 1 → ¬ i = 2 → e s i = c s i) → e (s + 1) = lay (W * D) (fun _ => 2) (c (s + 1)) → (∀ x d, 0 ≤ x → x < W * D → 0 ≤ d → d < 4 → e (s + 7) (4 * x + d) = bes W (W * D) x d) → Q none (hp L sh e) n) : tc_C 39 [rf s, .inl W, .inl D] (hp L sh c) n Q := by
  have hN : 0 ≤ W * D ∧ W * D ≤ 25 := by
    have h1 : W * D ≤ 5 * 5 := Int.mul_le_mul hW.2 hD.2 (by omega) (by omega)
    have h2 := Int.mul_nonneg (show 0 ≤ W by omega) (show 0 ≤ D by omega)
    omega
  show tc_W 39 0 [rf s, .inl W, .inl D, tc_nil, tc_nil] [] _ _ Q
  repeat' (first | (simp (disch := first | omega | exact Nat.le_of_ble_eq_true rfl | exact rfl | assumption | (simp (disch := omega) only [fr_ne, fr_same]; first | assumption | omega)) only [r39_0, r39_1, r39_2, r39_5, r39_6, r39_7, r39_10, r39_11, r39_12, r39_13, r39_14, r39_17, r39_18i, r39_20, r39_21, r39_27, r39_28, r39_31, r39_32, r39_33, r39_34, r39_35, r39_36, r39_37i, r39_39, r39_40, r39_43, r39_44, r39_45, r39_46, r39_47, r39_51, r39_52, r39_53, r39_54, r39_57, r39_58, r39_59, r39_60, r39_63, r39_64, r39_65, r39_66, r39_67, r39_68, r39_70, r39_71, r39_72, r39_76, r39_77, r39_78, r39_79, r39_82, r39_83, r39_84, r39_85, r39_88, r39_89, r39_90, r39_91, r39_92, r39_93, r39_94, r39_95, r39_96, r39_97, r39_103, r39_104, r39_105, r39_106, r39_109, r39_110, r39_111, r39_112, r39_115, r39_116, r39_117, r39_118, r39_119, r39_120, r39_125, r39_126, r39_127, r39_128, r39_131, r39_132, r39_133i, r39_136, r39_139, p8_9_8, p8_15_8, p8_18_8, g8_18_8, g8_27_8, g8_46_8, o8_len, o8_s0, o8_s1, o8_s2, o8_g2, o8_g5, o8_g11, il_s, bl_s, bl_z, ll_s, is_s, bs_s, bs_z, ls_s, al_s, al_b, al_l, fr_ne, fr_same, fr_fr, Nat.reduceEqDiff, tc_gf3_s, tc_ql2_s, tc_ws_0, tc_ws_i, tc_ws_l, tc_ws_r, Nat.reduceLeDiff, Nat.reduceAdd, Nat.reduceLT, true_and, and_true, if_true, if_false, tc_K, Option.toList_some, Option.toList_none, List.nil_append, List.cons_append, ite_true, ite_false, Int.cast_ofNat_Int, reduceIte, i3_add_eq, i3_sub_eq, Int.add_sub_cancel, Int.add_neg_cancel_right, ShoS_g0 hSh, ShoS_s0 hSh, ShoS_g1 hSh, ShoS_s1 hSh, ShoS_g2 hSh, ShoS_s2 hSh, ShoS_g3 hSh, ShoS_s3 hSh, ShoS_g4 hSh, ShoS_s4 hSh, ShoS_g5 hSh, ShoS_s5 hSh, ShoS_g6 hSh, ShoS_s6 hSh, ShoS_g7 hSh, ShoS_s7 hSh, i3_mul_eq, fu_same, fu_ne]) | (simp only [r39_24, r39_48, r39_73, r39_100, r39_122, i6_lt0, i6_0lt, i6_0le, i6_le0, i6_eq0, b10_0, ite_not, Int.reduceLT, Int.reduceLE, Int.reduceEq, Int.reduceNeg, if_true, if_false, ite_true, ite_false, reduceIte, eq_self, not_true, not_false_eq_true]; try refine tc_ite (fun _ => ?_) (fun _ => ?_) <;> try (exfalso; omega)))
  generalize hd0 : fr c s (fu (fu (fu (c s) 0 W) 1 D) 2 (W * D)) = d0
  have o0 : ∀ a, ¬ a = s → d0 a = c a := fun a a1 => by rw [← hd0, fr_ne a1]
  have v0 : d0 s 0 = W ∧ d0 s 1 = D ∧ d0 s 2 = W * D := by
    rw [← hd0, fr_same]
    refine ⟨?_, ?_, ?_⟩
    all_goals simp (disch := omega) only [fu_ne, fu_same]
  refine lq_2 (N := W * D) (P := fun x (d : Nat → Int → Int) (a4 : AV) => tc_W 39 19 [rf s, .inl W, .inl D, .inl x, a4] [] (hp L sh d) n Q) (I := fun x d _ => (∀ a, ¬ a = s + 1 → ¬ a = s + 7 → d a = d0 a) ∧ d (s + 1) = lay x (fun _ => 2) (c (s + 1)) ∧ (∀ y d', 0 ≤ y → y < x → 0 ≤ d' → d' < 4 → d (s + 7) (4 * y + d') = bes W (W * D) y d')) ?_ ?_ 0 d0 _ (by omega) hN.1 ⟨fun _ _ _ => rfl, by rw [lay_0]; exact o0 _ (by omega), fun y d' y1 y2 => by omega⟩
  · intro x d a4 hx hx2 ⟨h1, h2, h3⟩ ih
    have ds : d s = d0 s := h1 s (by omega) (by omega)
    have c2 : d s 2 = W * D := by rw [ds]; exact v0.2.2
    have hmod : 0 ≤ x % W ∧ x % W < W := ⟨Int.emod_nonneg x (by omega), Int.emod_lt_of_pos x (by omega)⟩
    have b0 : bes W (W * D) x 0 = if W ≤ x then x - W else -1 := rfl
    have b1 : bes W (W * D) x 1 = if x % W + 1 < W then x + 1 else -1 := rfl
    have b2 : bes W (W * D) x 2 = if x + W < W * D then x + W else -1 := rfl
    have b3 : bes W (W * D) x 3 = if 0 < x % W then x - 1 else -1 := rfl
    have hrm : i3_rem x W = x % W := i3_rem_nn hx (by omega) (by omega) (by omega)
    have fin : ∀ (a4 : AV) (e : Nat → Int → Int), (∀ a, ¬ a = s + 1 → ¬ a = s + 7 → e a = d a) → e (s + 1) = fu (d (s + 1)) x 2 → e (s + 7) = fu (fu (fu (fu (d (s + 7)) (4 * x) (bes W (W * D) x 0)) (4 * x + 1) (bes W (W * D) x 1)) (4 * x + 2) (bes W (W * D) x 2)) (4 * x + 3) (bes W (W * D) x 3) → tc_W 39 19 [rf s, .inl W, .inl D, .inl (x + 1), a4] [] (hp L sh e) n Q := by
      intro a4 e k1 k2 k3
      refine ih e a4 ⟨fun a a1 a2 => (k1 a a1 a2).trans (h1 a a1 a2), ?_, fun y d' y1 y2 d1 d2 => ?_⟩
      · rw [k2, h2]
        exact lay_upv (f := fun _ => 2) hx rfl
      · rw [k3]
        by_cases hy : y = x
        · subst hy
          rcases (by omega : d' = 0 ∨ d' = 1 ∨ d' = 2 ∨ d' = 3) with rfl | rfl | rfl | rfl
          · rw [Int.add_zero, fu_ne (by omega), fu_ne (by omega), fu_ne (by omega), fu_same]
          · rw [fu_ne (by omega), fu_ne (by omega), fu_same]
          · rw [fu_ne (by omega), fu_same]
          · rw [fu_same]
        · rw [fu_ne (by omega), fu_ne (by omega), fu_ne (by omega), fu_ne (by omega)]
          exact h3 y d' y1 (by omega) d1 d2
    simp only [r39_19]
    generalize x % W = mo at hmod b1 b3 hrm
    repeat' (first | (simp (disch := first | omega | exact Nat.le_of_ble_eq_true rfl | exact rfl | assumption | (simp (disch := omega) only [fr_ne, fr_same]; first | assumption | omega)) only [r39_0, r39_1, r39_2, r39_5, r39_6, r39_7, r39_10, r39_11, r39_12, r39_13, r39_14, r39_17, r39_18i, r39_20, r39_21, r39_27, r39_28, r39_31, r39_32, r39_33, r39_34, r39_35, r39_36, r39_37i, r39_39, r39_40, r39_43, r39_44, r39_45, r39_46, r39_47, r39_51, r39_52, r39_53, r39_54, r39_57, r39_58, r39_59, r39_60, r39_63, r39_64, r39_65, r39_66, r39_67, r39_68, r39_70, r39_71, r39_72, r39_76, r39_77, r39_78, r39_79, r39_82, r39_83, r39_84, r39_85, r39_88, r39_89, r39_90, r39_91, r39_92, r39_93, r39_94, r39_95, r39_96, r39_97, r39_103, r39_104, r39_105, r39_106, r39_109, r39_110, r39_111, r39_112, r39_115, r39_116, r39_117, r39_118, r39_119, r39_120, r39_125, r39_126, r39_127, r39_128, r39_131, r39_132, r39_133i, r39_136, r39_139, p8_9_8, p8_15_8, p8_18_8, g8_18_8, g8_27_8, g8_46_8, o8_len, o8_s0, o8_s1, o8_s2, o8_g2, o8_g5, o8_g11, il_s, bl_s, bl_z, ll_s, is_s, bs_s, bs_z, ls_s, al_s, al_b, al_l, fr_ne, fr_same, fr_fr, Nat.reduceEqDiff, tc_gf3_s, tc_ql2_s, tc_ws_0, tc_ws_i, tc_ws_l, tc_ws_r, Nat.reduceLeDiff, Nat.reduceAdd, Nat.reduceLT, true_and, and_true, if_true, if_false, tc_K, Option.toList_some, Option.toList_none, List.nil_append, List.cons_append, ite_true, ite_false, Int.cast_ofNat_Int, reduceIte, i3_add_eq, i3_sub_eq, Int.add_sub_cancel, Int.add_neg_cancel_right, ShoS_g0 hSh, ShoS_s0 hSh, ShoS_g1 hSh, ShoS_s1 hSh, ShoS_g2 hSh, ShoS_s2 hSh, ShoS_g3 hSh, ShoS_s3 hSh, ShoS_g4 hSh, ShoS_s4 hSh, ShoS_g5 hSh, ShoS_s5 hSh, ShoS_g6 hSh, ShoS_s6 hSh, ShoS_g7 hSh, ShoS_s7 hSh, c2, hrm, i3_mul_eq, fu_same]) | (simp only [r39_24, r39_48, r39_73, r39_100, r39_122, i6_lt0, i6_0lt, i6_0le, i6_le0, i6_eq0, b10_0, ite_not, Int.reduceLT, Int.reduceLE, Int.reduceEq, Int.reduceNeg, if_true, if_false, ite_true, ite_false, reduceIte, eq_self, not_true, not_false_eq_true]; try refine tc_ite (fun _ => ?_) (fun _ => ?_) <;> try (exfalso; omega)))
    all_goals
      refine fin _ _ ?_ ?_ ?_
      · intro a a1 a2
        simp (disch := assumption) only [fr_ne]
      · simp (disch := omega) only [fr_ne, fr_same]
      · simp (disch := omega) only [fr_ne, fr_same]
        rw [b0, b1, b2, b3]
        simp (disch := omega) only [if_pos, if_neg]
  · intro d a4 ⟨h1, h2, h3⟩
    have ds : d s = d0 s := h1 s (by omega) (by omega)
    have c2 : d s 2 = W * D := by rw [ds]; exact v0.2.2
    simp only [r39_19]
    repeat' (first | (simp (disch := first | omega | exact Nat.le_of_ble_eq_true rfl | exact rfl | assumption | (simp (disch := omega) only [fr_ne, fr_same]; first | assumption | omega)) only [r39_0, r39_1, r39_2, r39_5, r39_6, r39_7, r39_10, r39_11, r39_12, r39_13, r39_14, r39_17, r39_18i, r39_20, r39_21, r39_27, r39_28, r39_31, r39_32, r39_33, r39_34, r39_35, r39_36, r39_37i, r39_39, r39_40, r39_43, r39_44, r39_45, r39_46, r39_47, r39_51, r39_52, r39_53, r39_54, r39_57, r39_58, r39_59, r39_60, r39_63, r39_64, r39_65, r39_66, r39_67, r39_68, r39_70, r39_71, r39_72, r39_76, r39_77, r39_78, r39_79, r39_82, r39_83, r39_84, r39_85, r39_88, r39_89, r39_90, r39_91, r39_92, r39_93, r39_94, r39_95, r39_96, r39_97, r39_103, r39_104, r39_105, r39_106, r39_109, r39_110, r39_111, r39_112, r39_115, r39_116, r39_117, r39_118, r39_119, r39_120, r39_125, r39_126, r39_127, r39_128, r39_131, r39_132, r39_133i, r39_136, r39_139, p8_9_8, p8_15_8, p8_18_8, g8_18_8, g8_27_8, g8_46_8, o8_len, o8_s0, o8_s1, o8_s2, o8_g2, o8_g5, o8_g11, il_s, bl_s, bl_z, ll_s, is_s, bs_s, bs_z, ls_s, al_s, al_b, al_l, fr_ne, fr_same, fr_fr, Nat.reduceEqDiff, tc_gf3_s, tc_ql2_s, tc_ws_0, tc_ws_i, tc_ws_l, tc_ws_r, Nat.reduceLeDiff, Nat.reduceAdd, Nat.reduceLT, true_and, and_true, if_true, if_false, tc_K, Option.toList_some, Option.toList_none, List.nil_append, List.cons_append, ite_true, ite_false, Int.cast_ofNat_Int, reduceIte, i3_add_eq, i3_sub_eq, Int.add_sub_cancel, Int.add_neg_cancel_right, ShoS_g0 hSh, ShoS_s0 hSh, ShoS_g1 hSh, ShoS_s1 hSh, ShoS_g2 hSh, ShoS_s2 hSh, ShoS_g3 hSh, ShoS_s3 hSh, ShoS_g4 hSh, ShoS_s4 hSh, ShoS_g5 hSh, ShoS_s5 hSh, ShoS_g6 hSh, ShoS_s6 hSh, ShoS_g7 hSh, ShoS_s7 hSh, c2]) | (simp only [r39_24, r39_48, r39_73, r39_100, r39_122, i6_lt0, i6_0lt, i6_0le, i6_le0, i6_eq0, b10_0, ite_not, Int.reduceLT, Int.reduceLE, Int.reduceEq, Int.reduceNeg, if_true, if_false, ite_true, ite_false, reduceIte, eq_self, not_true, not_false_eq_true]; try refine tc_ite (fun _ => ?_) (fun _ => ?_) <;> try (exfalso; omega)))
    refine hq d (fun a a1 a2 a3 => (h1 a a2 a3).trans (o0 a a1)) (by rw [ds]; exact v0.1) (by rw [ds]; exact v0.2.1) c2 (fun i i1 i2 i3 => ?_) h2 h3
    rw [ds, ← hd0, fr_same, fu_ne i3, fu_ne i2, fu_ne i1]
end LAYC

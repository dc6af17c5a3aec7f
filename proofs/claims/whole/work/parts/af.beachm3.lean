/-! the reference: beach -/
def trl (g : Int → Int) (N w f p : Int) : Int := if w = 1 ∧ f = 0 ∧ isdg g N p = 1 then 1 + 8 * p else f
theorem isdg_01 (g : Int → Int) (N p : Int) : isdg g N p = 0 ∨ isdg g N p = 1 := by
  unfold isdg
  split <;> omega
section BEACHO
variable {L : Nat} {sh : Nat → SH} {c : Nat → Int → Int} {n : Nat} {Q : Option AV → List SC → Nat → Prop} {g : Int → Int} {N p R f p' R' k : Int} {B B' : Nat → Int → Int}
theorem m182 (hS : MS L sh) (hT : TP g N) (hR : RM c g N p) (hp0 : 0 ≤ p ∧ p ≤ N) (hRR : RRM c B R) (hW : 2 ≤ B 0 0 ∧ B 0 0 ≤ 5) (hRH : 0 ≤ R ∧ R < B 0 1 ∧ B 0 1 ≤ 5) (hb : bpt g N 1 p R B = (f, p', R', B'))
    (hq : ∀ e, MF c e → (0 ≤ e 75 22 ∧ e 75 22 ≤ N) → e 75 23 = trl g N 1 f p' → (trl g N 1 f p' = 0 → e 75 22 = p' ∧ RRM e B' R') → Q none (hp L sh e) n) : tc_C 182 [rf 75] (hp L sh c) n Q := by
  have hr := nm_rng (g := g) hp0
  have hN := hT.1
  unfold bpt at hb
  rw [if_neg (by omega), if_pos rfl] at hb
  obtain ⟨w1, w2, w3, w4, w5⟩ := hRR
  obtain ⟨r95, r21, r22, r23⟩ := hR
  have hX : 0 ≤ B 0 0 * R ∧ B 0 0 * R + B 0 0 ≤ 25 := by
    have q1 := Int.mul_le_mul_of_nonneg_left (show R + 1 ≤ B 0 1 by omega) (show 0 ≤ B 0 0 by omega)
    rw [Int.mul_add, Int.mul_one] at q1
    have q2 := Int.mul_le_mul hW.2 hRH.2.2 (by omega) (by omega)
    have q3 := Int.mul_nonneg (show 0 ≤ B 0 0 by omega) hRH.1
    omega
  have e0 : c 89 0 = B 0 0 := w1 0 (by omega) (by omega)
  have h171 := fun Q => c171q (c := c) (n := n) (Q := Q) (N := N) (p := p) hS (by rw [r95]; exact hT) r21 r22 (by omega)
  rw [r95] at h171
  generalize hq0 : sk g N p = q at hb hr h171
  generalize hWW : B 0 0 = W at *
  generalize hXX : W * R = X at *
  show tc_W 182 0 [rf 75, tc_nil] [] _ _ Q
  repeat' (first | (simp (disch := first | omega | exact Nat.le_of_ble_eq_true rfl | exact rfl | assumption | (simp only [fr_at, Nat.reduceEqDiff, if_false, if_true, reduceIte]; first | assumption | omega)) only [r182_0, r182_1, v182_1_11, r182_4, r182_5r, r182_7, r182_8, r182_11, r182_12, r182_16, r182_17, r182_23, r182_24, v182_24_11, r182_30, r182_31, r182_34, r182_35, r182_38, r182_39, r182_40, r182_41, r182_44, r182_45, r182_46, r182_47, r182_48, v182_48_11, r182_51, r182_53, r182_54, r182_55, r182_56, r182_56A, r182_57, r182_60, r182_61, r182_62, r182_65, r182_68, r182_69, r182_70, r182_71, r182_74, v182_74_11, r182_77r, r182_80, r182_83, r182_84, r182_90, r182_91, v182_91_11, r182_97, r182_98, r182_99, r182_100, r182_103, v182_103_11, r182_106, r182_107, r182_107A, r182_108, r182_111, r182_112, r182_113, r182_116, g11_49_11, g11_171_11, g11_52_11, g11_276_11, g11_174_11, p11_174_11, p11_276_11, mo_len, ms75 hS, mt75 hS, mo_g14, ms89 hS, mt89 hS, mo_g23, mo_g15, ms90 hS, mt90 hS, mo_g20, mo_g22, mo_s22, mo_s20, il_s, bl_s, bl_z, ll_s, is_s, bs_s, bs_z, ls_s, al_s, al_b, al_l, fr_at, fr_fr, Nat.reduceEqDiff, tc_gf3_s, tc_ql2_s, tc_ws_0, tc_ws_i, tc_ws_l, tc_ws_r, Nat.reduceLeDiff, Nat.reduceAdd, Nat.reduceLT, true_and, and_true, if_true, if_false, tc_K, Option.toList_some, Option.toList_none, List.nil_append, List.cons_append, ite_true, ite_false, Int.cast_ofNat_Int, reduceIte, i3_add_eq, i3_sub_eq, Int.add_sub_cancel, Int.add_neg_cancel_right, h171]) | (simp only [r182_13, r182_20, r182_27, r182_87, r182_94, i6_lt0, i6_0lt, i6_0le, i6_le0, i6_eq0, b10_0, ite_not, Int.reduceLT, Int.reduceLE, Int.reduceEq, Int.reduceNeg, if_true, if_false, ite_true, ite_false, reduceIte, eq_self, not_true, not_false_eq_true]; try refine tc_ite (fun _ => ?_) (fun _ => ?_) <;> try (exfalso; omega)))
  have hlp := lq_1 (N := W) (P := fun j (d : Nat → Int → Int) => tc_W 182 6 [rf 75, .inl j] [] (hp L sh d) n Q) (I := fun j d => RM d g N (q + j) ∧ (∀ a, ¬ a = 75 → ¬ a = 90 → d a = c a) ∧ (∀ i, ¬ i = 22 → d 75 i = c 75 i) ∧ (∀ x, d 90 x = if X ≤ x ∧ x < X + j then g (q + (x - X)) - 48 else c 90 x) ∧ rwf g N q j.toNat = 0) ?_ ?_ 0 (fr c 75 (fu (c 75) 22 q)) (by omega) (by omega) ⟨⟨by rw [fr_ne (by omega)]; exact r95, by rw [fr_same, fu_ne (by omega)]; exact r21, by rw [fr_same, fu_same]; omega, by rw [fr_same, fu_ne (by omega)]; exact r23⟩, fun a h1 _ => fr_ne h1, fun i h1 => by rw [fr_same, fu_ne h1], fun x => by rw [fr_ne (by omega), if_neg (by omega)], rfl⟩
  · exact hlp
  · intro j d hj hj2 ⟨⟨d95, d21, d22, d23⟩, df, di, dh, dz⟩ ih
    have ds0 : d 89 0 = W := by rw [df 89 (by omega) (by omega)]; exact e0
    have d20 : d 75 20 = R := by rw [di 20 (by omega)]; exact w5
    have h180 := fun Q => c180 (c := d) (n := n) (Q := Q) (N := N) (p := q + j) hS (by rw [d95]; exact hT) d21 d22 (by omega)
    rw [d95] at h180
    simp only [r182_6]
    by_cases hdg : isdg g N (q + j) = 1
    · have hg := isdg_1 hdg
      have h172 := fun Q => c172t (c := d) (n := n) (Q := Q) (N := N) (p := q + j) hS (by rw [d95]; exact hT) d21 d22 (by omega)
      have hby : byt g N (q + j) = g (q + j) := by
        unfold byt
        rw [if_pos hg.1, if_neg (by omega)]
      rw [d95, hby] at h172
      have erw : rwf g N q (j + 1).toNat = 0 := by
        rw [show (j + 1).toNat = j.toNat + 1 by omega]
        show (if ¬ rwf g N q j.toNat = 0 then rwf g N q j.toNat else if isdg g N (q + (j.toNat : Int)) = 1 then 0 else 1 + 8 * (q + (j.toNat : Int))) = 0
        rw [if_neg (fun z => z dz), Int.toNat_of_nonneg hj, if_pos hdg]
      repeat' (first | (simp (disch := first | omega | exact Nat.le_of_ble_eq_true rfl | exact rfl | assumption | (simp only [fr_at, Nat.reduceEqDiff, if_false, if_true, reduceIte]; first | assumption | omega)) only [r182_0, r182_1, v182_1_11, r182_4, r182_5r, r182_7, r182_8, r182_11, r182_12, r182_16, r182_17, r182_23, r182_24, v182_24_11, r182_30, r182_31, r182_34, r182_35, r182_38, r182_39, r182_40, r182_41, r182_44, r182_45, r182_46, r182_47, r182_48, v182_48_11, r182_51, r182_53, r182_54, r182_55, r182_56, r182_56A, r182_57, r182_60, r182_61, r182_62, r182_65, r182_68, r182_69, r182_70, r182_71, r182_74, v182_74_11, r182_77r, r182_80, r182_83, r182_84, r182_90, r182_91, v182_91_11, r182_97, r182_98, r182_99, r182_100, r182_103, v182_103_11, r182_106, r182_107, r182_107A, r182_108, r182_111, r182_112, r182_113, r182_116, g11_49_11, g11_171_11, g11_52_11, g11_276_11, g11_174_11, p11_174_11, p11_276_11, mo_len, ms75 hS, mt75 hS, mo_g14, ms89 hS, mt89 hS, mo_g23, mo_g15, ms90 hS, mt90 hS, mo_g20, mo_g22, mo_s22, mo_s20, il_s, bl_s, bl_z, ll_s, is_s, bs_s, bs_z, ls_s, al_s, al_b, al_l, fr_at, fr_fr, Nat.reduceEqDiff, tc_gf3_s, tc_ql2_s, tc_ws_0, tc_ws_i, tc_ws_l, tc_ws_r, Nat.reduceLeDiff, Nat.reduceAdd, Nat.reduceLT, true_and, and_true, if_true, if_false, tc_K, Option.toList_some, Option.toList_none, List.nil_append, List.cons_append, ite_true, ite_false, Int.cast_ofNat_Int, reduceIte, i3_add_eq, i3_sub_eq, Int.add_sub_cancel, Int.add_neg_cancel_right, ds0, d23, d22, d20, h180, hdg, h172, i3_mul_eq, hXX]) | (simp only [r182_13, r182_20, r182_27, r182_87, r182_94, i6_lt0, i6_0lt, i6_0le, i6_le0, i6_eq0, b10_0, ite_not, Int.reduceLT, Int.reduceLE, Int.reduceEq, Int.reduceNeg, if_true, if_false, ite_true, ite_false, reduceIte, eq_self, not_true, not_false_eq_true]; try refine tc_ite (fun _ => ?_) (fun _ => ?_) <;> try (exfalso; omega)))
      all_goals try omega
      refine ih _ ⟨⟨?_, ?_, ?_, ?_⟩, fun a a1 a2 => ?_, fun i i1 => ?_, fun x => ?_, erw⟩
      · simp (disch := omega) only [fr_ne]
        exact d95
      · simp (disch := omega) only [fr_ne, fr_same, fu_ne]
        exact d21
      · simp (disch := omega) only [fr_ne, fr_same, fu_same]
        omega
      · simp (disch := omega) only [fr_ne, fr_same, fu_ne]
        exact d23
      · simp (disch := omega) only [fr_ne]
        exact df a a1 a2
      · simp (disch := omega) only [fr_ne, fr_same, fu_ne]
        exact di i i1
      · simp (disch := omega) only [fr_ne, fr_same]
        by_cases hx : x = X + j
        · subst hx
          rw [fu_same, if_pos (by omega), show q + (X + j - X) = q + j by omega]
        · rw [fu_ne hx, dh x]
          by_cases hx2 : X ≤ x ∧ x < X + j
          · rw [if_pos hx2, if_pos (by omega)]
          · rw [if_neg hx2, if_neg (by omega)]
    · have hqj : q + j ≤ N := by
        by_cases j0 : j = 0
        · omega
        · have := isdg_1 (rwf_0 hr.2.2.1 dz (j - 1) (by omega) (by omega))
          omega
      have hF := rwf_st (N := N) hr.2.2.1 dz (by rw [Int.toNat_of_nonneg hj]; exact hdg) (W.toNat - (j.toNat + 1))
      rw [show j.toNat + 1 + (W.toNat - (j.toNat + 1)) = W.toNat by omega, Int.toNat_of_nonneg hj] at hF
      rw [if_pos (by rw [hF]; omega)] at hb
      obtain ⟨h1, _⟩ := pr4 hb
      have h175 := fun Q => c175 (c := d) (n := n) (Q := Q) (k := 0) (p := q + j) hS (by omega) (by omega)
      rw [if_pos d23] at h175
      have hz : isdg g N (q + j) = 0 := by
        rcases isdg_01 g N (q + j) with z | z
        · exact z
        · exact absurd z hdg
      have hf : ¬ f = 0 := by omega
      have htr : trl g N 1 f p' = f := if_neg fun z => hf z.2.1
      rw [htr] at hq
      repeat' (first | (simp (disch := first | omega | exact Nat.le_of_ble_eq_true rfl | exact rfl | assumption | (simp only [fr_at, Nat.reduceEqDiff, if_false, if_true, reduceIte]; first | assumption | omega)) only [r182_0, r182_1, v182_1_11, r182_4, r182_5r, r182_7, r182_8, r182_11, r182_12, r182_16, r182_17, r182_23, r182_24, v182_24_11, r182_30, r182_31, r182_34, r182_35, r182_38, r182_39, r182_40, r182_41, r182_44, r182_45, r182_46, r182_47, r182_48, v182_48_11, r182_51, r182_53, r182_54, r182_55, r182_56, r182_56A, r182_57, r182_60, r182_61, r182_62, r182_65, r182_68, r182_69, r182_70, r182_71, r182_74, v182_74_11, r182_77r, r182_80, r182_83, r182_84, r182_90, r182_91, v182_91_11, r182_97, r182_98, r182_99, r182_100, r182_103, v182_103_11, r182_106, r182_107, r182_107A, r182_108, r182_111, r182_112, r182_113, r182_116, g11_49_11, g11_171_11, g11_52_11, g11_276_11, g11_174_11, p11_174_11, p11_276_11, mo_len, ms75 hS, mt75 hS, mo_g14, ms89 hS, mt89 hS, mo_g23, mo_g15, ms90 hS, mt90 hS, mo_g20, mo_g22, mo_s22, mo_s20, il_s, bl_s, bl_z, ll_s, is_s, bs_s, bs_z, ls_s, al_s, al_b, al_l, fr_at, fr_fr, Nat.reduceEqDiff, tc_gf3_s, tc_ql2_s, tc_ws_0, tc_ws_i, tc_ws_l, tc_ws_r, Nat.reduceLeDiff, Nat.reduceAdd, Nat.reduceLT, true_and, and_true, if_true, if_false, tc_K, Option.toList_some, Option.toList_none, List.nil_append, List.cons_append, ite_true, ite_false, Int.cast_ofNat_Int, reduceIte, i3_add_eq, i3_sub_eq, Int.add_sub_cancel, Int.add_neg_cancel_right, ds0, d23, d22, h180, hz, h175]) | (simp only [r182_13, r182_20, r182_27, r182_87, r182_94, i6_lt0, i6_0lt, i6_0le, i6_le0, i6_eq0, b10_0, ite_not, Int.reduceLT, Int.reduceLE, Int.reduceEq, Int.reduceNeg, if_true, if_false, ite_true, ite_false, reduceIte, eq_self, not_true, not_false_eq_true]; try refine tc_ite (fun _ => ?_) (fun _ => ?_) <;> try (exfalso; omega)))
      all_goals try omega
      simp only [r182_6]
      have hfin : ∀ F6 : Int, Q none (hp L sh (fr d 75 (fu (fu (d 75) 23 (1 + 8 * (q + j) + 0)) 20 F6))) n := fun F6 => by
        refine hq _ ⟨fun a a1 a2 => by rw [fr_ne a1]; exact df a a1 (by omega), fun i i1 i2 i3 => by rw [fr_same, fu_ne i1, fu_ne i3]; exact di i i2⟩ (by rw [fr_same, fu_ne (by omega), fu_ne (by omega), d22]; omega) (by rw [fr_same, fu_ne (by omega), fu_same]; omega) fun z => absurd z hf
      by_cases hj3 : j + 1 < W
      · repeat' (first | (simp (disch := first | omega | exact Nat.le_of_ble_eq_true rfl | exact rfl | assumption | (simp only [fr_at, Nat.reduceEqDiff, if_false, if_true, reduceIte]; first | assumption | omega)) only [r182_0, r182_1, v182_1_11, r182_4, r182_5r, r182_7, r182_8, r182_11, r182_12, r182_16, r182_17, r182_23, r182_24, v182_24_11, r182_30, r182_31, r182_34, r182_35, r182_38, r182_39, r182_40, r182_41, r182_44, r182_45, r182_46, r182_47, r182_48, v182_48_11, r182_51, r182_53, r182_54, r182_55, r182_56, r182_56A, r182_57, r182_60, r182_61, r182_62, r182_65, r182_68, r182_69, r182_70, r182_71, r182_74, v182_74_11, r182_77r, r182_80, r182_83, r182_84, r182_90, r182_91, v182_91_11, r182_97, r182_98, r182_99, r182_100, r182_103, v182_103_11, r182_106, r182_107, r182_107A, r182_108, r182_111, r182_112, r182_113, r182_116, g11_49_11, g11_171_11, g11_52_11, g11_276_11, g11_174_11, p11_174_11, p11_276_11, mo_len, ms75 hS, mt75 hS, mo_g14, ms89 hS, mt89 hS, mo_g23, mo_g15, ms90 hS, mt90 hS, mo_g20, mo_g22, mo_s22, mo_s20, il_s, bl_s, bl_z, ll_s, is_s, bs_s, bs_z, ls_s, al_s, al_b, al_l, fr_at, fr_fr, Nat.reduceEqDiff, tc_gf3_s, tc_ql2_s, tc_ws_0, tc_ws_i, tc_ws_l, tc_ws_r, Nat.reduceLeDiff, Nat.reduceAdd, Nat.reduceLT, true_and, and_true, if_true, if_false, tc_K, Option.toList_some, Option.toList_none, List.nil_append, List.cons_append, ite_true, ite_false, Int.cast_ofNat_Int, reduceIte, i3_add_eq, i3_sub_eq, Int.add_sub_cancel, Int.add_neg_cancel_right, ds0, fu_same, fu_ne, d20]) | (simp only [r182_13, r182_20, r182_27, r182_87, r182_94, i6_lt0, i6_0lt, i6_0le, i6_le0, i6_eq0, b10_0, ite_not, Int.reduceLT, Int.reduceLE, Int.reduceEq, Int.reduceNeg, if_true, if_false, ite_true, ite_false, reduceIte, eq_self, not_true, not_false_eq_true]; try refine tc_ite (fun _ => ?_) (fun _ => ?_) <;> try (exfalso; omega)))
        all_goals first
          | exact hfin _
          | omega
      · repeat' (first | (simp (disch := first | omega | exact Nat.le_of_ble_eq_true rfl | exact rfl | assumption | (simp only [fr_at, Nat.reduceEqDiff, if_false, if_true, reduceIte]; first | assumption | omega)) only [r182_0, r182_1, v182_1_11, r182_4, r182_5r, r182_7, r182_8, r182_11, r182_12, r182_16, r182_17, r182_23, r182_24, v182_24_11, r182_30, r182_31, r182_34, r182_35, r182_38, r182_39, r182_40, r182_41, r182_44, r182_45, r182_46, r182_47, r182_48, v182_48_11, r182_51, r182_53, r182_54, r182_55, r182_56, r182_56A, r182_57, r182_60, r182_61, r182_62, r182_65, r182_68, r182_69, r182_70, r182_71, r182_74, v182_74_11, r182_77r, r182_80, r182_83, r182_84, r182_90, r182_91, v182_91_11, r182_97, r182_98, r182_99, r182_100, r182_103, v182_103_11, r182_106, r182_107, r182_107A, r182_108, r182_111, r182_112, r182_113, r182_116, g11_49_11, g11_171_11, g11_52_11, g11_276_11, g11_174_11, p11_174_11, p11_276_11, mo_len, ms75 hS, mt75 hS, mo_g14, ms89 hS, mt89 hS, mo_g23, mo_g15, ms90 hS, mt90 hS, mo_g20, mo_g22, mo_s22, mo_s20, il_s, bl_s, bl_z, ll_s, is_s, bs_s, bs_z, ls_s, al_s, al_b, al_l, fr_at, fr_fr, Nat.reduceEqDiff, tc_gf3_s, tc_ql2_s, tc_ws_0, tc_ws_i, tc_ws_l, tc_ws_r, Nat.reduceLeDiff, Nat.reduceAdd, Nat.reduceLT, true_and, and_true, if_true, if_false, tc_K, Option.toList_some, Option.toList_none, List.nil_append, List.cons_append, ite_true, ite_false, Int.cast_ofNat_Int, reduceIte, i3_add_eq, i3_sub_eq, Int.add_sub_cancel, Int.add_neg_cancel_right, ds0, fu_same, fu_ne, d20]) | (simp only [r182_13, r182_20, r182_27, r182_87, r182_94, i6_lt0, i6_0lt, i6_0le, i6_le0, i6_eq0, b10_0, ite_not, Int.reduceLT, Int.reduceLE, Int.reduceEq, Int.reduceNeg, if_true, if_false, ite_true, ite_false, reduceIte, eq_self, not_true, not_false_eq_true]; try refine tc_ite (fun _ => ?_) (fun _ => ?_) <;> try (exfalso; omega)))
        all_goals first
          | exact hfin _
          | omega
  · intro d ⟨⟨d95, d21, d22, d23⟩, df, di, dh, dz⟩
    rw [if_neg (fun z => z dz)] at hb
    obtain ⟨h1, h2, h3, h4⟩ := pr4 hb
    have ds0 : d 89 0 = W := by rw [df 89 (by omega) (by omega)]; exact e0
    have d20 : d 75 20 = R := by rw [di 20 (by omega)]; exact w5
    have h180 := fun Q => c180 (c := d) (n := n) (Q := Q) (N := N) (p := q + W) hS (by rw [d95]; exact hT) d21 d22 (by omega)
    rw [d95] at h180
    have hqW : q + W ≤ N := by
      have := isdg_1 (rwf_0 hr.2.2.1 dz (W - 1) (by omega) (by omega))
      omega
    simp only [r182_6]
    rcases isdg_01 g N (q + W) with hz | hz
    · have htr : trl g N 1 f p' = 0 := by
        unfold trl
        rw [← h1, ← h2, if_neg (fun z => by omega)]
      rw [htr] at hq
      repeat' (first | (simp (disch := first | omega | exact Nat.le_of_ble_eq_true rfl | exact rfl | assumption | (simp only [fr_at, Nat.reduceEqDiff, if_false, if_true, reduceIte]; first | assumption | omega)) only [r182_0, r182_1, v182_1_11, r182_4, r182_5r, r182_7, r182_8, r182_11, r182_12, r182_16, r182_17, r182_23, r182_24, v182_24_11, r182_30, r182_31, r182_34, r182_35, r182_38, r182_39, r182_40, r182_41, r182_44, r182_45, r182_46, r182_47, r182_48, v182_48_11, r182_51, r182_53, r182_54, r182_55, r182_56, r182_56A, r182_57, r182_60, r182_61, r182_62, r182_65, r182_68, r182_69, r182_70, r182_71, r182_74, v182_74_11, r182_77r, r182_80, r182_83, r182_84, r182_90, r182_91, v182_91_11, r182_97, r182_98, r182_99, r182_100, r182_103, v182_103_11, r182_106, r182_107, r182_107A, r182_108, r182_111, r182_112, r182_113, r182_116, g11_49_11, g11_171_11, g11_52_11, g11_276_11, g11_174_11, p11_174_11, p11_276_11, mo_len, ms75 hS, mt75 hS, mo_g14, ms89 hS, mt89 hS, mo_g23, mo_g15, ms90 hS, mt90 hS, mo_g20, mo_g22, mo_s22, mo_s20, il_s, bl_s, bl_z, ll_s, is_s, bs_s, bs_z, ls_s, al_s, al_b, al_l, fr_at, fr_fr, Nat.reduceEqDiff, tc_gf3_s, tc_ql2_s, tc_ws_0, tc_ws_i, tc_ws_l, tc_ws_r, Nat.reduceLeDiff, Nat.reduceAdd, Nat.reduceLT, true_and, and_true, if_true, if_false, tc_K, Option.toList_some, Option.toList_none, List.nil_append, List.cons_append, ite_true, ite_false, Int.cast_ofNat_Int, reduceIte, i3_add_eq, i3_sub_eq, Int.add_sub_cancel, Int.add_neg_cancel_right, ds0, d23, h180, hz, d20]) | (simp only [r182_13, r182_20, r182_27, r182_87, r182_94, i6_lt0, i6_0lt, i6_0le, i6_le0, i6_eq0, b10_0, ite_not, Int.reduceLT, Int.reduceLE, Int.reduceEq, Int.reduceNeg, if_true, if_false, ite_true, ite_false, reduceIte, eq_self, not_true, not_false_eq_true]; try refine tc_ite (fun _ => ?_) (fun _ => ?_) <;> try (exfalso; omega)))
      all_goals try omega
      refine hq _ ⟨fun a a1 a2 => by rw [fr_ne a1]; exact df a a1 (by omega), fun i i1 i2 i3 => by rw [fr_same, fu_ne i1]; exact di i i2⟩ (by rw [fr_same, fu_ne (by omega), d22]; omega) (by rw [fr_same, fu_ne (by omega)]; exact d23) fun _ => ⟨by rw [fr_same, fu_ne (by omega), d22, ← h2], ?_⟩
      have eo : ∀ a, ¬ a = 4 → B' a = B a := fun a ha => by rw [← h4, fr_ne ha]
      have e4 : B' 4 = rwh g (B 4) q W R := by rw [← h4, fr_same]
      unfold RRM
      rw [e4, eo 0 (by omega), eo 1 (by omega), eo 2 (by omega), eo 3 (by omega), eo 5 (by omega)]
      simp (disch := omega) only [fr_ne, fr_same, df, fu_same]
      refine ⟨w1, w2, w3, fun x x1 x2 => ?_, h3⟩
      rw [dh x]
      unfold rwh
      rw [hXX]
      by_cases hx2 : X ≤ x ∧ x < X + W
      · rw [if_pos hx2, if_pos hx2]
      · rw [if_neg hx2, if_neg hx2]
        exact w4 x x1 x2
    · have htr : trl g N 1 f p' = 1 + 8 * (q + W) := by
        unfold trl
        rw [← h1, ← h2, if_pos ⟨rfl, rfl, hz⟩]
      rw [htr] at hq
      have hl := isdg_1 hz
      have h175 := fun Q => c175 (c := d) (n := n) (Q := Q) (k := 0) (p := q + W) hS (by omega) (by omega)
      rw [if_pos d23] at h175
      have hq' := hq (fr d 75 (fu (fu (d 75) 23 (1 + 8 * (q + W) + 0)) 20 (R + 1))) ⟨fun a a1 a2 => by rw [fr_ne a1]; exact df a a1 (by omega), fun i i1 i2 i3 => by rw [fr_same, fu_ne i1, fu_ne i3]; exact di i i2⟩ (by rw [fr_same, fu_ne (by omega), fu_ne (by omega), d22]; omega) (by rw [fr_same, fu_ne (by omega), fu_same]; omega) (fun z => by omega)
      repeat' (first | (simp (disch := first | omega | exact Nat.le_of_ble_eq_true rfl | exact rfl | assumption | (simp only [fr_at, Nat.reduceEqDiff, if_false, if_true, reduceIte]; first | assumption | omega)) only [r182_0, r182_1, v182_1_11, r182_4, r182_5r, r182_7, r182_8, r182_11, r182_12, r182_16, r182_17, r182_23, r182_24, v182_24_11, r182_30, r182_31, r182_34, r182_35, r182_38, r182_39, r182_40, r182_41, r182_44, r182_45, r182_46, r182_47, r182_48, v182_48_11, r182_51, r182_53, r182_54, r182_55, r182_56, r182_56A, r182_57, r182_60, r182_61, r182_62, r182_65, r182_68, r182_69, r182_70, r182_71, r182_74, v182_74_11, r182_77r, r182_80, r182_83, r182_84, r182_90, r182_91, v182_91_11, r182_97, r182_98, r182_99, r182_100, r182_103, v182_103_11, r182_106, r182_107, r182_107A, r182_108, r182_111, r182_112, r182_113, r182_116, g11_49_11, g11_171_11, g11_52_11, g11_276_11, g11_174_11, p11_174_11, p11_276_11, mo_len, ms75 hS, mt75 hS, mo_g14, ms89 hS, mt89 hS, mo_g23, mo_g15, ms90 hS, mt90 hS, mo_g20, mo_g22, mo_s22, mo_s20, il_s, bl_s, bl_z, ll_s, is_s, bs_s, bs_z, ls_s, al_s, al_b, al_l, fr_at, fr_fr, Nat.reduceEqDiff, tc_gf3_s, tc_ql2_s, tc_ws_0, tc_ws_i, tc_ws_l, tc_ws_r, Nat.reduceLeDiff, Nat.reduceAdd, Nat.reduceLT, true_and, and_true, if_true, if_false, tc_K, Option.toList_some, Option.toList_none, List.nil_append, List.cons_append, ite_true, ite_false, Int.cast_ofNat_Int, reduceIte, i3_add_eq, i3_sub_eq, Int.add_sub_cancel, Int.add_neg_cancel_right, ds0, d23, d22, h180, hz, h175, fu_ne, d20]) | (simp only [r182_13, r182_20, r182_27, r182_87, r182_94, i6_lt0, i6_0lt, i6_0le, i6_le0, i6_eq0, b10_0, ite_not, Int.reduceLT, Int.reduceLE, Int.reduceEq, Int.reduceNeg, if_true, if_false, ite_true, ite_false, reduceIte, eq_self, not_true, not_false_eq_true]; try refine tc_ite (fun _ => ?_) (fun _ => ?_) <;> try (exfalso; omega)))
      all_goals first
        | exact hq'
        | omega
theorem m177 (hS : MS L sh) (hT : TP g N) (hR : RM c g N p) (hp0 : 0 ≤ p ∧ p ≤ N) (hRR : RRM c B R) (hW : WP B R k) {w : Int} (ht : tmy k w R B = 0) (hw : 0 ≤ w ∧ w ≤ 4) (hb : bpt g N w p R B = (f, p', R', B'))
    (hq : ∀ e, MF c e → (0 ≤ e 75 22 ∧ e 75 22 ≤ N) → e 75 23 = trl g N w f p' → (trl g N w f p' = 0 → e 75 22 = p' ∧ RRM e B' R') → Q none (hp L sh e) n) : tc_C 177 [rf 75, .inl w] (hp L sh c) n Q := by
  obtain ⟨w1, w2, w3, w4, w5, w6, w7, w8, w9, w10⟩ := hW
  have htr : ¬ w = 1 → trl g N w f p' = f := fun h => if_neg fun z => h z.1
  unfold tmy at ht
  have hk40 : k < 40 := by
    by_cases h1 : 40 ≤ k
    · rw [if_pos h1] at ht
      omega
    · omega
  rw [if_neg (by omega)] at ht
  by_cases q0 : w = 0
  · subst q0
    rw [htr (by omega)] at hq
    exact m177_0 hS hT hR hp0 hRR hb hq
  rw [if_neg q0] at ht
  have hk0 : ¬ k = 0 := fun q => by
    rw [if_pos q] at ht
    omega
  rw [if_neg hk0] at ht
  by_cases q1 : w = 1
  · subst q1
    rw [if_pos rfl] at ht
    have hRH : R < B 0 1 := by
      by_cases h1 : R < B 0 1
      · exact h1
      · rw [if_neg h1] at ht
        omega
    show tc_W 177 0 [rf 75, .inl 1, tc_nil] [] _ _ Q
    repeat' (simp (disch := first | omega | exact Nat.le_of_ble_eq_true rfl | exact rfl | assumption | (simp only [fr_at, Nat.reduceEqDiff, if_false, if_true, reduceIte]; first | assumption | omega)) only [r177_0, r177_1_0, r177_1_1, r177_1_2, r177_1_3, r177_1_d, r177_32, r177_33, r177_36, r177_37, r177_38, r177_39, r177_40, v177_40_11, r177_43, r177_44, r177_45, r177_48, r177_49, r177_50, r177_51, r177_52, v177_52_11, r177_55, r177_56, r177_59, r177_60, v177_60_11, r177_63, r177_66, r177_67, r177_70, r177_71, r177_72i, r177_73, r177_74, r177_77, r177_78, r177_79, r177_80, r177_81, r177_84, r177_85, r177_86, r177_87, r177_90, r177_91, r177_92, r177_93, r177_94, r177_95, v177_95_11, r177_98, r177_99, r177_100, r177_103, r177_104, r177_105, r177_106, r177_108, v177_108_11, r177_111, r177_112, r177_113, r177_116, r177_117, r177_118, r177_119, r177_121, v177_121_11, r177_124, r177_125, r177_126, r177_129, r177_130, r177_131, r177_132, r177_133, r177_134, r177_135, r177_138, r177_139, r177_142, r177_143, r177_146, r177_147, r177_148, r177_149, r177_150, r177_152, v177_152_11, r177_155, r177_156, r177_157, r177_160, r177_161, r177_162, r177_163, r177_164, r177_165, r177_166, r177_169, r177_170, v177_170_11, r177_173, g11_49_11, g11_55_11, g11_58_11, g11_61_11, g11_64_11, mo_len, ms75 hS, mt75 hS, mo_g14, ms89 hS, mt89 hS, mo_g16, ms91 hS, mt91 hS, mo_g17, ms92 hS, mt92 hS, mo_g18, ms93 hS, mt93 hS, mo_g19, ms94 hS, mt94 hS, il_s, bl_s, bl_z, ll_s, is_s, bs_s, bs_z, ls_s, al_s, al_b, al_l, fr_at, fr_fr, Nat.reduceEqDiff, tc_gf3_s, tc_ql2_s, tc_ws_0, tc_ws_i, tc_ws_l, tc_ws_r, Nat.reduceLeDiff, Nat.reduceAdd, Nat.reduceLT, true_and, and_true, if_true, if_false, tc_K, Option.toList_some, Option.toList_none, List.nil_append, List.cons_append, ite_true, ite_false, Int.cast_ofNat_Int, reduceIte, i3_add_eq, i3_sub_eq, Int.add_sub_cancel, Int.add_neg_cancel_right])
    refine m182 hS hT hR hp0 hRR (by omega) (by omega) hb ?_
    intro e h1 h0 h2 h3
    repeat' (simp (disch := first | omega | exact Nat.le_of_ble_eq_true rfl | exact rfl | assumption | (simp only [fr_at, Nat.reduceEqDiff, if_false, if_true, reduceIte]; first | assumption | omega)) only [r177_0, r177_1_0, r177_1_1, r177_1_2, r177_1_3, r177_1_d, r177_32, r177_33, r177_36, r177_37, r177_38, r177_39, r177_40, v177_40_11, r177_43, r177_44, r177_45, r177_48, r177_49, r177_50, r177_51, r177_52, v177_52_11, r177_55, r177_56, r177_59, r177_60, v177_60_11, r177_63, r177_66, r177_67, r177_70, r177_71, r177_72i, r177_73, r177_74, r177_77, r177_78, r177_79, r177_80, r177_81, r177_84, r177_85, r177_86, r177_87, r177_90, r177_91, r177_92, r177_93, r177_94, r177_95, v177_95_11, r177_98, r177_99, r177_100, r177_103, r177_104, r177_105, r177_106, r177_108, v177_108_11, r177_111, r177_112, r177_113, r177_116, r177_117, r177_118, r177_119, r177_121, v177_121_11, r177_124, r177_125, r177_126, r177_129, r177_130, r177_131, r177_132, r177_133, r177_134, r177_135, r177_138, r177_139, r177_142, r177_143, r177_146, r177_147, r177_148, r177_149, r177_150, r177_152, v177_152_11, r177_155, r177_156, r177_157, r177_160, r177_161, r177_162, r177_163, r177_164, r177_165, r177_166, r177_169, r177_170, v177_170_11, r177_173, g11_49_11, g11_55_11, g11_58_11, g11_61_11, g11_64_11, mo_len, ms75 hS, mt75 hS, mo_g14, ms89 hS, mt89 hS, mo_g16, ms91 hS, mt91 hS, mo_g17, ms92 hS, mt92 hS, mo_g18, ms93 hS, mt93 hS, mo_g19, ms94 hS, mt94 hS, il_s, bl_s, bl_z, ll_s, is_s, bs_s, bs_z, ls_s, al_s, al_b, al_l, fr_at, fr_fr, Nat.reduceEqDiff, tc_gf3_s, tc_ql2_s, tc_ws_0, tc_ws_i, tc_ws_l, tc_ws_r, Nat.reduceLeDiff, Nat.reduceAdd, Nat.reduceLT, true_and, and_true, if_true, if_false, tc_K, Option.toList_some, Option.toList_none, List.nil_append, List.cons_append, ite_true, ite_false, Int.cast_ofNat_Int, reduceIte, i3_add_eq, i3_sub_eq, Int.add_sub_cancel, Int.add_neg_cancel_right])
    exact hq e h1 h0 h2 h3
  rw [if_neg q1] at ht
  rw [htr q1] at hq
  by_cases q2 : w = 2
  · subst q2
    rw [if_pos rfl] at ht
    have hF : B 0 2 < 6 := by
      by_cases h1 : B 0 2 < 6
      · exact h1
      · rw [if_neg h1] at ht
        omega
    exact m177_2 hS hT hR hp0 hRR (by omega) (by omega) hb hq
  rw [if_neg q2] at ht
  by_cases q3 : w = 3
  · subst q3
    rw [if_pos rfl] at ht
    have hF : B 0 3 < 12 := by
      by_cases h1 : B 0 3 < 12
      · exact h1
      · rw [if_neg h1] at ht
        omega
    exact m177_3 hS hT hR hp0 hRR (by omega) hb hq
  have q4 : w = 4 := by omega
  subst q4
  show tc_W 177 0 [rf 75, .inl 4, tc_nil] [] _ _ Q
  repeat' (simp (disch := first | omega | exact Nat.le_of_ble_eq_true rfl | exact rfl | assumption | (simp only [fr_at, Nat.reduceEqDiff, if_false, if_true, reduceIte]; first | assumption | omega)) only [r177_0, r177_1_0, r177_1_1, r177_1_2, r177_1_3, r177_1_d, r177_32, r177_33, r177_36, r177_37, r177_38, r177_39, r177_40, v177_40_11, r177_43, r177_44, r177_45, r177_48, r177_49, r177_50, r177_51, r177_52, v177_52_11, r177_55, r177_56, r177_59, r177_60, v177_60_11, r177_63, r177_66, r177_67, r177_70, r177_71, r177_72i, r177_73, r177_74, r177_77, r177_78, r177_79, r177_80, r177_81, r177_84, r177_85, r177_86, r177_87, r177_90, r177_91, r177_92, r177_93, r177_94, r177_95, v177_95_11, r177_98, r177_99, r177_100, r177_103, r177_104, r177_105, r177_106, r177_108, v177_108_11, r177_111, r177_112, r177_113, r177_116, r177_117, r177_118, r177_119, r177_121, v177_121_11, r177_124, r177_125, r177_126, r177_129, r177_130, r177_131, r177_132, r177_133, r177_134, r177_135, r177_138, r177_139, r177_142, r177_143, r177_146, r177_147, r177_148, r177_149, r177_150, r177_152, v177_152_11, r177_155, r177_156, r177_157, r177_160, r177_161, r177_162, r177_163, r177_164, r177_165, r177_166, r177_169, r177_170, v177_170_11, r177_173, g11_49_11, g11_55_11, g11_58_11, g11_61_11, g11_64_11, mo_len, ms75 hS, mt75 hS, mo_g14, ms89 hS, mt89 hS, mo_g16, ms91 hS, mt91 hS, mo_g17, ms92 hS, mt92 hS, mo_g18, ms93 hS, mt93 hS, mo_g19, ms94 hS, mt94 hS, il_s, bl_s, bl_z, ll_s, is_s, bs_s, bs_z, ls_s, al_s, al_b, al_l, fr_at, fr_fr, Nat.reduceEqDiff, tc_gf3_s, tc_ql2_s, tc_ws_0, tc_ws_i, tc_ws_l, tc_ws_r, Nat.reduceLeDiff, Nat.reduceAdd, Nat.reduceLT, true_and, and_true, if_true, if_false, tc_K, Option.toList_some, Option.toList_none, List.nil_append, List.cons_append, ite_true, ite_false, Int.cast_ofNat_Int, reduceIte, i3_add_eq, i3_sub_eq, Int.add_sub_cancel, Int.add_neg_cancel_right])
  refine m183 hS hT hR hp0 hRR hb ?_
  intro e h1 h0 h2 h3
  repeat' (simp (disch := first | omega | exact Nat.le_of_ble_eq_true rfl | exact rfl | assumption | (simp only [fr_at, Nat.reduceEqDiff, if_false, if_true, reduceIte]; first | assumption | omega)) only [r177_0, r177_1_0, r177_1_1, r177_1_2, r177_1_3, r177_1_d, r177_32, r177_33, r177_36, r177_37, r177_38, r177_39, r177_40, v177_40_11, r177_43, r177_44, r177_45, r177_48, r177_49, r177_50, r177_51, r177_52, v177_52_11, r177_55, r177_56, r177_59, r177_60, v177_60_11, r177_63, r177_66, r177_67, r177_70, r177_71, r177_72i, r177_73, r177_74, r177_77, r177_78, r177_79, r177_80, r177_81, r177_84, r177_85, r177_86, r177_87, r177_90, r177_91, r177_92, r177_93, r177_94, r177_95, v177_95_11, r177_98, r177_99, r177_100, r177_103, r177_104, r177_105, r177_106, r177_108, v177_108_11, r177_111, r177_112, r177_113, r177_116, r177_117, r177_118, r177_119, r177_121, v177_121_11, r177_124, r177_125, r177_126, r177_129, r177_130, r177_131, r177_132, r177_133, r177_134, r177_135, r177_138, r177_139, r177_142, r177_143, r177_146, r177_147, r177_148, r177_149, r177_150, r177_152, v177_152_11, r177_155, r177_156, r177_157, r177_160, r177_161, r177_162, r177_163, r177_164, r177_165, r177_166, r177_169, r177_170, v177_170_11, r177_173, g11_49_11, g11_55_11, g11_58_11, g11_61_11, g11_64_11, mo_len, ms75 hS, mt75 hS, mo_g14, ms89 hS, mt89 hS, mo_g16, ms91 hS, mt91 hS, mo_g17, ms92 hS, mt92 hS, mo_g18, ms93 hS, mt93 hS, mo_g19, ms94 hS, mt94 hS, il_s, bl_s, bl_z, ll_s, is_s, bs_s, bs_z, ls_s, al_s, al_b, al_l, fr_at, fr_fr, Nat.reduceEqDiff, tc_gf3_s, tc_ql2_s, tc_ws_0, tc_ws_i, tc_ws_l, tc_ws_r, Nat.reduceLeDiff, Nat.reduceAdd, Nat.reduceLT, true_and, and_true, if_true, if_false, tc_K, Option.toList_some, Option.toList_none, List.nil_append, List.cons_append, ite_true, ite_false, Int.cast_ofNat_Int, reduceIte, i3_add_eq, i3_sub_eq, Int.add_sub_cancel, Int.add_neg_cancel_right])
  exact hq e h1 h0 h2 h3
theorem m176 (hS : MS L sh) (hRR : RRM c B R) (hW : WP B R k) {w : Int} (hw : 0 ≤ w ∧ w ≤ 4) : tc_C 176 [rf 75, .inl w, .inl k] (hp L sh c) n Q = Q (some (.inl (tmy k w R B))) (hp L sh c) n := tc_det fun Q hq => by
  obtain ⟨w1, _, _, _, w5⟩ := hRR
  obtain ⟨v1, v2, v3, v4, v5, _⟩ := hW
  have e1 := w1 1 (by omega) (by omega)
  have e2 := w1 2 (by omega) (by omega)
  have e3 := w1 3 (by omega) (by omega)
  have e4 := w1 4 (by omega) (by omega)
  unfold tmy at hq
  show tc_W 176 0 [rf 75, .inl w, .inl k] [] _ _ Q
  rcases (by omega : w = 0 ∨ w = 1 ∨ w = 2 ∨ w = 3 ∨ w = 4) with rfl | rfl | rfl | rfl | rfl
  all_goals
    simp only [Int.reduceEq, if_true, if_false, reduceIte] at hq
  · repeat' (first | (simp (disch := first | omega | exact Nat.le_of_ble_eq_true rfl | exact rfl | assumption | (simp only [fr_at, Nat.reduceEqDiff, if_false, if_true, reduceIte]; first | assumption | omega)) only [r176_0, r176_1, r176_6, r176_10, r176_11, r176_14, r176_15, r176_19, r176_20, r176_23, r176_27, r176_28h, r176_28f, r176_28t, r176_29, r176_30_0, r176_30_1, r176_30_2, r176_30_3, r176_30_d, r176_60, r176_61, r176_64, r176_65, r176_68, r176_69, r176_73, r176_74, r176_77, r176_78h, r176_78f, r176_78t, r176_79, r176_80, r176_83, r176_84, r176_85, r176_90, r176_91, r176_94, r176_95h, r176_95f, r176_95t, r176_96, r176_97, r176_100, r176_101, r176_102, r176_107, r176_108, r176_111, r176_112h, r176_112f, r176_112t, r176_113, r176_114, r176_117, r176_118, r176_119, r176_123, r176_124, r176_127, r176_128h, r176_128f, r176_128t, r176_129, r176_130h, r176_130f, r176_130t, g11_276_11, g11_49_11, mo_len, ms75 hS, mt75 hS, mo_g20, mo_g14, ms89 hS, mt89 hS, il_s, bl_s, bl_z, ll_s, is_s, bs_s, bs_z, ls_s, al_s, al_b, al_l, fr_at, fr_fr, Nat.reduceEqDiff, tc_gf3_s, tc_ql2_s, tc_ws_0, tc_ws_i, tc_ws_l, tc_ws_r, Nat.reduceLeDiff, Nat.reduceAdd, Nat.reduceLT, true_and, and_true, if_true, if_false, tc_K, Option.toList_some, Option.toList_none, List.nil_append, List.cons_append, ite_true, ite_false, Int.cast_ofNat_Int, reduceIte, i3_add_eq, i3_sub_eq, Int.add_sub_cancel, Int.add_neg_cancel_right, w5, e1, e2, e3, e4]) | (simp only [r176_3, r176_7, r176_16, r176_24, r176_70, r176_87, r176_104, r176_120, i6_lt0, i6_0lt, i6_0le, i6_le0, i6_eq0, b10_0, ite_not, Int.reduceLT, Int.reduceLE, Int.reduceEq, Int.reduceNeg, if_true, if_false, ite_true, ite_false, reduceIte, eq_self, not_true, not_false_eq_true]; try refine tc_ite (fun _ => ?_) (fun _ => ?_) <;> try (exfalso; omega)))
    all_goals first
      | (simp (disch := omega) only [if_pos, if_neg] at hq; exact hq)
      | omega
  · repeat' (first | (simp (disch := first | omega | exact Nat.le_of_ble_eq_true rfl | exact rfl | assumption | (simp only [fr_at, Nat.reduceEqDiff, if_false, if_true, reduceIte]; first | assumption | omega)) only [r176_0, r176_1, r176_6, r176_10, r176_11, r176_14, r176_15, r176_19, r176_20, r176_23, r176_27, r176_28h, r176_28f, r176_28t, r176_29, r176_30_0, r176_30_1, r176_30_2, r176_30_3, r176_30_d, r176_60, r176_61, r176_64, r176_65, r176_68, r176_69, r176_73, r176_74, r176_77, r176_78h, r176_78f, r176_78t, r176_79, r176_80, r176_83, r176_84, r176_85, r176_90, r176_91, r176_94, r176_95h, r176_95f, r176_95t, r176_96, r176_97, r176_100, r176_101, r176_102, r176_107, r176_108, r176_111, r176_112h, r176_112f, r176_112t, r176_113, r176_114, r176_117, r176_118, r176_119, r176_123, r176_124, r176_127, r176_128h, r176_128f, r176_128t, r176_129, r176_130h, r176_130f, r176_130t, g11_276_11, g11_49_11, mo_len, ms75 hS, mt75 hS, mo_g20, mo_g14, ms89 hS, mt89 hS, il_s, bl_s, bl_z, ll_s, is_s, bs_s, bs_z, ls_s, al_s, al_b, al_l, fr_at, fr_fr, Nat.reduceEqDiff, tc_gf3_s, tc_ql2_s, tc_ws_0, tc_ws_i, tc_ws_l, tc_ws_r, Nat.reduceLeDiff, Nat.reduceAdd, Nat.reduceLT, true_and, and_true, if_true, if_false, tc_K, Option.toList_some, Option.toList_none, List.nil_append, List.cons_append, ite_true, ite_false, Int.cast_ofNat_Int, reduceIte, i3_add_eq, i3_sub_eq, Int.add_sub_cancel, Int.add_neg_cancel_right, w5, e1, e2, e3, e4]) | (simp only [r176_3, r176_7, r176_16, r176_24, r176_70, r176_87, r176_104, r176_120, i6_lt0, i6_0lt, i6_0le, i6_le0, i6_eq0, b10_0, ite_not, Int.reduceLT, Int.reduceLE, Int.reduceEq, Int.reduceNeg, if_true, if_false, ite_true, ite_false, reduceIte, eq_self, not_true, not_false_eq_true]; try refine tc_ite (fun _ => ?_) (fun _ => ?_) <;> try (exfalso; omega)))
    all_goals first
      | (simp (disch := omega) only [if_pos, if_neg] at hq; exact hq)
      | omega
  · repeat' (first | (simp (disch := first | omega | exact Nat.le_of_ble_eq_true rfl | exact rfl | assumption | (simp only [fr_at, Nat.reduceEqDiff, if_false, if_true, reduceIte]; first | assumption | omega)) only [r176_0, r176_1, r176_6, r176_10, r176_11, r176_14, r176_15, r176_19, r176_20, r176_23, r176_27, r176_28h, r176_28f, r176_28t, r176_29, r176_30_0, r176_30_1, r176_30_2, r176_30_3, r176_30_d, r176_60, r176_61, r176_64, r176_65, r176_68, r176_69, r176_73, r176_74, r176_77, r176_78h, r176_78f, r176_78t, r176_79, r176_80, r176_83, r176_84, r176_85, r176_90, r176_91, r176_94, r176_95h, r176_95f, r176_95t, r176_96, r176_97, r176_100, r176_101, r176_102, r176_107, r176_108, r176_111, r176_112h, r176_112f, r176_112t, r176_113, r176_114, r176_117, r176_118, r176_119, r176_123, r176_124, r176_127, r176_128h, r176_128f, r176_128t, r176_129, r176_130h, r176_130f, r176_130t, g11_276_11, g11_49_11, mo_len, ms75 hS, mt75 hS, mo_g20, mo_g14, ms89 hS, mt89 hS, il_s, bl_s, bl_z, ll_s, is_s, bs_s, bs_z, ls_s, al_s, al_b, al_l, fr_at, fr_fr, Nat.reduceEqDiff, tc_gf3_s, tc_ql2_s, tc_ws_0, tc_ws_i, tc_ws_l, tc_ws_r, Nat.reduceLeDiff, Nat.reduceAdd, Nat.reduceLT, true_and, and_true, if_true, if_false, tc_K, Option.toList_some, Option.toList_none, List.nil_append, List.cons_append, ite_true, ite_false, Int.cast_ofNat_Int, reduceIte, i3_add_eq, i3_sub_eq, Int.add_sub_cancel, Int.add_neg_cancel_right, w5, e1, e2, e3, e4]) | (simp only [r176_3, r176_7, r176_16, r176_24, r176_70, r176_87, r176_104, r176_120, i6_lt0, i6_0lt, i6_0le, i6_le0, i6_eq0, b10_0, ite_not, Int.reduceLT, Int.reduceLE, Int.reduceEq, Int.reduceNeg, if_true, if_false, ite_true, ite_false, reduceIte, eq_self, not_true, not_false_eq_true]; try refine tc_ite (fun _ => ?_) (fun _ => ?_) <;> try (exfalso; omega)))
    all_goals first
      | (simp (disch := omega) only [if_pos, if_neg] at hq; exact hq)
      | omega
  · repeat' (first | (simp (disch := first | omega | exact Nat.le_of_ble_eq_true rfl | exact rfl | assumption | (simp only [fr_at, Nat.reduceEqDiff, if_false, if_true, reduceIte]; first | assumption | omega)) only [r176_0, r176_1, r176_6, r176_10, r176_11, r176_14, r176_15, r176_19, r176_20, r176_23, r176_27, r176_28h, r176_28f, r176_28t, r176_29, r176_30_0, r176_30_1, r176_30_2, r176_30_3, r176_30_d, r176_60, r176_61, r176_64, r176_65, r176_68, r176_69, r176_73, r176_74, r176_77, r176_78h, r176_78f, r176_78t, r176_79, r176_80, r176_83, r176_84, r176_85, r176_90, r176_91, r176_94, r176_95h, r176_95f, r176_95t, r176_96, r176_97, r176_100, r176_101, r176_102, r176_107, r176_108, r176_111, r176_112h, r176_112f, r176_112t, r176_113, r176_114, r176_117, r176_118, r176_119, r176_123, r176_124, r176_127, r176_128h, r176_128f, r176_128t, r176_129, r176_130h, r176_130f, r176_130t, g11_276_11, g11_49_11, mo_len, ms75 hS, mt75 hS, mo_g20, mo_g14, ms89 hS, mt89 hS, il_s, bl_s, bl_z, ll_s, is_s, bs_s, bs_z, ls_s, al_s, al_b, al_l, fr_at, fr_fr, Nat.reduceEqDiff, tc_gf3_s, tc_ql2_s, tc_ws_0, tc_ws_i, tc_ws_l, tc_ws_r, Nat.reduceLeDiff, Nat.reduceAdd, Nat.reduceLT, true_and, and_true, if_true, if_false, tc_K, Option.toList_some, Option.toList_none, List.nil_append, List.cons_append, ite_true, ite_false, Int.cast_ofNat_Int, reduceIte, i3_add_eq, i3_sub_eq, Int.add_sub_cancel, Int.add_neg_cancel_right, w5, e1, e2, e3, e4]) | (simp only [r176_3, r176_7, r176_16, r176_24, r176_70, r176_87, r176_104, r176_120, i6_lt0, i6_0lt, i6_0le, i6_le0, i6_eq0, b10_0, ite_not, Int.reduceLT, Int.reduceLE, Int.reduceEq, Int.reduceNeg, if_true, if_false, ite_true, ite_false, reduceIte, eq_self, not_true, not_false_eq_true]; try refine tc_ite (fun _ => ?_) (fun _ => ?_) <;> try (exfalso; omega)))
    all_goals first
      | (simp (disch := omega) only [if_pos, if_neg] at hq; exact hq)
      | omega
  · rcases v5 with v5 | v5
    · rw [v5] at e4 hq
      repeat' (first | (simp (disch := first | omega | exact Nat.le_of_ble_eq_true rfl | exact rfl | assumption | (simp only [fr_at, Nat.reduceEqDiff, if_false, if_true, reduceIte]; first | assumption | omega)) only [r176_0, r176_1, r176_6, r176_10, r176_11, r176_14, r176_15, r176_19, r176_20, r176_23, r176_27, r176_28h, r176_28f, r176_28t, r176_29, r176_30_0, r176_30_1, r176_30_2, r176_30_3, r176_30_d, r176_60, r176_61, r176_64, r176_65, r176_68, r176_69, r176_73, r176_74, r176_77, r176_78h, r176_78f, r176_78t, r176_79, r176_80, r176_83, r176_84, r176_85, r176_90, r176_91, r176_94, r176_95h, r176_95f, r176_95t, r176_96, r176_97, r176_100, r176_101, r176_102, r176_107, r176_108, r176_111, r176_112h, r176_112f, r176_112t, r176_113, r176_114, r176_117, r176_118, r176_119, r176_123, r176_124, r176_127, r176_128h, r176_128f, r176_128t, r176_129, r176_130h, r176_130f, r176_130t, g11_276_11, g11_49_11, mo_len, ms75 hS, mt75 hS, mo_g20, mo_g14, ms89 hS, mt89 hS, il_s, bl_s, bl_z, ll_s, is_s, bs_s, bs_z, ls_s, al_s, al_b, al_l, fr_at, fr_fr, Nat.reduceEqDiff, tc_gf3_s, tc_ql2_s, tc_ws_0, tc_ws_i, tc_ws_l, tc_ws_r, Nat.reduceLeDiff, Nat.reduceAdd, Nat.reduceLT, true_and, and_true, if_true, if_false, tc_K, Option.toList_some, Option.toList_none, List.nil_append, List.cons_append, ite_true, ite_false, Int.cast_ofNat_Int, reduceIte, i3_add_eq, i3_sub_eq, Int.add_sub_cancel, Int.add_neg_cancel_right, w5, e1, e2, e3, e4]) | (simp only [r176_3, r176_7, r176_16, r176_24, r176_70, r176_87, r176_104, r176_120, i6_lt0, i6_0lt, i6_0le, i6_le0, i6_eq0, b10_0, ite_not, Int.reduceLT, Int.reduceLE, Int.reduceEq, Int.reduceNeg, if_true, if_false, ite_true, ite_false, reduceIte, eq_self, not_true, not_false_eq_true]; try refine tc_ite (fun _ => ?_) (fun _ => ?_) <;> try (exfalso; omega)))
      all_goals first
        | (simp (disch := omega) only [if_pos, if_neg] at hq; exact hq)
        | omega
    · rw [v5] at e4 hq
      repeat' (first | (simp (disch := first | omega | exact Nat.le_of_ble_eq_true rfl | exact rfl | assumption | (simp only [fr_at, Nat.reduceEqDiff, if_false, if_true, reduceIte]; first | assumption | omega)) only [r176_0, r176_1, r176_6, r176_10, r176_11, r176_14, r176_15, r176_19, r176_20, r176_23, r176_27, r176_28h, r176_28f, r176_28t, r176_29, r176_30_0, r176_30_1, r176_30_2, r176_30_3, r176_30_d, r176_60, r176_61, r176_64, r176_65, r176_68, r176_69, r176_73, r176_74, r176_77, r176_78h, r176_78f, r176_78t, r176_79, r176_80, r176_83, r176_84, r176_85, r176_90, r176_91, r176_94, r176_95h, r176_95f, r176_95t, r176_96, r176_97, r176_100, r176_101, r176_102, r176_107, r176_108, r176_111, r176_112h, r176_112f, r176_112t, r176_113, r176_114, r176_117, r176_118, r176_119, r176_123, r176_124, r176_127, r176_128h, r176_128f, r176_128t, r176_129, r176_130h, r176_130f, r176_130t, g11_276_11, g11_49_11, mo_len, ms75 hS, mt75 hS, mo_g20, mo_g14, ms89 hS, mt89 hS, il_s, bl_s, bl_z, ll_s, is_s, bs_s, bs_z, ls_s, al_s, al_b, al_l, fr_at, fr_fr, Nat.reduceEqDiff, tc_gf3_s, tc_ql2_s, tc_ws_0, tc_ws_i, tc_ws_l, tc_ws_r, Nat.reduceLeDiff, Nat.reduceAdd, Nat.reduceLT, true_and, and_true, if_true, if_false, tc_K, Option.toList_some, Option.toList_none, List.nil_append, List.cons_append, ite_true, ite_false, Int.cast_ofNat_Int, reduceIte, i3_add_eq, i3_sub_eq, Int.add_sub_cancel, Int.add_neg_cancel_right, w5, e1, e2, e3, e4]) | (simp only [r176_3, r176_7, r176_16, r176_24, r176_70, r176_87, r176_104, r176_120, i6_lt0, i6_0lt, i6_0le, i6_le0, i6_eq0, b10_0, ite_not, Int.reduceLT, Int.reduceLE, Int.reduceEq, Int.reduceNeg, if_true, if_false, ite_true, ite_false, reduceIte, eq_self, not_true, not_false_eq_true]; try refine tc_ite (fun _ => ?_) (fun _ => ?_) <;> try (exfalso; omega)))
      all_goals first
        | (simp (disch := omega) only [if_pos, if_neg] at hq; exact hq)
        | omega
end BEACHO

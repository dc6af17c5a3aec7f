/-! the class: a beach read, more -/
section BEACHD
variable {L : Nat} {sh : Nat → SH} {c : Nat → Int → Int} {n : Nat} {Q : Option AV → List SC → Nat → Prop} {s : Nat} {g : Int → Int} {N p R f p' R' k : Int} {B B' : Nat → Int → Int}
theorem c40 (hB : BRd L sh s) (hT : TP g N) (hR : RD c g N p) (hp0 : 0 ≤ p ∧ p ≤ N) (hRB : RB c s B R) (hW : 2 ≤ B 0 0 ∧ B 0 0 ≤ 5) (hRH : 0 ≤ R ∧ R < B 0 1 ∧ B 0 1 ≤ 5) (hb : bpt g N 1 p R B = (f, p', R', B'))
    (hq : ∀ e, BF c e s → e 69 1 = N → e 69 4 = f → (f = 0 → e 69 2 = p' ∧ RB e s B' R') → Q none (hp L sh e) n) : tc_C 40 [rf 69] (hp L sh c) n Q := by
  obtain ⟨hL, h69, h27, hSh, hs⟩ := id hB
  have hL69 : 69 < L := by omega
  have hr := nm_rng (g := g) hp0
  have hN := hT.1
  unfold bpt at hb
  rw [if_neg (by omega), if_pos rfl] at hb
  obtain ⟨w1, w2, w3, w4, w5, w6, w7, w8⟩ := hRB
  obtain ⟨r27, r1, r2, r4⟩ := hR
  have hX : 0 ≤ B 0 0 * R ∧ B 0 0 * R + B 0 0 ≤ B 0 0 * B 0 1 ∧ B 0 0 * B 0 1 ≤ 25 := by
    have q1 := Int.mul_le_mul_of_nonneg_left (show R + 1 ≤ B 0 1 by omega) (show 0 ≤ B 0 0 by omega)
    rw [Int.mul_add, Int.mul_one] at q1
    have q2 := Int.mul_le_mul hW.2 hRH.2.2 (by omega) (by omega)
    have q3 := Int.mul_nonneg (show 0 ≤ B 0 0 by omega) hRH.1
    omega
  have h20 := fun Q => c20_b (c := c) (n := n) (Q := Q) (N := N) (p := p) h69 h27 hL (by rw [r27]; exact hT) r1 r2 (by omega)
  rw [r27] at h20
  generalize hq0 : sk g N p = q at hb hr h20
  generalize hWW : B 0 0 = W at *
  generalize hXX : W * R = X at *
  show tc_W 40 0 [rf 69, tc_nil] [] _ _ Q
  repeat' (first | (simp (disch := first | omega | exact Nat.le_of_ble_eq_true rfl | exact rfl | assumption | (simp (disch := omega) only [fr_ne, fr_same]; first | assumption | omega)) only [r40_0, r40_1, v40_1_0, r40_4, r40_5r, r40_7, r40_8, r40_11, r40_17, r40_18, r40_24, r40_25, r40_26, r40_29, v40_29_0, r40_35, r40_36, r40_39, r40_42, r40_43, r40_46, r40_49, r40_50, r40_53, r40_54, r40_55, r40_56, r40_57, r40_58, r40_61, v40_61_0, r40_64, r40_66, r40_67, r40_68, r40_69, r40_69A, r40_70, r40_73, r40_74, r40_75, r40_78, r40_81, r40_82, r40_83, r40_86, r40_87, v40_87_0, r40_90r, r40_93, r40_96, r40_97, r40_97A, r40_98, r40_101, r40_102, r40_103, r40_106, g0_9_0, g0_95_8, g0_38_0, g0_38_2, g0_44_0, g0_44_2, g0_102_8, g0_15_0, p0_44_0, p0_44_2, p0_15_0, o0_len, o0_g5, o8_len, o8_g0, o0_g4, o2_len, o2_g4, o0_g2, o2_g2, o8_g5, o0_g6, o0_s2, o2_s2, o0_s6, il_s, bl_s, bl_z, ll_s, is_s, bs_s, bs_z, ls_s, al_s, al_b, al_l, fr_ne, fr_same, fr_fr, Nat.reduceEqDiff, tc_gf3_s, tc_ql2_s, tc_ws_0, tc_ws_i, tc_ws_l, tc_ws_r, Nat.reduceLeDiff, Nat.reduceAdd, Nat.reduceLT, true_and, and_true, if_true, if_false, tc_K, Option.toList_some, Option.toList_none, List.nil_append, List.cons_append, ite_true, ite_false, Int.cast_ofNat_Int, reduceIte, i3_add_eq, i3_sub_eq, Int.add_sub_cancel, Int.add_neg_cancel_right, hO hL69 h69, h20]) | (simp only [r40_14, r40_21, r40_32, i6_lt0, i6_0lt, i6_0le, i6_le0, i6_eq0, b10_0, ite_not, Int.reduceLT, Int.reduceLE, Int.reduceEq, Int.reduceNeg, if_true, if_false, ite_true, ite_false, reduceIte, eq_self, not_true, not_false_eq_true]; try refine tc_ite (fun _ => ?_) (fun _ => ?_) <;> try (exfalso; omega)))
  have hlp := lq_1 (N := W) (P := fun j (d : Nat → Int → Int) => tc_W 40 6 [rf 69, .inl j] [] (hp L sh d) n Q) (I := fun j d => RD d g N (q + j) ∧ d 69 6 = R ∧ d 69 7 = c 69 7 ∧ (∀ a, ¬ a = 69 → ¬ a = s + 1 → d a = c a) ∧ (∀ x, d (s + 1) x = if X ≤ x ∧ x < X + j then g (q + (x - X)) - 48 else c (s + 1) x) ∧ rwf g N q j.toNat = 0) ?_ ?_ 0 (fr c 69 (fu (c 69) 2 q)) (by omega) (by omega) ⟨⟨by rw [fr_ne (by omega)]; exact r27, by rw [fr_same, fu_ne (by omega)]; exact r1, by rw [fr_same, fu_same]; omega, by rw [fr_same, fu_ne (by omega)]; exact r4⟩, by rw [fr_same, fu_ne (by omega)]; exact w1, by rw [fr_same, fu_ne (by omega)], fun a h1 _ => fr_ne h1, fun x => by rw [fr_ne (by omega), if_neg (by omega)], rfl⟩
  · exact hlp
  · intro j d hj hj2 ⟨⟨d27, d1, d2, d4⟩, d6, d7, df, dh, dz⟩ ih
    have ds0 : d s 0 = W := by rw [df s (by omega) (by omega)]; exact w3.1
    have h41 := fun Q => c41_b (c := d) (n := n) (Q := Q) (N := N) (q := q + j) h69 h27 hL (by rw [d27]; exact hT) d1 (by omega)
    rw [d27] at h41
    simp only [r40_6]
    by_cases hdg : isdg g N (q + j) = 1
    · have hg := isdg_1 hdg
      have h33 := fun Q => c33_b (c := d) (n := n) (Q := Q) (N := N) (q := q + j) h69 h27 hL (by rw [d27]; exact hT) d1 (by omega)
      have hby : byt g N (q + j) = g (q + j) := by
        unfold byt
        rw [if_pos hg.1, if_neg (by omega)]
      rw [d27, hby] at h33
      have erw : rwf g N q (j + 1).toNat = 0 := by
        rw [show (j + 1).toNat = j.toNat + 1 by omega]
        show (if ¬ rwf g N q j.toNat = 0 then rwf g N q j.toNat else if isdg g N (q + (j.toNat : Int)) = 1 then 0 else 1 + 8 * (q + (j.toNat : Int))) = 0
        rw [if_neg (fun z => z dz), Int.toNat_of_nonneg hj, if_pos hdg]
      repeat' (first | (simp (disch := first | omega | exact Nat.le_of_ble_eq_true rfl | exact rfl | assumption | (simp (disch := omega) only [fr_ne, fr_same]; first | assumption | omega)) only [r40_0, r40_1, v40_1_0, r40_4, r40_5r, r40_7, r40_8, r40_11, r40_17, r40_18, r40_24, r40_25, r40_26, r40_29, v40_29_0, r40_35, r40_36, r40_39, r40_42, r40_43, r40_46, r40_49, r40_50, r40_53, r40_54, r40_55, r40_56, r40_57, r40_58, r40_61, v40_61_0, r40_64, r40_66, r40_67, r40_68, r40_69, r40_69A, r40_70, r40_73, r40_74, r40_75, r40_78, r40_81, r40_82, r40_83, r40_86, r40_87, v40_87_0, r40_90r, r40_93, r40_96, r40_97, r40_97A, r40_98, r40_101, r40_102, r40_103, r40_106, g0_9_0, g0_95_8, g0_38_0, g0_38_2, g0_44_0, g0_44_2, g0_102_8, g0_15_0, p0_44_0, p0_44_2, p0_15_0, o0_len, o0_g5, o8_len, o8_g0, o0_g4, o2_len, o2_g4, o0_g2, o2_g2, o8_g5, o0_g6, o0_s2, o2_s2, o0_s6, il_s, bl_s, bl_z, ll_s, is_s, bs_s, bs_z, ls_s, al_s, al_b, al_l, fr_ne, fr_same, fr_fr, Nat.reduceEqDiff, tc_gf3_s, tc_ql2_s, tc_ws_0, tc_ws_i, tc_ws_l, tc_ws_r, Nat.reduceLeDiff, Nat.reduceAdd, Nat.reduceLT, true_and, and_true, if_true, if_false, tc_K, Option.toList_some, Option.toList_none, List.nil_append, List.cons_append, ite_true, ite_false, Int.cast_ofNat_Int, reduceIte, i3_add_eq, i3_sub_eq, Int.add_sub_cancel, Int.add_neg_cancel_right, hO hL69 h69, hOs h69, ShoS_g0 hSh, ShoS_s0 hSh, ShoS_g1 hSh, ShoS_s1 hSh, ShoS_g2 hSh, ShoS_s2 hSh, ShoS_g3 hSh, ShoS_s3 hSh, ShoS_g4 hSh, ShoS_s4 hSh, ShoS_g5 hSh, ShoS_s5 hSh, ShoS_g6 hSh, ShoS_s6 hSh, ShoS_g7 hSh, ShoS_s7 hSh, ds0, d4, d2, d6, h41, hdg, h33, i3_mul_eq, hXX]) | (simp only [r40_14, r40_21, r40_32, i6_lt0, i6_0lt, i6_0le, i6_le0, i6_eq0, b10_0, ite_not, Int.reduceLT, Int.reduceLE, Int.reduceEq, Int.reduceNeg, if_true, if_false, ite_true, ite_false, reduceIte, eq_self, not_true, not_false_eq_true]; try refine tc_ite (fun _ => ?_) (fun _ => ?_) <;> try (exfalso; omega)))
      all_goals try omega
      refine ih _ ⟨⟨?_, ?_, ?_, ?_⟩, ?_, ?_, fun a a1 a2 => ?_, fun x => ?_, erw⟩
      · simp (disch := omega) only [fr_ne]
        exact d27
      · simp (disch := omega) only [fr_ne, fr_same, fu_ne]
        exact d1
      · simp (disch := omega) only [fr_ne, fr_same, fu_same]
        omega
      · simp (disch := omega) only [fr_ne, fr_same, fu_ne]
        exact d4
      · simp (disch := omega) only [fr_ne, fr_same, fu_ne]
        exact d6
      · simp (disch := omega) only [fr_ne, fr_same, fu_ne]
        exact d7
      · simp (disch := omega) only [fr_ne]
        exact df a a1 a2
      · simp (disch := omega) only [fr_ne, fr_same]
        by_cases hx : x = X + j
        · subst hx
          rw [fu_same, if_pos (by omega), show q + (X + j - X) = q + j by omega]
        · rw [fu_ne hx, dh x]
          by_cases hx2 : X ≤ x ∧ x < X + j
          · rw [if_pos hx2, if_pos (by omega)]
          · rw [if_neg hx2, if_neg (by omega)]
    · have hF := rwf_st (N := N) hr.2.2.1 dz (by rw [Int.toNat_of_nonneg hj]; exact hdg) (W.toNat - (j.toNat + 1))
      rw [show j.toNat + 1 + (W.toNat - (j.toNat + 1)) = W.toNat by omega, Int.toNat_of_nonneg hj] at hF
      rw [if_pos (by rw [hF]; omega)] at hb
      obtain ⟨h1, _⟩ := pr4 hb
      have h34 := fun Q => c34_b (c := d) (n := n) (Q := Q) (a := q + j) (k := 0) h69 h27 hL (by omega) (by omega)
      rw [if_pos d4] at h34
      have hz : isdg g N (q + j) = 0 := by
        unfold isdg at hdg ⊢
        split
        · next z => rw [if_pos z] at hdg; exact absurd rfl hdg
        · rfl
      repeat' (first | (simp (disch := first | omega | exact Nat.le_of_ble_eq_true rfl | exact rfl | assumption | (simp (disch := omega) only [fr_ne, fr_same]; first | assumption | omega)) only [r40_0, r40_1, v40_1_0, r40_4, r40_5r, r40_7, r40_8, r40_11, r40_17, r40_18, r40_24, r40_25, r40_26, r40_29, v40_29_0, r40_35, r40_36, r40_39, r40_42, r40_43, r40_46, r40_49, r40_50, r40_53, r40_54, r40_55, r40_56, r40_57, r40_58, r40_61, v40_61_0, r40_64, r40_66, r40_67, r40_68, r40_69, r40_69A, r40_70, r40_73, r40_74, r40_75, r40_78, r40_81, r40_82, r40_83, r40_86, r40_87, v40_87_0, r40_90r, r40_93, r40_96, r40_97, r40_97A, r40_98, r40_101, r40_102, r40_103, r40_106, g0_9_0, g0_95_8, g0_38_0, g0_38_2, g0_44_0, g0_44_2, g0_102_8, g0_15_0, p0_44_0, p0_44_2, p0_15_0, o0_len, o0_g5, o8_len, o8_g0, o0_g4, o2_len, o2_g4, o0_g2, o2_g2, o8_g5, o0_g6, o0_s2, o2_s2, o0_s6, il_s, bl_s, bl_z, ll_s, is_s, bs_s, bs_z, ls_s, al_s, al_b, al_l, fr_ne, fr_same, fr_fr, Nat.reduceEqDiff, tc_gf3_s, tc_ql2_s, tc_ws_0, tc_ws_i, tc_ws_l, tc_ws_r, Nat.reduceLeDiff, Nat.reduceAdd, Nat.reduceLT, true_and, and_true, if_true, if_false, tc_K, Option.toList_some, Option.toList_none, List.nil_append, List.cons_append, ite_true, ite_false, Int.cast_ofNat_Int, reduceIte, i3_add_eq, i3_sub_eq, Int.add_sub_cancel, Int.add_neg_cancel_right, hO hL69 h69, ShoS_g0 hSh, ShoS_s0 hSh, ShoS_g1 hSh, ShoS_s1 hSh, ShoS_g2 hSh, ShoS_s2 hSh, ShoS_g3 hSh, ShoS_s3 hSh, ShoS_g4 hSh, ShoS_s4 hSh, ShoS_g5 hSh, ShoS_s5 hSh, ShoS_g6 hSh, ShoS_s6 hSh, ShoS_g7 hSh, ShoS_s7 hSh, ds0, d4, d2, h41, hz, h34]) | (simp only [r40_14, r40_21, r40_32, i6_lt0, i6_0lt, i6_0le, i6_le0, i6_eq0, b10_0, ite_not, Int.reduceLT, Int.reduceLE, Int.reduceEq, Int.reduceNeg, if_true, if_false, ite_true, ite_false, reduceIte, eq_self, not_true, not_false_eq_true]; try refine tc_ite (fun _ => ?_) (fun _ => ?_) <;> try (exfalso; omega)))
      all_goals try omega
      simp only [r40_6]
      have hfin : ∀ F6 : Int, Q none (hp L sh (fr d 69 (fu (fu (d 69) 4 (1 + 8 * (q + j) + 0)) 6 F6))) n := fun F6 => by
        refine hq _ (fun a a1 a2 => by rw [fr_ne a1]; exact df a a1 (by omega)) (by rw [fr_same, fu_ne (by omega), fu_ne (by omega)]; exact d1) (by rw [fr_same, fu_ne (by omega), fu_same, ← h1, hF]; omega) fun z => ?_
        rw [← h1, hF] at z
        omega
      by_cases hj3 : j + 1 < W
      · repeat' (first | (simp (disch := first | omega | exact Nat.le_of_ble_eq_true rfl | exact rfl | assumption | (simp (disch := omega) only [fr_ne, fr_same]; first | assumption | omega)) only [r40_0, r40_1, v40_1_0, r40_4, r40_5r, r40_7, r40_8, r40_11, r40_17, r40_18, r40_24, r40_25, r40_26, r40_29, v40_29_0, r40_35, r40_36, r40_39, r40_42, r40_43, r40_46, r40_49, r40_50, r40_53, r40_54, r40_55, r40_56, r40_57, r40_58, r40_61, v40_61_0, r40_64, r40_66, r40_67, r40_68, r40_69, r40_69A, r40_70, r40_73, r40_74, r40_75, r40_78, r40_81, r40_82, r40_83, r40_86, r40_87, v40_87_0, r40_90r, r40_93, r40_96, r40_97, r40_97A, r40_98, r40_101, r40_102, r40_103, r40_106, g0_9_0, g0_95_8, g0_38_0, g0_38_2, g0_44_0, g0_44_2, g0_102_8, g0_15_0, p0_44_0, p0_44_2, p0_15_0, o0_len, o0_g5, o8_len, o8_g0, o0_g4, o2_len, o2_g4, o0_g2, o2_g2, o8_g5, o0_g6, o0_s2, o2_s2, o0_s6, il_s, bl_s, bl_z, ll_s, is_s, bs_s, bs_z, ls_s, al_s, al_b, al_l, fr_ne, fr_same, fr_fr, Nat.reduceEqDiff, tc_gf3_s, tc_ql2_s, tc_ws_0, tc_ws_i, tc_ws_l, tc_ws_r, Nat.reduceLeDiff, Nat.reduceAdd, Nat.reduceLT, true_and, and_true, if_true, if_false, tc_K, Option.toList_some, Option.toList_none, List.nil_append, List.cons_append, ite_true, ite_false, Int.cast_ofNat_Int, reduceIte, i3_add_eq, i3_sub_eq, Int.add_sub_cancel, Int.add_neg_cancel_right, hO hL69 h69, hOs h69, ShoS_g0 hSh, ShoS_s0 hSh, ShoS_g1 hSh, ShoS_s1 hSh, ShoS_g2 hSh, ShoS_s2 hSh, ShoS_g3 hSh, ShoS_s3 hSh, ShoS_g4 hSh, ShoS_s4 hSh, ShoS_g5 hSh, ShoS_s5 hSh, ShoS_g6 hSh, ShoS_s6 hSh, ShoS_g7 hSh, ShoS_s7 hSh, ds0, fu_same, fu_ne, d6]) | (simp only [r40_14, r40_21, r40_32, i6_lt0, i6_0lt, i6_0le, i6_le0, i6_eq0, b10_0, ite_not, Int.reduceLT, Int.reduceLE, Int.reduceEq, Int.reduceNeg, if_true, if_false, ite_true, ite_false, reduceIte, eq_self, not_true, not_false_eq_true]; try refine tc_ite (fun _ => ?_) (fun _ => ?_) <;> try (exfalso; omega)))
        all_goals first
          | exact hfin _
          | omega
      · repeat' (first | (simp (disch := first | omega | exact Nat.le_of_ble_eq_true rfl | exact rfl | assumption | (simp (disch := omega) only [fr_ne, fr_same]; first | assumption | omega)) only [r40_0, r40_1, v40_1_0, r40_4, r40_5r, r40_7, r40_8, r40_11, r40_17, r40_18, r40_24, r40_25, r40_26, r40_29, v40_29_0, r40_35, r40_36, r40_39, r40_42, r40_43, r40_46, r40_49, r40_50, r40_53, r40_54, r40_55, r40_56, r40_57, r40_58, r40_61, v40_61_0, r40_64, r40_66, r40_67, r40_68, r40_69, r40_69A, r40_70, r40_73, r40_74, r40_75, r40_78, r40_81, r40_82, r40_83, r40_86, r40_87, v40_87_0, r40_90r, r40_93, r40_96, r40_97, r40_97A, r40_98, r40_101, r40_102, r40_103, r40_106, g0_9_0, g0_95_8, g0_38_0, g0_38_2, g0_44_0, g0_44_2, g0_102_8, g0_15_0, p0_44_0, p0_44_2, p0_15_0, o0_len, o0_g5, o8_len, o8_g0, o0_g4, o2_len, o2_g4, o0_g2, o2_g2, o8_g5, o0_g6, o0_s2, o2_s2, o0_s6, il_s, bl_s, bl_z, ll_s, is_s, bs_s, bs_z, ls_s, al_s, al_b, al_l, fr_ne, fr_same, fr_fr, Nat.reduceEqDiff, tc_gf3_s, tc_ql2_s, tc_ws_0, tc_ws_i, tc_ws_l, tc_ws_r, Nat.reduceLeDiff, Nat.reduceAdd, Nat.reduceLT, true_and, and_true, if_true, if_false, tc_K, Option.toList_some, Option.toList_none, List.nil_append, List.cons_append, ite_true, ite_false, Int.cast_ofNat_Int, reduceIte, i3_add_eq, i3_sub_eq, Int.add_sub_cancel, Int.add_neg_cancel_right, hO hL69 h69, hOs h69, ShoS_g0 hSh, ShoS_s0 hSh, ShoS_g1 hSh, ShoS_s1 hSh, ShoS_g2 hSh, ShoS_s2 hSh, ShoS_g3 hSh, ShoS_s3 hSh, ShoS_g4 hSh, ShoS_s4 hSh, ShoS_g5 hSh, ShoS_s5 hSh, ShoS_g6 hSh, ShoS_s6 hSh, ShoS_g7 hSh, ShoS_s7 hSh, ds0, fu_same, fu_ne, d6]) | (simp only [r40_14, r40_21, r40_32, i6_lt0, i6_0lt, i6_0le, i6_le0, i6_eq0, b10_0, ite_not, Int.reduceLT, Int.reduceLE, Int.reduceEq, Int.reduceNeg, if_true, if_false, ite_true, ite_false, reduceIte, eq_self, not_true, not_false_eq_true]; try refine tc_ite (fun _ => ?_) (fun _ => ?_) <;> try (exfalso; omega)))
        all_goals first
          | exact hfin _
          | omega
  · intro d ⟨⟨d27, d1, d2, d4⟩, d6, d7, df, dh, dz⟩
    rw [if_neg (fun z => z dz)] at hb
    obtain ⟨h1, h2, h3, h4⟩ := pr4 hb
    have ds0 : d s 0 = W := by rw [df s (by omega) (by omega)]; exact w3.1
    simp only [r40_6]
    repeat' (first | (simp (disch := first | omega | exact Nat.le_of_ble_eq_true rfl | exact rfl | assumption | (simp (disch := omega) only [fr_ne, fr_same]; first | assumption | omega)) only [r40_0, r40_1, v40_1_0, r40_4, r40_5r, r40_7, r40_8, r40_11, r40_17, r40_18, r40_24, r40_25, r40_26, r40_29, v40_29_0, r40_35, r40_36, r40_39, r40_42, r40_43, r40_46, r40_49, r40_50, r40_53, r40_54, r40_55, r40_56, r40_57, r40_58, r40_61, v40_61_0, r40_64, r40_66, r40_67, r40_68, r40_69, r40_69A, r40_70, r40_73, r40_74, r40_75, r40_78, r40_81, r40_82, r40_83, r40_86, r40_87, v40_87_0, r40_90r, r40_93, r40_96, r40_97, r40_97A, r40_98, r40_101, r40_102, r40_103, r40_106, g0_9_0, g0_95_8, g0_38_0, g0_38_2, g0_44_0, g0_44_2, g0_102_8, g0_15_0, p0_44_0, p0_44_2, p0_15_0, o0_len, o0_g5, o8_len, o8_g0, o0_g4, o2_len, o2_g4, o0_g2, o2_g2, o8_g5, o0_g6, o0_s2, o2_s2, o0_s6, il_s, bl_s, bl_z, ll_s, is_s, bs_s, bs_z, ls_s, al_s, al_b, al_l, fr_ne, fr_same, fr_fr, Nat.reduceEqDiff, tc_gf3_s, tc_ql2_s, tc_ws_0, tc_ws_i, tc_ws_l, tc_ws_r, Nat.reduceLeDiff, Nat.reduceAdd, Nat.reduceLT, true_and, and_true, if_true, if_false, tc_K, Option.toList_some, Option.toList_none, List.nil_append, List.cons_append, ite_true, ite_false, Int.cast_ofNat_Int, reduceIte, i3_add_eq, i3_sub_eq, Int.add_sub_cancel, Int.add_neg_cancel_right, hO hL69 h69, hOs h69, ShoS_g0 hSh, ShoS_s0 hSh, ShoS_g1 hSh, ShoS_s1 hSh, ShoS_g2 hSh, ShoS_s2 hSh, ShoS_g3 hSh, ShoS_s3 hSh, ShoS_g4 hSh, ShoS_s4 hSh, ShoS_g5 hSh, ShoS_s5 hSh, ShoS_g6 hSh, ShoS_s6 hSh, ShoS_g7 hSh, ShoS_s7 hSh, ds0, d6]) | (simp only [r40_14, r40_21, r40_32, i6_lt0, i6_0lt, i6_0le, i6_le0, i6_eq0, b10_0, ite_not, Int.reduceLT, Int.reduceLE, Int.reduceEq, Int.reduceNeg, if_true, if_false, ite_true, ite_false, reduceIte, eq_self, not_true, not_false_eq_true]; try refine tc_ite (fun _ => ?_) (fun _ => ?_) <;> try (exfalso; omega)))
    all_goals try omega
    have kf : ∀ F a, ¬ a = 69 → ¬ a = s + 1 → fr d 69 F a = c a := fun F a a1 a2 => by rw [fr_ne a1]; exact df a a1 a2
    refine hq _ (fun a a1 a2 => kf _ a a1 (by omega)) (by rw [fr_same, fu_ne (by omega)]; exact d1) (by rw [fr_same, fu_ne (by omega), ← h1]; exact d4) fun _ => ⟨by rw [fr_same, fu_ne (by omega), d2, ← h2], by rw [fr_same, fu_same, ← h3], ?_, ?_⟩
    · rw [fr_same, fu_ne (by omega), d7, w2, ← h4, fr_ne (by omega)]
    · have eo : ∀ a, ¬ a = 4 → B' a = B a := fun a ha => by rw [← h4, fr_ne ha]
      have e4 : B' 4 = rwh g (B 4) q W R := by rw [← h4, fr_same]
      unfold SHO SB
      rw [e4, eo 0 (by omega), eo 1 (by omega), eo 2 (by omega), eo 3 (by omega), eo 5 (by omega), hWW]
      rw [kf _ s (by omega) (by omega), kf _ (s + 2) (by omega) (by omega), kf _ (s + 3) (by omega) (by omega), kf _ (s + 4) (by omega) (by omega), kf _ (s + 5) (by omega) (by omega), kf _ (s + 6) (by omega) (by omega), kf _ (s + 7) (by omega) (by omega)]
      refine ⟨w3, w4, w5, w6, w7, fun x x1 x2 => ?_⟩
      rw [fr_ne (by omega), dh x]
      unfold rwh
      rw [hXX]
      by_cases hx2 : X ≤ x ∧ x < X + W
      · rw [if_pos hx2, if_pos hx2]
      · rw [if_neg hx2, if_neg hx2]
        exact w8 x x1 x2
theorem p19_1 {K pc n a : Nat} {ls st fs : List AV} {h : List SC} {Q : Option AV → List SC → Nat → Prop} : tc_pf K pc ls st h n Q 0 19 a (.inl 1) (some (.inr (.inr (.inr (0, fs))))) = (7 < fs.length ∧ tc_W K pc ls st (h.set a (.inr (.inr (.inr (0, fs.set 7 (.inl 1)))))) n Q) := p0_19_0 (by decide)
theorem p19_0 {K pc n a : Nat} {ls st fs : List AV} {h : List SC} {Q : Option AV → List SC → Nat → Prop} : tc_pf K pc ls st h n Q 0 19 a (.inl 0) (some (.inr (.inr (.inr (0, fs))))) = (7 < fs.length ∧ tc_W K pc ls st (h.set a (.inr (.inr (.inr (0, fs.set 7 (.inl 0)))))) n Q) := p0_19_0 (by decide)
theorem c44_f (hB : BRd L sh s) {F : Int} (hF : ¬ F = 0) (hq : ∀ e, BF c e s → e 69 1 = N → e 69 4 = F → Q none (hp L sh e) n) (i : Int) (d : Nat → Int → Int) (A : Int) (hi : 0 ≤ i) (hi2 : i ≤ 3) (hI : BF c d s ∧ d 69 1 = N ∧ d 69 4 = F ∧ -10 - i ≤ A ∧ A ≤ 50) : tc_W 44 4 [rf 69, .inl A, .inl i] [] (hp L sh d) n Q := by
  obtain ⟨hL, h69, h27, hSh, hs⟩ := id hB
  have hL69 : 69 < L := by omega
  refine lq_2 (N := 3) (P := fun i (d : Nat → Int → Int) (A : Int) => tc_W 44 4 [rf 69, .inl A, .inl i] [] (hp L sh d) n Q) (I := fun i d A => BF c d s ∧ d 69 1 = N ∧ d 69 4 = F ∧ -10 - i ≤ A ∧ A ≤ 50) ?_ ?_ i d A hi hi2 hI
  · intro i d A hi hi2 ⟨h1, h2, h3, h4, h5⟩ ih
    have h38 := fun Q => c38f_b (c := d) (n := n) (Q := Q) (lo := 0) (hi := 9) h69 h27 hL (by rw [h3]; exact hF)
    simp only [r44_4]
    repeat' (first | (simp (disch := first | omega | exact Nat.le_of_ble_eq_true rfl | exact rfl | assumption | (simp (disch := omega) only [fr_ne, fr_same]; first | assumption | omega)) only [r44_0, r44_1r, r44_2, r44_3i, r44_5, r44_6, r44_9, r44_12, r44_16, r44_17, r44_20, r44_23, r44_24, r44_25, r44_26, r44_28, v44_28_0, r44_31, r44_32, r44_33, r44_34, r44_37, r44_40, r44_41, r44_42, r44_43r, r44_44i, r44_47, r44_50, r44_51, r44_57, r44_61, r44_62, r44_63, r44_66, r44_67, v44_67_0, r44_70, r44_71, r44_72, r44_75, g0_9_0, g0_125_8, g0_38_0, g0_38_2, g0_128_0, g0_128_2, p0_19_0, o0_len, o0_g5, o8_len, o8_g10, o0_g4, o2_len, o2_g4, o0_g3, o2_g3, o0_s7, il_s, bl_s, bl_z, ll_s, is_s, bs_s, bs_z, ls_s, al_s, al_b, al_l, fr_ne, fr_same, fr_fr, Nat.reduceEqDiff, tc_gf3_s, tc_ql2_s, tc_ws_0, tc_ws_i, tc_ws_l, tc_ws_r, Nat.reduceLeDiff, Nat.reduceAdd, Nat.reduceLT, true_and, and_true, if_true, if_false, tc_K, Option.toList_some, Option.toList_none, List.nil_append, List.cons_append, ite_true, ite_false, Int.cast_ofNat_Int, reduceIte, i3_add_eq, i3_sub_eq, Int.add_sub_cancel, Int.add_neg_cancel_right, hO hL69 h69, ShoS_g0 hSh, ShoS_s0 hSh, ShoS_g1 hSh, ShoS_s1 hSh, ShoS_g2 hSh, ShoS_s2 hSh, ShoS_g3 hSh, ShoS_s3 hSh, ShoS_g4 hSh, ShoS_s4 hSh, ShoS_g5 hSh, ShoS_s5 hSh, ShoS_g6 hSh, ShoS_s6 hSh, ShoS_g7 hSh, ShoS_s7 hSh, h38, fu_same]) | (simp only [r44_13, r44_54, r44_58, i6_lt0, i6_0lt, i6_0le, i6_le0, i6_eq0, b10_0, ite_not, Int.reduceLT, Int.reduceLE, Int.reduceEq, Int.reduceNeg, if_true, if_false, ite_true, ite_false, reduceIte, eq_self, not_true, not_false_eq_true]; try refine tc_ite (fun _ => ?_) (fun _ => ?_) <;> try (exfalso; omega)))
    all_goals try omega
    refine ih _ _ ⟨fun a a1 a2 => by rw [fr_ne (by omega)]; exact h1 a a1 a2, by rw [fr_ne (by omega)]; exact h2, by rw [fr_ne (by omega)]; exact h3, by omega, by omega⟩
  · intro d A ⟨h1, h2, h3, h4, h5⟩
    have hq' := hq (fr d 69 (fu (d 69) 7 1)) (fun a a1 a2 => by rw [fr_ne a1]; exact h1 a a1 a2) (by rw [fr_same, fu_ne (by omega)]; exact h2) (by rw [fr_same, fu_ne (by omega)]; exact h3)
    simp only [r44_4]
    repeat' (first | (simp (disch := first | omega | exact Nat.le_of_ble_eq_true rfl | exact rfl | assumption | (simp (disch := omega) only [fr_ne, fr_same]; first | assumption | omega)) only [r44_0, r44_1r, r44_2, r44_3i, r44_5, r44_6, r44_9, r44_12, r44_16, r44_17, r44_20, r44_23, r44_24, r44_25, r44_26, r44_28, v44_28_0, r44_31, r44_32, r44_33, r44_34, r44_37, r44_40, r44_41, r44_42, r44_43r, r44_44i, r44_47, r44_50, r44_51, r44_57, r44_61, r44_62, r44_63, r44_66, r44_67, v44_67_0, r44_70, r44_71, r44_72, r44_75, g0_9_0, g0_125_8, g0_38_0, g0_38_2, g0_128_0, g0_128_2, p0_19_0, o0_len, o0_g5, o8_len, o8_g10, o0_g4, o2_len, o2_g4, o0_g3, o2_g3, o0_s7, il_s, bl_s, bl_z, ll_s, is_s, bs_s, bs_z, ls_s, al_s, al_b, al_l, fr_ne, fr_same, fr_fr, Nat.reduceEqDiff, tc_gf3_s, tc_ql2_s, tc_ws_0, tc_ws_i, tc_ws_l, tc_ws_r, Nat.reduceLeDiff, Nat.reduceAdd, Nat.reduceLT, true_and, and_true, if_true, if_false, tc_K, Option.toList_some, Option.toList_none, List.nil_append, List.cons_append, ite_true, ite_false, Int.cast_ofNat_Int, reduceIte, i3_add_eq, i3_sub_eq, Int.add_sub_cancel, Int.add_neg_cancel_right, p19_1, hO hL69 h69, hOs h69, ShoS_g0 hSh, ShoS_s0 hSh, ShoS_g1 hSh, ShoS_s1 hSh, ShoS_g2 hSh, ShoS_s2 hSh, ShoS_g3 hSh, ShoS_s3 hSh, ShoS_g4 hSh, ShoS_s4 hSh, ShoS_g5 hSh, ShoS_s5 hSh, ShoS_g6 hSh, ShoS_s6 hSh, ShoS_g7 hSh, ShoS_s7 hSh, h3]) | (simp only [r44_13, r44_54, r44_58, i6_lt0, i6_0lt, i6_0le, i6_le0, i6_eq0, b10_0, ite_not, Int.reduceLT, Int.reduceLE, Int.reduceEq, Int.reduceNeg, if_true, if_false, ite_true, ite_false, reduceIte, eq_self, not_true, not_false_eq_true]; try refine tc_ite (fun _ => ?_) (fun _ => ?_) <;> try (exfalso; omega)))
    all_goals first
      | exact hq'
      | omega
theorem c44_s (hB : BRd L sh s) (hT : TP g N) {d : Nat → Int → Int} (hR : RD d g N p) (hp0 : 0 ≤ p ∧ p ≤ N) {i A V : Int} (hi : 0 ≤ i ∧ i < 3) (hA : -10 ≤ A ∧ A ≤ 40) (h0 : nmf g N p 0 9 = 0) (hV : nmv g N p = V)
    (hq : ∀ e, RD e g N (nmp g N p) → (∀ a, ¬ a = 69 → ¬ a = s + 6 → e a = d a) → e (s + 6) = fu (d (s + 6)) i V → e 69 6 = d 69 6 → e 69 7 = d 69 7 → e 69 3 = sk g N p → tc_W 44 4 [rf 69, .inl (A + V), .inl (i + 1)] [] (hp L sh e) n Q) : tc_W 44 4 [rf 69, .inl A, .inl i] [] (hp L sh d) n Q := by
  obtain ⟨hL, h69, h27, hSh, hs⟩ := id hB
  have hL69 : 69 < L := by omega
  obtain ⟨d1, a1, ⟨b27, b1, b2, b4⟩, a3, a4, a5, a6⟩ := c38k hB hT hR hp0 h0
  have v := nmf_0 h0 hp0.1
  rw [hV] at a1 v
  simp only [r44_4]
  repeat' (first | (simp (disch := first | omega | exact Nat.le_of_ble_eq_true rfl | exact rfl | assumption | (simp (disch := omega) only [fr_ne, fr_same]; first | assumption | omega)) only [r44_0, r44_1r, r44_2, r44_3i, r44_5, r44_6, r44_9, r44_12, r44_16, r44_17, r44_20, r44_23, r44_24, r44_25, r44_26, r44_28, v44_28_0, r44_31, r44_32, r44_33, r44_34, r44_37, r44_40, r44_41, r44_42, r44_43r, r44_44i, r44_47, r44_50, r44_51, r44_57, r44_61, r44_62, r44_63, r44_66, r44_67, v44_67_0, r44_70, r44_71, r44_72, r44_75, g0_9_0, g0_125_8, g0_38_0, g0_38_2, g0_128_0, g0_128_2, p0_19_0, o0_len, o0_g5, o8_len, o8_g10, o0_g4, o2_len, o2_g4, o0_g3, o2_g3, o0_s7, il_s, bl_s, bl_z, ll_s, is_s, bs_s, bs_z, ls_s, al_s, al_b, al_l, fr_ne, fr_same, fr_fr, Nat.reduceEqDiff, tc_gf3_s, tc_ql2_s, tc_ws_0, tc_ws_i, tc_ws_l, tc_ws_r, Nat.reduceLeDiff, Nat.reduceAdd, Nat.reduceLT, true_and, and_true, if_true, if_false, tc_K, Option.toList_some, Option.toList_none, List.nil_append, List.cons_append, ite_true, ite_false, Int.cast_ofNat_Int, reduceIte, i3_add_eq, i3_sub_eq, Int.add_sub_cancel, Int.add_neg_cancel_right, hO hL69 h69, ShoS_g0 hSh, ShoS_s0 hSh, ShoS_g1 hSh, ShoS_s1 hSh, ShoS_g2 hSh, ShoS_s2 hSh, ShoS_g3 hSh, ShoS_s3 hSh, ShoS_g4 hSh, ShoS_s4 hSh, ShoS_g5 hSh, ShoS_s5 hSh, ShoS_g6 hSh, ShoS_s6 hSh, ShoS_g7 hSh, ShoS_s7 hSh, a1, fu_same]) | (simp only [r44_13, r44_54, r44_58, i6_lt0, i6_0lt, i6_0le, i6_le0, i6_eq0, b10_0, ite_not, Int.reduceLT, Int.reduceLE, Int.reduceEq, Int.reduceNeg, if_true, if_false, ite_true, ite_false, reduceIte, eq_self, not_true, not_false_eq_true]; try refine tc_ite (fun _ => ?_) (fun _ => ?_) <;> try (exfalso; omega)))
  all_goals try omega
  refine hq _ ⟨?_, ?_, ?_, ?_⟩ (fun a q1 q2 => by rw [fr_ne q2]; exact a3 a q1) ?_ ?_ ?_ ?_
  · rw [fr_ne (by omega)]
    exact b27
  · rw [fr_ne (by omega)]
    exact b1
  · rw [fr_ne (by omega)]
    exact b2
  · rw [fr_ne (by omega)]
    exact b4
  · rw [fr_same, a3 (s + 6) (by omega)]
  · rw [fr_ne (by omega)]
    exact a4
  · rw [fr_ne (by omega)]
    exact a5
  · rw [fr_ne (by omega)]
    exact a6
theorem c44_x (hB : BRd L sh s) (hT : TP g N) {d : Nat → Int → Int} (hR : RD d g N p) (hp0 : 0 ≤ p ∧ p ≤ N) {i A F : Int} (hi : 0 ≤ i ∧ i < 3) (hA : -10 ≤ A ∧ A ≤ 40) (hF : nmf g N p 0 9 = F) (h0 : ¬ F = 0) (hBF : BF c d s)
    (hq : ∀ e, BF c e s → e 69 1 = N → e 69 4 = F → Q none (hp L sh e) n) : tc_W 44 4 [rf 69, .inl A, .inl i] [] (hp L sh d) n Q := by
  obtain ⟨hL, h69, h27, hSh, hs⟩ := id hB
  have hL69 : 69 < L := by omega
  obtain ⟨d1, a1, a2, a3, a4⟩ := c38x hB hT hR hp0 hF h0
  simp only [r44_4]
  repeat' (first | (simp (disch := first | omega | exact Nat.le_of_ble_eq_true rfl | exact rfl | assumption | (simp (disch := omega) only [fr_ne, fr_same]; first | assumption | omega)) only [r44_0, r44_1r, r44_2, r44_3i, r44_5, r44_6, r44_9, r44_12, r44_16, r44_17, r44_20, r44_23, r44_24, r44_25, r44_26, r44_28, v44_28_0, r44_31, r44_32, r44_33, r44_34, r44_37, r44_40, r44_41, r44_42, r44_43r, r44_44i, r44_47, r44_50, r44_51, r44_57, r44_61, r44_62, r44_63, r44_66, r44_67, v44_67_0, r44_70, r44_71, r44_72, r44_75, g0_9_0, g0_125_8, g0_38_0, g0_38_2, g0_128_0, g0_128_2, p0_19_0, o0_len, o0_g5, o8_len, o8_g10, o0_g4, o2_len, o2_g4, o0_g3, o2_g3, o0_s7, il_s, bl_s, bl_z, ll_s, is_s, bs_s, bs_z, ls_s, al_s, al_b, al_l, fr_ne, fr_same, fr_fr, Nat.reduceEqDiff, tc_gf3_s, tc_ql2_s, tc_ws_0, tc_ws_i, tc_ws_l, tc_ws_r, Nat.reduceLeDiff, Nat.reduceAdd, Nat.reduceLT, true_and, and_true, if_true, if_false, tc_K, Option.toList_some, Option.toList_none, List.nil_append, List.cons_append, ite_true, ite_false, Int.cast_ofNat_Int, reduceIte, i3_add_eq, i3_sub_eq, Int.add_sub_cancel, Int.add_neg_cancel_right, hO hL69 h69, ShoS_g0 hSh, ShoS_s0 hSh, ShoS_g1 hSh, ShoS_s1 hSh, ShoS_g2 hSh, ShoS_s2 hSh, ShoS_g3 hSh, ShoS_s3 hSh, ShoS_g4 hSh, ShoS_s4 hSh, ShoS_g5 hSh, ShoS_s5 hSh, ShoS_g6 hSh, ShoS_s6 hSh, ShoS_g7 hSh, ShoS_s7 hSh, a1, fu_same]) | (simp only [r44_13, r44_54, r44_58, i6_lt0, i6_0lt, i6_0le, i6_le0, i6_eq0, b10_0, ite_not, Int.reduceLT, Int.reduceLE, Int.reduceEq, Int.reduceNeg, if_true, if_false, ite_true, ite_false, reduceIte, eq_self, not_true, not_false_eq_true]; try refine tc_ite (fun _ => ?_) (fun _ => ?_) <;> try (exfalso; omega)))
  all_goals try omega
  refine c44_f hB h0 hq (i + 1) _ _ (by omega) (by omega) ⟨fun a q1 q2 => ?_, ?_, ?_, by omega, by omega⟩
  · rw [fr_ne (by omega), a2 a q1]
    exact hBF a q1 q2
  · rw [fr_ne (by omega)]
    exact a3
  · rw [fr_ne (by omega)]
    exact a4
theorem c44 (hB : BRd L sh s) (hT : TP g N) (hR : RD c g N p) (hp0 : 0 ≤ p ∧ p ≤ N) (hRB : RB c s B R) (hb : bpt g N 4 p R B = (f, p', R', B'))
    (hq : ∀ e, BF c e s → e 69 1 = N → e 69 4 = f → (f = 0 → e 69 2 = p' ∧ RB e s B' R') → Q none (hp L sh e) n) : tc_C 44 [rf 69] (hp L sh c) n Q := by
  obtain ⟨hL, h69, h27, hSh, hs⟩ := id hB
  have hL69 : 69 < L := by omega
  have r1 := nm_rng (g := g) hp0
  have r2 := nm_rng (g := g) (p := nmp g N p) ⟨r1.1, r1.2.1⟩
  have r3 := nm_rng (g := g) (p := nmp g N (nmp g N p)) ⟨r2.1, r2.2.1⟩
  have hN := hT.1
  unfold bpt at hb
  rw [if_neg (by omega), if_neg (by omega), if_neg (by omega), if_neg (by omega)] at hb
  obtain ⟨w1, w2, w3, w4, w5, w6, w7, w8⟩ := hRB
  show tc_W 44 0 [rf 69, tc_nil, tc_nil] [] _ _ Q
  repeat' (first | (simp (disch := first | omega | exact Nat.le_of_ble_eq_true rfl | exact rfl | assumption | (simp (disch := omega) only [fr_ne, fr_same]; first | assumption | omega)) only [r44_0, r44_1r, r44_2, r44_3i, r44_5, r44_6, r44_9, r44_12, r44_16, r44_17, r44_20, r44_23, r44_24, r44_25, r44_26, r44_28, v44_28_0, r44_31, r44_32, r44_33, r44_34, r44_37, r44_40, r44_41, r44_42, r44_43r, r44_44i, r44_47, r44_50, r44_51, r44_57, r44_61, r44_62, r44_63, r44_66, r44_67, v44_67_0, r44_70, r44_71, r44_72, r44_75, g0_9_0, g0_125_8, g0_38_0, g0_38_2, g0_128_0, g0_128_2, p0_19_0, o0_len, o0_g5, o8_len, o8_g10, o0_g4, o2_len, o2_g4, o0_g3, o2_g3, o0_s7, il_s, bl_s, bl_z, ll_s, is_s, bs_s, bs_z, ls_s, al_s, al_b, al_l, fr_ne, fr_same, fr_fr, Nat.reduceEqDiff, tc_gf3_s, tc_ql2_s, tc_ws_0, tc_ws_i, tc_ws_l, tc_ws_r, Nat.reduceLeDiff, Nat.reduceAdd, Nat.reduceLT, true_and, and_true, if_true, if_false, tc_K, Option.toList_some, Option.toList_none, List.nil_append, List.cons_append, ite_true, ite_false, Int.cast_ofNat_Int, reduceIte, i3_add_eq, i3_sub_eq, Int.add_sub_cancel, Int.add_neg_cancel_right]) | (simp only [r44_13, r44_54, r44_58, i6_lt0, i6_0lt, i6_0le, i6_le0, i6_eq0, b10_0, ite_not, Int.reduceLT, Int.reduceLE, Int.reduceEq, Int.reduceNeg, if_true, if_false, ite_true, ite_false, reduceIte, eq_self, not_true, not_false_eq_true]; try refine tc_ite (fun _ => ?_) (fun _ => ?_) <;> try (exfalso; omega)))
  by_cases f1 : nmf g N p 0 9 = 0
  · rw [if_neg (fun q => q f1)] at hb
    have v1 := nmf_0 f1 hp0.1
    refine c44_s hB hT hR hp0 (by omega) (by omega) f1 rfl ?_
    intro e1 a1 a2 a3 a4 a5 a6
    by_cases f2 : nmf g N (nmp g N p) 0 9 = 0
    · rw [if_neg (fun q => q f2)] at hb
      have v2 := nmf_0 f2 r1.1
      refine c44_s hB hT a1 ⟨r1.1, r1.2.1⟩ (by omega) (by omega) f2 rfl ?_
      intro e2 b1 b2 b3 b4 b5 b6
      by_cases f3 : nmf g N (nmp g N (nmp g N p)) 0 9 = 0
      · rw [if_neg (fun q => q f3)] at hb
        have v3 := nmf_0 f3 r2.1
        refine c44_s hB hT b1 ⟨r2.1, r2.2.1⟩ (by omega) (by omega) f3 rfl ?_
        intro e3 l1 l2 l3 l4 l5 l6
        obtain ⟨l27, m1, m2, m4⟩ := l1
        have ed : ∀ a, ¬ a = 69 → ¬ a = s + 6 → e3 a = c a := fun a q1 q2 => by rw [l2 a q1 q2, b2 a q1 q2, a2 a q1 q2]
        have e6 : e3 (s + 6) = fu (fu (fu (c (s + 6)) 0 (nmv g N p)) 1 (nmv g N (nmp g N p))) 2 (nmv g N (nmp g N (nmp g N p))) := by rw [l3, b3, a3]; rfl
        generalize nmv g N p = V1 at *
        generalize nmv g N (nmp g N p) = V2 at *
        generalize nmv g N (nmp g N (nmp g N p)) = V3 at *
        simp only [r44_4]
        by_cases f4 : V1 + V2 + V3 = 0
        · rw [if_pos f4] at hb
          obtain ⟨h1, _⟩ := pr4 hb
          have h34 := fun Q => c34_b (c := e3) (n := n) (Q := Q) (a := sk g N (nmp g N (nmp g N p))) (k := 1) h69 h27 hL (by omega) (by omega)
          rw [if_pos m4] at h34
          have hz : 0 + V1 + V2 + V3 = 0 := by omega
          have hq' := hq (fr e3 69 (fu (fu (e3 69) 4 (1 + 8 * sk g N (nmp g N (nmp g N p)) + 1)) 7 1)) (fun a q1 q2 => by rw [fr_ne q1]; exact ed a q1 (by omega)) (by rw [fr_same, fu_ne (by omega), fu_ne (by omega)]; exact m1) (by rw [fr_same, fu_ne (by omega), fu_same]; exact h1) (fun z => by omega)
          repeat' (first | (simp (disch := first | omega | exact Nat.le_of_ble_eq_true rfl | exact rfl | assumption | (simp (disch := omega) only [fr_ne, fr_same]; first | assumption | omega)) only [r44_0, r44_1r, r44_2, r44_3i, r44_5, r44_6, r44_9, r44_12, r44_16, r44_17, r44_20, r44_23, r44_24, r44_25, r44_26, r44_28, v44_28_0, r44_31, r44_32, r44_33, r44_34, r44_37, r44_40, r44_41, r44_42, r44_43r, r44_44i, r44_47, r44_50, r44_51, r44_57, r44_61, r44_62, r44_63, r44_66, r44_67, v44_67_0, r44_70, r44_71, r44_72, r44_75, g0_9_0, g0_125_8, g0_38_0, g0_38_2, g0_128_0, g0_128_2, p0_19_0, o0_len, o0_g5, o8_len, o8_g10, o0_g4, o2_len, o2_g4, o0_g3, o2_g3, o0_s7, il_s, bl_s, bl_z, ll_s, is_s, bs_s, bs_z, ls_s, al_s, al_b, al_l, fr_ne, fr_same, fr_fr, Nat.reduceEqDiff, tc_gf3_s, tc_ql2_s, tc_ws_0, tc_ws_i, tc_ws_l, tc_ws_r, Nat.reduceLeDiff, Nat.reduceAdd, Nat.reduceLT, true_and, and_true, if_true, if_false, tc_K, Option.toList_some, Option.toList_none, List.nil_append, List.cons_append, ite_true, ite_false, Int.cast_ofNat_Int, reduceIte, i3_add_eq, i3_sub_eq, Int.add_sub_cancel, Int.add_neg_cancel_right, p19_1, hO hL69 h69, hOs h69, ShoS_g0 hSh, ShoS_s0 hSh, ShoS_g1 hSh, ShoS_s1 hSh, ShoS_g2 hSh, ShoS_s2 hSh, ShoS_g3 hSh, ShoS_s3 hSh, ShoS_g4 hSh, ShoS_s4 hSh, ShoS_g5 hSh, ShoS_s5 hSh, ShoS_g6 hSh, ShoS_s6 hSh, ShoS_g7 hSh, ShoS_s7 hSh, m4, l6, hz, h34]) | (simp only [r44_13, r44_54, r44_58, i6_lt0, i6_0lt, i6_0le, i6_le0, i6_eq0, b10_0, ite_not, Int.reduceLT, Int.reduceLE, Int.reduceEq, Int.reduceNeg, if_true, if_false, ite_true, ite_false, reduceIte, eq_self, not_true, not_false_eq_true]; try refine tc_ite (fun _ => ?_) (fun _ => ?_) <;> try (exfalso; omega)))
          all_goals first
            | exact hq'
            | omega
        · rw [if_neg f4] at hb
          obtain ⟨h1, h2, h3, h4⟩ := pr4 hb
          have hq' := hq (fr e3 69 (fu (e3 69) 7 1)) (fun a q1 q2 => by rw [fr_ne q1]; exact ed a q1 (by omega)) (by rw [fr_same, fu_ne (by omega)]; exact m1) (by rw [fr_same, fu_ne (by omega), ← h1]; exact m4) (fun _ => ⟨by rw [fr_same, fu_ne (by omega), m2, ← h2], by rw [fr_same, fu_ne (by omega), l4, b4, a4, ← h3]; exact w1, ?_, ?_⟩)
          · repeat' (first | (simp (disch := first | omega | exact Nat.le_of_ble_eq_true rfl | exact rfl | assumption | (simp (disch := omega) only [fr_ne, fr_same]; first | assumption | omega)) only [r44_0, r44_1r, r44_2, r44_3i, r44_5, r44_6, r44_9, r44_12, r44_16, r44_17, r44_20, r44_23, r44_24, r44_25, r44_26, r44_28, v44_28_0, r44_31, r44_32, r44_33, r44_34, r44_37, r44_40, r44_41, r44_42, r44_43r, r44_44i, r44_47, r44_50, r44_51, r44_57, r44_61, r44_62, r44_63, r44_66, r44_67, v44_67_0, r44_70, r44_71, r44_72, r44_75, g0_9_0, g0_125_8, g0_38_0, g0_38_2, g0_128_0, g0_128_2, p0_19_0, o0_len, o0_g5, o8_len, o8_g10, o0_g4, o2_len, o2_g4, o0_g3, o2_g3, o0_s7, il_s, bl_s, bl_z, ll_s, is_s, bs_s, bs_z, ls_s, al_s, al_b, al_l, fr_ne, fr_same, fr_fr, Nat.reduceEqDiff, tc_gf3_s, tc_ql2_s, tc_ws_0, tc_ws_i, tc_ws_l, tc_ws_r, Nat.reduceLeDiff, Nat.reduceAdd, Nat.reduceLT, true_and, and_true, if_true, if_false, tc_K, Option.toList_some, Option.toList_none, List.nil_append, List.cons_append, ite_true, ite_false, Int.cast_ofNat_Int, reduceIte, i3_add_eq, i3_sub_eq, Int.add_sub_cancel, Int.add_neg_cancel_right, p19_1, hO hL69 h69, hOs h69, ShoS_g0 hSh, ShoS_s0 hSh, ShoS_g1 hSh, ShoS_s1 hSh, ShoS_g2 hSh, ShoS_s2 hSh, ShoS_g3 hSh, ShoS_s3 hSh, ShoS_g4 hSh, ShoS_s4 hSh, ShoS_g5 hSh, ShoS_s5 hSh, ShoS_g6 hSh, ShoS_s6 hSh, ShoS_g7 hSh, ShoS_s7 hSh, m4]) | (simp only [r44_13, r44_54, r44_58, i6_lt0, i6_0lt, i6_0le, i6_le0, i6_eq0, b10_0, ite_not, Int.reduceLT, Int.reduceLE, Int.reduceEq, Int.reduceNeg, if_true, if_false, ite_true, ite_false, reduceIte, eq_self, not_true, not_false_eq_true]; try refine tc_ite (fun _ => ?_) (fun _ => ?_) <;> try (exfalso; omega)))
            all_goals first
              | exact hq'
              | omega
          · rw [fr_same, fu_same, ← h4, fr_same, fu_same]
          · have e0 : B' 0 = fu (fu (fu (fu (B 0) 5 V1) 6 V2) 7 V3) 4 1 := by rw [← h4, fr_same]
            have eo : ∀ a, ¬ a = 0 → B' a = B a := fun a h1 => by rw [← h4, fr_ne h1]
            unfold SHO SB
            rw [e0, eo 1 (by omega), eo 2 (by omega), eo 3 (by omega), eo 4 (by omega), eo 5 (by omega)]
            simp (disch := omega) only [fr_ne, fu_same, fu_ne, ed, e6]
            exact ⟨w3, w4, w5, w6, ⟨trivial, trivial, trivial⟩, w8⟩
      · rw [if_pos f3] at hb
        obtain ⟨h1, _⟩ := pr4 hb
        have hf : ¬ f = 0 := fun q => f3 (h1.trans q)
        exact c44_x hB hT b1 ⟨r2.1, r2.2.1⟩ (by omega) (by omega) h1 hf (fun a q1 q2 => by rw [b2 a q1 (by omega), a2 a q1 (by omega)]) fun e q1 q2 q3 => hq e q1 q2 q3 fun z => absurd z hf
    · rw [if_pos f2] at hb
      obtain ⟨h1, _⟩ := pr4 hb
      have hf : ¬ f = 0 := fun q => f2 (h1.trans q)
      exact c44_x hB hT a1 ⟨r1.1, r1.2.1⟩ (by omega) (by omega) h1 hf (fun a q1 q2 => a2 a q1 (by omega)) fun e q1 q2 q3 => hq e q1 q2 q3 fun z => absurd z hf
  · rw [if_pos f1] at hb
    obtain ⟨h1, _⟩ := pr4 hb
    have hf : ¬ f = 0 := fun q => f1 (h1.trans q)
    exact c44_x hB hT hR hp0 (by omega) (by omega) h1 hf BF.refl fun e q1 q2 q3 => hq e q1 q2 q3 fun z => absurd z hf
theorem c35 (hB : BRd L sh s) (hRB : RB c s B R) (hW : WP B R k) {w : Int} (hw : 0 ≤ w ∧ w ≤ 4) : tc_C 35 [rf 69, .inl k, .inl w] (hp L sh c) n Q = Q (some (.inl (tmy k w R B))) (hp L sh c) n := tc_det fun Q hq => by
  obtain ⟨hL, h69, h27, hSh, hs⟩ := id hB
  have hL69 : 69 < L := by omega
  obtain ⟨w1, w2, w3, w4, _⟩ := hRB
  obtain ⟨v1, v2, v3, v4, v5, _⟩ := hW
  obtain ⟨w41, w42, w43⟩ := w4
  unfold tmy at hq
  show tc_W 35 0 [rf 69, .inl k, .inl w] [] _ _ Q
  rcases (by omega : w = 0 ∨ w = 1 ∨ w = 2 ∨ w = 3 ∨ w = 4) with rfl | rfl | rfl | rfl | rfl
  all_goals
    simp only [Int.reduceEq, if_true, if_false, reduceIte] at hq
    repeat' (first | (simp (disch := first | omega | exact Nat.le_of_ble_eq_true rfl | exact rfl | assumption | (simp (disch := omega) only [fr_ne, fr_same]; first | assumption | omega)) only [r35_0, r35_1, r35_6, r35_10, r35_11, r35_14, r35_15, r35_19, r35_20, r35_23, r35_27, r35_28h, r35_28f, r35_28t, r35_29, r35_30_0, r35_30_1, r35_30_2, r35_30_3, r35_30_d, r35_60, r35_61, r35_64, r35_65, r35_68, r35_74, r35_75, r35_78, r35_79h, r35_79f, r35_79t, r35_80, r35_81, r35_84, r35_87, r35_92, r35_93, r35_96, r35_97h, r35_97f, r35_97t, r35_98, r35_99, r35_102, r35_105, r35_110, r35_111, r35_114, r35_115h, r35_115f, r35_115t, r35_116, r35_117, r35_120h, r35_120f, r35_120t, r35_121, r35_122h, r35_122f, r35_122t, g0_15_0, g0_9_0, g0_64_8, g0_67_8, g0_70_8, g0_19_0, o0_len, o0_g6, o0_g5, o8_len, o8_g1, o8_g3, o8_g4, o0_g7, il_s, bl_s, bl_z, ll_s, is_s, bs_s, bs_z, ls_s, al_s, al_b, al_l, fr_ne, fr_same, fr_fr, Nat.reduceEqDiff, tc_gf3_s, tc_ql2_s, tc_ws_0, tc_ws_i, tc_ws_l, tc_ws_r, Nat.reduceLeDiff, Nat.reduceAdd, Nat.reduceLT, true_and, and_true, if_true, if_false, tc_K, Option.toList_some, Option.toList_none, List.nil_append, List.cons_append, ite_true, ite_false, Int.cast_ofNat_Int, reduceIte, i3_add_eq, i3_sub_eq, Int.add_sub_cancel, Int.add_neg_cancel_right, hO hL69 h69, ShoS_g0 hSh, ShoS_s0 hSh, ShoS_g1 hSh, ShoS_s1 hSh, ShoS_g2 hSh, ShoS_s2 hSh, ShoS_g3 hSh, ShoS_s3 hSh, ShoS_g4 hSh, ShoS_s4 hSh, ShoS_g5 hSh, ShoS_s5 hSh, ShoS_g6 hSh, ShoS_s6 hSh, ShoS_g7 hSh, ShoS_s7 hSh, w1, w2, w41, w42, w43]) | (simp only [r35_3, r35_7, r35_16, r35_24, r35_71, r35_89, r35_107, i6_lt0, i6_0lt, i6_0le, i6_le0, i6_eq0, b10_0, ite_not, Int.reduceLT, Int.reduceLE, Int.reduceEq, Int.reduceNeg, if_true, if_false, ite_true, ite_false, reduceIte, eq_self, not_true, not_false_eq_true]; try refine tc_ite (fun _ => ?_) (fun _ => ?_) <;> try (exfalso; omega)))
    all_goals first
      | (simp (disch := omega) only [if_pos, if_neg] at hq; exact hq)
      | omega
end BEACHD

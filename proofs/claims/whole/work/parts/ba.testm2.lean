/-! the reference: facts -/
section TESTN
variable {L : Nat} {sh : Nat → SH} {c : Nat → Int → Int} {n : Nat} {Q : Option AV → List SC → Nat → Prop} {g : Int → Int} {N p m s z f p' m' F W : Int} {T T' : List Tk} {O O' S : List Int}
/-- behind a fault: the sum behind a sign -/
theorem m200_z (hS : MS L sh) (hST : STRS sh c) (hTP : TP g N) (h95 : c 95 = g) (h21 : c 75 21 = N) (h22 : c 75 22 = p) (hp0 : 0 ≤ p ∧ p ≤ N) (h23 : c 75 23 = F) (hF : ¬ F = 0) (h28 : c 75 28 = m) (hm : 0 ≤ m ∧ m ≤ 90) (h30 : c 75 30 = 9) {b q : Int} (hb : b = 60 ∨ b = 61 ∨ b = 62) (hq2 : q = 0 ∨ q = 1)
    (hq : ∀ e, MFQ c e → RN e N (m + 1) → Q none (hp L sh e) n) : tc_W 200 94 [rf 75, .inl b, .inl q] [] (hp L sh c) n Q := by
  repeat' (first | (simp (disch := first | omega | exact Nat.le_of_ble_eq_true rfl | exact rfl | assumption | (simp only [fr_at, Nat.reduceEqDiff, if_false, if_true, reduceIte]; first | assumption | omega)) only [r200_0, r200_1, v200_1_11, r200_4, r200_5, v200_5_11, r200_8r, r200_9, r200_10, r200_15, r200_16, r200_21, r200_22, r200_27, r200_28, r200_29, r200_30, r200_33, v200_33_11, r200_36, r200_37, r200_38, r200_39, r200_42, v200_42_11, r200_45, r200_46, r200_46A, r200_47, r200_50, r200_51, r200_52, r200_55, r200_56, r200_61, r200_62, v200_62_11, r200_65, r200_70, r200_71, r200_74, r200_75i, r200_76, r200_77, r200_77A, r200_78, r200_81, r200_85, r200_86, r200_89, r200_90, r200_91, r200_94, r200_95, v200_95_11, r200_98, r200_99, r200_100, r200_105, r200_107, r200_110, r200_111, r200_116, r200_120, r200_121, r200_124, r200_125, r200_128, r200_132, r200_134, r200_137, r200_139, r200_140, v200_140_11, r200_143, g11_174_11, p11_174_11, mo_len, ms75 hS, mt75 hS, mo_g22, mo_s22, il_s, bl_s, bl_z, ll_s, is_s, bs_s, bs_z, ls_s, al_s, al_b, al_l, fr_at, fr_fr, Nat.reduceEqDiff, tc_gf3_s, tc_ql2_s, tc_ws_0, tc_ws_i, tc_ws_l, tc_ws_r, Nat.reduceLeDiff, Nat.reduceAdd, Nat.reduceLT, true_and, and_true, if_true, if_false, tc_K, Option.toList_some, Option.toList_none, List.nil_append, List.cons_append, ite_true, ite_false, Int.cast_ofNat_Int, reduceIte, i3_add_eq, i3_sub_eq, Int.add_sub_cancel, Int.add_neg_cancel_right]) | (simp only [r200_12, r200_18, r200_24, r200_58, r200_67, r200_82, r200_102, r200_113, r200_117, r200_129, i6_lt0, i6_0lt, i6_0le, i6_le0, i6_eq0, b10_0, ite_not, Int.reduceLT, Int.reduceLE, Int.reduceEq, Int.reduceNeg, if_true, if_false, ite_true, ite_false, reduceIte, eq_self, not_true, not_false_eq_true]; try refine tc_ite (fun _ => ?_) (fun _ => ?_) <;> try (exfalso; omega)))
  refine m190f hS hST hTP h95 h21 h22 hp0 h23 hF h28 hm h30 ?_
  intro e j1 j2
  have h194 := fun k v Q => m194f (c := e) (n := n) (Q := Q) (k := k) (v := v) (F := F) hS (by rw [j1.2 23 (by omega) (by omega)]; exact h23) hF
  have hq' := hq e j1 j2
  rcases hb with rfl | rfl | rfl
  all_goals
    rcases hq2 with rfl | rfl
    all_goals
      repeat' (first | (simp (disch := first | omega | exact Nat.le_of_ble_eq_true rfl | exact rfl | assumption | (simp only [fr_at, Nat.reduceEqDiff, if_false, if_true, reduceIte]; first | assumption | omega)) only [r200_0, r200_1, v200_1_11, r200_4, r200_5, v200_5_11, r200_8r, r200_9, r200_10, r200_15, r200_16, r200_21, r200_22, r200_27, r200_28, r200_29, r200_30, r200_33, v200_33_11, r200_36, r200_37, r200_38, r200_39, r200_42, v200_42_11, r200_45, r200_46, r200_46A, r200_47, r200_50, r200_51, r200_52, r200_55, r200_56, r200_61, r200_62, v200_62_11, r200_65, r200_70, r200_71, r200_74, r200_75i, r200_76, r200_77, r200_77A, r200_78, r200_81, r200_85, r200_86, r200_89, r200_90, r200_91, r200_94, r200_95, v200_95_11, r200_98, r200_99, r200_100, r200_105, r200_107, r200_110, r200_111, r200_116, r200_120, r200_121, r200_124, r200_125, r200_128, r200_132, r200_134, r200_137, r200_139, r200_140, v200_140_11, r200_143, g11_174_11, p11_174_11, mo_len, ms75 hS, mt75 hS, mo_g22, mo_s22, il_s, bl_s, bl_z, ll_s, is_s, bs_s, bs_z, ls_s, al_s, al_b, al_l, fr_at, fr_fr, Nat.reduceEqDiff, tc_gf3_s, tc_ql2_s, tc_ws_0, tc_ws_i, tc_ws_l, tc_ws_r, Nat.reduceLeDiff, Nat.reduceAdd, Nat.reduceLT, true_and, and_true, if_true, if_false, tc_K, Option.toList_some, Option.toList_none, List.nil_append, List.cons_append, ite_true, ite_false, Int.cast_ofNat_Int, reduceIte, i3_add_eq, i3_sub_eq, Int.add_sub_cancel, Int.add_neg_cancel_right, h194]) | (simp only [r200_12, r200_18, r200_24, r200_58, r200_67, r200_82, r200_102, r200_113, r200_117, r200_129, i6_lt0, i6_0lt, i6_0le, i6_le0, i6_eq0, b10_0, ite_not, Int.reduceLT, Int.reduceLE, Int.reduceEq, Int.reduceNeg, if_true, if_false, ite_true, ite_false, reduceIte, eq_self, not_true, not_false_eq_true]; try refine tc_ite (fun _ => ?_) (fun _ => ?_) <;> try (exfalso; omega)))
      all_goals first
        | exact hq'
        | omega
theorem m193x (hS : MS L sh) {q : Int} (hq0 : 0 ≤ q ∧ q ≤ 1000) (h28 : c 75 28 = m) (hm : 0 ≤ m ∧ m ≤ 62) (h23 : c 75 23 = F) (hm0 : F = 0 → m ≤ 60) : ∃ R : Int → Int, (∀ n Q, tc_C 193 [rf 75, .inl q] (hp L sh c) n Q = Q none (hp L sh (fr c 75 R)) n) ∧ (∀ i, ¬ i = 23 → ¬ i = 28 → R i = c 75 i) ∧ R 28 = m + 1 ∧ R 23 = fl F (if 60 ≤ m then 1 + 8 * q + 3 else 0) := by
  by_cases h60 : m = 60
  · refine ⟨fu (fu (c 75) 23 (if c 75 23 = 0 then 1 + 8 * q + 3 else c 75 23)) 28 (m + 1), fun n Q => by rw [m193 hS hq0 h28 (by omega), if_pos h60], fun i i1 i2 => by rw [fu_ne i2, fu_ne i1], by rw [fu_same], ?_⟩
    rw [fu_ne (by omega), fu_same, h23]
    unfold fl
    rw [if_pos (show 60 ≤ m by omega)]
  · refine ⟨fu (c 75) 28 (m + 1), fun n Q => by rw [m193 hS hq0 h28 (by omega), if_neg h60], fun i i1 i2 => by rw [fu_ne i2], by rw [fu_same], ?_⟩
    rw [fu_ne (by omega), h23]
    unfold fl
    by_cases hF : F = 0
    · rw [if_pos hF, if_neg (by have := hm0 hF; omega), hF]
    · rw [if_neg hF]
/-- the sign of a fact: what lies between the two sums -/
theorem m200_s (hS : MS L sh) (hTP : TP g N) (h95 : c 95 = g) (h21 : c 75 21 = N) (h22 : c 75 22 = p) (hp0 : 0 ≤ p ∧ p ≤ N) (h23 : c 75 23 = F) (h28 : c 75 28 = m) (hm : 0 ≤ m ∧ m ≤ 62) (hm0 : F = 0 → m ≤ 60)
    (hq1 : ¬ (byt g N p = 60 ∨ byt g N p = 61 ∨ byt g N p = 62) → ∀ R : Int → Int, (∀ i, ¬ i = 23 → R i = c 75 i) → R 23 = fl F (1 + 8 * p) → Q none (hp L sh (fr c 75 R)) n)
    (hq : (byt g N p = 60 ∨ byt g N p = 61 ∨ byt g N p = 62) → p < N → ∀ R : Int → Int, (∀ i, ¬ i = 22 → ¬ i = 23 → ¬ i = 28 → R i = c 75 i) → R 22 = p + 1 + ceq g N p → R 28 = m + 1 → R 23 = fl F (if 60 ≤ m then 1 + 8 * p + 3 else 0) → tc_W 200 94 [rf 75, .inl (byt g N p), .inl (ceq g N p)] [] (hp L sh (fr c 75 R)) n Q) : tc_W 200 4 [rf 75, tc_nil, tc_nil] [] (hp L sh c) n Q := by
  have hN := hTP.1
  have h172 := fun Q => c172t (c := c) (n := n) (Q := Q) (N := N) (p := p) hS (by rw [h95]; exact hTP) h21 h22 hp0.1
  rw [h95] at h172
  by_cases hb : byt g N p = 60 ∨ byt g N p = 61 ∨ byt g N p = 62
  · have hlt : p < N := by
      rcases hb with x | x | x
      · exact byt_lt x (by omega)
      · exact byt_lt x (by omega)
      · exact byt_lt x (by omega)
    have hce := ceq_rng (g := g) hlt
    have hq' := hq hb hlt
    obtain ⟨R, r1, r2, r3, r4⟩ := m193x (q := p) hS (by omega) h28 hm h23 hm0
    have r22 : R 22 = p := by rw [r2 22 (by omega) (by omega)]; exact h22
    have h172b := fun Q => c172t (c := fr c 75 (fu R 22 (p + 1))) (n := n) (Q := Q) (N := N) (p := p + 1) hS (by rw [fr_ne (by omega), h95]; exact hTP) (by rw [fr_same, fu_ne (by omega), r2 21 (by omega) (by omega)]; exact h21) (by rw [fr_same, fu_same]) (by omega)
    rw [fr_ne (show ¬ 95 = 75 by omega), h95] at h172b
    by_cases b61 : byt g N p = 61
    · have hcc : ceq g N p = 0 := by
        unfold ceq
        rw [if_neg (fun x => x.1 b61)]
      rw [b61] at h172
      have hgo := hq' (fu R 22 (p + 1)) (fun i i1 i2 i3 => by rw [fu_ne i1, r2 i i2 i3]) (by rw [fu_same, hcc, Int.add_zero]) (by rw [fu_ne (by omega), r3]) (by rw [fu_ne (by omega), r4])
      rw [b61, hcc] at hgo
      repeat' (first | (simp (disch := first | omega | exact Nat.le_of_ble_eq_true rfl | exact rfl | assumption | (simp only [fr_at, Nat.reduceEqDiff, if_false, if_true, reduceIte]; first | assumption | omega)) only [r200_0, r200_1, v200_1_11, r200_4, r200_5, v200_5_11, r200_8r, r200_9, r200_10, r200_15, r200_16, r200_21, r200_22, r200_27, r200_28, r200_29, r200_30, r200_33, v200_33_11, r200_36, r200_37, r200_38, r200_39, r200_42, v200_42_11, r200_45, r200_46, r200_46A, r200_47, r200_50, r200_51, r200_52, r200_55, r200_56, r200_61, r200_62, v200_62_11, r200_65, r200_70, r200_71, r200_74, r200_75i, r200_76, r200_77, r200_77A, r200_78, r200_81, r200_85, r200_86, r200_89, r200_90, r200_91, r200_95, v200_95_11, r200_98, r200_99, r200_100, r200_105, r200_107, r200_110, r200_111, r200_116, r200_120, r200_121, r200_124, r200_125, r200_128, r200_132, r200_134, r200_137, r200_139, r200_140, v200_140_11, r200_143, g11_174_11, p11_174_11, mo_len, ms75 hS, mt75 hS, mo_g22, mo_s22, il_s, bl_s, bl_z, ll_s, is_s, bs_s, bs_z, ls_s, al_s, al_b, al_l, fr_at, fr_fr, Nat.reduceEqDiff, tc_gf3_s, tc_ql2_s, tc_ws_0, tc_ws_i, tc_ws_l, tc_ws_r, Nat.reduceLeDiff, Nat.reduceAdd, Nat.reduceLT, true_and, and_true, if_true, if_false, tc_K, Option.toList_some, Option.toList_none, List.nil_append, List.cons_append, ite_true, ite_false, Int.cast_ofNat_Int, reduceIte, i3_add_eq, i3_sub_eq, Int.add_sub_cancel, Int.add_neg_cancel_right, h172, h22, r1, r22, fu_same, fu_fu, Int.add_zero]) | (simp only [r200_12, r200_18, r200_24, r200_58, r200_67, r200_82, r200_102, r200_113, r200_117, r200_129, i6_lt0, i6_0lt, i6_0le, i6_le0, i6_eq0, b10_0, ite_not, Int.reduceLT, Int.reduceLE, Int.reduceEq, Int.reduceNeg, if_true, if_false, ite_true, ite_false, reduceIte, eq_self, not_true, not_false_eq_true]; try refine tc_ite (fun _ => ?_) (fun _ => ?_) <;> try (exfalso; omega)))
      all_goals first
        | exact hgo
        | omega
    · by_cases hx : byt g N (p + 1) = 61
      · have hcc : ceq g N p = 1 := by
          unfold ceq
          rw [if_pos ⟨b61, hx⟩]
        rw [hx] at h172b
        have hgo := hq' (fu R 22 (p + 1 + 1)) (fun i i1 i2 i3 => by rw [fu_ne i1, r2 i i2 i3]) (by rw [fu_same, hcc]) (by rw [fu_ne (by omega), r3]) (by rw [fu_ne (by omega), r4])
        rw [hcc] at hgo
        generalize byt g N p = b at h172 hb b61 hgo
        repeat' (first | (simp (disch := first | omega | exact Nat.le_of_ble_eq_true rfl | exact rfl | assumption | (simp only [fr_at, Nat.reduceEqDiff, if_false, if_true, reduceIte]; first | assumption | omega)) only [r200_0, r200_1, v200_1_11, r200_4, r200_5, v200_5_11, r200_8r, r200_9, r200_10, r200_15, r200_16, r200_21, r200_22, r200_27, r200_28, r200_29, r200_30, r200_33, v200_33_11, r200_36, r200_37, r200_38, r200_39, r200_42, v200_42_11, r200_45, r200_46, r200_46A, r200_47, r200_50, r200_51, r200_52, r200_55, r200_56, r200_61, r200_62, v200_62_11, r200_65, r200_70, r200_71, r200_74, r200_75i, r200_76, r200_77, r200_77A, r200_78, r200_81, r200_85, r200_86, r200_89, r200_90, r200_91, r200_95, v200_95_11, r200_98, r200_99, r200_100, r200_105, r200_107, r200_110, r200_111, r200_116, r200_120, r200_121, r200_124, r200_125, r200_128, r200_132, r200_134, r200_137, r200_139, r200_140, v200_140_11, r200_143, g11_174_11, p11_174_11, mo_len, ms75 hS, mt75 hS, mo_g22, mo_s22, il_s, bl_s, bl_z, ll_s, is_s, bs_s, bs_z, ls_s, al_s, al_b, al_l, fr_at, fr_fr, Nat.reduceEqDiff, tc_gf3_s, tc_ql2_s, tc_ws_0, tc_ws_i, tc_ws_l, tc_ws_r, Nat.reduceLeDiff, Nat.reduceAdd, Nat.reduceLT, true_and, and_true, if_true, if_false, tc_K, Option.toList_some, Option.toList_none, List.nil_append, List.cons_append, ite_true, ite_false, Int.cast_ofNat_Int, reduceIte, i3_add_eq, i3_sub_eq, Int.add_sub_cancel, Int.add_neg_cancel_right, h172, h22, r1, r22, h172b, fu_same, fu_fu]) | (simp only [r200_12, r200_18, r200_24, r200_58, r200_67, r200_82, r200_102, r200_113, r200_117, r200_129, i6_lt0, i6_0lt, i6_0le, i6_le0, i6_eq0, b10_0, ite_not, Int.reduceLT, Int.reduceLE, Int.reduceEq, Int.reduceNeg, if_true, if_false, ite_true, ite_false, reduceIte, eq_self, not_true, not_false_eq_true]; try refine tc_ite (fun _ => ?_) (fun _ => ?_) <;> try (exfalso; omega)))
        all_goals first
          | exact hgo
          | omega
      · have hcc : ceq g N p = 0 := by
          unfold ceq
          rw [if_neg (fun x => hx x.2)]
        have hgo := hq' (fu R 22 (p + 1)) (fun i i1 i2 i3 => by rw [fu_ne i1, r2 i i2 i3]) (by rw [fu_same, hcc, Int.add_zero]) (by rw [fu_ne (by omega), r3]) (by rw [fu_ne (by omega), r4])
        rw [hcc] at hgo
        generalize byt g N p = b at h172 hb b61 hgo
        generalize byt g N (p + 1) = b2 at h172b hx
        repeat' (first | (simp (disch := first | omega | exact Nat.le_of_ble_eq_true rfl | exact rfl | assumption | (simp only [fr_at, Nat.reduceEqDiff, if_false, if_true, reduceIte]; first | assumption | omega)) only [r200_0, r200_1, v200_1_11, r200_4, r200_5, v200_5_11, r200_8r, r200_9, r200_10, r200_15, r200_16, r200_21, r200_22, r200_27, r200_28, r200_29, r200_30, r200_33, v200_33_11, r200_36, r200_37, r200_38, r200_39, r200_42, v200_42_11, r200_45, r200_46, r200_46A, r200_47, r200_50, r200_51, r200_52, r200_55, r200_56, r200_61, r200_62, v200_62_11, r200_65, r200_70, r200_71, r200_74, r200_75i, r200_76, r200_77, r200_77A, r200_78, r200_81, r200_85, r200_86, r200_89, r200_90, r200_91, r200_95, v200_95_11, r200_98, r200_99, r200_100, r200_105, r200_107, r200_110, r200_111, r200_116, r200_120, r200_121, r200_124, r200_125, r200_128, r200_132, r200_134, r200_137, r200_139, r200_140, v200_140_11, r200_143, g11_174_11, p11_174_11, mo_len, ms75 hS, mt75 hS, mo_g22, mo_s22, il_s, bl_s, bl_z, ll_s, is_s, bs_s, bs_z, ls_s, al_s, al_b, al_l, fr_at, fr_fr, Nat.reduceEqDiff, tc_gf3_s, tc_ql2_s, tc_ws_0, tc_ws_i, tc_ws_l, tc_ws_r, Nat.reduceLeDiff, Nat.reduceAdd, Nat.reduceLT, true_and, and_true, if_true, if_false, tc_K, Option.toList_some, Option.toList_none, List.nil_append, List.cons_append, ite_true, ite_false, Int.cast_ofNat_Int, reduceIte, i3_add_eq, i3_sub_eq, Int.add_sub_cancel, Int.add_neg_cancel_right, h172, h22, r1, r22, h172b, fu_same, fu_fu, Int.add_zero]) | (simp only [r200_12, r200_18, r200_24, r200_58, r200_67, r200_82, r200_102, r200_113, r200_117, r200_129, i6_lt0, i6_0lt, i6_0le, i6_le0, i6_eq0, b10_0, ite_not, Int.reduceLT, Int.reduceLE, Int.reduceEq, Int.reduceNeg, if_true, if_false, ite_true, ite_false, reduceIte, eq_self, not_true, not_false_eq_true]; try refine tc_ite (fun _ => ?_) (fun _ => ?_) <;> try (exfalso; omega)))
        all_goals first
          | exact hgo
          | omega
  · have h175 := fun Q => c175 (c := c) (n := n) (Q := Q) (k := 0) (p := p) hS (by omega) (by omega)
    have hq' := hq1 hb (fu (c 75) 23 (if c 75 23 = 0 then 1 + 8 * p + 0 else c 75 23)) (fun i i1 => by rw [fu_ne i1]) (by
      rw [fu_same, h23]
      unfold fl
      split <;> omega)
    generalize byt g N p = b at h172 hb
    repeat' (first | (simp (disch := first | omega | exact Nat.le_of_ble_eq_true rfl | exact rfl | assumption | (simp only [fr_at, Nat.reduceEqDiff, if_false, if_true, reduceIte]; first | assumption | omega)) only [r200_0, r200_1, v200_1_11, r200_4, r200_5, v200_5_11, r200_8r, r200_9, r200_10, r200_15, r200_16, r200_21, r200_22, r200_27, r200_28, r200_29, r200_30, r200_33, v200_33_11, r200_36, r200_37, r200_38, r200_39, r200_42, v200_42_11, r200_45, r200_46, r200_46A, r200_47, r200_50, r200_51, r200_52, r200_55, r200_56, r200_61, r200_62, v200_62_11, r200_65, r200_70, r200_71, r200_74, r200_75i, r200_76, r200_77, r200_77A, r200_78, r200_81, r200_85, r200_86, r200_89, r200_90, r200_91, r200_95, v200_95_11, r200_98, r200_99, r200_100, r200_105, r200_107, r200_110, r200_111, r200_116, r200_120, r200_121, r200_124, r200_125, r200_128, r200_132, r200_134, r200_137, r200_139, r200_140, v200_140_11, r200_143, g11_174_11, p11_174_11, mo_len, ms75 hS, mt75 hS, mo_g22, mo_s22, il_s, bl_s, bl_z, ll_s, is_s, bs_s, bs_z, ls_s, al_s, al_b, al_l, fr_at, fr_fr, Nat.reduceEqDiff, tc_gf3_s, tc_ql2_s, tc_ws_0, tc_ws_i, tc_ws_l, tc_ws_r, Nat.reduceLeDiff, Nat.reduceAdd, Nat.reduceLT, true_and, and_true, if_true, if_false, tc_K, Option.toList_some, Option.toList_none, List.nil_append, List.cons_append, ite_true, ite_false, Int.cast_ofNat_Int, reduceIte, i3_add_eq, i3_sub_eq, Int.add_sub_cancel, Int.add_neg_cancel_right, h172, h22, h175]) | (simp only [r200_12, r200_18, r200_24, r200_58, r200_67, r200_82, r200_102, r200_113, r200_117, r200_129, i6_lt0, i6_0lt, i6_0le, i6_le0, i6_eq0, b10_0, ite_not, Int.reduceLT, Int.reduceLE, Int.reduceEq, Int.reduceNeg, if_true, if_false, ite_true, ite_false, reduceIte, eq_self, not_true, not_false_eq_true]; try refine tc_ite (fun _ => ?_) (fun _ => ?_) <;> try (exfalso; omega)))
    all_goals first
      | exact hq'
      | omega
theorem m200 (hS : MS L sh) (hST : STRS sh c) (hTP : TP g N) (hE : ME c g N p m s z T) (hp0 : 0 ≤ p ∧ p ≤ N) (h23 : c 75 23 = 0) (hm : 0 ≤ m ∧ m ≤ 60) (hs : 0 ≤ s ∧ s ≤ 5) (hz : 0 ≤ z ∧ 3 * (z + T.length) ≤ 7 * m + p) {K : Nat} (hK : N ≤ K) (hb : fct g N K p m T = (f, p', m', T'))
    (hq : ∀ e, MLQ c e (300 * s + (z + T.length)) → RN e N 63 → e 75 23 = f → (f = 0 → ME e g N p' m' s z T') → Q none (hp L sh e) n) : tc_C 200 [rf 75] (hp L sh c) n Q := by
  have hN := hTP.1
  unfold fct at hb
  rcases hs1 : smf g N K p m T with ⟨f1, r1, s1, U1⟩
  rw [hs1] at hb
  dsimp only at hb
  show tc_W 200 0 [rf 75, tc_nil, tc_nil] [] _ _ Q
  repeat' (first | (simp (disch := first | omega | exact Nat.le_of_ble_eq_true rfl | exact rfl | assumption | (simp only [fr_at, Nat.reduceEqDiff, if_false, if_true, reduceIte]; first | assumption | omega)) only [r200_0, r200_1, v200_1_11, r200_5, v200_5_11, r200_8r, r200_9, r200_10, r200_15, r200_16, r200_21, r200_22, r200_27, r200_28, r200_29, r200_30, r200_33, v200_33_11, r200_36, r200_37, r200_38, r200_39, r200_42, v200_42_11, r200_45, r200_46, r200_46A, r200_47, r200_50, r200_51, r200_52, r200_55, r200_56, r200_61, r200_62, v200_62_11, r200_65, r200_70, r200_71, r200_74, r200_75i, r200_76, r200_77, r200_77A, r200_78, r200_81, r200_85, r200_86, r200_89, r200_90, r200_91, r200_94, r200_95, v200_95_11, r200_98, r200_99, r200_100, r200_105, r200_107, r200_110, r200_111, r200_116, r200_120, r200_121, r200_124, r200_125, r200_128, r200_132, r200_134, r200_137, r200_139, r200_140, v200_140_11, r200_143, g11_174_11, p11_174_11, mo_len, ms75 hS, mt75 hS, mo_g22, mo_s22, il_s, bl_s, bl_z, ll_s, is_s, bs_s, bs_z, ls_s, al_s, al_b, al_l, fr_at, fr_fr, Nat.reduceEqDiff, tc_gf3_s, tc_ql2_s, tc_ws_0, tc_ws_i, tc_ws_l, tc_ws_r, Nat.reduceLeDiff, Nat.reduceAdd, Nat.reduceLT, true_and, and_true, if_true, if_false, tc_K, Option.toList_some, Option.toList_none, List.nil_append, List.cons_append, ite_true, ite_false, Int.cast_ofNat_Int, reduceIte, i3_add_eq, i3_sub_eq, Int.add_sub_cancel, Int.add_neg_cancel_right]) | (simp only [r200_12, r200_18, r200_24, r200_58, r200_67, r200_82, r200_102, r200_113, r200_117, r200_129, i6_lt0, i6_0lt, i6_0le, i6_le0, i6_eq0, b10_0, ite_not, Int.reduceLT, Int.reduceLE, Int.reduceEq, Int.reduceNeg, if_true, if_false, ite_true, ite_false, reduceIte, eq_self, not_true, not_false_eq_true]; try refine tc_ite (fun _ => ?_) (fun _ => ?_) <;> try (exfalso; omega)))
  refine m190 (k := K) hS hST hTP hE hp0 h23 (by omega) (fun _ => hm.2) hs ⟨hz.1, by omega, fun _ => hz.2⟩ (by omega) hs1 ?_
  intro e1 j1 j2 j3 j4
  rw [if_pos rfl] at j2
  rw [fl_0] at j3 j4
  have h95 : e1 95 = g := by rw [j1.1 95 (by omega) (by omega) (by omega)]; exact hE.1
  have h21 : e1 75 21 = N := by rw [j1.2.2 21 (by omega) (by omega) (by omega) (by omega)]; exact hE.2.1
  have h30 : e1 75 30 = 9 := by rw [j1.2.2 30 (by omega) (by omega) (by omega) (by omega)]; exact hE.2.2.2.2.2.2.1
  have hST1 : STRS sh e1 := STR.q hST j1
  repeat' (first | (simp (disch := first | omega | exact Nat.le_of_ble_eq_true rfl | exact rfl | assumption | (simp only [fr_at, Nat.reduceEqDiff, if_false, if_true, reduceIte]; first | assumption | omega)) only [r200_0, r200_1, v200_1_11, r200_5, v200_5_11, r200_8r, r200_9, r200_10, r200_15, r200_16, r200_21, r200_22, r200_27, r200_28, r200_29, r200_30, r200_33, v200_33_11, r200_36, r200_37, r200_38, r200_39, r200_42, v200_42_11, r200_45, r200_46, r200_46A, r200_47, r200_50, r200_51, r200_52, r200_55, r200_56, r200_61, r200_62, v200_62_11, r200_65, r200_70, r200_71, r200_74, r200_75i, r200_76, r200_77, r200_77A, r200_78, r200_81, r200_85, r200_86, r200_89, r200_90, r200_91, r200_94, r200_95, v200_95_11, r200_98, r200_99, r200_100, r200_105, r200_107, r200_110, r200_111, r200_116, r200_120, r200_121, r200_124, r200_125, r200_128, r200_132, r200_134, r200_137, r200_139, r200_140, v200_140_11, r200_143, g11_174_11, p11_174_11, mo_len, ms75 hS, mt75 hS, mo_g22, mo_s22, il_s, bl_s, bl_z, ll_s, is_s, bs_s, bs_z, ls_s, al_s, al_b, al_l, fr_at, fr_fr, Nat.reduceEqDiff, tc_gf3_s, tc_ql2_s, tc_ws_0, tc_ws_i, tc_ws_l, tc_ws_r, Nat.reduceLeDiff, Nat.reduceAdd, Nat.reduceLT, true_and, and_true, if_true, if_false, tc_K, Option.toList_some, Option.toList_none, List.nil_append, List.cons_append, ite_true, ite_false, Int.cast_ofNat_Int, reduceIte, i3_add_eq, i3_sub_eq, Int.add_sub_cancel, Int.add_neg_cancel_right]) | (simp only [r200_12, r200_18, r200_24, r200_58, r200_67, r200_82, r200_102, r200_113, r200_117, r200_129, i6_lt0, i6_0lt, i6_0le, i6_le0, i6_eq0, b10_0, ite_not, Int.reduceLT, Int.reduceLE, Int.reduceEq, Int.reduceNeg, if_true, if_false, ite_true, ite_false, reduceIte, eq_self, not_true, not_false_eq_true]; try refine tc_ite (fun _ => ?_) (fun _ => ?_) <;> try (exfalso; omega)))
  have hq75 : ∀ (R : Int → Int) (Z : Int), (∀ i, ¬ i = 22 → ¬ i = 23 → ¬ i = 28 → R i = e1 75 i) → MLQ e1 (fr e1 75 R) Z := fun R Z h => MLQ.of75 (fun a ha => fr_ne ha) fun i i1 i2 i3 i4 => by rw [fr_same]; exact h i i1 i2 i4
  by_cases hf1 : f1 = 0
  · subst hf1
    rw [if_neg (fun x => x rfl)] at hb
    obtain ⟨⟨v1, v2, v3, _, _, v6⟩, v7⟩ := smf_g hs1 hp0 [] []
    have hE1 := j4 rfl
    unfold fc2 at hb
    refine m200_s (F := 0) (m := s1) (p := r1) hS hTP h95 h21 hE1.2.2.1 (by omega) j3 hE1.2.2.2.2.2.1 (by omega) (fun _ => by omega) ?_ ?_
    · intro hbn R q1 q2
      rw [if_pos hbn] at hb
      obtain ⟨e1', _⟩ := prL hb
      rw [fl_0] at q2
      refine hq _ (j1.trans (hq75 R _ fun i _ i2 _ => q1 i i2) (Int.le_refl _)) ⟨by rw [fr_same, q1 22 (by omega), hE1.2.2.1]; omega, by rw [fr_same, q1 28 (by omega), hE1.2.2.2.2.2.1]; omega⟩ (by rw [fr_same, q2]; exact e1') fun x => by omega
    · intro hbn hlt R q1 q2 q3 q4
      rw [fl_0] at q4
      have hce := ceq_rng (g := g) hlt
      rw [if_neg (fun x => x hbn)] at hb
      have hL1 := j1.trans (hq75 R (300 * s + (z + T.length)) q1) (Int.le_refl _)
      have hST2 : STRS sh (fr e1 75 R) := STR.q hST hL1
      by_cases h60 : 60 ≤ s1
      · rw [if_pos h60] at hb q4
        obtain ⟨e1', _⟩ := prL hb
        refine m200_z (c := fr e1 75 R) (F := f) (m := s1 + 1) (p := r1 + 1 + ceq g N r1) hS hST2 hTP (by rw [fr_ne (by omega)]; exact h95) (by rw [fr_same, q1 21 (by omega) (by omega) (by omega)]; exact h21) (by rw [fr_same]; exact q2) (by omega) (by rw [fr_same, q4]; exact e1') (by omega) (by rw [fr_same]; exact q3) (by omega) (by rw [fr_same, q1 30 (by omega) (by omega) (by omega)]; exact h30) hbn (by omega) ?_
        intro e k1 k2
        refine hq e (hL1.trans ⟨fun a a1 _ _ => k1.1 a a1, fun i _ => ⟨by rw [k1.1 96 (by omega)], by rw [k1.1 97 (by omega)]⟩, fun i i1 _ _ i4 => k1.2 i i1 i4⟩ (Int.le_refl _)) ⟨k2.1, by have := k2.2; omega⟩ (by rw [k1.2 23 (by omega) (by omega), fr_same, q4]; exact e1') fun x => by omega
      · rw [if_neg h60] at hb q4
        rcases hs2 : smf g N K (r1 + 1 + ceq g N r1) (s1 + 1) U1 with ⟨f2, r2, s2, U2⟩
        rw [hs2] at hb
        dsimp only at hb
        have hE2 : ME (fr e1 75 R) g N (r1 + 1 + ceq g N r1) (s1 + 1) s z U1 := by
          obtain ⟨y1, y2, y3, y4, y5, y6, y7, y8⟩ := hE1
          exact ⟨by rw [fr_ne (by omega)]; exact y1, by rw [fr_same, q1 21 (by omega) (by omega) (by omega)]; exact y2, by rw [fr_same]; exact q2, by rw [fr_same, q1 24 (by omega) (by omega) (by omega)]; exact y4, by rw [fr_same, q1 26 (by omega) (by omega) (by omega)]; exact y5, by rw [fr_same]; exact q3, by rw [fr_same, q1 30 (by omega) (by omega) (by omega)]; exact y7, y8⟩
        have hcd := ccd_k g N r1
        repeat' (first | (simp (disch := first | omega | exact Nat.le_of_ble_eq_true rfl | exact rfl | assumption | (simp only [fr_at, Nat.reduceEqDiff, if_false, if_true, reduceIte]; first | assumption | omega)) only [r200_0, r200_1, v200_1_11, r200_4, r200_5, v200_5_11, r200_8r, r200_9, r200_10, r200_15, r200_16, r200_21, r200_22, r200_27, r200_28, r200_29, r200_30, r200_33, v200_33_11, r200_36, r200_37, r200_38, r200_39, r200_42, v200_42_11, r200_45, r200_46, r200_46A, r200_47, r200_50, r200_51, r200_52, r200_55, r200_56, r200_61, r200_62, v200_62_11, r200_65, r200_70, r200_71, r200_74, r200_75i, r200_76, r200_77, r200_77A, r200_78, r200_81, r200_85, r200_86, r200_89, r200_90, r200_91, r200_94, r200_95, v200_95_11, r200_98, r200_99, r200_100, r200_105, r200_107, r200_110, r200_111, r200_116, r200_120, r200_121, r200_124, r200_125, r200_128, r200_132, r200_134, r200_137, r200_139, r200_140, v200_140_11, r200_143, g11_174_11, p11_174_11, mo_len, ms75 hS, mt75 hS, mo_g22, mo_s22, il_s, bl_s, bl_z, ll_s, is_s, bs_s, bs_z, ls_s, al_s, al_b, al_l, fr_at, fr_fr, Nat.reduceEqDiff, tc_gf3_s, tc_ql2_s, tc_ws_0, tc_ws_i, tc_ws_l, tc_ws_r, Nat.reduceLeDiff, Nat.reduceAdd, Nat.reduceLT, true_and, and_true, if_true, if_false, tc_K, Option.toList_some, Option.toList_none, List.nil_append, List.cons_append, ite_true, ite_false, Int.cast_ofNat_Int, reduceIte, i3_add_eq, i3_sub_eq, Int.add_sub_cancel, Int.add_neg_cancel_right]) | (simp only [r200_12, r200_18, r200_24, r200_58, r200_67, r200_82, r200_102, r200_113, r200_117, r200_129, i6_lt0, i6_0lt, i6_0le, i6_le0, i6_eq0, b10_0, ite_not, Int.reduceLT, Int.reduceLE, Int.reduceEq, Int.reduceNeg, if_true, if_false, ite_true, ite_false, reduceIte, eq_self, not_true, not_false_eq_true]; try refine tc_ite (fun _ => ?_) (fun _ => ?_) <;> try (exfalso; omega)))
        refine m190 (c := fr e1 75 R) (F := 0) (k := K) hS hST2 hTP hE2 (by omega) (by rw [fr_same]; exact q4) (by omega) (fun _ => by omega) hs ⟨hz.1, by omega, fun _ => by omega⟩ (by omega) hs2 ?_
        intro e3 k1 k2 k3 k4
        rw [if_pos rfl] at k2
        rw [fl_0] at k3 k4
        have hL3 := hL1.trans k1 (by omega)
        have hVG : f2 = 0 → VG N (r1 + 1 + ceq g N r1) (s1 + 1) r2 s2 U1 U2 [] [] (false :: []) ∧ sk g N r2 = r2 := fun h => smf_g (by rw [← h]; exact hs2) (by omega) [] []
        obtain ⟨e4, b1, b2, b3, b4, b5, b6, b7, b8⟩ := m194g (e := e3) (k := ccd g N r1) (v := 0) (p := r2) (m := s2) (T := U2) (N := N) (g := g) (z := z) hS (fun h => k4 (by rw [← k3]; exact h)) hs (fun h => by
          have hf2 : f2 = 0 := by rw [← k3]; exact h
          obtain ⟨⟨u1, u2, u3, _, _, u6⟩, _⟩ := hVG hf2
          omega)
        have hfin : Q none (hp L sh e4) n := by
          by_cases hf2 : f2 = 0
          · have h0 : e3 75 23 = 0 := by rw [k3]; exact hf2
            obtain ⟨⟨u1, u2, u3, _, _, u6⟩, _⟩ := hVG hf2
            obtain ⟨hE4, hM4⟩ := b8 h0
            rw [if_neg (fun x => x hf2)] at hb
            obtain ⟨e1', e2', e3', e4'⟩ := prL hb
            refine hq e4 (hL3.trans hM4 (by omega)) ⟨by rw [hE4.2.2.1]; omega, by rw [hE4.2.2.2.2.2.1]; omega⟩ (by rw [b2, h0]; exact e1') fun _ => ?_
            rw [← e2', ← e3', ← e4']
            exact hE4
          · rw [if_pos hf2] at hb
            have hff := (prL hb).1
            have h0 : ¬ e3 75 23 = 0 := by rw [k3]; exact hf2
            rw [b7 h0]
            exact hq e3 hL3 ⟨k2.1, by have := k2.2; omega⟩ (by rw [k3]; exact hff) fun x => by omega
        have hcode : ccd g N r1 = if byt g N r1 = 61 then 6 else if byt g N r1 = 60 then (if ceq g N r1 = 1 then 5 else 4) else (if ceq g N r1 = 1 then 7 else 8) := rfl
        have hq01 : ceq g N r1 = 0 ∨ ceq g N r1 = 1 := by omega
        generalize ccd g N r1 = cd at b1 hcode
        generalize ceq g N r1 = q at hcode hq01
        generalize byt g N r1 = b at hcode hbn
        rcases hbn with rfl | rfl | rfl
        all_goals
          rcases hq01 with rfl | rfl
          all_goals
            simp only [Int.reduceEq, if_true, if_false, reduceIte] at hcode
            subst hcode
            repeat' (first | (simp (disch := first | omega | exact Nat.le_of_ble_eq_true rfl | exact rfl | assumption | (simp only [fr_at, Nat.reduceEqDiff, if_false, if_true, reduceIte]; first | assumption | omega)) only [r200_0, r200_1, v200_1_11, r200_4, r200_5, v200_5_11, r200_8r, r200_9, r200_10, r200_15, r200_16, r200_21, r200_22, r200_27, r200_28, r200_29, r200_30, r200_33, v200_33_11, r200_36, r200_37, r200_38, r200_39, r200_42, v200_42_11, r200_45, r200_46, r200_46A, r200_47, r200_50, r200_51, r200_52, r200_55, r200_56, r200_61, r200_62, v200_62_11, r200_65, r200_70, r200_71, r200_74, r200_75i, r200_76, r200_77, r200_77A, r200_78, r200_81, r200_85, r200_86, r200_89, r200_90, r200_91, r200_94, r200_95, v200_95_11, r200_98, r200_99, r200_100, r200_105, r200_107, r200_110, r200_111, r200_116, r200_120, r200_121, r200_124, r200_125, r200_128, r200_132, r200_134, r200_137, r200_139, r200_140, v200_140_11, r200_143, g11_174_11, p11_174_11, mo_len, ms75 hS, mt75 hS, mo_g22, mo_s22, il_s, bl_s, bl_z, ll_s, is_s, bs_s, bs_z, ls_s, al_s, al_b, al_l, fr_at, fr_fr, Nat.reduceEqDiff, tc_gf3_s, tc_ql2_s, tc_ws_0, tc_ws_i, tc_ws_l, tc_ws_r, Nat.reduceLeDiff, Nat.reduceAdd, Nat.reduceLT, true_and, and_true, if_true, if_false, tc_K, Option.toList_some, Option.toList_none, List.nil_append, List.cons_append, ite_true, ite_false, Int.cast_ofNat_Int, reduceIte, i3_add_eq, i3_sub_eq, Int.add_sub_cancel, Int.add_neg_cancel_right, b1]) | (simp only [r200_12, r200_18, r200_24, r200_58, r200_67, r200_82, r200_102, r200_113, r200_117, r200_129, i6_lt0, i6_0lt, i6_0le, i6_le0, i6_eq0, b10_0, ite_not, Int.reduceLT, Int.reduceLE, Int.reduceEq, Int.reduceNeg, if_true, if_false, ite_true, ite_false, reduceIte, eq_self, not_true, not_false_eq_true]; try refine tc_ite (fun _ => ?_) (fun _ => ?_) <;> try (exfalso; omega)))
            all_goals first
              | exact hfin
              | omega
  · rw [if_pos hf1] at hb
    have hff := (prL hb).1
    have h0 : e1 75 23 = f1 := j3
    refine m200_s (F := f1) (m := e1 75 28) (p := e1 75 22) hS hTP h95 h21 rfl j2.1 h0 rfl (by have := j2.2; omega) (fun x => absurd x hf1) ?_ ?_
    · intro hbn R q1 q2
      rw [fl_n hf1] at q2
      exact hq _ (j1.trans (hq75 R _ fun i _ i2 _ => q1 i i2) (Int.le_refl _)) ⟨by rw [fr_same, q1 22 (by omega)]; exact j2.1, by rw [fr_same, q1 28 (by omega)]; have := j2.2; omega⟩ (by rw [fr_same, q2]; exact hff) fun x => by omega
    · intro hbn hlt R q1 q2 q3 q4
      rw [fl_n hf1] at q4
      have hce := ceq_rng (g := g) hlt
      have hL1 := j1.trans (hq75 R (300 * s + (z + T.length)) q1) (Int.le_refl _)
      have hST2 : STRS sh (fr e1 75 R) := STR.q hST hL1
      refine m200_z (c := fr e1 75 R) (F := f1) (m := e1 75 28 + 1) (p := e1 75 22 + 1 + ceq g N (e1 75 22)) hS hST2 hTP (by rw [fr_ne (by omega)]; exact h95) (by rw [fr_same, q1 21 (by omega) (by omega) (by omega)]; exact h21) (by rw [fr_same]; exact q2) (by have := j2.1; omega) (by rw [fr_same]; exact q4) hf1 (by rw [fr_same]; exact q3) (by have := j2.2; omega) (by rw [fr_same, q1 30 (by omega) (by omega) (by omega)]; exact h30) hbn (by omega) ?_
      intro e k1 k2
      refine hq e (hL1.trans ⟨fun a a1 _ _ => k1.1 a a1, fun i _ => ⟨by rw [k1.1 96 (by omega)], by rw [k1.1 97 (by omega)]⟩, fun i i1 _ _ i4 => k1.2 i i1 i4⟩ (Int.le_refl _)) ⟨k2.1, by have := k2.2; have := j2.2; omega⟩ (by rw [k1.2 23 (by omega) (by omega), fr_same, q4]; exact hff) fun x => by omega
end TESTN

/-! the class: beach -/
theorem gof_gon {g : Int → Int} {N p : Int} (h : ¬ gof g N p = 0) : gon g N p = 0 := by
  unfold gof at h
  unfold gon
  by_cases h1 : p < N ∧ ¬ g p = 59
  · rw [if_neg (fun q => h1.2 q.2)]
  · rw [if_neg h1] at h
    exact absurd rfl h
theorem gon_1 {g : Int → Int} {N p : Int} (h : gon g N p = 1) : p < N ∧ g p = 59 := by
  unfold gon at h
  split at h
  · next k => exact k
  · omega
theorem gon_01 (g : Int → Int) (N p : Int) : gon g N p = 0 ∨ gon g N p = 1 := by
  unfold gon
  split <;> omega
section BEACHF
variable {L : Nat} {sh : Nat → SH} {c : Nat → Int → Int} {n : Nat} {Q : Option AV → List SC → Nat → Prop} {s : Nat} {g : Int → Int} {N p R f p' R' k : Int} {B B' : Nat → Int → Int}
theorem c17_b (hL : 115 ≤ L) {t0 so : Option Nat} (h69 : sh 69 = (6, 0, [t0, so])) (h27 : sh 27 = (1, 400, [])) (hN : 0 ≤ N ∧ N ≤ 400) : tc_C 17 [rf 69, rf 27, .inl N] (hp L sh c) n Q = Q none (hp L (fs sh 69 (6, 0, [some 27, so])) (fr c 69 (fu (fu (fu (fu (c 69) 1 N) 2 0) 3 0) 4 0))) n := tc_det fun Q hq => by
  have hL69 : 69 < L := by omega
  have hL27 : 27 < L := by omega
  have e1 : (if (400 : Int) < N then 400 else N) = N := if_neg (by omega)
  generalize hS1 : fs sh 69 (6, 0, [some 27, so]) = S1 at hq
  have h69' : S1 69 = (6, 0, [some 27, so]) := by rw [← hS1, fs_same]
  have h27' : S1 27 = (1, 400, []) := by rw [← hS1, fs_ne (by omega)]; exact h27
  show tc_W 17 0 [rf 69, rf 27, .inl N] [] _ _ Q
  repeat' (simp (disch := first | omega | exact Nat.le_of_ble_eq_true rfl | exact rfl | assumption | (simp (disch := omega) only [fr_ne, fr_same]; first | assumption | omega)) only [r17_0, r17_1, r17_2, r17_5, r17_6, r17_7, r17_7A, r17_10, r17_11, r17_14, r17_15, r17_16, r17_17, r17_20, r17_23, r17_24, r17_25, r17_28, r17_29, r17_30, r17_33, r17_34, r17_35, r17_38, p12_9_0, p12_9_2, p12_15_0, p12_15_2, p12_19_0, p12_19_2, p12_22_0, p12_22_2, p12_25_0, p12_25_2, o0_len, o0_s0, o2_len, o2_s0, o0_s1, o2_s1, o0_s2, o2_s2, o0_s3, o2_s3, o0_s4, o2_s4, il_s, bl_s, bl_z, ll_s, is_s, bs_s, bs_z, ls_s, al_s, al_b, al_l, fr_ne, fr_same, fr_fr, Nat.reduceEqDiff, tc_gf3_s, tc_ql2_s, tc_ws_0, tc_ws_i, tc_ws_l, tc_ws_r, Nat.reduceLeDiff, Nat.reduceAdd, Nat.reduceLT, true_and, and_true, if_true, if_false, tc_K, Option.toList_some, Option.toList_none, List.nil_append, List.cons_append, ite_true, ite_false, Int.cast_ofNat_Int, reduceIte, i3_add_eq, i3_sub_eq, Int.add_sub_cancel, Int.add_neg_cancel_right, hO hL69 h69, hOr, fr_id, hS1, hB hL27 h27', e1, hO hL69 h69', hOs h69'])
  exact hq
theorem c16_l (hB : BRd L sh s) (hT : TP g N) (hq : ∀ e, BF c e s → e 69 4 = f → (f = 0 → SHO B' s e ∧ WB B') → Q (some (.inr (.inr (.inl (if f = 0 then some s else none))))) (hp L sh e) n) : ∀ (m : Nat) (k p R : Int) (B d : Nat → Int → Int), k + m = 41 → WP B R k → 0 ≤ p → p ≤ N → bpr g N m k p R B = (f, B') → RD d g N p → RB d s B R → STRS sh d → BF c d s → tc_W 16 32 [rf 69, rf 27, .inl N, .inl 1, .inl k] [] (hp L sh d) n Q := by
  obtain ⟨hL, h69, h27, hSh, hs⟩ := id hB
  have hL69 : 69 < L := by omega
  have hN := hT.1
  intro m
  induction m with
  | zero =>
    intro k p R B d hk hW
    have := hW.1
    omega
  | succ m ih =>
    intro k p R B d hk hW hp1 hp2 hb hR hRB hST hBF
    have hk0 := hW.1
    unfold bpr at hb
    rcases hbc : bcl g N k p R B with ⟨f1, p1, R1, B1⟩
    rw [hbc] at hb
    simp only at hb
    simp only [r16_32]
    repeat' (first | (simp (disch := first | omega | exact Nat.le_of_ble_eq_true rfl | exact rfl | assumption | (simp (disch := omega) only [fr_ne, fr_same]; first | assumption | omega)) only [r16_0, r16_1, r16_2, r16_3, v16_3_0, r16_6, r16_7, r16_10, r16_10A, r16_11, r16_14, r16_17, r16_18, r16_19, r16_22, r16_23, r16_24, r16_27, r16_28i, r16_29, r16_30i, r16_36, r16_38, r16_43, r16_44, r16_46, v16_46_0, r16_49, r16_50, v16_50_0, r16_53i, r16_54i, r16_57, r16_60, r16_61, r16_67, r16_68, r16_71, r16_74, r16_75, p0_9_0, p0_15_0, p0_19_0, g0_38_0, g0_38_2, g0_9_0, o0_len, o0_s5, o0_s6, o0_s7, o0_g4, o2_len, o2_g4, o0_g5, il_s, bl_s, bl_z, ll_s, is_s, bs_s, bs_z, ls_s, al_s, al_b, al_l, fr_ne, fr_same, fr_fr, Nat.reduceEqDiff, tc_gf3_s, tc_ql2_s, tc_ws_0, tc_ws_i, tc_ws_l, tc_ws_r, Nat.reduceLeDiff, Nat.reduceAdd, Nat.reduceLT, true_and, and_true, if_true, if_false, tc_K, Option.toList_some, Option.toList_none, List.nil_append, List.cons_append, ite_true, ite_false, Int.cast_ofNat_Int, reduceIte, i3_add_eq, i3_sub_eq, Int.add_sub_cancel, Int.add_neg_cancel_right, hO hL69 h69]) | (simp only [r16_33, r16_40, r16_64, i6_lt0, i6_0lt, i6_0le, i6_le0, i6_eq0, b10_0, ite_not, Int.reduceLT, Int.reduceLE, Int.reduceEq, Int.reduceNeg, if_true, if_false, ite_true, ite_false, reduceIte, eq_self, not_true, not_false_eq_true]; try refine tc_ite (fun _ => ?_) (fun _ => ?_) <;> try (exfalso; omega)))
    all_goals try omega
    refine c19 hB hST hT hR ⟨hp1, hp2⟩ hRB hW hbc ?_
    intro e k1 k2 k3 k4
    have hBe := hBF.trans k1
    by_cases hf1 : f1 = 0
    · subst hf1
      obtain ⟨k5, k6⟩ := k4 rfl
      have hwp := bcl_wp hbc hW ⟨hp1, hp2⟩
      rw [if_neg (fun z => z rfl)] at hb
      have e27 : e 27 = g := by rw [k1 27 (by omega) (by omega)]; exact hR.1
      have h45 := fun Q => c45_b (c := e) (n := n) (Q := Q) (N := N) (p := p1) h69 h27 hL (by rw [e27]; exact hT) k2 k5 (by omega) k3
      rw [e27] at h45
      have hr := nm_rng (g := g) (p := p1) (N := N) hwp.2
      generalize hq0 : sk g N p1 = q at hb h45 hr
      by_cases hgf : gof g N q = 0
      · rw [if_neg (fun z => z hgf)] at hb
        rw [hgf] at h45
        rcases gon_01 g N q with hgn | hgn
        · rw [if_neg (by omega)] at hb
          rw [hgn, if_neg (by omega)] at h45
          injection hb with hb1 hb2
          subst hb1 hb2
          have hq' := hq (fr e 69 (fu (fu (e 69) 4 0) 2 q)) (hBe.trans (BF.of69 fun a ha => fr_ne ha)) (by rw [fr_same, fu_ne (by omega), fu_same]) (fun _ => ⟨k6.2.2.fr fun a a1 a2 => fr_ne (by omega), hwp.1.wb (by omega)⟩)
          rw [if_pos rfl] at hq'
          repeat' (first | (simp (disch := first | omega | exact Nat.le_of_ble_eq_true rfl | exact rfl | assumption | (simp (disch := omega) only [fr_ne, fr_same]; first | assumption | omega)) only [r16_0, r16_1, r16_2, r16_3, v16_3_0, r16_6, r16_7, r16_10, r16_10A, r16_11, r16_14, r16_17, r16_18, r16_19, r16_22, r16_23, r16_24, r16_27, r16_28i, r16_29, r16_30i, r16_36, r16_38, r16_43, r16_44, r16_46, v16_46_0, r16_49, r16_50, v16_50_0, r16_53i, r16_54i, r16_57, r16_60, r16_61, r16_67, r16_68, r16_71, r16_74, r16_75, p0_9_0, p0_15_0, p0_19_0, g0_38_0, g0_38_2, g0_9_0, o0_len, o0_s5, o0_s6, o0_s7, o0_g4, o2_len, o2_g4, o0_g5, il_s, bl_s, bl_z, ll_s, is_s, bs_s, bs_z, ls_s, al_s, al_b, al_l, fr_ne, fr_same, fr_fr, Nat.reduceEqDiff, tc_gf3_s, tc_ql2_s, tc_ws_0, tc_ws_i, tc_ws_l, tc_ws_r, Nat.reduceLeDiff, Nat.reduceAdd, Nat.reduceLT, true_and, and_true, if_true, if_false, tc_K, Option.toList_some, Option.toList_none, List.nil_append, List.cons_append, ite_true, ite_false, Int.cast_ofNat_Int, reduceIte, i3_add_eq, i3_sub_eq, Int.add_sub_cancel, Int.add_neg_cancel_right, hO hL69 h69, h45]) | (simp only [r16_33, r16_40, r16_64, i6_lt0, i6_0lt, i6_0le, i6_le0, i6_eq0, b10_0, ite_not, Int.reduceLT, Int.reduceLE, Int.reduceEq, Int.reduceNeg, if_true, if_false, ite_true, ite_false, reduceIte, eq_self, not_true, not_false_eq_true]; try refine tc_ite (fun _ => ?_) (fun _ => ?_) <;> try (exfalso; omega)))
          simp only [r16_32]
          repeat' (first | (simp (disch := first | omega | exact Nat.le_of_ble_eq_true rfl | exact rfl | assumption | (simp (disch := omega) only [fr_ne, fr_same]; first | assumption | omega)) only [r16_0, r16_1, r16_2, r16_3, v16_3_0, r16_6, r16_7, r16_10, r16_10A, r16_11, r16_14, r16_17, r16_18, r16_19, r16_22, r16_23, r16_24, r16_27, r16_28i, r16_29, r16_30i, r16_36, r16_38, r16_43, r16_44, r16_46, v16_46_0, r16_49, r16_50, v16_50_0, r16_53i, r16_54i, r16_57, r16_60, r16_61, r16_67, r16_68, r16_71, r16_74, r16_75, p0_9_0, p0_15_0, p0_19_0, g0_38_0, g0_38_2, g0_9_0, o0_len, o0_s5, o0_s6, o0_s7, o0_g4, o2_len, o2_g4, o0_g5, il_s, bl_s, bl_z, ll_s, is_s, bs_s, bs_z, ls_s, al_s, al_b, al_l, fr_ne, fr_same, fr_fr, Nat.reduceEqDiff, tc_gf3_s, tc_ql2_s, tc_ws_0, tc_ws_i, tc_ws_l, tc_ws_r, Nat.reduceLeDiff, Nat.reduceAdd, Nat.reduceLT, true_and, and_true, if_true, if_false, tc_K, Option.toList_some, Option.toList_none, List.nil_append, List.cons_append, ite_true, ite_false, Int.cast_ofNat_Int, reduceIte, i3_add_eq, i3_sub_eq, Int.add_sub_cancel, Int.add_neg_cancel_right, hO hL69 h69, fu_ne, fu_same]) | (simp only [r16_33, r16_40, r16_64, i6_lt0, i6_0lt, i6_0le, i6_le0, i6_eq0, b10_0, ite_not, Int.reduceLT, Int.reduceLE, Int.reduceEq, Int.reduceNeg, if_true, if_false, ite_true, ite_false, reduceIte, eq_self, not_true, not_false_eq_true]; try refine tc_ite (fun _ => ?_) (fun _ => ?_) <;> try (exfalso; omega)))
          all_goals first
            | exact hq'
            | omega
        · rw [if_pos hgn] at hb
          rw [hgn, if_pos rfl] at h45
          have hg1 := gon_1 hgn
          repeat' (first | (simp (disch := first | omega | exact Nat.le_of_ble_eq_true rfl | exact rfl | assumption | (simp (disch := omega) only [fr_ne, fr_same]; first | assumption | omega)) only [r16_0, r16_1, r16_2, r16_3, v16_3_0, r16_6, r16_7, r16_10, r16_10A, r16_11, r16_14, r16_17, r16_18, r16_19, r16_22, r16_23, r16_24, r16_27, r16_28i, r16_29, r16_30i, r16_36, r16_38, r16_43, r16_44, r16_46, v16_46_0, r16_49, r16_50, v16_50_0, r16_53i, r16_54i, r16_57, r16_60, r16_61, r16_67, r16_68, r16_71, r16_74, r16_75, p0_9_0, p0_15_0, p0_19_0, g0_38_0, g0_38_2, g0_9_0, o0_len, o0_s5, o0_s6, o0_s7, o0_g4, o2_len, o2_g4, o0_g5, il_s, bl_s, bl_z, ll_s, is_s, bs_s, bs_z, ls_s, al_s, al_b, al_l, fr_ne, fr_same, fr_fr, Nat.reduceEqDiff, tc_gf3_s, tc_ql2_s, tc_ws_0, tc_ws_i, tc_ws_l, tc_ws_r, Nat.reduceLeDiff, Nat.reduceAdd, Nat.reduceLT, true_and, and_true, if_true, if_false, tc_K, Option.toList_some, Option.toList_none, List.nil_append, List.cons_append, ite_true, ite_false, Int.cast_ofNat_Int, reduceIte, i3_add_eq, i3_sub_eq, Int.add_sub_cancel, Int.add_neg_cancel_right, hO hL69 h69, h45]) | (simp only [r16_33, r16_40, r16_64, i6_lt0, i6_0lt, i6_0le, i6_le0, i6_eq0, b10_0, ite_not, Int.reduceLT, Int.reduceLE, Int.reduceEq, Int.reduceNeg, if_true, if_false, ite_true, ite_false, reduceIte, eq_self, not_true, not_false_eq_true]; try refine tc_ite (fun _ => ?_) (fun _ => ?_) <;> try (exfalso; omega)))
          refine ih (k + 1) (q + 1) R1 B1 _ (by omega) hwp.1 (by omega) (by omega) hb ⟨?_, ?_, ?_, ?_⟩ ⟨?_, ?_, ?_⟩ ?_ (hBe.trans (BF.of69 fun a ha => fr_ne ha))
          · rw [fr_ne (by omega)]
            exact e27
          · rw [fr_same, fu_ne (by omega), fu_ne (by omega)]
            exact k2
          · rw [fr_same, fu_same]
          · rw [fr_same, fu_ne (by omega), fu_same]
          · rw [fr_same, fu_ne (by omega), fu_ne (by omega)]
            exact k6.1
          · rw [fr_same, fu_ne (by omega), fu_ne (by omega)]
            exact k6.2.1
          · exact k6.2.2.fr fun a a1 a2 => fr_ne (by omega)
          · intro a ha
            refine ⟨(hST a ha).1, ?_⟩
            rw [fr_ne (by omega), k1 a (by omega) (by omega)]
            exact (hST a ha).2
      · rw [if_pos hgf] at hb
        rw [gof_gon hgf, if_neg (by omega)] at h45
        injection hb with hb1 hb2
        rw [hb1] at h45 hgf
        have hq' := hq (fr e 69 (fu (fu (e 69) 4 f) 2 q)) (hBe.trans (BF.of69 fun a ha => fr_ne ha)) (by rw [fr_same, fu_ne (by omega), fu_same]) (fun z => absurd z hgf)
        rw [if_neg hgf] at hq'
        repeat' (first | (simp (disch := first | omega | exact Nat.le_of_ble_eq_true rfl | exact rfl | assumption | (simp (disch := omega) only [fr_ne, fr_same]; first | assumption | omega)) only [r16_0, r16_1, r16_2, r16_3, v16_3_0, r16_6, r16_7, r16_10, r16_10A, r16_11, r16_14, r16_17, r16_18, r16_19, r16_22, r16_23, r16_24, r16_27, r16_28i, r16_29, r16_30i, r16_36, r16_38, r16_43, r16_44, r16_46, v16_46_0, r16_49, r16_50, v16_50_0, r16_53i, r16_54i, r16_57, r16_60, r16_61, r16_67, r16_68, r16_71, r16_74, r16_75, p0_9_0, p0_15_0, p0_19_0, g0_38_0, g0_38_2, g0_9_0, o0_len, o0_s5, o0_s6, o0_s7, o0_g4, o2_len, o2_g4, o0_g5, il_s, bl_s, bl_z, ll_s, is_s, bs_s, bs_z, ls_s, al_s, al_b, al_l, fr_ne, fr_same, fr_fr, Nat.reduceEqDiff, tc_gf3_s, tc_ql2_s, tc_ws_0, tc_ws_i, tc_ws_l, tc_ws_r, Nat.reduceLeDiff, Nat.reduceAdd, Nat.reduceLT, true_and, and_true, if_true, if_false, tc_K, Option.toList_some, Option.toList_none, List.nil_append, List.cons_append, ite_true, ite_false, Int.cast_ofNat_Int, reduceIte, i3_add_eq, i3_sub_eq, Int.add_sub_cancel, Int.add_neg_cancel_right, hO hL69 h69, h45]) | (simp only [r16_33, r16_40, r16_64, i6_lt0, i6_0lt, i6_0le, i6_le0, i6_eq0, b10_0, ite_not, Int.reduceLT, Int.reduceLE, Int.reduceEq, Int.reduceNeg, if_true, if_false, ite_true, ite_false, reduceIte, eq_self, not_true, not_false_eq_true]; try refine tc_ite (fun _ => ?_) (fun _ => ?_) <;> try (exfalso; omega)))
        simp only [r16_32]
        repeat' (first | (simp (disch := first | omega | exact Nat.le_of_ble_eq_true rfl | exact rfl | assumption | (simp (disch := omega) only [fr_ne, fr_same]; first | assumption | omega)) only [r16_0, r16_1, r16_2, r16_3, v16_3_0, r16_6, r16_7, r16_10, r16_10A, r16_11, r16_14, r16_17, r16_18, r16_19, r16_22, r16_23, r16_24, r16_27, r16_28i, r16_29, r16_30i, r16_36, r16_38, r16_43, r16_44, r16_46, v16_46_0, r16_49, r16_50, v16_50_0, r16_53i, r16_54i, r16_57, r16_60, r16_61, r16_67, r16_68, r16_71, r16_74, r16_75, p0_9_0, p0_15_0, p0_19_0, g0_38_0, g0_38_2, g0_9_0, o0_len, o0_s5, o0_s6, o0_s7, o0_g4, o2_len, o2_g4, o0_g5, il_s, bl_s, bl_z, ll_s, is_s, bs_s, bs_z, ls_s, al_s, al_b, al_l, fr_ne, fr_same, fr_fr, Nat.reduceEqDiff, tc_gf3_s, tc_ql2_s, tc_ws_0, tc_ws_i, tc_ws_l, tc_ws_r, Nat.reduceLeDiff, Nat.reduceAdd, Nat.reduceLT, true_and, and_true, if_true, if_false, tc_K, Option.toList_some, Option.toList_none, List.nil_append, List.cons_append, ite_true, ite_false, Int.cast_ofNat_Int, reduceIte, i3_add_eq, i3_sub_eq, Int.add_sub_cancel, Int.add_neg_cancel_right, hO hL69 h69, fu_ne, fu_same]) | (simp only [r16_33, r16_40, r16_64, i6_lt0, i6_0lt, i6_0le, i6_le0, i6_eq0, b10_0, ite_not, Int.reduceLT, Int.reduceLE, Int.reduceEq, Int.reduceNeg, if_true, if_false, ite_true, ite_false, reduceIte, eq_self, not_true, not_false_eq_true]; try refine tc_ite (fun _ => ?_) (fun _ => ?_) <;> try (exfalso; omega)))
        all_goals first
          | exact hq'
          | omega
    · rw [if_pos hf1] at hb
      injection hb with hb1 hb2
      subst hb1
      have h45 := fun Q => c45f_b (c := e) (n := n) (Q := Q) h69 h27 hL (by rw [k3]; exact hf1)
      have hq' := hq e hBe k3 (fun z => absurd z hf1)
      rw [if_neg hf1] at hq'
      repeat' (first | (simp (disch := first | omega | exact Nat.le_of_ble_eq_true rfl | exact rfl | assumption | (simp (disch := omega) only [fr_ne, fr_same]; first | assumption | omega)) only [r16_0, r16_1, r16_2, r16_3, v16_3_0, r16_6, r16_7, r16_10, r16_10A, r16_11, r16_14, r16_17, r16_18, r16_19, r16_22, r16_23, r16_24, r16_27, r16_28i, r16_29, r16_30i, r16_36, r16_38, r16_43, r16_44, r16_46, v16_46_0, r16_49, r16_50, v16_50_0, r16_53i, r16_54i, r16_57, r16_60, r16_61, r16_67, r16_68, r16_71, r16_74, r16_75, p0_9_0, p0_15_0, p0_19_0, g0_38_0, g0_38_2, g0_9_0, o0_len, o0_s5, o0_s6, o0_s7, o0_g4, o2_len, o2_g4, o0_g5, il_s, bl_s, bl_z, ll_s, is_s, bs_s, bs_z, ls_s, al_s, al_b, al_l, fr_ne, fr_same, fr_fr, Nat.reduceEqDiff, tc_gf3_s, tc_ql2_s, tc_ws_0, tc_ws_i, tc_ws_l, tc_ws_r, Nat.reduceLeDiff, Nat.reduceAdd, Nat.reduceLT, true_and, and_true, if_true, if_false, tc_K, Option.toList_some, Option.toList_none, List.nil_append, List.cons_append, ite_true, ite_false, Int.cast_ofNat_Int, reduceIte, i3_add_eq, i3_sub_eq, Int.add_sub_cancel, Int.add_neg_cancel_right, hO hL69 h69, h45]) | (simp only [r16_33, r16_40, r16_64, i6_lt0, i6_0lt, i6_0le, i6_le0, i6_eq0, b10_0, ite_not, Int.reduceLT, Int.reduceLE, Int.reduceEq, Int.reduceNeg, if_true, if_false, ite_true, ite_false, reduceIte, eq_self, not_true, not_false_eq_true]; try refine tc_ite (fun _ => ?_) (fun _ => ?_) <;> try (exfalso; omega)))
      simp only [r16_32]
      repeat' (first | (simp (disch := first | omega | exact Nat.le_of_ble_eq_true rfl | exact rfl | assumption | (simp (disch := omega) only [fr_ne, fr_same]; first | assumption | omega)) only [r16_0, r16_1, r16_2, r16_3, v16_3_0, r16_6, r16_7, r16_10, r16_10A, r16_11, r16_14, r16_17, r16_18, r16_19, r16_22, r16_23, r16_24, r16_27, r16_28i, r16_29, r16_30i, r16_36, r16_38, r16_43, r16_44, r16_46, v16_46_0, r16_49, r16_50, v16_50_0, r16_53i, r16_54i, r16_57, r16_60, r16_61, r16_67, r16_68, r16_71, r16_74, r16_75, p0_9_0, p0_15_0, p0_19_0, g0_38_0, g0_38_2, g0_9_0, o0_len, o0_s5, o0_s6, o0_s7, o0_g4, o2_len, o2_g4, o0_g5, il_s, bl_s, bl_z, ll_s, is_s, bs_s, bs_z, ls_s, al_s, al_b, al_l, fr_ne, fr_same, fr_fr, Nat.reduceEqDiff, tc_gf3_s, tc_ql2_s, tc_ws_0, tc_ws_i, tc_ws_l, tc_ws_r, Nat.reduceLeDiff, Nat.reduceAdd, Nat.reduceLT, true_and, and_true, if_true, if_false, tc_K, Option.toList_some, Option.toList_none, List.nil_append, List.cons_append, ite_true, ite_false, Int.cast_ofNat_Int, reduceIte, i3_add_eq, i3_sub_eq, Int.add_sub_cancel, Int.add_neg_cancel_right, hO hL69 h69, k3]) | (simp only [r16_33, r16_40, r16_64, i6_lt0, i6_0lt, i6_0le, i6_le0, i6_eq0, b10_0, ite_not, Int.reduceLT, Int.reduceLE, Int.reduceEq, Int.reduceNeg, if_true, if_false, ite_true, ite_false, reduceIte, eq_self, not_true, not_false_eq_true]; try refine tc_ite (fun _ => ?_) (fun _ => ?_) <;> try (exfalso; omega)))
      all_goals first
        | exact hq'
        | omega
theorem c16 (hL : 115 ≤ L) {t0 so : Option Nat} (h69 : sh 69 = (6, 0, [t0, so])) (h27 : sh 27 = (1, 400, [])) (hST : STRS sh c) (hT : TP (c 27) N) (hb : bpr (c 27) N 41 0 0 0 bsg = (f, B'))
    (hq : ∀ sh' e, (∀ a, a < L → ¬ a = 69 → sh' a = sh a ∧ e a = c a) → sh' 69 = (6, 0, [some 27, some L]) → ShoS (L + 8) sh' L → e 69 4 = f → (f = 0 → SHO B' L e ∧ WB B') → Q (some (.inr (.inr (.inl (if f = 0 then some L else none))))) (hp (L + 8) sh' e) (n + 170)) : tc_C 16 [rf 69, rf 27, .inl N] (hp L sh c) n Q := by
  have h17 := fun Q => c17_b (c := c) (n := n) (Q := Q) (N := N) hL h69 h27 hT.1
  generalize hS1 : fs sh 69 (6, 0, [some 27, so]) = S1 at h17
  generalize hc1 : fr c 69 (fu (fu (fu (fu (c 69) 1 N) 2 0) 3 0) 4 0) = c1 at h17
  have h69' : S1 69 = (6, 0, [some 27, so]) := by rw [← hS1, fs_same]
  have hL69 : 69 < L := by omega
  show tc_W 16 0 [rf 69, rf 27, .inl N, tc_nil, tc_nil] [] _ _ Q
  repeat' (first | (simp (disch := first | omega | exact Nat.le_of_ble_eq_true rfl | exact rfl | assumption | (simp (disch := omega) only [fr_ne, fr_same]; first | assumption | omega)) only [r16_0, r16_1, r16_2, r16_3, v16_3_0, r16_6, r16_7, r16_10, r16_10A, r16_11, r16_14, r16_17, r16_18, r16_19, r16_22, r16_23, r16_24, r16_27, r16_28i, r16_29, r16_30i, r16_36, r16_38, r16_43, r16_44, r16_46, v16_46_0, r16_49, r16_50, v16_50_0, r16_53i, r16_54i, r16_57, r16_60, r16_61, r16_67, r16_68, r16_71, r16_74, r16_75, p0_9_0, p0_15_0, p0_19_0, g0_38_0, g0_38_2, g0_9_0, o0_len, o0_s5, o0_s6, o0_s7, o0_g4, o2_len, o2_g4, o0_g5, il_s, bl_s, bl_z, ll_s, is_s, bs_s, bs_z, ls_s, al_s, al_b, al_l, fr_ne, fr_same, fr_fr, Nat.reduceEqDiff, tc_gf3_s, tc_ql2_s, tc_ws_0, tc_ws_i, tc_ws_l, tc_ws_r, Nat.reduceLeDiff, Nat.reduceAdd, Nat.reduceLT, true_and, and_true, if_true, if_false, tc_K, Option.toList_some, Option.toList_none, List.nil_append, List.cons_append, ite_true, ite_false, Int.cast_ofNat_Int, reduceIte, i3_add_eq, i3_sub_eq, Int.add_sub_cancel, Int.add_neg_cancel_right, hO hL69 h69, h17, o8_new, nap_o, hp_len]) | (simp only [r16_33, r16_40, r16_64, i6_lt0, i6_0lt, i6_0le, i6_le0, i6_eq0, b10_0, ite_not, Int.reduceLT, Int.reduceLE, Int.reduceEq, Int.reduceNeg, if_true, if_false, ite_true, ite_false, reduceIte, eq_self, not_true, not_false_eq_true]; try refine tc_ite (fun _ => ?_) (fun _ => ?_) <;> try (exfalso; omega)))
  refine c2 (r := L) (fs_same _ _ _) ?_
  intro sh2 c2 k1 k2 k3 k4
  have hL69' : 69 < L + 8 := by omega
  have e69 : sh2 69 = (6, 0, [some 27, so]) := by rw [(k1 69 (by omega)).1, fs_ne (by omega)]; exact h69'
  have f69 : c2 69 = c1 69 := by rw [(k1 69 (by omega)).2, fr_ne (by omega)]
  generalize hS3 : fs sh2 69 (6, 0, [some 27, some L]) = S3
  have e69' : S3 69 = (6, 0, [some 27, some L]) := by rw [← hS3, fs_same]
  repeat' (first | (simp (disch := first | omega | exact Nat.le_of_ble_eq_true rfl | exact rfl | assumption | (simp (disch := omega) only [fr_ne, fr_same]; first | assumption | omega)) only [r16_0, r16_1, r16_2, r16_3, v16_3_0, r16_6, r16_7, r16_10, r16_10A, r16_11, r16_14, r16_17, r16_18, r16_19, r16_22, r16_23, r16_24, r16_27, r16_28i, r16_29, r16_30i, r16_36, r16_38, r16_43, r16_44, r16_46, v16_46_0, r16_49, r16_50, v16_50_0, r16_53i, r16_54i, r16_57, r16_60, r16_61, r16_67, r16_68, r16_71, r16_74, r16_75, p0_9_0, p0_15_0, p0_19_0, g0_38_0, g0_38_2, g0_9_0, o0_len, o0_s5, o0_s6, o0_s7, o0_g4, o2_len, o2_g4, o0_g5, il_s, bl_s, bl_z, ll_s, is_s, bs_s, bs_z, ls_s, al_s, al_b, al_l, fr_ne, fr_same, fr_fr, Nat.reduceEqDiff, tc_gf3_s, tc_ql2_s, tc_ws_0, tc_ws_i, tc_ws_l, tc_ws_r, Nat.reduceLeDiff, Nat.reduceAdd, Nat.reduceLT, true_and, and_true, if_true, if_false, tc_K, Option.toList_some, Option.toList_none, List.nil_append, List.cons_append, ite_true, ite_false, Int.cast_ofNat_Int, reduceIte, i3_add_eq, i3_sub_eq, Int.add_sub_cancel, Int.add_neg_cancel_right, hO hL69' e69, hOr, fr_id, hS3, hO hL69' e69', hOs e69', p19_0]) | (simp only [r16_33, r16_40, r16_64, i6_lt0, i6_0lt, i6_0le, i6_le0, i6_eq0, b10_0, ite_not, Int.reduceLT, Int.reduceLE, Int.reduceEq, Int.reduceNeg, if_true, if_false, ite_true, ite_false, reduceIte, eq_self, not_true, not_false_eq_true]; try refine tc_ite (fun _ => ?_) (fun _ => ?_) <;> try (exfalso; omega)))
  have hfr : ∀ a, a < L → ¬ a = 69 → S3 a = sh a ∧ c2 a = c a := fun a ha hn => by
    rw [← hS3, fs_ne hn, (k1 a ha).1, (k1 a ha).2, fs_ne (by omega), fr_ne (by omega), ← hS1, fs_ne hn, ← hc1, fr_ne hn]
    exact ⟨rfl, rfl⟩
  have hSh : ShoS (L + 8) S3 L := by rw [← hS3]; exact ShoS_fs k2 (by omega)
  have hBR : BRd (L + 8) S3 L := ⟨by omega, e69', by rw [(hfr 27 (by omega) (by omega)).1]; exact h27, hSh, hL⟩
  have g69 : ∀ i, c1 69 i = fu (fu (fu (fu (c 69) 1 N) 2 0) 3 0) 4 0 i := fun i => by rw [← hc1, fr_same]
  refine c16_l (c := c2) (s := L) (f := f) (B' := B') (g := c 27) (N := N) hBR hT ?_ 41 0 0 0 bsg _ (by omega) ?_ (by omega) hT.1.1 hb ⟨?_, ?_, ?_, ?_⟩ ⟨?_, ?_, ?_⟩ ?_ (BF.of69 fun a ha => fr_ne ha)
  · intro e h1 h2 h3
    exact hq S3 e (fun a ha hn => ⟨(hfr a ha hn).1, (h1 a hn (by omega)).trans (hfr a ha hn).2⟩) e69' hSh h2 h3
  · exact ⟨by omega, by decide, Or.inl ⟨rfl, rfl, rfl, rfl⟩, by decide, Or.inl rfl, by decide, fun f f1 f2 => absurd f2 (by show ¬ f < 0; omega), fun f f1 f2 => absurd f2 (by show ¬ f < 0; omega), fun x _ _ => by show (0 : Int) ≤ 2 ∧ (2 : Int) ≤ 9; omega, fun _ x _ _ => rfl⟩
  · rw [fr_ne (by omega), (hfr 27 (by omega) (by omega)).2]
  · rw [fr_same, fu_ne (by omega), fu_ne (by omega), f69, g69]
    simp (disch := omega) only [fu_ne, fu_same]
  · rw [fr_same, fu_ne (by omega), fu_ne (by omega), f69, g69]
    simp (disch := omega) only [fu_ne, fu_same]
  · rw [fr_same, fu_ne (by omega), fu_ne (by omega), f69, g69]
    simp (disch := omega) only [fu_ne, fu_same]
  · rw [fr_same, fu_ne (by omega), fu_same]
  · rw [fr_same, fu_same]
    rfl
  · have q : ∀ F a, ¬ a = 69 → fr c2 69 F a = c2 a := fun F a ha => fr_ne ha
    refine ⟨⟨?_, ?_, fun x d x1 x2 => ?_⟩, ⟨?_, ?_, ?_⟩, fun f f1 f2 => ?_, fun f f1 f2 => ?_, ⟨?_, ?_, ?_⟩, fun x x1 x2 => ?_⟩
    · rw [q _ L (by omega)]
      exact k3.1
    · rw [q _ L (by omega)]
      exact k3.2.2.1
    · have x2 : x < 0 := x2
      omega
    · rw [q _ L (by omega)]
      exact k3.2.1
    · rw [q _ L (by omega)]
      exact k3.2.2.2.1
    · rw [q _ L (by omega)]
      exact k3.2.2.2.2
    · have f2 : f < 0 := f2
      omega
    · have f2 : f < 0 := f2
      omega
    · rw [q _ (L + 6) (by omega)]
      exact k4.1
    · rw [q _ (L + 6) (by omega)]
      exact k4.2.1
    · rw [q _ (L + 6) (by omega)]
      exact k4.2.2
    · have x2 : x < 0 := x2
      omega
  · intro a ha
    rw [fr_ne (by omega), (hfr a (by omega) (by omega)).1, (hfr a (by omega) (by omega)).2]
    exact hST a ha
end BEACHF

/-! the class: cells, odds, forces told, logs -/
section ODDSQ
variable {L : Nat} {sh : Nat → SH} {c : Nat → Int → Int} {n : Nat} {Q : Option AV → List SC → Nat → Prop} {s : Nat} {v : Option Nat} {b σ : Nat → Int → Int} {la : Option Law}
theorem c69 (hM : MO sh s) (hSh : ShoS L sh s) (h38 : SanS L sh 38) (hL : 115 ≤ L) {m x : Int} {fe at_ : Int → Int} (hm : 0 ≤ m ∧ m ≤ 6) (h3 : c s 3 = m) (hst : c 38 3 = (mk (stn fe) m.toNat : Nat)) (hat : ∀ f, 0 ≤ f → f < m → c 40 f = at_ f) : tc_C 69 [rf 26, .inl x] (hp L sh c) n Q = Q (some (.inl (mk (fin fe at_ x) m.toNat : Nat))) (hp L sh c) n := tc_det fun Q hq => by
  obtain ⟨h26, h29⟩ := id hM
  have hL26 : 26 < L := by omega
  have hL29 : 29 < L := by omega
  show tc_W 69 0 [rf 26, .inl x, tc_nil, tc_nil] [] _ _ Q
  repeat' (first | (simp (disch := first | omega | exact Nat.le_of_ble_eq_true rfl | exact rfl | assumption | (simp (disch := omega) only [fr_ne, fr_same]; first | assumption | omega)) only [r69_0, r69_1i, r69_2, r69_3i, r69_5, r69_6, r69_9, r69_12, r69_18, r69_19, r69_22, r69_25, r69_26, v69_26_5, r69_32, r69_33, r69_36, r69_39, r69_42, r69_43, r69_44, r69_48, r69_49, r69_50, r69_51, r69_52, r69_53i, r69_54i, r69_57, r69_60, r69_61, g10_34_10, g10_131_6, g10_323_8, g10_109_6, g10_128_5, o10_len, o10_g4, o6_len, o6_g0, o8_len, o8_g3, o6_g1, o5_len, o5_g1, il_s, bl_s, bl_z, ll_s, is_s, bs_s, bs_z, ls_s, al_s, al_b, al_l, fr_ne, fr_same, fr_fr, Nat.reduceEqDiff, tc_gf3_s, tc_ql2_s, tc_ws_0, tc_ws_i, tc_ws_l, tc_ws_r, Nat.reduceLeDiff, Nat.reduceAdd, Nat.reduceLT, true_and, and_true, if_true, if_false, tc_K, Option.toList_some, Option.toList_none, List.nil_append, List.cons_append, ite_true, ite_false, Int.cast_ofNat_Int, reduceIte, i3_add_eq, i3_sub_eq, Int.add_sub_cancel, Int.add_neg_cancel_right]) | (simp only [r69_15, r69_29, r69_45, i6_lt0, i6_0lt, i6_0le, i6_le0, i6_eq0, b10_0, ite_not, Int.reduceLT, Int.reduceLE, Int.reduceEq, Int.reduceNeg, if_true, if_false, ite_true, ite_false, reduceIte, eq_self, not_true, not_false_eq_true]; try refine tc_ite (fun _ => ?_) (fun _ => ?_) <;> try (exfalso; omega)))
  refine upI (N := m) (P := fun k => tc_W 69 4 [rf 26, .inl x, .inl (mk (fin fe at_ x) k.toNat : Nat), .inl k] [] (hp L sh c) n Q) hm.1 ?_ ?_
  · intro k hk hk2 ih
    have h70 := fun Q => c70 (c := c) (n := n) (Q := Q) h38 (m := m.toNat) (by omega) hst (f := k) hk (by omega)
    have e4 := hat k hk hk2
    simp only [r69_4]
    by_cases hf : fe k = -1
    · have hs1 : stn fe k = true := decide_eq_true hf
      simp only [hs1, if_true] at h70
      by_cases hx : at_ k = x
      · have e1 : fin fe at_ x k = true := by unfold fin; rw [decide_eq_true hf, decide_eq_true hx]; rfl
        have e2 := mk_or hk (by omega) e1
        repeat' (first | (simp (disch := first | omega | exact Nat.le_of_ble_eq_true rfl | exact rfl | assumption | (simp (disch := omega) only [fr_ne, fr_same]; first | assumption | omega)) only [r69_0, r69_1i, r69_2, r69_3i, r69_5, r69_6, r69_9, r69_12, r69_18, r69_19, r69_22, r69_25, r69_26, v69_26_5, r69_32, r69_33, r69_36, r69_39, r69_42, r69_43, r69_44, r69_48, r69_49, r69_50, r69_51, r69_52, r69_53i, r69_54i, r69_57, r69_60, r69_61, g10_34_10, g10_131_6, g10_323_8, g10_109_6, g10_128_5, o10_len, o10_g4, o6_len, o6_g0, o8_len, o8_g3, o6_g1, o5_len, o5_g1, il_s, bl_s, bl_z, ll_s, is_s, bs_s, bs_z, ls_s, al_s, al_b, al_l, fr_ne, fr_same, fr_fr, Nat.reduceEqDiff, tc_gf3_s, tc_ql2_s, tc_ws_0, tc_ws_i, tc_ws_l, tc_ws_r, Nat.reduceLeDiff, Nat.reduceAdd, Nat.reduceLT, true_and, and_true, if_true, if_false, tc_K, Option.toList_some, Option.toList_none, List.nil_append, List.cons_append, ite_true, ite_false, Int.cast_ofNat_Int, reduceIte, i3_add_eq, i3_sub_eq, Int.add_sub_cancel, Int.add_neg_cancel_right, hO hL26 h26, hO hL29 h29, SanS_g0 h38, SanS_s0 h38, SanS_g1 h38, SanS_s1 h38, SanS_g2 h38, SanS_s2 h38, SanS_g3 h38, SanS_s3 h38, ShoS_g0 hSh, ShoS_s0 hSh, ShoS_g1 hSh, ShoS_s1 hSh, ShoS_g2 hSh, ShoS_s2 hSh, ShoS_g3 hSh, ShoS_s3 hSh, ShoS_g4 hSh, ShoS_s4 hSh, ShoS_g5 hSh, ShoS_s5 hSh, ShoS_g6 hSh, ShoS_s6 hSh, ShoS_g7 hSh, ShoS_s7 hSh, h3, h70, e4]) | (simp only [r69_15, r69_29, r69_45, i6_lt0, i6_0lt, i6_0le, i6_le0, i6_eq0, b10_0, ite_not, Int.reduceLT, Int.reduceLE, Int.reduceEq, Int.reduceNeg, if_true, if_false, ite_true, ite_false, reduceIte, eq_self, not_true, not_false_eq_true]; try refine tc_ite (fun _ => ?_) (fun _ => ?_) <;> try (exfalso; omega)))
        all_goals first
          | (rw [e2]; exact ih)
          | omega
      · have e1 : fin fe at_ x k = false := by unfold fin; rw [decide_eq_false hx]; exact Bool.and_false _
        have e2 := mk_no hk e1
        repeat' (first | (simp (disch := first | omega | exact Nat.le_of_ble_eq_true rfl | exact rfl | assumption | (simp (disch := omega) only [fr_ne, fr_same]; first | assumption | omega)) only [r69_0, r69_1i, r69_2, r69_3i, r69_5, r69_6, r69_9, r69_12, r69_18, r69_19, r69_22, r69_25, r69_26, v69_26_5, r69_32, r69_33, r69_36, r69_39, r69_42, r69_43, r69_44, r69_48, r69_49, r69_50, r69_51, r69_52, r69_53i, r69_54i, r69_57, r69_60, r69_61, g10_34_10, g10_131_6, g10_323_8, g10_109_6, g10_128_5, o10_len, o10_g4, o6_len, o6_g0, o8_len, o8_g3, o6_g1, o5_len, o5_g1, il_s, bl_s, bl_z, ll_s, is_s, bs_s, bs_z, ls_s, al_s, al_b, al_l, fr_ne, fr_same, fr_fr, Nat.reduceEqDiff, tc_gf3_s, tc_ql2_s, tc_ws_0, tc_ws_i, tc_ws_l, tc_ws_r, Nat.reduceLeDiff, Nat.reduceAdd, Nat.reduceLT, true_and, and_true, if_true, if_false, tc_K, Option.toList_some, Option.toList_none, List.nil_append, List.cons_append, ite_true, ite_false, Int.cast_ofNat_Int, reduceIte, i3_add_eq, i3_sub_eq, Int.add_sub_cancel, Int.add_neg_cancel_right, hO hL26 h26, hO hL29 h29, SanS_g0 h38, SanS_s0 h38, SanS_g1 h38, SanS_s1 h38, SanS_g2 h38, SanS_s2 h38, SanS_g3 h38, SanS_s3 h38, ShoS_g0 hSh, ShoS_s0 hSh, ShoS_g1 hSh, ShoS_s1 hSh, ShoS_g2 hSh, ShoS_s2 hSh, ShoS_g3 hSh, ShoS_s3 hSh, ShoS_g4 hSh, ShoS_s4 hSh, ShoS_g5 hSh, ShoS_s5 hSh, ShoS_g6 hSh, ShoS_s6 hSh, ShoS_g7 hSh, ShoS_s7 hSh, h3, h70, e4]) | (simp only [r69_15, r69_29, r69_45, i6_lt0, i6_0lt, i6_0le, i6_le0, i6_eq0, b10_0, ite_not, Int.reduceLT, Int.reduceLE, Int.reduceEq, Int.reduceNeg, if_true, if_false, ite_true, ite_false, reduceIte, eq_self, not_true, not_false_eq_true]; try refine tc_ite (fun _ => ?_) (fun _ => ?_) <;> try (exfalso; omega)))
        all_goals first
          | (rw [← e2]; exact ih)
          | omega
    · have hs1 : stn fe k = false := decide_eq_false hf
      simp only [hs1, Bool.false_eq_true, if_false] at h70
      have e1 : fin fe at_ x k = false := by unfold fin; rw [decide_eq_false hf]; rfl
      have e2 := mk_no hk e1
      repeat' (first | (simp (disch := first | omega | exact Nat.le_of_ble_eq_true rfl | exact rfl | assumption | (simp (disch := omega) only [fr_ne, fr_same]; first | assumption | omega)) only [r69_0, r69_1i, r69_2, r69_3i, r69_5, r69_6, r69_9, r69_12, r69_18, r69_19, r69_22, r69_25, r69_26, v69_26_5, r69_32, r69_33, r69_36, r69_39, r69_42, r69_43, r69_44, r69_48, r69_49, r69_50, r69_51, r69_52, r69_53i, r69_54i, r69_57, r69_60, r69_61, g10_34_10, g10_131_6, g10_323_8, g10_109_6, g10_128_5, o10_len, o10_g4, o6_len, o6_g0, o8_len, o8_g3, o6_g1, o5_len, o5_g1, il_s, bl_s, bl_z, ll_s, is_s, bs_s, bs_z, ls_s, al_s, al_b, al_l, fr_ne, fr_same, fr_fr, Nat.reduceEqDiff, tc_gf3_s, tc_ql2_s, tc_ws_0, tc_ws_i, tc_ws_l, tc_ws_r, Nat.reduceLeDiff, Nat.reduceAdd, Nat.reduceLT, true_and, and_true, if_true, if_false, tc_K, Option.toList_some, Option.toList_none, List.nil_append, List.cons_append, ite_true, ite_false, Int.cast_ofNat_Int, reduceIte, i3_add_eq, i3_sub_eq, Int.add_sub_cancel, Int.add_neg_cancel_right, hO hL26 h26, hO hL29 h29, SanS_g0 h38, SanS_s0 h38, SanS_g1 h38, SanS_s1 h38, SanS_g2 h38, SanS_s2 h38, SanS_g3 h38, SanS_s3 h38, ShoS_g0 hSh, ShoS_s0 hSh, ShoS_g1 hSh, ShoS_s1 hSh, ShoS_g2 hSh, ShoS_s2 hSh, ShoS_g3 hSh, ShoS_s3 hSh, ShoS_g4 hSh, ShoS_s4 hSh, ShoS_g5 hSh, ShoS_s5 hSh, ShoS_g6 hSh, ShoS_s6 hSh, ShoS_g7 hSh, ShoS_s7 hSh, h3, h70, e4]) | (simp only [r69_15, r69_29, r69_45, i6_lt0, i6_0lt, i6_0le, i6_le0, i6_eq0, b10_0, ite_not, Int.reduceLT, Int.reduceLE, Int.reduceEq, Int.reduceNeg, if_true, if_false, ite_true, ite_false, reduceIte, eq_self, not_true, not_false_eq_true]; try refine tc_ite (fun _ => ?_) (fun _ => ?_) <;> try (exfalso; omega)))
      all_goals first
        | (rw [← e2]; exact ih)
        | omega
  · simp only [r69_4]
    repeat' (first | (simp (disch := first | omega | exact Nat.le_of_ble_eq_true rfl | exact rfl | assumption | (simp (disch := omega) only [fr_ne, fr_same]; first | assumption | omega)) only [r69_0, r69_1i, r69_2, r69_3i, r69_5, r69_6, r69_9, r69_12, r69_18, r69_19, r69_22, r69_25, r69_26, v69_26_5, r69_32, r69_33, r69_36, r69_39, r69_42, r69_43, r69_44, r69_48, r69_49, r69_50, r69_51, r69_52, r69_53i, r69_54i, r69_57, r69_60, r69_61, g10_34_10, g10_131_6, g10_323_8, g10_109_6, g10_128_5, o10_len, o10_g4, o6_len, o6_g0, o8_len, o8_g3, o6_g1, o5_len, o5_g1, il_s, bl_s, bl_z, ll_s, is_s, bs_s, bs_z, ls_s, al_s, al_b, al_l, fr_ne, fr_same, fr_fr, Nat.reduceEqDiff, tc_gf3_s, tc_ql2_s, tc_ws_0, tc_ws_i, tc_ws_l, tc_ws_r, Nat.reduceLeDiff, Nat.reduceAdd, Nat.reduceLT, true_and, and_true, if_true, if_false, tc_K, Option.toList_some, Option.toList_none, List.nil_append, List.cons_append, ite_true, ite_false, Int.cast_ofNat_Int, reduceIte, i3_add_eq, i3_sub_eq, Int.add_sub_cancel, Int.add_neg_cancel_right, hO hL26 h26, hO hL29 h29, ShoS_g0 hSh, ShoS_s0 hSh, ShoS_g1 hSh, ShoS_s1 hSh, ShoS_g2 hSh, ShoS_s2 hSh, ShoS_g3 hSh, ShoS_s3 hSh, ShoS_g4 hSh, ShoS_s4 hSh, ShoS_g5 hSh, ShoS_s5 hSh, ShoS_g6 hSh, ShoS_s6 hSh, ShoS_g7 hSh, ShoS_s7 hSh, h3]) | (simp only [r69_15, r69_29, r69_45, i6_lt0, i6_0lt, i6_0le, i6_le0, i6_eq0, b10_0, ite_not, Int.reduceLT, Int.reduceLE, Int.reduceEq, Int.reduceNeg, if_true, if_false, ite_true, ite_false, reduceIte, eq_self, not_true, not_false_eq_true]; try refine tc_ite (fun _ => ?_) (fun _ => ?_) <;> try (exfalso; omega)))
    exact hq
theorem c67 (h : CQ L sh c s v b σ la) {x w : Int} (hx : 0 ≤ x ∧ x < b 0 0 * b 0 1) (S' : Nat → SH) (hS' : S' = if w = 3 then seaf sh (some s) v else sh)
    (hq : ∀ e, FQ c e → Q (some (.inl (if w = 0 then σ 0 x else if w = 1 then σ 1 x else if w = 2 then (mk (fin (σ 3) (σ 2) x) (b 0 2).toNat : Nat) else if w = 3 then stg (b 0 0) (b 0 0 * b 0 1) (c 39) (tof b (σ 4 0)) x else -1))) (hp L S' e) n) : tc_C 67 [rf 26, .inl x, .inl w] (hp L sh c) n Q := by
  obtain ⟨hM, ⟨sq1, lq1, hE⟩, hSh, hs, h38, h56, _, hb, hw, hB, hσ, hl, hal⟩ := id h
  have hL := hE.1
  have hL26 : 26 < L := by omega
  have hL29 : 29 < L := by omega
  have hN := hb.n25
  have hm2 := hb.2.1
  obtain ⟨h26, h29⟩ := id hM
  have h68 := fun Q => c68 (c := c) (n := n) (Q := Q) (x := x) hM hSh hL hB.1.2.1
  simp only [if_pos hx] at h68
  have e39 := hσ.1 x hx.1 hx.2
  show tc_W 67 0 [rf 26, .inl x, .inl w] [] _ _ Q
  by_cases w0 : w = 0
  · subst w0
    rw [if_neg (by omega)] at hS'
    subst hS'
    rw [if_pos rfl] at hq
    repeat' (first | (simp (disch := first | omega | exact Nat.le_of_ble_eq_true rfl | exact rfl | assumption | (simp (disch := omega) only [fr_ne, fr_same]; first | assumption | omega)) only [r67_0, r67_1, r67_2, v67_2_10, r67_8, r67_9, r67_10, r67_11_0, r67_11_1, r67_11_2, r67_11_3, r67_11_d, r67_40, r67_41, r67_44, r67_47, r67_50, r67_51, r67_52, r67_53, r67_54, r67_57, r67_60, r67_63, r67_64, r67_65, r67_66, r67_67, r67_68, r67_69, r67_70, v67_70_10, r67_73, r67_74, r67_75, r67_76, v67_76_10, r67_79, r67_80, r67_81, g10_34_10, g10_109_6, g10_112_5, g10_115_5, o10_len, o10_g4, o6_len, o6_g1, o5_len, o5_g0, o5_g4, il_s, bl_s, bl_z, ll_s, is_s, bs_s, bs_z, ls_s, al_s, al_b, al_l, fr_ne, fr_same, fr_fr, Nat.reduceEqDiff, tc_gf3_s, tc_ql2_s, tc_ws_0, tc_ws_i, tc_ws_l, tc_ws_r, Nat.reduceLeDiff, Nat.reduceAdd, Nat.reduceLT, true_and, and_true, if_true, if_false, tc_K, Option.toList_some, Option.toList_none, List.nil_append, List.cons_append, ite_true, ite_false, Int.cast_ofNat_Int, reduceIte, i3_add_eq, i3_sub_eq, Int.add_sub_cancel, Int.add_neg_cancel_right, hO hL26 h26, hO hL29 h29, SanS_g0 h38, SanS_s0 h38, SanS_g1 h38, SanS_s1 h38, SanS_g2 h38, SanS_s2 h38, SanS_g3 h38, SanS_s3 h38, h68, e39]) | (simp only [r67_5, i6_lt0, i6_0lt, i6_0le, i6_le0, i6_eq0, b10_0, ite_not, Int.reduceLT, Int.reduceLE, Int.reduceEq, Int.reduceNeg, if_true, if_false, ite_true, ite_false, reduceIte, eq_self, not_true, not_false_eq_true]; try refine tc_ite (fun _ => ?_) (fun _ => ?_) <;> try (exfalso; omega)))
    exact hq c (FQ.refl c)
  by_cases w1 : w = 1
  · subst w1
    rw [if_neg (by omega)] at hS'
    subst hS'
    rw [if_neg (by omega), if_pos rfl] at hq
    have e4 : i3_and (i3_shr (c 38 4) x) 1 = σ 1 x := by
      rw [hσ.2.2.2.1, mk_i3bit (by omega) hx.1 (by omega)]
      rcases hw.2.1 x hx.1 hx.2 with q | q
      · rw [if_neg (by intro k; have := of_decide_eq_true k.2; omega), q]
      · rw [if_pos ⟨by omega, decide_eq_true q⟩, q]
    repeat' (first | (simp (disch := first | omega | exact Nat.le_of_ble_eq_true rfl | exact rfl | assumption | (simp (disch := omega) only [fr_ne, fr_same]; first | assumption | omega)) only [r67_0, r67_1, r67_2, v67_2_10, r67_8, r67_9, r67_10, r67_11_0, r67_11_1, r67_11_2, r67_11_3, r67_11_d, r67_40, r67_41, r67_44, r67_47, r67_50, r67_51, r67_52, r67_53, r67_54, r67_57, r67_60, r67_63, r67_64, r67_65, r67_66, r67_67, r67_68, r67_69, r67_70, v67_70_10, r67_73, r67_74, r67_75, r67_76, v67_76_10, r67_79, r67_80, r67_81, g10_34_10, g10_109_6, g10_112_5, g10_115_5, o10_len, o10_g4, o6_len, o6_g1, o5_len, o5_g0, o5_g4, il_s, bl_s, bl_z, ll_s, is_s, bs_s, bs_z, ls_s, al_s, al_b, al_l, fr_ne, fr_same, fr_fr, Nat.reduceEqDiff, tc_gf3_s, tc_ql2_s, tc_ws_0, tc_ws_i, tc_ws_l, tc_ws_r, Nat.reduceLeDiff, Nat.reduceAdd, Nat.reduceLT, true_and, and_true, if_true, if_false, tc_K, Option.toList_some, Option.toList_none, List.nil_append, List.cons_append, ite_true, ite_false, Int.cast_ofNat_Int, reduceIte, i3_add_eq, i3_sub_eq, Int.add_sub_cancel, Int.add_neg_cancel_right, hO hL26 h26, hO hL29 h29, SanS_g0 h38, SanS_s0 h38, SanS_g1 h38, SanS_s1 h38, SanS_g2 h38, SanS_s2 h38, SanS_g3 h38, SanS_s3 h38, h68, e4]) | (simp only [r67_5, i6_lt0, i6_0lt, i6_0le, i6_le0, i6_eq0, b10_0, ite_not, Int.reduceLT, Int.reduceLE, Int.reduceEq, Int.reduceNeg, if_true, if_false, ite_true, ite_false, reduceIte, eq_self, not_true, not_false_eq_true]; try refine tc_ite (fun _ => ?_) (fun _ => ?_) <;> try (exfalso; omega)))
    exact hq c (FQ.refl c)
  by_cases w2 : w = 2
  · subst w2
    rw [if_neg (by omega)] at hS'
    subst hS'
    rw [if_neg (by omega), if_neg (by omega), if_pos rfl] at hq
    have h69 := fun Q => c69 (c := c) (n := n) (Q := Q) (x := x) hM hSh h38 hL (by omega) hB.2.1.2.1 hσ.2.2.1 (fun f f1 f2 => (hσ.2.1 f f1 f2).1)
    repeat' (first | (simp (disch := first | omega | exact Nat.le_of_ble_eq_true rfl | exact rfl | assumption | (simp (disch := omega) only [fr_ne, fr_same]; first | assumption | omega)) only [r67_0, r67_1, r67_2, v67_2_10, r67_8, r67_9, r67_10, r67_11_0, r67_11_1, r67_11_2, r67_11_3, r67_11_d, r67_40, r67_41, r67_44, r67_47, r67_50, r67_51, r67_52, r67_53, r67_54, r67_57, r67_60, r67_63, r67_64, r67_65, r67_66, r67_67, r67_68, r67_69, r67_70, v67_70_10, r67_73, r67_74, r67_75, r67_76, v67_76_10, r67_79, r67_80, r67_81, g10_34_10, g10_109_6, g10_112_5, g10_115_5, o10_len, o10_g4, o6_len, o6_g1, o5_len, o5_g0, o5_g4, il_s, bl_s, bl_z, ll_s, is_s, bs_s, bs_z, ls_s, al_s, al_b, al_l, fr_ne, fr_same, fr_fr, Nat.reduceEqDiff, tc_gf3_s, tc_ql2_s, tc_ws_0, tc_ws_i, tc_ws_l, tc_ws_r, Nat.reduceLeDiff, Nat.reduceAdd, Nat.reduceLT, true_and, and_true, if_true, if_false, tc_K, Option.toList_some, Option.toList_none, List.nil_append, List.cons_append, ite_true, ite_false, Int.cast_ofNat_Int, reduceIte, i3_add_eq, i3_sub_eq, Int.add_sub_cancel, Int.add_neg_cancel_right, hO hL26 h26, hO hL29 h29, SanS_g0 h38, SanS_s0 h38, SanS_g1 h38, SanS_s1 h38, SanS_g2 h38, SanS_s2 h38, SanS_g3 h38, SanS_s3 h38, h68, h69]) | (simp only [r67_5, i6_lt0, i6_0lt, i6_0le, i6_le0, i6_eq0, b10_0, ite_not, Int.reduceLT, Int.reduceLE, Int.reduceEq, Int.reduceNeg, if_true, if_false, ite_true, ite_false, reduceIte, eq_self, not_true, not_false_eq_true]; try refine tc_ite (fun _ => ?_) (fun _ => ?_) <;> try (exfalso; omega)))
    exact hq c (FQ.refl c)
  by_cases w3 : w = 3
  · subst w3
    rw [if_pos rfl] at hS'
    subst hS'
    rw [if_neg (by omega), if_neg (by omega), if_neg (by omega), if_pos rfl] at hq
    repeat' (first | (simp (disch := first | omega | exact Nat.le_of_ble_eq_true rfl | exact rfl | assumption | (simp (disch := omega) only [fr_ne, fr_same]; first | assumption | omega)) only [r67_0, r67_1, r67_2, v67_2_10, r67_8, r67_9, r67_10, r67_11_0, r67_11_1, r67_11_2, r67_11_3, r67_11_d, r67_40, r67_41, r67_44, r67_47, r67_50, r67_51, r67_52, r67_53, r67_54, r67_57, r67_60, r67_63, r67_64, r67_65, r67_66, r67_67, r67_68, r67_69, r67_70, v67_70_10, r67_73, r67_74, r67_75, r67_76, v67_76_10, r67_79, r67_80, r67_81, g10_34_10, g10_109_6, g10_112_5, g10_115_5, o10_len, o10_g4, o6_len, o6_g1, o5_len, o5_g0, o5_g4, il_s, bl_s, bl_z, ll_s, is_s, bs_s, bs_z, ls_s, al_s, al_b, al_l, fr_ne, fr_same, fr_fr, Nat.reduceEqDiff, tc_gf3_s, tc_ql2_s, tc_ws_0, tc_ws_i, tc_ws_l, tc_ws_r, Nat.reduceLeDiff, Nat.reduceAdd, Nat.reduceLT, true_and, and_true, if_true, if_false, tc_K, Option.toList_some, Option.toList_none, List.nil_append, List.cons_append, ite_true, ite_false, Int.cast_ofNat_Int, reduceIte, i3_add_eq, i3_sub_eq, Int.add_sub_cancel, Int.add_neg_cancel_right, hO hL26 h26, hO hL29 h29, SanS_g0 h38, SanS_s0 h38, SanS_g1 h38, SanS_s1 h38, SanS_g2 h38, SanS_s2 h38, SanS_g3 h38, SanS_s3 h38, h68]) | (simp only [r67_5, i6_lt0, i6_0lt, i6_0le, i6_le0, i6_eq0, b10_0, ite_not, Int.reduceLT, Int.reduceLE, Int.reduceEq, Int.reduceNeg, if_true, if_false, ite_true, ite_false, reduceIte, eq_self, not_true, not_false_eq_true]; try refine tc_ite (fun _ => ?_) (fun _ => ?_) <;> try (exfalso; omega)))
    refine c71 h hx ?_
    intro e he _
    repeat' (first | (simp (disch := first | omega | exact Nat.le_of_ble_eq_true rfl | exact rfl | assumption | (simp (disch := omega) only [fr_ne, fr_same]; first | assumption | omega)) only [r67_0, r67_1, r67_2, v67_2_10, r67_8, r67_9, r67_10, r67_11_0, r67_11_1, r67_11_2, r67_11_3, r67_11_d, r67_40, r67_41, r67_44, r67_47, r67_50, r67_51, r67_52, r67_53, r67_54, r67_57, r67_60, r67_63, r67_64, r67_65, r67_66, r67_67, r67_68, r67_69, r67_70, v67_70_10, r67_73, r67_74, r67_75, r67_76, v67_76_10, r67_79, r67_80, r67_81, g10_34_10, g10_109_6, g10_112_5, g10_115_5, o10_len, o10_g4, o6_len, o6_g1, o5_len, o5_g0, o5_g4, il_s, bl_s, bl_z, ll_s, is_s, bs_s, bs_z, ls_s, al_s, al_b, al_l, fr_ne, fr_same, fr_fr, Nat.reduceEqDiff, tc_gf3_s, tc_ql2_s, tc_ws_0, tc_ws_i, tc_ws_l, tc_ws_r, Nat.reduceLeDiff, Nat.reduceAdd, Nat.reduceLT, true_and, and_true, if_true, if_false, tc_K, Option.toList_some, Option.toList_none, List.nil_append, List.cons_append, ite_true, ite_false, Int.cast_ofNat_Int, reduceIte, i3_add_eq, i3_sub_eq, Int.add_sub_cancel, Int.add_neg_cancel_right]) | (simp only [r67_5, i6_lt0, i6_0lt, i6_0le, i6_le0, i6_eq0, b10_0, ite_not, Int.reduceLT, Int.reduceLE, Int.reduceEq, Int.reduceNeg, if_true, if_false, ite_true, ite_false, reduceIte, eq_self, not_true, not_false_eq_true]; try refine tc_ite (fun _ => ?_) (fun _ => ?_) <;> try (exfalso; omega)))
    exact hq e he
  · rw [if_neg w3] at hS'
    subst hS'
    rw [if_neg w0, if_neg w1, if_neg w2, if_neg w3] at hq
    repeat' (first | (simp (disch := first | omega | exact Nat.le_of_ble_eq_true rfl | exact rfl | assumption | (simp (disch := omega) only [fr_ne, fr_same]; first | assumption | omega)) only [r67_0, r67_1, r67_2, v67_2_10, r67_8, r67_9, r67_10, r67_11_0, r67_11_1, r67_11_2, r67_11_3, r67_11_d, r67_40, r67_41, r67_44, r67_47, r67_50, r67_51, r67_52, r67_53, r67_54, r67_57, r67_60, r67_63, r67_64, r67_65, r67_66, r67_67, r67_68, r67_69, r67_70, v67_70_10, r67_73, r67_74, r67_75, r67_76, v67_76_10, r67_79, r67_80, r67_81, g10_34_10, g10_109_6, g10_112_5, g10_115_5, o10_len, o10_g4, o6_len, o6_g1, o5_len, o5_g0, o5_g4, il_s, bl_s, bl_z, ll_s, is_s, bs_s, bs_z, ls_s, al_s, al_b, al_l, fr_ne, fr_same, fr_fr, Nat.reduceEqDiff, tc_gf3_s, tc_ql2_s, tc_ws_0, tc_ws_i, tc_ws_l, tc_ws_r, Nat.reduceLeDiff, Nat.reduceAdd, Nat.reduceLT, true_and, and_true, if_true, if_false, tc_K, Option.toList_some, Option.toList_none, List.nil_append, List.cons_append, ite_true, ite_false, Int.cast_ofNat_Int, reduceIte, i3_add_eq, i3_sub_eq, Int.add_sub_cancel, Int.add_neg_cancel_right, hO hL26 h26, hO hL29 h29, h68]) | (simp only [r67_5, i6_lt0, i6_0lt, i6_0le, i6_le0, i6_eq0, b10_0, ite_not, Int.reduceLT, Int.reduceLE, Int.reduceEq, Int.reduceNeg, if_true, if_false, ite_true, ite_false, reduceIte, eq_self, not_true, not_false_eq_true]; try refine tc_ite (fun _ => ?_) (fun _ => ?_) <;> try (exfalso; omega)))
    exact hq c (FQ.refl c)
theorem c82 (hM : MO sh s) (hSh : ShoS L sh s) (hL : 115 ≤ L) (hb : WB b) (hB : SHO b s c) {w : Int} (hw : w < 2147483648) : tc_C 82 [rf 26, .inl w] (hp L sh c) n Q = Q (some (.inl (if 0 ≤ w then tof b w else -1))) (hp L sh c) n := tc_det fun Q hq => by
  obtain ⟨h26, h29⟩ := id hM
  have hL26 : 26 < L := by omega
  have hL29 : 29 < L := by omega
  have hN := hb.n25
  have hN4 : 4 ≤ b 0 0 * b 0 1 := by
    have h1 := hb.1
    have := Int.mul_le_mul h1.1 h1.2.2.1 (by omega) (by omega)
    omega
  have h83 := fun Q => c83 (c := c) (n := n) (Q := Q) hM hSh hL hB.1.2.1
  simp only [if_neg (show ¬ b 0 0 * b 0 1 = 0 by omega)] at h83
  show tc_W 82 0 [rf 26, .inl w] [] _ _ Q
  by_cases h : 0 ≤ w
  · rw [if_pos h] at hq
    have h76 := fun Q => c76b (c := c) (n := n) (Q := Q) (w := w) hSh hb hB ⟨h, hw⟩
    repeat' (first | (simp (disch := first | omega | exact Nat.le_of_ble_eq_true rfl | exact rfl | assumption | (simp (disch := omega) only [fr_ne, fr_same]; first | assumption | omega)) only [r82_0, r82_4, r82_5, v82_5_10, r82_11, r82_12, r82_13, r82_14, r82_17, r82_20, r82_21, v82_21_8, r82_24, g10_34_10, g10_131_6, o10_len, o10_g4, o6_len, o6_g0, il_s, bl_s, bl_z, ll_s, is_s, bs_s, bs_z, ls_s, al_s, al_b, al_l, fr_ne, fr_same, fr_fr, Nat.reduceEqDiff, tc_gf3_s, tc_ql2_s, tc_ws_0, tc_ws_i, tc_ws_l, tc_ws_r, Nat.reduceLeDiff, Nat.reduceAdd, Nat.reduceLT, true_and, and_true, if_true, if_false, tc_K, Option.toList_some, Option.toList_none, List.nil_append, List.cons_append, ite_true, ite_false, Int.cast_ofNat_Int, reduceIte, i3_add_eq, i3_sub_eq, Int.add_sub_cancel, Int.add_neg_cancel_right, hO hL26 h26, hO hL29 h29, ShoS_g0 hSh, ShoS_s0 hSh, ShoS_g1 hSh, ShoS_s1 hSh, ShoS_g2 hSh, ShoS_s2 hSh, ShoS_g3 hSh, ShoS_s3 hSh, ShoS_g4 hSh, ShoS_s4 hSh, ShoS_g5 hSh, ShoS_s5 hSh, ShoS_g6 hSh, ShoS_s6 hSh, ShoS_g7 hSh, ShoS_s7 hSh, h83, h76]) | (simp only [r82_1, r82_8, i6_lt0, i6_0lt, i6_0le, i6_le0, i6_eq0, b10_0, ite_not, Int.reduceLT, Int.reduceLE, Int.reduceEq, Int.reduceNeg, if_true, if_false, ite_true, ite_false, reduceIte, eq_self, not_true, not_false_eq_true]; try refine tc_ite (fun _ => ?_) (fun _ => ?_) <;> try (exfalso; omega)))
    all_goals first
      | exact hq
      | omega
  · rw [if_neg h] at hq
    repeat' (first | (simp (disch := first | omega | exact Nat.le_of_ble_eq_true rfl | exact rfl | assumption | (simp (disch := omega) only [fr_ne, fr_same]; first | assumption | omega)) only [r82_0, r82_4, r82_5, v82_5_10, r82_11, r82_12, r82_13, r82_14, r82_17, r82_20, r82_21, v82_21_8, r82_24, g10_34_10, g10_131_6, o10_len, o10_g4, o6_len, o6_g0, il_s, bl_s, bl_z, ll_s, is_s, bs_s, bs_z, ls_s, al_s, al_b, al_l, fr_ne, fr_same, fr_fr, Nat.reduceEqDiff, tc_gf3_s, tc_ql2_s, tc_ws_0, tc_ws_i, tc_ws_l, tc_ws_r, Nat.reduceLeDiff, Nat.reduceAdd, Nat.reduceLT, true_and, and_true, if_true, if_false, tc_K, Option.toList_some, Option.toList_none, List.nil_append, List.cons_append, ite_true, ite_false, Int.cast_ofNat_Int, reduceIte, i3_add_eq, i3_sub_eq, Int.add_sub_cancel, Int.add_neg_cancel_right, hO hL26 h26, hO hL29 h29, h83]) | (simp only [r82_1, r82_8, i6_lt0, i6_0lt, i6_0le, i6_le0, i6_eq0, b10_0, ite_not, Int.reduceLT, Int.reduceLE, Int.reduceEq, Int.reduceNeg, if_true, if_false, ite_true, ite_false, reduceIte, eq_self, not_true, not_false_eq_true]; try refine tc_ite (fun _ => ?_) (fun _ => ?_) <;> try (exfalso; omega)))
    all_goals first
      | exact hq
      | omega
theorem c142 (hM : MO sh s) (hSh : ShoS L sh s) (hL : 115 ≤ L) (h44 : LogS L sh 44) {N m w x y : Int} (hm : 0 ≤ m ∧ m ≤ 10) (h3 : c 44 3 = m) (h2 : c s 2 = N) : tc_C 142 [rf 26, .inl w, .inl x, .inl y] (hp L sh c) n Q = (if w = -1 then Q (some (.inl 0)) (hp L sh (fr c 44 (fu (c 44) 3 0))) n else if (0 ≤ w ∧ w ≤ 60) ∧ (0 ≤ x ∧ x < N) ∧ (0 ≤ y ∧ y ≤ 9) ∧ ¬ m = 10 then Q (some (.inl (m + 1))) (hp L sh (fr (fr (fr (fr c 45 (fu (c 45) m w)) 46 (fu (c 46) m x)) 47 (fu (c 47) m y)) 44 (fu (c 44) 3 (m + 1)))) n else Q (some (.inl (-2))) (hp L sh c) n) := by
  obtain ⟨h26, h29⟩ := id hM
  have hL26 : 26 < L := by omega
  have hL29 : 29 < L := by omega
  by_cases hw : w = -1
  · subst hw
    rw [if_pos rfl]
    refine tc_det fun Q hq => ?_
    show tc_W 142 0 [rf 26, .inl (-1), .inl x, .inl y, tc_nil] [] _ _ Q
    repeat' (first | (simp (disch := first | omega | exact Nat.le_of_ble_eq_true rfl | exact rfl | assumption | (simp (disch := omega) only [fr_ne, fr_same]; first | assumption | omega)) only [r142_0, r142_1, r142_4, r142_7i, r142_9, r142_10, r142_14, r142_16, r142_17, r142_20, r142_21, r142_22, r142_26, r142_27, r142_32, r142_33, r142_34, v142_34_10, r142_40, r142_44, r142_45, r142_50, r142_52, r142_53, r142_55, r142_56, r142_57, r142_58, v142_58_3, r142_64, r142_66, r142_69, r142_72, r142_74, g10_34_10, g10_274_6, p10_278_3, g10_278_3, o10_len, o10_g4, o6_len, o6_g3, o3_len, o3_s3, o3_g3, il_s, bl_s, bl_z, ll_s, is_s, bs_s, bs_z, ls_s, al_s, al_b, al_l, fr_ne, fr_same, fr_fr, Nat.reduceEqDiff, tc_gf3_s, tc_ql2_s, tc_ws_0, tc_ws_i, tc_ws_l, tc_ws_r, Nat.reduceLeDiff, Nat.reduceAdd, Nat.reduceLT, true_and, and_true, if_true, if_false, tc_K, Option.toList_some, Option.toList_none, List.nil_append, List.cons_append, ite_true, ite_false, Int.cast_ofNat_Int, reduceIte, i3_add_eq, i3_sub_eq, Int.add_sub_cancel, Int.add_neg_cancel_right, hO hL26 h26, hO hL29 h29, LogS_g0 h44, LogS_s0 h44, LogS_g1 h44, LogS_s1 h44, LogS_g2 h44, LogS_s2 h44, LogS_g3 h44, LogS_s3 h44]) | (simp only [r142_11, r142_23, r142_29, r142_37, r142_41, r142_47, r142_61, i6_lt0, i6_0lt, i6_0le, i6_le0, i6_eq0, b10_0, ite_not, Int.reduceLT, Int.reduceLE, Int.reduceEq, Int.reduceNeg, if_true, if_false, ite_true, ite_false, reduceIte, eq_self, not_true, not_false_eq_true]; try refine tc_ite (fun _ => ?_) (fun _ => ?_) <;> try (exfalso; omega)))
    all_goals first
      | exact hq
      | omega
  rw [if_neg hw]
  have h68 := fun Q => c68 (c := c) (n := n) (Q := Q) (x := x) hM hSh hL h2
  have h143 := fun Q => c143 (c := c) (n := n) (Q := Q) (w := w) (x := x) (h := y) h44 hm h3
  simp only [Nat.reduceAdd] at h143
  by_cases hx : 0 ≤ x ∧ x < N
  · simp only [if_pos hx] at h68
    by_cases hA : (0 ≤ w ∧ w ≤ 60) ∧ (0 ≤ y ∧ y ≤ 9)
    · by_cases h10 : m = 10
      · rw [if_neg (fun q => q.2.2.2 h10)]
        simp only [if_pos h10] at h143
        refine tc_det fun Q hq => ?_
        show tc_W 142 0 [rf 26, .inl w, .inl x, .inl y, tc_nil] [] _ _ Q
        repeat' (first | (simp (disch := first | omega | exact Nat.le_of_ble_eq_true rfl | exact rfl | assumption | (simp (disch := omega) only [fr_ne, fr_same]; first | assumption | omega)) only [r142_0, r142_1, r142_4, r142_7i, r142_9, r142_10, r142_14, r142_16, r142_17, r142_20, r142_21, r142_22, r142_26, r142_27, r142_32, r142_33, r142_34, v142_34_10, r142_40, r142_44, r142_45, r142_50, r142_52, r142_53, r142_55, r142_56, r142_57, r142_58, v142_58_3, r142_64, r142_66, r142_69, r142_72, r142_74, g10_34_10, g10_274_6, p10_278_3, g10_278_3, o10_len, o10_g4, o6_len, o6_g3, o3_len, o3_s3, o3_g3, il_s, bl_s, bl_z, ll_s, is_s, bs_s, bs_z, ls_s, al_s, al_b, al_l, fr_ne, fr_same, fr_fr, Nat.reduceEqDiff, tc_gf3_s, tc_ql2_s, tc_ws_0, tc_ws_i, tc_ws_l, tc_ws_r, Nat.reduceLeDiff, Nat.reduceAdd, Nat.reduceLT, true_and, and_true, if_true, if_false, tc_K, Option.toList_some, Option.toList_none, List.nil_append, List.cons_append, ite_true, ite_false, Int.cast_ofNat_Int, reduceIte, i3_add_eq, i3_sub_eq, Int.add_sub_cancel, Int.add_neg_cancel_right, hO hL26 h26, hO hL29 h29, LogS_g0 h44, LogS_s0 h44, LogS_g1 h44, LogS_s1 h44, LogS_g2 h44, LogS_s2 h44, LogS_g3 h44, LogS_s3 h44, h68, h143]) | (simp only [r142_11, r142_23, r142_29, r142_37, r142_41, r142_47, r142_61, i6_lt0, i6_0lt, i6_0le, i6_le0, i6_eq0, b10_0, ite_not, Int.reduceLT, Int.reduceLE, Int.reduceEq, Int.reduceNeg, if_true, if_false, ite_true, ite_false, reduceIte, eq_self, not_true, not_false_eq_true]; try refine tc_ite (fun _ => ?_) (fun _ => ?_) <;> try (exfalso; omega)))
        all_goals first
          | exact hq
          | omega
      · rw [if_pos ⟨hA.1, hx, hA.2, h10⟩]
        simp only [if_neg h10] at h143
        refine tc_det fun Q hq => ?_
        show tc_W 142 0 [rf 26, .inl w, .inl x, .inl y, tc_nil] [] _ _ Q
        repeat' (first | (simp (disch := first | omega | exact Nat.le_of_ble_eq_true rfl | exact rfl | assumption | (simp (disch := omega) only [fr_ne, fr_same]; first | assumption | omega)) only [r142_0, r142_1, r142_4, r142_7i, r142_9, r142_10, r142_14, r142_16, r142_17, r142_20, r142_21, r142_22, r142_26, r142_27, r142_32, r142_33, r142_34, v142_34_10, r142_40, r142_44, r142_45, r142_50, r142_52, r142_53, r142_55, r142_56, r142_57, r142_58, v142_58_3, r142_64, r142_66, r142_69, r142_72, r142_74, g10_34_10, g10_274_6, p10_278_3, g10_278_3, o10_len, o10_g4, o6_len, o6_g3, o3_len, o3_s3, o3_g3, il_s, bl_s, bl_z, ll_s, is_s, bs_s, bs_z, ls_s, al_s, al_b, al_l, fr_ne, fr_same, fr_fr, Nat.reduceEqDiff, tc_gf3_s, tc_ql2_s, tc_ws_0, tc_ws_i, tc_ws_l, tc_ws_r, Nat.reduceLeDiff, Nat.reduceAdd, Nat.reduceLT, true_and, and_true, if_true, if_false, tc_K, Option.toList_some, Option.toList_none, List.nil_append, List.cons_append, ite_true, ite_false, Int.cast_ofNat_Int, reduceIte, i3_add_eq, i3_sub_eq, Int.add_sub_cancel, Int.add_neg_cancel_right, hO hL26 h26, hO hL29 h29, LogS_g0 h44, LogS_s0 h44, LogS_g1 h44, LogS_s1 h44, LogS_g2 h44, LogS_s2 h44, LogS_g3 h44, LogS_s3 h44, h68, h143, fu_same]) | (simp only [r142_11, r142_23, r142_29, r142_37, r142_41, r142_47, r142_61, i6_lt0, i6_0lt, i6_0le, i6_le0, i6_eq0, b10_0, ite_not, Int.reduceLT, Int.reduceLE, Int.reduceEq, Int.reduceNeg, if_true, if_false, ite_true, ite_false, reduceIte, eq_self, not_true, not_false_eq_true]; try refine tc_ite (fun _ => ?_) (fun _ => ?_) <;> try (exfalso; omega)))
        all_goals first
          | exact hq
          | omega
    · rw [if_neg (fun q => hA ⟨q.1, q.2.2.1⟩)]
      refine tc_det fun Q hq => ?_
      show tc_W 142 0 [rf 26, .inl w, .inl x, .inl y, tc_nil] [] _ _ Q
      repeat' (first | (simp (disch := first | omega | exact Nat.le_of_ble_eq_true rfl | exact rfl | assumption | (simp (disch := omega) only [fr_ne, fr_same]; first | assumption | omega)) only [r142_0, r142_1, r142_4, r142_7i, r142_9, r142_10, r142_14, r142_16, r142_17, r142_20, r142_21, r142_22, r142_26, r142_27, r142_32, r142_33, r142_34, v142_34_10, r142_40, r142_44, r142_45, r142_50, r142_52, r142_53, r142_55, r142_56, r142_57, r142_58, v142_58_3, r142_64, r142_66, r142_69, r142_72, r142_74, g10_34_10, g10_274_6, p10_278_3, g10_278_3, o10_len, o10_g4, o6_len, o6_g3, o3_len, o3_s3, o3_g3, il_s, bl_s, bl_z, ll_s, is_s, bs_s, bs_z, ls_s, al_s, al_b, al_l, fr_ne, fr_same, fr_fr, Nat.reduceEqDiff, tc_gf3_s, tc_ql2_s, tc_ws_0, tc_ws_i, tc_ws_l, tc_ws_r, Nat.reduceLeDiff, Nat.reduceAdd, Nat.reduceLT, true_and, and_true, if_true, if_false, tc_K, Option.toList_some, Option.toList_none, List.nil_append, List.cons_append, ite_true, ite_false, Int.cast_ofNat_Int, reduceIte, i3_add_eq, i3_sub_eq, Int.add_sub_cancel, Int.add_neg_cancel_right, hO hL26 h26, hO hL29 h29, LogS_g0 h44, LogS_s0 h44, LogS_g1 h44, LogS_s1 h44, LogS_g2 h44, LogS_s2 h44, LogS_g3 h44, LogS_s3 h44, h68]) | (simp only [r142_11, r142_23, r142_29, r142_37, r142_41, r142_47, r142_61, i6_lt0, i6_0lt, i6_0le, i6_le0, i6_eq0, b10_0, ite_not, Int.reduceLT, Int.reduceLE, Int.reduceEq, Int.reduceNeg, if_true, if_false, ite_true, ite_false, reduceIte, eq_self, not_true, not_false_eq_true]; try refine tc_ite (fun _ => ?_) (fun _ => ?_) <;> try (exfalso; omega)))
      all_goals first
        | exact hq
        | omega
  · rw [if_neg (fun q => hx q.2.1)]
    simp only [if_neg hx] at h68
    refine tc_det fun Q hq => ?_
    show tc_W 142 0 [rf 26, .inl w, .inl x, .inl y, tc_nil] [] _ _ Q
    repeat' (first | (simp (disch := first | omega | exact Nat.le_of_ble_eq_true rfl | exact rfl | assumption | (simp (disch := omega) only [fr_ne, fr_same]; first | assumption | omega)) only [r142_0, r142_1, r142_4, r142_7i, r142_9, r142_10, r142_14, r142_16, r142_17, r142_20, r142_21, r142_22, r142_26, r142_27, r142_32, r142_33, r142_34, v142_34_10, r142_40, r142_44, r142_45, r142_50, r142_52, r142_53, r142_55, r142_56, r142_57, r142_58, v142_58_3, r142_64, r142_66, r142_69, r142_72, r142_74, g10_34_10, g10_274_6, p10_278_3, g10_278_3, o10_len, o10_g4, o6_len, o6_g3, o3_len, o3_s3, o3_g3, il_s, bl_s, bl_z, ll_s, is_s, bs_s, bs_z, ls_s, al_s, al_b, al_l, fr_ne, fr_same, fr_fr, Nat.reduceEqDiff, tc_gf3_s, tc_ql2_s, tc_ws_0, tc_ws_i, tc_ws_l, tc_ws_r, Nat.reduceLeDiff, Nat.reduceAdd, Nat.reduceLT, true_and, and_true, if_true, if_false, tc_K, Option.toList_some, Option.toList_none, List.nil_append, List.cons_append, ite_true, ite_false, Int.cast_ofNat_Int, reduceIte, i3_add_eq, i3_sub_eq, Int.add_sub_cancel, Int.add_neg_cancel_right, hO hL26 h26, hO hL29 h29, LogS_g0 h44, LogS_s0 h44, LogS_g1 h44, LogS_s1 h44, LogS_g2 h44, LogS_s2 h44, LogS_g3 h44, LogS_s3 h44, h68]) | (simp only [r142_11, r142_23, r142_29, r142_37, r142_41, r142_47, r142_61, i6_lt0, i6_0lt, i6_0le, i6_le0, i6_eq0, b10_0, ite_not, Int.reduceLT, Int.reduceLE, Int.reduceEq, Int.reduceNeg, if_true, if_false, ite_true, ite_false, reduceIte, eq_self, not_true, not_false_eq_true]; try refine tc_ite (fun _ => ?_) (fun _ => ?_) <;> try (exfalso; omega)))
    all_goals first
      | exact hq
      | omega
theorem c136_s (h9 : σ 4 0 < 900) {f w T i o A B : Int} {S1 S2 : Nat → SH} {d : Nat → Int → Int} (hf : 0 ≤ f ∧ f < b 0 2) (hT : tof b (σ 4 0) = T) (hi : 0 ≤ i ∧ i < 3) {FF : Int} (hFF : (if 0 < T + i - 1 then T + i - 1 else 0) = FF) (h : CQ L S1 d s v b σ la) (hS : seaf S1 (some s) v = S2) (ho : d (s + 6) i = o) (ho9 : 0 ≤ o ∧ o ≤ 9) (hA : 0 ≤ A ∧ A ≤ 18) (hB' : 0 ≤ B ∧ B ≤ 18)
    (hq : ∀ (S3 : Nat → SH) (e : Nat → Int → Int), FQ d e → (S3 = S2 ∨ S3 = S1 ∧ o = 0) → tc_W 136 39 [rf 26, .inl f, .inl w, rf (s + 6), .inl (A + (if flb b σ la f FF = 0 then 0 else o)), .inl (B + o), .inl (i + 1)] [] (hp L S3 e) n Q) : tc_W 136 39 [rf 26, .inl f, .inl w, rf (s + 6), .inl A, .inl B, .inl i] [] (hp L S1 d) n Q := by
  obtain ⟨hM, ⟨sq1, lq1, hE⟩, hSh, hs, h38, h56, _, hb, hw, hB, hσ, hl, hal⟩ := id h
  have hL := hE.1
  have hL26 : 26 < L := by omega
  have hL29 : 29 < L := by omega
  obtain ⟨h26, h29⟩ := id hM
  have htf : 0 ≤ T ∧ T ≤ 20 := hT ▸ tof_rng hb (σ 4 0)
  have h75 := fun Q => c75 (c := d) (n := n) (Q := Q) hM hSh h38 hL hb hB hσ hw
  simp only [hT] at h75
  have hF2 : 0 ≤ FF ∧ FF ≤ 60 := by
    rw [← hFF]
    split <;> omega
  simp only [r136_39]
  by_cases h0 : o = 0
  · have hq' := hq S1 d (FQ.refl d) (Or.inr ⟨rfl, h0⟩)
    have e1 : (if flb b σ la f FF = 0 then 0 else o) = 0 := by
      rw [h0]
      split <;> rfl
    rw [e1, h0] at hq'
    rw [h0] at ho
    simp only [Int.add_zero] at hq'
    repeat' (first | (simp (disch := first | omega | exact Nat.le_of_ble_eq_true rfl | exact rfl | assumption | (simp (disch := omega) only [fr_ne, fr_same]; first | assumption | omega)) only [r136_0, r136_1, r136_2, v136_2_10, r136_8, r136_12, r136_13, r136_17, r136_18, r136_19, r136_20, r136_23, r136_26, r136_29i, r136_30, r136_31r, r136_33, r136_34i, r136_36, r136_37i, r136_41, r136_42, r136_46, r136_48, r136_49, r136_51, r136_52, r136_53i, r136_55, r136_56, r136_58, r136_62, r136_63, r136_64, r136_65, r136_66, v136_66_10, r136_69, r136_71, r136_72, r136_73, r136_74, r136_77, v136_77_10, r136_83, r136_85, r136_86, r136_88, r136_89, r136_90r, r136_92i, r136_95, r136_98, r136_100, r136_102, r136_105i, r136_107, r136_112, r136_113, r136_114, r136_118, r136_120, r136_122, r136_123, r136_126, r136_128, r136_130, r136_131, g10_34_10, g10_131_6, g10_256_8, o10_len, o10_g4, o6_len, o6_g0, o8_len, o8_g10, il_s, bl_s, bl_z, ll_s, is_s, bs_s, bs_z, ls_s, al_s, al_b, al_l, fr_ne, fr_same, fr_fr, Nat.reduceEqDiff, tc_gf3_s, tc_ql2_s, tc_ws_0, tc_ws_i, tc_ws_l, tc_ws_r, Nat.reduceLeDiff, Nat.reduceAdd, Nat.reduceLT, true_and, and_true, if_true, if_false, tc_K, Option.toList_some, Option.toList_none, List.nil_append, List.cons_append, ite_true, ite_false, Int.cast_ofNat_Int, reduceIte, i3_add_eq, i3_sub_eq, Int.add_sub_cancel, Int.add_neg_cancel_right, ShoS_g0 hSh, ShoS_s0 hSh, ShoS_g1 hSh, ShoS_s1 hSh, ShoS_g2 hSh, ShoS_s2 hSh, ShoS_g3 hSh, ShoS_s3 hSh, ShoS_g4 hSh, ShoS_s4 hSh, ShoS_g5 hSh, ShoS_s5 hSh, ShoS_g6 hSh, ShoS_s6 hSh, ShoS_g7 hSh, ShoS_s7 hSh, ho, Int.add_zero]) | (simp only [r136_5, r136_9, r136_14, r136_43, r136_59, r136_80, r136_109, r136_115, i6_lt0, i6_0lt, i6_0le, i6_le0, i6_eq0, b10_0, ite_not, Int.reduceLT, Int.reduceLE, Int.reduceEq, Int.reduceNeg, if_true, if_false, ite_true, ite_false, reduceIte, eq_self, not_true, not_false_eq_true]; try refine tc_ite (fun _ => ?_) (fun _ => ?_) <;> try (exfalso; omega)))
    all_goals first
      | exact hq'
      | omega
  · repeat' (first | (simp (disch := first | omega | exact Nat.le_of_ble_eq_true rfl | exact rfl | assumption | (simp (disch := omega) only [fr_ne, fr_same]; first | assumption | omega)) only [r136_0, r136_1, r136_2, v136_2_10, r136_8, r136_12, r136_13, r136_17, r136_18, r136_19, r136_20, r136_23, r136_26, r136_29i, r136_30, r136_31r, r136_33, r136_34i, r136_36, r136_37i, r136_41, r136_42, r136_46, r136_48, r136_49, r136_51, r136_52, r136_53i, r136_55, r136_56, r136_58, r136_62, r136_63, r136_64, r136_65, r136_66, v136_66_10, r136_69, r136_71, r136_72, r136_73, r136_74, r136_77, v136_77_10, r136_83, r136_85, r136_86, r136_88, r136_89, r136_90r, r136_92i, r136_95, r136_98, r136_100, r136_102, r136_105i, r136_107, r136_112, r136_113, r136_114, r136_118, r136_120, r136_122, r136_123, r136_126, r136_128, r136_130, r136_131, g10_34_10, g10_131_6, g10_256_8, o10_len, o10_g4, o6_len, o6_g0, o8_len, o8_g10, il_s, bl_s, bl_z, ll_s, is_s, bs_s, bs_z, ls_s, al_s, al_b, al_l, fr_ne, fr_same, fr_fr, Nat.reduceEqDiff, tc_gf3_s, tc_ql2_s, tc_ws_0, tc_ws_i, tc_ws_l, tc_ws_r, Nat.reduceLeDiff, Nat.reduceAdd, Nat.reduceLT, true_and, and_true, if_true, if_false, tc_K, Option.toList_some, Option.toList_none, List.nil_append, List.cons_append, ite_true, ite_false, Int.cast_ofNat_Int, reduceIte, i3_add_eq, i3_sub_eq, Int.add_sub_cancel, Int.add_neg_cancel_right, ShoS_g0 hSh, ShoS_s0 hSh, ShoS_g1 hSh, ShoS_s1 hSh, ShoS_g2 hSh, ShoS_s2 hSh, ShoS_g3 hSh, ShoS_s3 hSh, ShoS_g4 hSh, ShoS_s4 hSh, ShoS_g5 hSh, ShoS_s5 hSh, ShoS_g6 hSh, ShoS_s6 hSh, ShoS_g7 hSh, ShoS_s7 hSh, ho, h75, hO hL26 h26]) | (simp only [r136_5, r136_9, r136_14, r136_43, r136_59, r136_80, r136_109, r136_115, i6_lt0, i6_0lt, i6_0le, i6_le0, i6_eq0, b10_0, ite_not, Int.reduceLT, Int.reduceLE, Int.reduceEq, Int.reduceNeg, if_true, if_false, ite_true, ite_false, reduceIte, eq_self, not_true, not_false_eq_true]; try refine tc_ite (fun _ => ?_) (fun _ => ?_) <;> try (exfalso; omega)))
    all_goals try omega
    rw [hFF]
    refine c137 h h9 hf hF2 ?_
    intro e he
    rw [hS]
    have hq' := hq S2 e he (Or.inl rfl)
    have hE2 := hS ▸ SeaS_new hE (some s) v
    have hSh2 : ShoS L S2 s := hS ▸ ShoS_fs hSh (by omega)
    have ho2 : e (s + 6) i = o := by
      rw [he (s + 6) (by omega)]
      exact ho
    rcases flb_01 b σ la f FF with g | g
    · rw [g] at hq'
      rw [g]
      simp only [if_true, Int.add_zero] at hq'
      repeat' (first | (simp (disch := first | omega | exact Nat.le_of_ble_eq_true rfl | exact rfl | assumption | (simp (disch := omega) only [fr_ne, fr_same]; first | assumption | omega)) only [r136_0, r136_1, r136_2, v136_2_10, r136_8, r136_12, r136_13, r136_17, r136_18, r136_19, r136_20, r136_23, r136_26, r136_29i, r136_30, r136_31r, r136_33, r136_34i, r136_36, r136_37i, r136_41, r136_42, r136_46, r136_48, r136_49, r136_51, r136_52, r136_53i, r136_55, r136_56, r136_58, r136_62, r136_63, r136_64, r136_65, r136_66, v136_66_10, r136_69, r136_71, r136_72, r136_73, r136_74, r136_77, v136_77_10, r136_83, r136_85, r136_86, r136_88, r136_89, r136_90r, r136_92i, r136_95, r136_98, r136_100, r136_102, r136_105i, r136_107, r136_112, r136_113, r136_114, r136_118, r136_120, r136_122, r136_123, r136_126, r136_128, r136_130, r136_131, g10_34_10, g10_131_6, g10_256_8, o10_len, o10_g4, o6_len, o6_g0, o8_len, o8_g10, il_s, bl_s, bl_z, ll_s, is_s, bs_s, bs_z, ls_s, al_s, al_b, al_l, fr_ne, fr_same, fr_fr, Nat.reduceEqDiff, tc_gf3_s, tc_ql2_s, tc_ws_0, tc_ws_i, tc_ws_l, tc_ws_r, Nat.reduceLeDiff, Nat.reduceAdd, Nat.reduceLT, true_and, and_true, if_true, if_false, tc_K, Option.toList_some, Option.toList_none, List.nil_append, List.cons_append, ite_true, ite_false, Int.cast_ofNat_Int, reduceIte, i3_add_eq, i3_sub_eq, Int.add_sub_cancel, Int.add_neg_cancel_right, ShoS_g0 hSh2, ShoS_s0 hSh2, ShoS_g1 hSh2, ShoS_s1 hSh2, ShoS_g2 hSh2, ShoS_s2 hSh2, ShoS_g3 hSh2, ShoS_s3 hSh2, ShoS_g4 hSh2, ShoS_s4 hSh2, ShoS_g5 hSh2, ShoS_s5 hSh2, ShoS_g6 hSh2, ShoS_s6 hSh2, ShoS_g7 hSh2, ShoS_s7 hSh2, ho2]) | (simp only [r136_5, r136_9, r136_14, r136_43, r136_59, r136_80, r136_109, r136_115, i6_lt0, i6_0lt, i6_0le, i6_le0, i6_eq0, b10_0, ite_not, Int.reduceLT, Int.reduceLE, Int.reduceEq, Int.reduceNeg, if_true, if_false, ite_true, ite_false, reduceIte, eq_self, not_true, not_false_eq_true]; try refine tc_ite (fun _ => ?_) (fun _ => ?_) <;> try (exfalso; omega)))
      all_goals first
        | exact hq'
        | omega
    · rw [g] at hq'
      rw [g]
      rw [if_neg (by omega)] at hq'
      repeat' (first | (simp (disch := first | omega | exact Nat.le_of_ble_eq_true rfl | exact rfl | assumption | (simp (disch := omega) only [fr_ne, fr_same]; first | assumption | omega)) only [r136_0, r136_1, r136_2, v136_2_10, r136_8, r136_12, r136_13, r136_17, r136_18, r136_19, r136_20, r136_23, r136_26, r136_29i, r136_30, r136_31r, r136_33, r136_34i, r136_36, r136_37i, r136_41, r136_42, r136_46, r136_48, r136_49, r136_51, r136_52, r136_53i, r136_55, r136_56, r136_58, r136_62, r136_63, r136_64, r136_65, r136_66, v136_66_10, r136_69, r136_71, r136_72, r136_73, r136_74, r136_77, v136_77_10, r136_83, r136_85, r136_86, r136_88, r136_89, r136_90r, r136_92i, r136_95, r136_98, r136_100, r136_102, r136_105i, r136_107, r136_112, r136_113, r136_114, r136_118, r136_120, r136_122, r136_123, r136_126, r136_128, r136_130, r136_131, g10_34_10, g10_131_6, g10_256_8, o10_len, o10_g4, o6_len, o6_g0, o8_len, o8_g10, il_s, bl_s, bl_z, ll_s, is_s, bs_s, bs_z, ls_s, al_s, al_b, al_l, fr_ne, fr_same, fr_fr, Nat.reduceEqDiff, tc_gf3_s, tc_ql2_s, tc_ws_0, tc_ws_i, tc_ws_l, tc_ws_r, Nat.reduceLeDiff, Nat.reduceAdd, Nat.reduceLT, true_and, and_true, if_true, if_false, tc_K, Option.toList_some, Option.toList_none, List.nil_append, List.cons_append, ite_true, ite_false, Int.cast_ofNat_Int, reduceIte, i3_add_eq, i3_sub_eq, Int.add_sub_cancel, Int.add_neg_cancel_right, ShoS_g0 hSh2, ShoS_s0 hSh2, ShoS_g1 hSh2, ShoS_s1 hSh2, ShoS_g2 hSh2, ShoS_s2 hSh2, ShoS_g3 hSh2, ShoS_s3 hSh2, ShoS_g4 hSh2, ShoS_s4 hSh2, ShoS_g5 hSh2, ShoS_s5 hSh2, ShoS_g6 hSh2, ShoS_s6 hSh2, ShoS_g7 hSh2, ShoS_s7 hSh2, ho2]) | (simp only [r136_5, r136_9, r136_14, r136_43, r136_59, r136_80, r136_109, r136_115, i6_lt0, i6_0lt, i6_0le, i6_le0, i6_eq0, b10_0, ite_not, Int.reduceLT, Int.reduceLE, Int.reduceEq, Int.reduceNeg, if_true, if_false, ite_true, ite_false, reduceIte, eq_self, not_true, not_false_eq_true]; try refine tc_ite (fun _ => ?_) (fun _ => ?_) <;> try (exfalso; omega)))
      all_goals first
        | exact hq'
        | omega
theorem CQ.same (h : CQ L sh c s v b σ la) {e : Nat → Int → Int} (he : FQ c e) : CQ L sh e s v b σ la := by
  obtain ⟨hM, ⟨s1, l1, hE⟩, hSh, hs, h38, h56, ⟨ci, lw, m, f, q1, q2, q3, q4, q5⟩, hb, hw, hB, hσ, hl, hal⟩ := h
  exact ⟨hM, ⟨_, _, hE⟩, hSh, hs, h38, h56, ⟨ci, lw, m, f, q1, by rw [he 26 (by omega)]; exact q2, q3, by rw [he 29 (by omega)]; exact q4, q5⟩, hb, hw, hB.fr fun a a1 a2 => he a (by omega), hσ.fr (he 38 (by omega)) (he 39 (by omega)) (he 40 (by omega)) (he 41 (by omega)), hl.of (Nat.le_refl L) (fun _ _ => rfl) fun lr a l1 l2 l3 => he a (by have := hal lr l1; omega), hal⟩
theorem c136 (h : CQ L sh c s v b σ la) (h9 : σ 4 0 < 900) {f w T : Int} (hf : 0 ≤ f ∧ f < b 0 2) (h3 : σ 3 f = -1) (hw2 : w = 0 ∨ w = 1) (hT : tof b (σ 4 0) = T)
    (hq : ∀ e, FQ c e → Q (some (.inl (if w = 0 then oab b σ la f T / eu 28 (oab b σ la f T) (b 0 5 + b 0 6 + b 0 7) else (b 0 5 + b 0 6 + b 0 7) / eu 28 (oab b σ la f T) (b 0 5 + b 0 6 + b 0 7)))) (hp L (seaf sh (some s) v) e) n) : tc_C 136 [rf 26, .inl f, .inl w] (hp L sh c) n Q := by
  obtain ⟨hM, ⟨sq1, lq1, hE⟩, hSh, hs, h38, h56, _, hb, hw, hB, hσ, hl, hal⟩ := id h
  have hL := hE.1
  have hL26 : 26 < L := by omega
  have hL29 : 29 < L := by omega
  obtain ⟨h26, h29⟩ := id hM
  have h108 := fun Q => c108q (n := n) (Q := Q) (f := f) h
  simp only [if_pos (⟨hf, h3⟩ : (0 ≤ f ∧ f < b 0 2) ∧ σ 3 f = -1)] at h108
  obtain ⟨q1, q2, q3, q4, q5, q6, q7⟩ := hb.2.2.1
  obtain ⟨p5, p6, p7⟩ := hB.2.2.2.2.1
  have htf : 0 ≤ T ∧ T ≤ 20 := hT ▸ tof_rng hb (σ 4 0)
  have hS : seaf (seaf sh (some s) v) (some s) v = seaf sh (some s) v := seaf_seaf
  have hnx : CQ L (seaf sh (some s) v) c s v b σ la := h.next (FQ.refl c)
  generalize hS2 : seaf sh (some s) v = S2 at hq hS hnx
  show tc_W 136 0 [rf 26, .inl f, .inl w, tc_nil, tc_nil, tc_nil, tc_nil] [] _ _ Q
  repeat' (first | (simp (disch := first | omega | exact Nat.le_of_ble_eq_true rfl | exact rfl | assumption | (simp (disch := omega) only [fr_ne, fr_same]; first | assumption | omega)) only [r136_0, r136_1, r136_2, v136_2_10, r136_8, r136_12, r136_13, r136_17, r136_18, r136_19, r136_20, r136_23, r136_26, r136_29i, r136_30, r136_31r, r136_33, r136_34i, r136_36, r136_37i, r136_41, r136_42, r136_46, r136_48, r136_49, r136_51, r136_52, r136_53i, r136_55, r136_56, r136_58, r136_62, r136_63, r136_64, r136_65, r136_66, v136_66_10, r136_69, r136_71, r136_72, r136_73, r136_74, r136_77, v136_77_10, r136_83, r136_85, r136_86, r136_88, r136_89, r136_90r, r136_92i, r136_95, r136_98, r136_100, r136_102, r136_105i, r136_107, r136_112, r136_113, r136_114, r136_118, r136_120, r136_122, r136_123, r136_126, r136_128, r136_130, r136_131, g10_34_10, g10_131_6, g10_256_8, o10_len, o10_g4, o6_len, o6_g0, o8_len, o8_g10, il_s, bl_s, bl_z, ll_s, is_s, bs_s, bs_z, ls_s, al_s, al_b, al_l, fr_ne, fr_same, fr_fr, Nat.reduceEqDiff, tc_gf3_s, tc_ql2_s, tc_ws_0, tc_ws_i, tc_ws_l, tc_ws_r, Nat.reduceLeDiff, Nat.reduceAdd, Nat.reduceLT, true_and, and_true, if_true, if_false, tc_K, Option.toList_some, Option.toList_none, List.nil_append, List.cons_append, ite_true, ite_false, Int.cast_ofNat_Int, reduceIte, i3_add_eq, i3_sub_eq, Int.add_sub_cancel, Int.add_neg_cancel_right, hO hL26 h26, hO hL29 h29, h108, ShoS_g0 hSh, ShoS_s0 hSh, ShoS_g1 hSh, ShoS_s1 hSh, ShoS_g2 hSh, ShoS_s2 hSh, ShoS_g3 hSh, ShoS_s3 hSh, ShoS_g4 hSh, ShoS_s4 hSh, ShoS_g5 hSh, ShoS_s5 hSh, ShoS_g6 hSh, ShoS_s6 hSh, ShoS_g7 hSh, ShoS_s7 hSh]) | (simp only [r136_5, r136_9, r136_14, r136_43, r136_59, r136_80, r136_109, r136_115, i6_lt0, i6_0lt, i6_0le, i6_le0, i6_eq0, b10_0, ite_not, Int.reduceLT, Int.reduceLE, Int.reduceEq, Int.reduceNeg, if_true, if_false, ite_true, ite_false, reduceIte, eq_self, not_true, not_false_eq_true]; try refine tc_ite (fun _ => ?_) (fun _ => ?_) <;> try (exfalso; omega)))
  all_goals try omega
  have g0 := flb_01 b σ la f (if 0 < T then T - 1 else 0)
  have hoab : oab b σ la f T = (if flb b σ la f (if 0 < T then T - 1 else 0) = 0 then 0 else b 0 5) + (if flb b σ la f T = 0 then 0 else b 0 6) + (if flb b σ la f (T + 1) = 0 then 0 else b 0 7) := rfl
  rw [hoab] at hq
  have v0 : (if 0 < T + 0 - 1 then T + 0 - 1 else 0) = (if 0 < T then T - 1 else 0) := by
    by_cases q : 1 < T
    · rw [if_pos (by omega), if_pos (by omega)]
      omega
    · rw [if_neg (by omega)]
      split <;> omega
  have v1 : (if 0 < T + 1 - 1 then T + 1 - 1 else 0) = T := by
    split <;> omega
  have v2 : (if 0 < T + 2 - 1 then T + 2 - 1 else 0) = T + 1 := by
    split <;> omega
  refine c136_s (i := 0) (o := b 0 5) (A := 0) (B := 0) (S2 := S2) h9 hf hT (by omega) v0 h hS2 p5 (by omega) (by omega) (by omega) ?_
  intro S3 e1 he1 hS3
  generalize hA : (if flb b σ la f (if 0 < T then T - 1 else 0) = 0 then 0 else b 0 5) = A at hq
  have hAr : 0 ≤ A ∧ A ≤ 9 := by
    rw [← hA]
    split <;> omega
  have hC1 : CQ L S3 e1 s v b σ la := by
    rcases hS3 with rfl | ⟨rfl, _⟩
    · exact hnx.same he1
    · exact h.same he1
  have hs1 : seaf S3 (some s) v = S2 := by
    rcases hS3 with rfl | ⟨rfl, _⟩
    · exact hS
    · exact hS2
  refine c136_s (i := 0 + 1) (o := b 0 6) (S2 := S2) (FF := T) h9 hf hT (by omega) (by rw [show T + (0 + 1) - 1 = T + 1 - 1 by omega]; exact v1) hC1 hs1 (by rw [he1 (s + 6) (by omega)]; exact p6) (by omega) (by omega) (by omega) ?_
  intro S4 e2 he2 hS4
  generalize hA1 : (if flb b σ la f T = 0 then 0 else b 0 6) = A1 at hq
  have hA1r : 0 ≤ A1 ∧ A1 ≤ 9 := by
    rw [← hA1]
    split <;> omega
  have hC2 : CQ L S4 e2 s v b σ la := by
    rcases hS4 with rfl | ⟨rfl, _⟩
    · exact hnx.same (he1.trans he2)
    · exact hC1.same he2
  have hs2 : seaf S4 (some s) v = S2 := by
    rcases hS4 with rfl | ⟨rfl, _⟩
    · exact hS
    · exact hs1
  refine c136_s (i := 0 + 1 + 1) (o := b 0 7) (S2 := S2) (FF := T + 1) h9 hf hT (by omega) (by rw [show T + (0 + 1 + 1) - 1 = T + 2 - 1 by omega]; exact v2) hC2 hs2 (by rw [he2 (s + 6) (by omega), he1 (s + 6) (by omega)]; exact p7) (by omega) (by omega) (by omega) ?_
  intro S5 e3 he3 hS5
  generalize hA2 : (if flb b σ la f (T + 1) = 0 then 0 else b 0 7) = A2 at hq
  have hA2r : 0 ≤ A2 ∧ A2 ≤ 9 := by
    rw [← hA2]
    split <;> omega
  have hS5' : S5 = S2 := by
    rcases hS5 with q | ⟨q, z2⟩
    · exact q
    · rcases hS4 with p | ⟨p, z1⟩
      · rw [q, p]
      · rcases hS3 with o | ⟨o, z0⟩
        · rw [q, p, o]
        · exfalso
          omega
  subst hS5'
  have hSh5 : ShoS L S5 s := hS2 ▸ ShoS_fs hSh (by omega)
  rw [show 0 + b 0 5 + b 0 6 + b 0 7 = b 0 5 + b 0 6 + b 0 7 by omega, show 0 + A + A1 + A2 = A + A1 + A2 by omega, show (0 : Int) + 1 + 1 + 1 = 3 by omega]
  have h138 := fun (h : List SC) Q => c138 (n := n) (Q := Q) (h := h) (x := A + A1 + A2) (y := b 0 5 + b 0 6 + b 0 7) (by omega) (by omega)
  have heu := eu_rng 28 (A + A1 + A2) (b 0 5 + b 0 6 + b 0 7) (by omega) (by omega)
  have hq' := hq e3 ((he1.trans he2).trans he3)
  generalize eu 28 (A + A1 + A2) (b 0 5 + b 0 6 + b 0 7) = G at heu h138 hq'
  simp only [r136_39]
  rcases hw2 with rfl | rfl
  · rw [if_pos rfl] at hq'
    repeat' (first | (simp (disch := first | omega | exact Nat.le_of_ble_eq_true rfl | exact rfl | assumption | (simp (disch := omega) only [fr_ne, fr_same]; first | assumption | omega)) only [r136_0, r136_1, r136_2, v136_2_10, r136_8, r136_12, r136_13, r136_17, r136_18, r136_19, r136_20, r136_23, r136_26, r136_29i, r136_30, r136_31r, r136_33, r136_34i, r136_36, r136_37i, r136_41, r136_42, r136_46, r136_48, r136_49, r136_51, r136_52, r136_53i, r136_55, r136_56, r136_58, r136_62, r136_63, r136_64, r136_65, r136_66, v136_66_10, r136_69, r136_71, r136_72, r136_73, r136_74, r136_77, v136_77_10, r136_83, r136_85, r136_86, r136_88, r136_89, r136_90r, r136_92i, r136_95, r136_98, r136_100, r136_102, r136_105i, r136_107, r136_112, r136_113, r136_114, r136_118, r136_120, r136_122, r136_123, r136_126, r136_128, r136_130, r136_131, g10_34_10, g10_131_6, g10_256_8, o10_len, o10_g4, o6_len, o6_g0, o8_len, o8_g10, il_s, bl_s, bl_z, ll_s, is_s, bs_s, bs_z, ls_s, al_s, al_b, al_l, fr_ne, fr_same, fr_fr, Nat.reduceEqDiff, tc_gf3_s, tc_ql2_s, tc_ws_0, tc_ws_i, tc_ws_l, tc_ws_r, Nat.reduceLeDiff, Nat.reduceAdd, Nat.reduceLT, true_and, and_true, if_true, if_false, tc_K, Option.toList_some, Option.toList_none, List.nil_append, List.cons_append, ite_true, ite_false, Int.cast_ofNat_Int, reduceIte, i3_add_eq, i3_sub_eq, Int.add_sub_cancel, Int.add_neg_cancel_right, ShoS_g0 hSh5, ShoS_s0 hSh5, ShoS_g1 hSh5, ShoS_s1 hSh5, ShoS_g2 hSh5, ShoS_s2 hSh5, ShoS_g3 hSh5, ShoS_s3 hSh5, ShoS_g4 hSh5, ShoS_s4 hSh5, ShoS_g5 hSh5, ShoS_s5 hSh5, ShoS_g6 hSh5, ShoS_s6 hSh5, ShoS_g7 hSh5, ShoS_s7 hSh5, h138, i3_div_nn]) | (simp only [r136_5, r136_9, r136_14, r136_43, r136_59, r136_80, r136_109, r136_115, i6_lt0, i6_0lt, i6_0le, i6_le0, i6_eq0, b10_0, ite_not, Int.reduceLT, Int.reduceLE, Int.reduceEq, Int.reduceNeg, if_true, if_false, ite_true, ite_false, reduceIte, eq_self, not_true, not_false_eq_true]; try refine tc_ite (fun _ => ?_) (fun _ => ?_) <;> try (exfalso; omega)))
    all_goals first
      | exact hq'
      | omega
  · rw [if_neg (by omega)] at hq'
    repeat' (first | (simp (disch := first | omega | exact Nat.le_of_ble_eq_true rfl | exact rfl | assumption | (simp (disch := omega) only [fr_ne, fr_same]; first | assumption | omega)) only [r136_0, r136_1, r136_2, v136_2_10, r136_8, r136_12, r136_13, r136_17, r136_18, r136_19, r136_20, r136_23, r136_26, r136_29i, r136_30, r136_31r, r136_33, r136_34i, r136_36, r136_37i, r136_41, r136_42, r136_46, r136_48, r136_49, r136_51, r136_52, r136_53i, r136_55, r136_56, r136_58, r136_62, r136_63, r136_64, r136_65, r136_66, v136_66_10, r136_69, r136_71, r136_72, r136_73, r136_74, r136_77, v136_77_10, r136_83, r136_85, r136_86, r136_88, r136_89, r136_90r, r136_92i, r136_95, r136_98, r136_100, r136_102, r136_105i, r136_107, r136_112, r136_113, r136_114, r136_118, r136_120, r136_122, r136_123, r136_126, r136_128, r136_130, r136_131, g10_34_10, g10_131_6, g10_256_8, o10_len, o10_g4, o6_len, o6_g0, o8_len, o8_g10, il_s, bl_s, bl_z, ll_s, is_s, bs_s, bs_z, ls_s, al_s, al_b, al_l, fr_ne, fr_same, fr_fr, Nat.reduceEqDiff, tc_gf3_s, tc_ql2_s, tc_ws_0, tc_ws_i, tc_ws_l, tc_ws_r, Nat.reduceLeDiff, Nat.reduceAdd, Nat.reduceLT, true_and, and_true, if_true, if_false, tc_K, Option.toList_some, Option.toList_none, List.nil_append, List.cons_append, ite_true, ite_false, Int.cast_ofNat_Int, reduceIte, i3_add_eq, i3_sub_eq, Int.add_sub_cancel, Int.add_neg_cancel_right, ShoS_g0 hSh5, ShoS_s0 hSh5, ShoS_g1 hSh5, ShoS_s1 hSh5, ShoS_g2 hSh5, ShoS_s2 hSh5, ShoS_g3 hSh5, ShoS_s3 hSh5, ShoS_g4 hSh5, ShoS_s4 hSh5, ShoS_g5 hSh5, ShoS_s5 hSh5, ShoS_g6 hSh5, ShoS_s6 hSh5, ShoS_g7 hSh5, ShoS_s7 hSh5, h138, i3_div_nn]) | (simp only [r136_5, r136_9, r136_14, r136_43, r136_59, r136_80, r136_109, r136_115, i6_lt0, i6_0lt, i6_0le, i6_le0, i6_eq0, b10_0, ite_not, Int.reduceLT, Int.reduceLE, Int.reduceEq, Int.reduceNeg, if_true, if_false, ite_true, ite_false, reduceIte, eq_self, not_true, not_false_eq_true]; try refine tc_ite (fun _ => ?_) (fun _ => ?_) <;> try (exfalso; omega)))
    all_goals first
      | exact hq'
      | omega
end ODDSQ

/-! the class: what a WAVE needs -/
theorem bes_has {W N x : Int} (hW : 2 ≤ W ∧ W ≤ 5) (hx : 0 ≤ x) (h : bes W N x 1 = -1) : ¬ bes W N x 3 = -1 := by
  unfold bes at h ⊢
  simp only [Int.reduceEq, if_true, if_false, reduceIte] at h ⊢
  have h1 : 0 ≤ x % W ∧ x % W ≤ x ∧ x % W < W := by
    rcases (by omega : W = 2 ∨ W = 3 ∨ W = 4 ∨ W = 5) with rfl | rfl | rfl | rfl <;> omega
  by_cases h4 : x % W + 1 < W
  · rw [if_pos h4] at h
    omega
  · rw [if_pos (by omega)]
    omega
theorem lwf_rng {W D x : Int} {ht : Int → Int} (hW : 2 ≤ W ∧ W ≤ 5) (hh : HT (W * D) ht) (hx : 0 ≤ x) (hx2 : x < W * D) : ∀ d : Nat, d ≤ 4 → (0 ≤ lwf W (W * D) ht x d ∧ lwf W (W * D) ht x d ≤ 10) ∧ (-1 ≤ hgf W (W * D) ht x d ∧ hgf W (W * D) ht x d ≤ 9) ∧ ∀ e : Nat, e < d → ¬ bes W (W * D) x e = -1 → lwf W (W * D) ht x d ≤ 9 ∧ 0 ≤ hgf W (W * D) ht x d := by
  intro d
  induction d with
  | zero =>
    intro _
    refine ⟨⟨?_, ?_⟩, ⟨?_, ?_⟩, fun e he => by omega⟩
    · show (0 : Int) ≤ 10; omega
    · show (10 : Int) ≤ 10; omega
    · show (-1 : Int) ≤ -1; omega
    · show (-1 : Int) ≤ 9; omega
  | succ d ih =>
    intro hd
    have h1 := ih (by omega)
    have h2 := bes_rng (d := (d : Int)) hW hx hx2 (by omega) (by omega)
    have e1 : lwf W (W * D) ht x (d + 1) = if bes W (W * D) x d = -1 then lwf W (W * D) ht x d else if ht (bes W (W * D) x d) < lwf W (W * D) ht x d then ht (bes W (W * D) x d) else lwf W (W * D) ht x d := rfl
    have e2 : hgf W (W * D) ht x (d + 1) = if bes W (W * D) x d = -1 then hgf W (W * D) ht x d else if hgf W (W * D) ht x d < ht (bes W (W * D) x d) then ht (bes W (W * D) x d) else hgf W (W * D) ht x d := rfl
    by_cases hn : bes W (W * D) x d = -1
    · rw [if_pos hn] at e1 e2
      rw [e1, e2]
      refine ⟨h1.1, h1.2.1, fun e he hen => ?_⟩
      by_cases h5 : e = d
      · rw [h5] at hen
        exact absurd hn hen
      · exact h1.2.2 e (by omega) hen
    · rw [if_neg hn] at e1 e2
      have h3 := hh (bes W (W * D) x d) (by omega) (by omega)
      have k1 : (0 ≤ lwf W (W * D) ht x (d + 1) ∧ lwf W (W * D) ht x (d + 1) ≤ 9) ∧ (0 ≤ hgf W (W * D) ht x (d + 1) ∧ hgf W (W * D) ht x (d + 1) ≤ 9) := by
        rw [e1, e2]
        constructor
        · split <;> omega
        · split <;> omega
      exact ⟨by omega, by omega, fun e he hen => by omega⟩
section CWAVE2
variable {L : Nat} {sh : Nat → SH} {c : Nat → Int → Int} {n : Nat} {Q : Option AV → List SC → Nat → Prop} {r s : Nat} {lo : Option Nat}
theorem c93 (hE : SeaS L sh (some s) lo) (hO : ShoS L sh s) (hR : SanS L sh r) {fe : Int → Int} {m x : Int} (hm : 0 ≤ m ∧ m ≤ 6) (hs3 : c s 3 = m) (h3 : c r 3 = (mk (stn fe) m.toNat : Nat)) : tc_C 93 [rf 49, rf r, .inl x] (hp L sh c) n Q = Q none (hp L sh (fr c 54 (fu (c 54) 6 (cn (fin fe (c (r + 2)) x) m.toNat)))) n := tc_det fun Q hq => by
  show tc_W 93 0 [rf 49, rf r, .inl x, tc_nil, tc_nil] [] _ _ Q
  repeat' (first | (simp (disch := first | omega | exact Nat.le_of_ble_eq_true rfl | exact rfl | assumption | (simp (disch := omega) only [fr_ne, fr_same]; first | assumption | omega)) only [r93_0, r93_1i, r93_2, r93_3i, r93_7, r93_8, r93_11, r93_17, r93_18, r93_20, v93_20_5, r93_26, r93_27, r93_30, r93_32, r93_33, r93_37i, r93_40i, r93_43, r93_46, r93_47, r93_50, r93_52, r93_53, r93_54, r93_55, g7_9_7, g7_117_8, g7_120_5, g7_34_7, o7_len, o7_g0, o8_len, o8_g3, o5_len, o5_g1, o7_g6, il_s, bl_s, bl_z, ll_s, is_s, bs_s, bs_z, ls_s, al_s, al_b, al_l, fr_ne, fr_same, fr_fr, Nat.reduceEqDiff, tc_gf3_s, tc_ql2_s, tc_ws_0, tc_ws_i, tc_ws_l, tc_ws_r, Nat.reduceLeDiff, Nat.reduceAdd, Nat.reduceLT, true_and, and_true, if_true, if_false, tc_K, Option.toList_some, Option.toList_none, List.nil_append, List.cons_append, ite_true, ite_false, Int.cast_ofNat_Int, reduceIte, i3_add_eq, i3_sub_eq, Int.add_sub_cancel, Int.add_neg_cancel_right]) | (simp only [r93_14, r93_23, r93_34, i6_lt0, i6_0lt, i6_0le, i6_le0, i6_eq0, b10_0, ite_not, Int.reduceLT, Int.reduceLE, Int.reduceEq, Int.reduceNeg, if_true, if_false, ite_true, ite_false, reduceIte, eq_self, not_true, not_false_eq_true]; try refine tc_ite (fun _ => ?_) (fun _ => ?_) <;> try (exfalso; omega)))
  refine upI (N := m) (P := fun k => tc_W 93 5 [rf 49, rf r, .inl x, .inl (cn (fin fe (c (r + 2)) x) k.toNat), .inl k] [] (hp L sh c) n Q) hm.1 ?_ ?_
  · intro k hk hk2 ih
    have e : cn (fin fe (c (r + 2)) x) (k + 1).toNat = cn (fin fe (c (r + 2)) x) k.toNat + (if fin fe (c (r + 2)) x k = true then 1 else 0) := by
      rw [show (k + 1).toNat = k.toNat + 1 by omega]
      show _ + (if fin fe (c (r + 2)) x (k.toNat : Int) = true then 1 else 0) = _
      rw [Int.toNat_of_nonneg hk]
    have hcn := cn_rng (fin fe (c (r + 2)) x) k.toNat
    have h70 := fun Q => c70 (c := c) (n := n) (Q := Q) hR (by omega) h3 (f := k) hk (by omega)
    have hfi : fin fe (c (r + 2)) x k = (stn fe k && decide (c (r + 2) k = x)) := rfl
    rw [e, hfi] at ih
    simp only [r93_5]
    by_cases h1 : stn fe k = true
    · rw [h1, Bool.true_and] at ih
      simp only [h1, if_true] at h70
      by_cases h2 : c (r + 2) k = x
      · rw [decide_eq_true h2, if_pos rfl] at ih
        repeat' (first | (simp (disch := first | omega | exact Nat.le_of_ble_eq_true rfl | exact rfl | assumption | (simp (disch := omega) only [fr_ne, fr_same]; first | assumption | omega)) only [r93_0, r93_1i, r93_2, r93_3i, r93_7, r93_8, r93_11, r93_17, r93_18, r93_20, v93_20_5, r93_26, r93_27, r93_30, r93_32, r93_33, r93_37i, r93_40i, r93_43, r93_46, r93_47, r93_50, r93_52, r93_53, r93_54, r93_55, g7_9_7, g7_117_8, g7_120_5, g7_34_7, o7_len, o7_g0, o8_len, o8_g3, o5_len, o5_g1, o7_g6, il_s, bl_s, bl_z, ll_s, is_s, bs_s, bs_z, ls_s, al_s, al_b, al_l, fr_ne, fr_same, fr_fr, Nat.reduceEqDiff, tc_gf3_s, tc_ql2_s, tc_ws_0, tc_ws_i, tc_ws_l, tc_ws_r, Nat.reduceLeDiff, Nat.reduceAdd, Nat.reduceLT, true_and, and_true, if_true, if_false, tc_K, Option.toList_some, Option.toList_none, List.nil_append, List.cons_append, ite_true, ite_false, Int.cast_ofNat_Int, reduceIte, i3_add_eq, i3_sub_eq, Int.add_sub_cancel, Int.add_neg_cancel_right, SeaS_g0 hE, SeaS_s0 hE, SeaS_g1 hE, SeaS_s1 hE, SeaS_g2 hE, SeaS_s2 hE, SeaS_g3 hE, SeaS_s3 hE, SeaS_g4 hE, SeaS_s4 hE, SeaS_g5 hE, SeaS_s5 hE, SeaS_g6 hE, SeaS_s6 hE, ShoS_g0 hO, ShoS_s0 hO, ShoS_g1 hO, ShoS_s1 hO, ShoS_g2 hO, ShoS_s2 hO, ShoS_g3 hO, ShoS_s3 hO, ShoS_g4 hO, ShoS_s4 hO, ShoS_g5 hO, ShoS_s5 hO, ShoS_g6 hO, ShoS_s6 hO, ShoS_g7 hO, ShoS_s7 hO, SanS_g0 hR, SanS_s0 hR, SanS_g1 hR, SanS_s1 hR, SanS_g2 hR, SanS_s2 hR, SanS_g3 hR, SanS_s3 hR, hs3, h70]) | (simp only [r93_14, r93_23, r93_34, i6_lt0, i6_0lt, i6_0le, i6_le0, i6_eq0, b10_0, ite_not, Int.reduceLT, Int.reduceLE, Int.reduceEq, Int.reduceNeg, if_true, if_false, ite_true, ite_false, reduceIte, eq_self, not_true, not_false_eq_true]; try refine tc_ite (fun _ => ?_) (fun _ => ?_) <;> try (exfalso; omega)))
        exact ih
      · rw [decide_eq_false h2, if_neg (by decide), Int.add_zero] at ih
        repeat' (first | (simp (disch := first | omega | exact Nat.le_of_ble_eq_true rfl | exact rfl | assumption | (simp (disch := omega) only [fr_ne, fr_same]; first | assumption | omega)) only [r93_0, r93_1i, r93_2, r93_3i, r93_7, r93_8, r93_11, r93_17, r93_18, r93_20, v93_20_5, r93_26, r93_27, r93_30, r93_32, r93_33, r93_37i, r93_40i, r93_43, r93_46, r93_47, r93_50, r93_52, r93_53, r93_54, r93_55, g7_9_7, g7_117_8, g7_120_5, g7_34_7, o7_len, o7_g0, o8_len, o8_g3, o5_len, o5_g1, o7_g6, il_s, bl_s, bl_z, ll_s, is_s, bs_s, bs_z, ls_s, al_s, al_b, al_l, fr_ne, fr_same, fr_fr, Nat.reduceEqDiff, tc_gf3_s, tc_ql2_s, tc_ws_0, tc_ws_i, tc_ws_l, tc_ws_r, Nat.reduceLeDiff, Nat.reduceAdd, Nat.reduceLT, true_and, and_true, if_true, if_false, tc_K, Option.toList_some, Option.toList_none, List.nil_append, List.cons_append, ite_true, ite_false, Int.cast_ofNat_Int, reduceIte, i3_add_eq, i3_sub_eq, Int.add_sub_cancel, Int.add_neg_cancel_right, SeaS_g0 hE, SeaS_s0 hE, SeaS_g1 hE, SeaS_s1 hE, SeaS_g2 hE, SeaS_s2 hE, SeaS_g3 hE, SeaS_s3 hE, SeaS_g4 hE, SeaS_s4 hE, SeaS_g5 hE, SeaS_s5 hE, SeaS_g6 hE, SeaS_s6 hE, ShoS_g0 hO, ShoS_s0 hO, ShoS_g1 hO, ShoS_s1 hO, ShoS_g2 hO, ShoS_s2 hO, ShoS_g3 hO, ShoS_s3 hO, ShoS_g4 hO, ShoS_s4 hO, ShoS_g5 hO, ShoS_s5 hO, ShoS_g6 hO, ShoS_s6 hO, ShoS_g7 hO, ShoS_s7 hO, SanS_g0 hR, SanS_s0 hR, SanS_g1 hR, SanS_s1 hR, SanS_g2 hR, SanS_s2 hR, SanS_g3 hR, SanS_s3 hR, hs3, h70]) | (simp only [r93_14, r93_23, r93_34, i6_lt0, i6_0lt, i6_0le, i6_le0, i6_eq0, b10_0, ite_not, Int.reduceLT, Int.reduceLE, Int.reduceEq, Int.reduceNeg, if_true, if_false, ite_true, ite_false, reduceIte, eq_self, not_true, not_false_eq_true]; try refine tc_ite (fun _ => ?_) (fun _ => ?_) <;> try (exfalso; omega)))
        exact ih
    · simp only [eq_false_of_ne_true h1, Bool.false_eq_true, if_false] at h70
      rw [eq_false_of_ne_true h1, Bool.false_and, if_neg (by decide), Int.add_zero] at ih
      repeat' (first | (simp (disch := first | omega | exact Nat.le_of_ble_eq_true rfl | exact rfl | assumption | (simp (disch := omega) only [fr_ne, fr_same]; first | assumption | omega)) only [r93_0, r93_1i, r93_2, r93_3i, r93_7, r93_8, r93_11, r93_17, r93_18, r93_20, v93_20_5, r93_26, r93_27, r93_30, r93_32, r93_33, r93_37i, r93_40i, r93_43, r93_46, r93_47, r93_50, r93_52, r93_53, r93_54, r93_55, g7_9_7, g7_117_8, g7_120_5, g7_34_7, o7_len, o7_g0, o8_len, o8_g3, o5_len, o5_g1, o7_g6, il_s, bl_s, bl_z, ll_s, is_s, bs_s, bs_z, ls_s, al_s, al_b, al_l, fr_ne, fr_same, fr_fr, Nat.reduceEqDiff, tc_gf3_s, tc_ql2_s, tc_ws_0, tc_ws_i, tc_ws_l, tc_ws_r, Nat.reduceLeDiff, Nat.reduceAdd, Nat.reduceLT, true_and, and_true, if_true, if_false, tc_K, Option.toList_some, Option.toList_none, List.nil_append, List.cons_append, ite_true, ite_false, Int.cast_ofNat_Int, reduceIte, i3_add_eq, i3_sub_eq, Int.add_sub_cancel, Int.add_neg_cancel_right, SeaS_g0 hE, SeaS_s0 hE, SeaS_g1 hE, SeaS_s1 hE, SeaS_g2 hE, SeaS_s2 hE, SeaS_g3 hE, SeaS_s3 hE, SeaS_g4 hE, SeaS_s4 hE, SeaS_g5 hE, SeaS_s5 hE, SeaS_g6 hE, SeaS_s6 hE, ShoS_g0 hO, ShoS_s0 hO, ShoS_g1 hO, ShoS_s1 hO, ShoS_g2 hO, ShoS_s2 hO, ShoS_g3 hO, ShoS_s3 hO, ShoS_g4 hO, ShoS_s4 hO, ShoS_g5 hO, ShoS_s5 hO, ShoS_g6 hO, ShoS_s6 hO, ShoS_g7 hO, ShoS_s7 hO, SanS_g0 hR, SanS_s0 hR, SanS_g1 hR, SanS_s1 hR, SanS_g2 hR, SanS_s2 hR, SanS_g3 hR, SanS_s3 hR, hs3, h70]) | (simp only [r93_14, r93_23, r93_34, i6_lt0, i6_0lt, i6_0le, i6_le0, i6_eq0, b10_0, ite_not, Int.reduceLT, Int.reduceLE, Int.reduceEq, Int.reduceNeg, if_true, if_false, ite_true, ite_false, reduceIte, eq_self, not_true, not_false_eq_true]; try refine tc_ite (fun _ => ?_) (fun _ => ?_) <;> try (exfalso; omega)))
      exact ih
  · simp only [r93_5]
    repeat' (first | (simp (disch := first | omega | exact Nat.le_of_ble_eq_true rfl | exact rfl | assumption | (simp (disch := omega) only [fr_ne, fr_same]; first | assumption | omega)) only [r93_0, r93_1i, r93_2, r93_3i, r93_7, r93_8, r93_11, r93_17, r93_18, r93_20, v93_20_5, r93_26, r93_27, r93_30, r93_32, r93_33, r93_37i, r93_40i, r93_43, r93_46, r93_47, r93_50, r93_52, r93_53, r93_54, r93_55, g7_9_7, g7_117_8, g7_120_5, g7_34_7, o7_len, o7_g0, o8_len, o8_g3, o5_len, o5_g1, o7_g6, il_s, bl_s, bl_z, ll_s, is_s, bs_s, bs_z, ls_s, al_s, al_b, al_l, fr_ne, fr_same, fr_fr, Nat.reduceEqDiff, tc_gf3_s, tc_ql2_s, tc_ws_0, tc_ws_i, tc_ws_l, tc_ws_r, Nat.reduceLeDiff, Nat.reduceAdd, Nat.reduceLT, true_and, and_true, if_true, if_false, tc_K, Option.toList_some, Option.toList_none, List.nil_append, List.cons_append, ite_true, ite_false, Int.cast_ofNat_Int, reduceIte, i3_add_eq, i3_sub_eq, Int.add_sub_cancel, Int.add_neg_cancel_right, SeaS_g0 hE, SeaS_s0 hE, SeaS_g1 hE, SeaS_s1 hE, SeaS_g2 hE, SeaS_s2 hE, SeaS_g3 hE, SeaS_s3 hE, SeaS_g4 hE, SeaS_s4 hE, SeaS_g5 hE, SeaS_s5 hE, SeaS_g6 hE, SeaS_s6 hE, ShoS_g0 hO, ShoS_s0 hO, ShoS_g1 hO, ShoS_s1 hO, ShoS_g2 hO, ShoS_s2 hO, ShoS_g3 hO, ShoS_s3 hO, ShoS_g4 hO, ShoS_s4 hO, ShoS_g5 hO, ShoS_s5 hO, ShoS_g6 hO, ShoS_s6 hO, ShoS_g7 hO, ShoS_s7 hO, SanS_g0 hR, SanS_s0 hR, SanS_g1 hR, SanS_s1 hR, SanS_g2 hR, SanS_s2 hR, SanS_g3 hR, SanS_s3 hR, hs3]) | (simp only [r93_14, r93_23, r93_34, i6_lt0, i6_0lt, i6_0le, i6_le0, i6_eq0, b10_0, ite_not, Int.reduceLT, Int.reduceLE, Int.reduceEq, Int.reduceNeg, if_true, if_false, ite_true, ite_false, reduceIte, eq_self, not_true, not_false_eq_true]; try refine tc_ite (fun _ => ?_) (fun _ => ?_) <;> try (exfalso; omega)))
    all_goals first | exact hq | exact q_i (by omega) hq | (simp (disch := omega) only [if_pos, if_neg] at hq; exact hq)
theorem c94 (hE : SeaS L sh (some s) lo) (hO : ShoS L sh s) (hR : SanS L sh r) {W D x : Int} (hW : 2 ≤ W ∧ W ≤ 5) (hD : 0 ≤ W * D ∧ W * D ≤ 25) (hB : SB c s W D) (hh : HT (W * D) (c (r + 1))) (hx : 0 ≤ x) (hx2 : x < W * D) : tc_C 94 [rf 49, rf r, .inl x] (hp L sh c) n Q = Q none (hp L sh (fr c 54 (fu (fu (c 54) 7 (lwf W (W * D) (c (r + 1)) x 4)) 8 (hgf W (W * D) (c (r + 1)) x 4)))) n := tc_det fun Q hq => by
  show tc_W 94 0 [rf 49, rf r, .inl x, tc_nil, tc_nil, tc_nil, tc_nil] [] _ _ Q
  repeat' (first | (simp (disch := first | omega | exact Nat.le_of_ble_eq_true rfl | exact rfl | assumption | (simp (disch := omega) only [fr_ne, fr_same]; first | assumption | omega)) only [r94_0, r94_2i, r94_3, r94_4i, r94_6, r94_7i, r94_11, r94_15, r94_16, r94_19, r94_22, r94_23, r94_24, r94_25, r94_27, r94_28, r94_29i, r94_31, r94_33, r94_37, r94_38, r94_39, r94_42, r94_44, r94_45, r94_48i, r94_49, r94_51, r94_52, r94_55, r94_57, r94_58, r94_61i, r94_63i, r94_66, r94_69, r94_70, r94_73, r94_75, r94_76, r94_77, r94_78, r94_79, r94_82, r94_84, r94_86, r94_87, r94_88, g7_9_7, g7_56_8, g7_79_5, g7_34_7, o7_len, o7_g0, o8_len, o8_g11, o5_len, o5_g0, o7_g6, il_s, bl_s, bl_z, ll_s, is_s, bs_s, bs_z, ls_s, al_s, al_b, al_l, fr_ne, fr_same, fr_fr, Nat.reduceEqDiff, tc_gf3_s, tc_ql2_s, tc_ws_0, tc_ws_i, tc_ws_l, tc_ws_r, Nat.reduceLeDiff, Nat.reduceAdd, Nat.reduceLT, true_and, and_true, if_true, if_false, tc_K, Option.toList_some, Option.toList_none, List.nil_append, List.cons_append, ite_true, ite_false, Int.cast_ofNat_Int, reduceIte, i3_add_eq, i3_sub_eq, Int.add_sub_cancel, Int.add_neg_cancel_right]) | (simp only [r94_12, r94_34, i6_lt0, i6_0lt, i6_0le, i6_le0, i6_eq0, b10_0, ite_not, Int.reduceLT, Int.reduceLE, Int.reduceEq, Int.reduceNeg, if_true, if_false, ite_true, ite_false, reduceIte, eq_self, not_true, not_false_eq_true]; try refine tc_ite (fun _ => ?_) (fun _ => ?_) <;> try (exfalso; omega)))
  refine up (N := 4) (P := fun d => ∀ a6 : AV, tc_W 94 9 [rf 49, rf r, .inl x, .inl (if lwf W (W * D) (c (r + 1)) x d < 9 then lwf W (W * D) (c (r + 1)) x d else 9), .inl (if 0 < hgf W (W * D) (c (r + 1)) x d then hgf W (W * D) (c (r + 1)) x d else 0), .inl (d : Int), a6] [] (hp L sh c) n Q) ?_ ?_ tc_nil
  · intro d hd4 ih a6
    have hr := bes_rng (d := (d : Int)) hW hx hx2 (by omega) (by omega)
    have hbs := hB.2.2 x d hx hx2 (by omega) (by omega)
    have hl := lwf_rng hW hh hx hx2 d (by omega)
    have e1 : lwf W (W * D) (c (r + 1)) x (d + 1) = if bes W (W * D) x d = -1 then lwf W (W * D) (c (r + 1)) x d else if (c (r + 1)) (bes W (W * D) x d) < lwf W (W * D) (c (r + 1)) x d then (c (r + 1)) (bes W (W * D) x d) else lwf W (W * D) (c (r + 1)) x d := rfl
    have e2 : hgf W (W * D) (c (r + 1)) x (d + 1) = if bes W (W * D) x d = -1 then hgf W (W * D) (c (r + 1)) x d else if hgf W (W * D) (c (r + 1)) x d < (c (r + 1)) (bes W (W * D) x d) then (c (r + 1)) (bes W (W * D) x d) else hgf W (W * D) (c (r + 1)) x d := rfl
    have ih' := fun a6 => ih a6
    rw [e1, e2] at ih'
    simp only [r94_9]
    by_cases hn : bes W (W * D) x d = -1
    · rw [if_pos hn, if_pos hn] at ih'
      repeat' (first | (simp (disch := first | omega | exact Nat.le_of_ble_eq_true rfl | exact rfl | assumption | (simp (disch := omega) only [fr_ne, fr_same]; first | assumption | omega)) only [r94_0, r94_2i, r94_3, r94_4i, r94_6, r94_7i, r94_11, r94_15, r94_16, r94_19, r94_22, r94_23, r94_24, r94_25, r94_27, r94_28, r94_29i, r94_31, r94_33, r94_37, r94_38, r94_39, r94_42, r94_44, r94_45, r94_48i, r94_49, r94_51, r94_52, r94_55, r94_57, r94_58, r94_61i, r94_63i, r94_66, r94_69, r94_70, r94_73, r94_75, r94_76, r94_77, r94_78, r94_79, r94_82, r94_84, r94_86, r94_87, r94_88, g7_9_7, g7_56_8, g7_79_5, g7_34_7, o7_len, o7_g0, o8_len, o8_g11, o5_len, o5_g0, o7_g6, il_s, bl_s, bl_z, ll_s, is_s, bs_s, bs_z, ls_s, al_s, al_b, al_l, fr_ne, fr_same, fr_fr, Nat.reduceEqDiff, tc_gf3_s, tc_ql2_s, tc_ws_0, tc_ws_i, tc_ws_l, tc_ws_r, Nat.reduceLeDiff, Nat.reduceAdd, Nat.reduceLT, true_and, and_true, if_true, if_false, tc_K, Option.toList_some, Option.toList_none, List.nil_append, List.cons_append, ite_true, ite_false, Int.cast_ofNat_Int, reduceIte, i3_add_eq, i3_sub_eq, Int.add_sub_cancel, Int.add_neg_cancel_right, SeaS_g0 hE, SeaS_s0 hE, SeaS_g1 hE, SeaS_s1 hE, SeaS_g2 hE, SeaS_s2 hE, SeaS_g3 hE, SeaS_s3 hE, SeaS_g4 hE, SeaS_s4 hE, SeaS_g5 hE, SeaS_s5 hE, SeaS_g6 hE, SeaS_s6 hE, ShoS_g0 hO, ShoS_s0 hO, ShoS_g1 hO, ShoS_s1 hO, ShoS_g2 hO, ShoS_s2 hO, ShoS_g3 hO, ShoS_s3 hO, ShoS_g4 hO, ShoS_s4 hO, ShoS_g5 hO, ShoS_s5 hO, ShoS_g6 hO, ShoS_s6 hO, ShoS_g7 hO, ShoS_s7 hO, SanS_g0 hR, SanS_s0 hR, SanS_g1 hR, SanS_s1 hR, SanS_g2 hR, SanS_s2 hR, SanS_g3 hR, SanS_s3 hR, hbs, hn, i3_mul_eq]) | (simp only [r94_12, r94_34, i6_lt0, i6_0lt, i6_0le, i6_le0, i6_eq0, b10_0, ite_not, Int.reduceLT, Int.reduceLE, Int.reduceEq, Int.reduceNeg, if_true, if_false, ite_true, ite_false, reduceIte, eq_self, not_true, not_false_eq_true]; try refine tc_ite (fun _ => ?_) (fun _ => ?_) <;> try (exfalso; omega)))
      exact ih' _
    · rw [if_neg hn, if_neg hn] at ih'
      have h3 := hh (bes W (W * D) x d) (by omega) (by omega)
      repeat' (first | (simp (disch := first | omega | exact Nat.le_of_ble_eq_true rfl | exact rfl | assumption | (simp (disch := omega) only [fr_ne, fr_same]; first | assumption | omega)) only [r94_0, r94_2i, r94_3, r94_4i, r94_6, r94_7i, r94_11, r94_15, r94_16, r94_19, r94_22, r94_23, r94_24, r94_25, r94_27, r94_28, r94_29i, r94_31, r94_33, r94_37, r94_38, r94_39, r94_42, r94_44, r94_45, r94_48i, r94_49, r94_51, r94_52, r94_55, r94_57, r94_58, r94_61i, r94_63i, r94_66, r94_69, r94_70, r94_73, r94_75, r94_76, r94_77, r94_78, r94_79, r94_82, r94_84, r94_86, r94_87, r94_88, g7_9_7, g7_56_8, g7_79_5, g7_34_7, o7_len, o7_g0, o8_len, o8_g11, o5_len, o5_g0, o7_g6, il_s, bl_s, bl_z, ll_s, is_s, bs_s, bs_z, ls_s, al_s, al_b, al_l, fr_ne, fr_same, fr_fr, Nat.reduceEqDiff, tc_gf3_s, tc_ql2_s, tc_ws_0, tc_ws_i, tc_ws_l, tc_ws_r, Nat.reduceLeDiff, Nat.reduceAdd, Nat.reduceLT, true_and, and_true, if_true, if_false, tc_K, Option.toList_some, Option.toList_none, List.nil_append, List.cons_append, ite_true, ite_false, Int.cast_ofNat_Int, reduceIte, i3_add_eq, i3_sub_eq, Int.add_sub_cancel, Int.add_neg_cancel_right, SeaS_g0 hE, SeaS_s0 hE, SeaS_g1 hE, SeaS_s1 hE, SeaS_g2 hE, SeaS_s2 hE, SeaS_g3 hE, SeaS_s3 hE, SeaS_g4 hE, SeaS_s4 hE, SeaS_g5 hE, SeaS_s5 hE, SeaS_g6 hE, SeaS_s6 hE, ShoS_g0 hO, ShoS_s0 hO, ShoS_g1 hO, ShoS_s1 hO, ShoS_g2 hO, ShoS_s2 hO, ShoS_g3 hO, ShoS_s3 hO, ShoS_g4 hO, ShoS_s4 hO, ShoS_g5 hO, ShoS_s5 hO, ShoS_g6 hO, ShoS_s6 hO, ShoS_g7 hO, ShoS_s7 hO, SanS_g0 hR, SanS_s0 hR, SanS_g1 hR, SanS_s1 hR, SanS_g2 hR, SanS_s2 hR, SanS_g3 hR, SanS_s3 hR, hbs, i3_mul_eq]) | (simp only [r94_12, r94_34, i6_lt0, i6_0lt, i6_0le, i6_le0, i6_eq0, b10_0, ite_not, Int.reduceLT, Int.reduceLE, Int.reduceEq, Int.reduceNeg, if_true, if_false, ite_true, ite_false, reduceIte, eq_self, not_true, not_false_eq_true]; try refine tc_ite (fun _ => ?_) (fun _ => ?_) <;> try (exfalso; omega)))
      generalize c (r + 1) (bes W (W * D) x d) = v at ih' h3
      generalize lwf W (W * D) (c (r + 1)) x d = lo at ih' hl
      generalize hgf W (W * D) (c (r + 1)) x d = hi at ih' hl
      have f1 : (if v < (if lo < 9 then lo else 9) then v else (if lo < 9 then lo else 9)) = (if (if v < lo then v else lo) < 9 then (if v < lo then v else lo) else 9) := by
        repeat' split
        all_goals omega
      have f2 : (if (if 0 < hi then hi else 0) < v then v else (if 0 < hi then hi else 0)) = (if 0 < (if hi < v then v else hi) then (if hi < v then v else hi) else 0) := by
        repeat' split
        all_goals omega
      rw [← f1, ← f2] at ih'
      exact ih' _
  · intro a6
    have hl := lwf_rng hW hh hx hx2 4 (by omega)
    have hlo : lwf W (W * D) (c (r + 1)) x 4 ≤ 9 ∧ 0 ≤ hgf W (W * D) (c (r + 1)) x 4 := by
      by_cases h1 : bes W (W * D) x 1 = -1
      · exact hl.2.2 3 (by omega) (bes_has hW hx h1)
      · exact hl.2.2 1 (by omega) h1
    simp only [r94_9]
    repeat' (first | (simp (disch := first | omega | exact Nat.le_of_ble_eq_true rfl | exact rfl | assumption | (simp (disch := omega) only [fr_ne, fr_same]; first | assumption | omega)) only [r94_0, r94_2i, r94_3, r94_4i, r94_6, r94_7i, r94_11, r94_15, r94_16, r94_19, r94_22, r94_23, r94_24, r94_25, r94_27, r94_28, r94_29i, r94_31, r94_33, r94_37, r94_38, r94_39, r94_42, r94_44, r94_45, r94_48i, r94_49, r94_51, r94_52, r94_55, r94_57, r94_58, r94_61i, r94_63i, r94_66, r94_69, r94_70, r94_73, r94_75, r94_76, r94_77, r94_78, r94_79, r94_82, r94_84, r94_86, r94_87, r94_88, g7_9_7, g7_56_8, g7_79_5, g7_34_7, o7_len, o7_g0, o8_len, o8_g11, o5_len, o5_g0, o7_g6, il_s, bl_s, bl_z, ll_s, is_s, bs_s, bs_z, ls_s, al_s, al_b, al_l, fr_ne, fr_same, fr_fr, Nat.reduceEqDiff, tc_gf3_s, tc_ql2_s, tc_ws_0, tc_ws_i, tc_ws_l, tc_ws_r, Nat.reduceLeDiff, Nat.reduceAdd, Nat.reduceLT, true_and, and_true, if_true, if_false, tc_K, Option.toList_some, Option.toList_none, List.nil_append, List.cons_append, ite_true, ite_false, Int.cast_ofNat_Int, reduceIte, i3_add_eq, i3_sub_eq, Int.add_sub_cancel, Int.add_neg_cancel_right, SeaS_g0 hE, SeaS_s0 hE, SeaS_g1 hE, SeaS_s1 hE, SeaS_g2 hE, SeaS_s2 hE, SeaS_g3 hE, SeaS_s3 hE, SeaS_g4 hE, SeaS_s4 hE, SeaS_g5 hE, SeaS_s5 hE, SeaS_g6 hE, SeaS_s6 hE, ShoS_g0 hO, ShoS_s0 hO, ShoS_g1 hO, ShoS_s1 hO, ShoS_g2 hO, ShoS_s2 hO, ShoS_g3 hO, ShoS_s3 hO, ShoS_g4 hO, ShoS_s4 hO, ShoS_g5 hO, ShoS_s5 hO, ShoS_g6 hO, ShoS_s6 hO, ShoS_g7 hO, ShoS_s7 hO, SanS_g0 hR, SanS_s0 hR, SanS_g1 hR, SanS_s1 hR, SanS_g2 hR, SanS_s2 hR, SanS_g3 hR, SanS_s3 hR]) | (simp only [r94_12, r94_34, i6_lt0, i6_0lt, i6_0le, i6_le0, i6_eq0, b10_0, ite_not, Int.reduceLT, Int.reduceLE, Int.reduceEq, Int.reduceNeg, if_true, if_false, ite_true, ite_false, reduceIte, eq_self, not_true, not_false_eq_true]; try refine tc_ite (fun _ => ?_) (fun _ => ?_) <;> try (exfalso; omega)))
    have f1 : (if lwf W (W * D) (c (r + 1)) x (4 : Nat) < 9 then lwf W (W * D) (c (r + 1)) x (4 : Nat) else 9) = lwf W (W * D) (c (r + 1)) x 4 := by
      split <;> omega
    have f2 : (if 0 < hgf W (W * D) (c (r + 1)) x (4 : Nat) then hgf W (W * D) (c (r + 1)) x (4 : Nat) else 0) = hgf W (W * D) (c (r + 1)) x 4 := by
      split <;> omega
    rw [f1, f2]
    exact hq
/-- the shore tells the beach -/
def SHO (b : Nat → Int → Int) (s : Nat) (c : Nat → Int → Int) : Prop := SB c s (b 0 0) (b 0 1) ∧ (c s 1 = b 0 1 ∧ c s 3 = b 0 2 ∧ c s 4 = b 0 3) ∧ (∀ f, 0 ≤ f → f < b 0 2 → c (s + 2) f = b 5 f ∧ c (s + 3) f = b 1 f ∧ c (s + 4) f = b 2 f) ∧ (∀ k, 0 ≤ k → k < b 0 3 → c (s + 5) k = b 3 k) ∧ (c (s + 6) 0 = b 0 5 ∧ c (s + 6) 1 = b 0 6 ∧ c (s + 6) 2 = b 0 7) ∧ (∀ x, 0 ≤ x → x < b 0 0 * b 0 1 → c (s + 1) x = b 4 x)
/-- a Sand is the sand s; k: also where a flag that stands fell -/
def SAN (k : Prop) (b : Nat → Int → Int) (r : Nat) (c s : Nat → Int → Int) : Prop := (∀ x, 0 ≤ x → x < b 0 0 * b 0 1 → c (r + 1) x = s 0 x) ∧ (∀ f, 0 ≤ f → f < b 0 2 → c (r + 2) f = s 2 f ∧ ((k ∨ ¬ s 3 f = -1) → c (r + 3) f = s 3 f)) ∧ c r 3 = (mk (stn (s 3)) (b 0 2).toNat : Nat) ∧ c r 4 = (mk (fun x => decide (s 1 x = 1)) (b 0 0 * b 0 1).toNat : Nat) ∧ c r 5 = s 4 1 ∧ c r 6 = s 4 0
theorem SAN.of {k : Prop} {b d s t : Nat → Int → Int} (hb : WB b) (h : SAN k b r d s) (e : SEq b s t) : SAN k b r d t := by
  have hN := Int.mul_nonneg (show 0 ≤ b 0 0 by have := hb.1; omega) (show 0 ≤ b 0 1 by have := hb.1; omega)
  have hf := hb.2.1
  refine ⟨fun x h1 h2 => ?_, fun f h1 h2 => ?_, ?_, ?_, ?_, ?_⟩
  · rw [← (e.1 x h1 h2).1]; exact h.1 x h1 h2
  · rw [← (e.2.1 f h1 h2).1, ← (e.2.1 f h1 h2).2]; exact h.2.1 f h1 h2
  · rw [h.2.2.1, mk_ext (p := stn (s 3)) (q := stn (t 3)) fun j h1 h2 => by unfold stn; rw [(e.2.1 j h1 (by omega)).2]]
  · rw [h.2.2.2.1, mk_ext (p := fun x => decide (s 1 x = 1)) (q := fun x => decide (t 1 x = 1)) fun j h1 h2 => by simp only [(e.1 j h1 (by omega)).2]]
  · rw [h.2.2.2.2.1]; exact e.2.2.2
  · rw [h.2.2.2.2.2]; exact e.2.2.1
theorem SAN.fr {k : Prop} {b d s : Nat → Int → Int} (h : SAN k b r c s) (h0 : d r = c r) (h1 : d (r + 1) = c (r + 1)) (h2 : d (r + 2) = c (r + 2)) (h3 : d (r + 3) = c (r + 3)) : SAN k b r d s := by
  unfold SAN
  rw [h0, h1, h2, h3]
  exact h
theorem SHO.fr {b d : Nat → Int → Int} (h : SHO b s c) (e : ∀ a, s ≤ a → a ≤ s + 7 → d a = c a) : SHO b s d := by
  unfold SHO SB
  rw [e s (by omega) (by omega), e (s + 1) (by omega) (by omega), e (s + 2) (by omega) (by omega), e (s + 3) (by omega) (by omega), e (s + 4) (by omega) (by omega), e (s + 5) (by omega) (by omega), e (s + 6) (by omega) (by omega), e (s + 7) (by omega) (by omega)]
  exact h
theorem c102 (hO : ShoS L sh s) {p : Int → Bool} {m : Int} (hm : 0 ≤ m ∧ m ≤ 6) (hs3 : c s 3 = m) (hmk : ∀ f, 0 ≤ f → f < m → 0 ≤ c (s + 4) f ∧ c (s + 4) f ≤ 50) : tc_C 102 [rf s, .inl (mk p m.toNat : Nat)] (hp L sh c) n Q = Q (some (.inl (sm (fun f => if p f = true then c (s + 4) f else 0) m.toNat))) (hp L sh c) n := tc_det fun Q hq => by
  show tc_W 102 0 [rf s, .inl (mk p m.toNat : Nat), tc_nil, tc_nil] [] _ _ Q
  repeat' (first | (simp (disch := first | omega | exact Nat.le_of_ble_eq_true rfl | exact rfl | assumption | (simp (disch := omega) only [fr_ne, fr_same]; first | assumption | omega)) only [r102_0, r102_1i, r102_2, r102_3i, r102_5, r102_6, r102_12, r102_13, r102_14, r102_15, r102_16, r102_17, r102_21, r102_22, r102_23, r102_26, r102_27, r102_28, r102_29i, r102_30i, r102_33, r102_36, r102_37, g8_21_8, g8_37_8, o8_len, o8_g3, o8_g8, il_s, bl_s, bl_z, ll_s, is_s, bs_s, bs_z, ls_s, al_s, al_b, al_l, fr_ne, fr_same, fr_fr, Nat.reduceEqDiff, tc_gf3_s, tc_ql2_s, tc_ws_0, tc_ws_i, tc_ws_l, tc_ws_r, Nat.reduceLeDiff, Nat.reduceAdd, Nat.reduceLT, true_and, and_true, if_true, if_false, tc_K, Option.toList_some, Option.toList_none, List.nil_append, List.cons_append, ite_true, ite_false, Int.cast_ofNat_Int, reduceIte, i3_add_eq, i3_sub_eq, Int.add_sub_cancel, Int.add_neg_cancel_right]) | (simp only [r102_9, r102_18, i6_lt0, i6_0lt, i6_0le, i6_le0, i6_eq0, b10_0, ite_not, Int.reduceLT, Int.reduceLE, Int.reduceEq, Int.reduceNeg, if_true, if_false, ite_true, ite_false, reduceIte, eq_self, not_true, not_false_eq_true]; try refine tc_ite (fun _ => ?_) (fun _ => ?_) <;> try (exfalso; omega)))
  refine upI (N := m) (P := fun k => tc_W 102 4 [rf s, .inl (mk p m.toNat : Nat), .inl (sm (fun f => if p f = true then c (s + 4) f else 0) k.toNat), .inl k] [] (hp L sh c) n Q) hm.1 ?_ ?_
  · intro k hk hk2 ih
    have h1 := hmk k hk hk2
    have e := sm_up (s := fun f => if p f = true then c (s + 4) f else 0) hk
    have hle := sm_le (s := fun f => if p f = true then c (s + 4) f else 0) (F := 50) (by omega) k.toNat fun x h2 h3 => by
      have := hmk x h2 (by omega)
      split <;> omega
    have hge := sm_ge (s := fun f => if p f = true then c (s + 4) f else 0) k.toNat fun x h2 h3 => by
      have := hmk x h2 (by omega)
      split <;> omega
    have hb := mk_i3bit (p := p) (N := m.toNat) (k := k) (by omega) hk (by omega)
    rw [e] at ih
    simp only [r102_4]
    by_cases h2 : p k = true
    · rw [if_pos ⟨by omega, h2⟩] at hb
      simp only [h2, if_true] at ih
      repeat' (first | (simp (disch := first | omega | exact Nat.le_of_ble_eq_true rfl | exact rfl | assumption | (simp (disch := omega) only [fr_ne, fr_same]; first | assumption | omega)) only [r102_0, r102_1i, r102_2, r102_3i, r102_5, r102_6, r102_12, r102_13, r102_14, r102_15, r102_16, r102_17, r102_21, r102_22, r102_23, r102_26, r102_27, r102_28, r102_29i, r102_30i, r102_33, r102_36, r102_37, g8_21_8, g8_37_8, o8_len, o8_g3, o8_g8, il_s, bl_s, bl_z, ll_s, is_s, bs_s, bs_z, ls_s, al_s, al_b, al_l, fr_ne, fr_same, fr_fr, Nat.reduceEqDiff, tc_gf3_s, tc_ql2_s, tc_ws_0, tc_ws_i, tc_ws_l, tc_ws_r, Nat.reduceLeDiff, Nat.reduceAdd, Nat.reduceLT, true_and, and_true, if_true, if_false, tc_K, Option.toList_some, Option.toList_none, List.nil_append, List.cons_append, ite_true, ite_false, Int.cast_ofNat_Int, reduceIte, i3_add_eq, i3_sub_eq, Int.add_sub_cancel, Int.add_neg_cancel_right, ShoS_g0 hO, ShoS_s0 hO, ShoS_g1 hO, ShoS_s1 hO, ShoS_g2 hO, ShoS_s2 hO, ShoS_g3 hO, ShoS_s3 hO, ShoS_g4 hO, ShoS_s4 hO, ShoS_g5 hO, ShoS_s5 hO, ShoS_g6 hO, ShoS_s6 hO, ShoS_g7 hO, ShoS_s7 hO, hs3, hb]) | (simp only [r102_9, r102_18, i6_lt0, i6_0lt, i6_0le, i6_le0, i6_eq0, b10_0, ite_not, Int.reduceLT, Int.reduceLE, Int.reduceEq, Int.reduceNeg, if_true, if_false, ite_true, ite_false, reduceIte, eq_self, not_true, not_false_eq_true]; try refine tc_ite (fun _ => ?_) (fun _ => ?_) <;> try (exfalso; omega)))
      exact ih
    · rw [if_neg (fun q => h2 q.2)] at hb
      simp only [eq_false_of_ne_true h2, Bool.false_eq_true, if_false, Int.add_zero] at ih
      repeat' (first | (simp (disch := first | omega | exact Nat.le_of_ble_eq_true rfl | exact rfl | assumption | (simp (disch := omega) only [fr_ne, fr_same]; first | assumption | omega)) only [r102_0, r102_1i, r102_2, r102_3i, r102_5, r102_6, r102_12, r102_13, r102_14, r102_15, r102_16, r102_17, r102_21, r102_22, r102_23, r102_26, r102_27, r102_28, r102_29i, r102_30i, r102_33, r102_36, r102_37, g8_21_8, g8_37_8, o8_len, o8_g3, o8_g8, il_s, bl_s, bl_z, ll_s, is_s, bs_s, bs_z, ls_s, al_s, al_b, al_l, fr_ne, fr_same, fr_fr, Nat.reduceEqDiff, tc_gf3_s, tc_ql2_s, tc_ws_0, tc_ws_i, tc_ws_l, tc_ws_r, Nat.reduceLeDiff, Nat.reduceAdd, Nat.reduceLT, true_and, and_true, if_true, if_false, tc_K, Option.toList_some, Option.toList_none, List.nil_append, List.cons_append, ite_true, ite_false, Int.cast_ofNat_Int, reduceIte, i3_add_eq, i3_sub_eq, Int.add_sub_cancel, Int.add_neg_cancel_right, ShoS_g0 hO, ShoS_s0 hO, ShoS_g1 hO, ShoS_s1 hO, ShoS_g2 hO, ShoS_s2 hO, ShoS_g3 hO, ShoS_s3 hO, ShoS_g4 hO, ShoS_s4 hO, ShoS_g5 hO, ShoS_s5 hO, ShoS_g6 hO, ShoS_s6 hO, ShoS_g7 hO, ShoS_s7 hO, hs3, hb]) | (simp only [r102_9, r102_18, i6_lt0, i6_0lt, i6_0le, i6_le0, i6_eq0, b10_0, ite_not, Int.reduceLT, Int.reduceLE, Int.reduceEq, Int.reduceNeg, if_true, if_false, ite_true, ite_false, reduceIte, eq_self, not_true, not_false_eq_true]; try refine tc_ite (fun _ => ?_) (fun _ => ?_) <;> try (exfalso; omega)))
      exact ih
  · simp only [r102_4]
    repeat' (first | (simp (disch := first | omega | exact Nat.le_of_ble_eq_true rfl | exact rfl | assumption | (simp (disch := omega) only [fr_ne, fr_same]; first | assumption | omega)) only [r102_0, r102_1i, r102_2, r102_3i, r102_5, r102_6, r102_12, r102_13, r102_14, r102_15, r102_16, r102_17, r102_21, r102_22, r102_23, r102_26, r102_27, r102_28, r102_29i, r102_30i, r102_33, r102_36, r102_37, g8_21_8, g8_37_8, o8_len, o8_g3, o8_g8, il_s, bl_s, bl_z, ll_s, is_s, bs_s, bs_z, ls_s, al_s, al_b, al_l, fr_ne, fr_same, fr_fr, Nat.reduceEqDiff, tc_gf3_s, tc_ql2_s, tc_ws_0, tc_ws_i, tc_ws_l, tc_ws_r, Nat.reduceLeDiff, Nat.reduceAdd, Nat.reduceLT, true_and, and_true, if_true, if_false, tc_K, Option.toList_some, Option.toList_none, List.nil_append, List.cons_append, ite_true, ite_false, Int.cast_ofNat_Int, reduceIte, i3_add_eq, i3_sub_eq, Int.add_sub_cancel, Int.add_neg_cancel_right, ShoS_g0 hO, ShoS_s0 hO, ShoS_g1 hO, ShoS_s1 hO, ShoS_g2 hO, ShoS_s2 hO, ShoS_g3 hO, ShoS_s3 hO, ShoS_g4 hO, ShoS_s4 hO, ShoS_g5 hO, ShoS_s5 hO, ShoS_g6 hO, ShoS_s6 hO, ShoS_g7 hO, ShoS_s7 hO, hs3]) | (simp only [r102_9, r102_18, i6_lt0, i6_0lt, i6_0le, i6_le0, i6_eq0, b10_0, ite_not, Int.reduceLT, Int.reduceLE, Int.reduceEq, Int.reduceNeg, if_true, if_false, ite_true, ite_false, reduceIte, eq_self, not_true, not_false_eq_true]; try refine tc_ite (fun _ => ?_) (fun _ => ?_) <;> try (exfalso; omega)))
    all_goals first | exact hq | exact q_i (by omega) hq | (simp (disch := omega) only [if_pos, if_neg] at hq; exact hq)
theorem c76 (hO : ShoS L sh s) {m w : Int} (hm : 0 ≤ m ∧ m ≤ 12) (hs4 : c s 4 = m) (hw : 0 ≤ w ∧ w < 2147483648) : tc_C 76 [rf s, .inl w] (hp L sh c) n Q = Q (some (.inl (if m = 0 then 5 else c (s + 5) (w % m)))) (hp L sh c) n := tc_det fun Q hq => by
  show tc_W 76 0 [rf s, .inl w] [] _ _ Q
  by_cases h : m = 0
  · rw [if_pos h] at hq
    repeat' (first | (simp (disch := first | omega | exact Nat.le_of_ble_eq_true rfl | exact rfl | assumption | (simp (disch := omega) only [fr_ne, fr_same]; first | assumption | omega)) only [r76_0, r76_1, r76_7, r76_8, r76_11, r76_12, r76_15, r76_16, r76_17, r76_20, r76_21, r76_22, g8_24_8, g8_40_8, o8_len, o8_g4, o8_g9, il_s, bl_s, bl_z, ll_s, is_s, bs_s, bs_z, ls_s, al_s, al_b, al_l, fr_ne, fr_same, fr_fr, Nat.reduceEqDiff, tc_gf3_s, tc_ql2_s, tc_ws_0, tc_ws_i, tc_ws_l, tc_ws_r, Nat.reduceLeDiff, Nat.reduceAdd, Nat.reduceLT, true_and, and_true, if_true, if_false, tc_K, Option.toList_some, Option.toList_none, List.nil_append, List.cons_append, ite_true, ite_false, Int.cast_ofNat_Int, reduceIte, i3_add_eq, i3_sub_eq, Int.add_sub_cancel, Int.add_neg_cancel_right, ShoS_g0 hO, ShoS_s0 hO, ShoS_g1 hO, ShoS_s1 hO, ShoS_g2 hO, ShoS_s2 hO, ShoS_g3 hO, ShoS_s3 hO, ShoS_g4 hO, ShoS_s4 hO, ShoS_g5 hO, ShoS_s5 hO, ShoS_g6 hO, ShoS_s6 hO, ShoS_g7 hO, ShoS_s7 hO, hs4, h]) | (simp only [r76_4, i6_lt0, i6_0lt, i6_0le, i6_le0, i6_eq0, b10_0, ite_not, Int.reduceLT, Int.reduceLE, Int.reduceEq, Int.reduceNeg, if_true, if_false, ite_true, ite_false, reduceIte, eq_self, not_true, not_false_eq_true]; try refine tc_ite (fun _ => ?_) (fun _ => ?_) <;> try (exfalso; omega)))
    all_goals first | exact hq | exact q_i (by omega) hq | (simp (disch := omega) only [if_pos, if_neg] at hq; exact hq)
  · rw [if_neg h] at hq
    have h1 := Int.emod_nonneg w h
    have h2 := Int.emod_lt_of_pos w (by omega : 0 < m)
    repeat' (first | (simp (disch := first | omega | exact Nat.le_of_ble_eq_true rfl | exact rfl | assumption | (simp (disch := omega) only [fr_ne, fr_same]; first | assumption | omega)) only [r76_0, r76_1, r76_7, r76_8, r76_11, r76_12, r76_15, r76_16, r76_17, r76_20, r76_21, r76_22, g8_24_8, g8_40_8, o8_len, o8_g4, o8_g9, il_s, bl_s, bl_z, ll_s, is_s, bs_s, bs_z, ls_s, al_s, al_b, al_l, fr_ne, fr_same, fr_fr, Nat.reduceEqDiff, tc_gf3_s, tc_ql2_s, tc_ws_0, tc_ws_i, tc_ws_l, tc_ws_r, Nat.reduceLeDiff, Nat.reduceAdd, Nat.reduceLT, true_and, and_true, if_true, if_false, tc_K, Option.toList_some, Option.toList_none, List.nil_append, List.cons_append, ite_true, ite_false, Int.cast_ofNat_Int, reduceIte, i3_add_eq, i3_sub_eq, Int.add_sub_cancel, Int.add_neg_cancel_right, ShoS_g0 hO, ShoS_s0 hO, ShoS_g1 hO, ShoS_s1 hO, ShoS_g2 hO, ShoS_s2 hO, ShoS_g3 hO, ShoS_s3 hO, ShoS_g4 hO, ShoS_s4 hO, ShoS_g5 hO, ShoS_s5 hO, ShoS_g6 hO, ShoS_s6 hO, ShoS_g7 hO, ShoS_s7 hO, hs4, i3_rem_nn]) | (simp only [r76_4, i6_lt0, i6_0lt, i6_0le, i6_le0, i6_eq0, b10_0, ite_not, Int.reduceLT, Int.reduceLE, Int.reduceEq, Int.reduceNeg, if_true, if_false, ite_true, ite_false, reduceIte, eq_self, not_true, not_false_eq_true]; try refine tc_ite (fun _ => ?_) (fun _ => ?_) <;> try (exfalso; omega)))
    all_goals first | exact hq | exact q_i (by omega) hq | (simp (disch := omega) only [if_pos, if_neg] at hq; exact hq)
end CWAVE2

/-! the class: tests, all of them -/
theorem w_and1 : ∀ W : Fin 4, i3_and (W.val : Int) 1 = (W.val : Int) % 2 := by decide +kernel
theorem w_and2 : ∀ W : Fin 4, i3_and ((W.val : Int) - (W.val : Int) % 2) 2 = if 2 ≤ (W.val : Int) then 2 else 0 := by decide +kernel
theorem w_clr : ∀ W : Fin 4, i3_and (W.val : Int) (-2) = (W.val : Int) - (W.val : Int) % 2 := by decide +kernel
theorem w_or1 : ∀ W : Fin 4, i3_or ((W.val : Int) - (W.val : Int) % 2) 1 = (W.val : Int) - (W.val : Int) % 2 + 1 := by decide +kernel
theorem w_all {W : Int} (h : 0 ≤ W ∧ W ≤ 3) : i3_and W 1 = W % 2 ∧ i3_and (W - W % 2) 2 = (if 2 ≤ W then 2 else 0) ∧ i3_and W (-2) = W - W % 2 ∧ i3_or (W - W % 2) 1 = W - W % 2 + 1 := by
  have e : ((⟨W.toNat, by omega⟩ : Fin 4).val : Int) = W := Int.toNat_of_nonneg h.1
  have h1 := w_and1 ⟨W.toNat, by omega⟩
  have h2 := w_and2 ⟨W.toNat, by omega⟩
  have h3 := w_clr ⟨W.toNat, by omega⟩
  have h4 := w_or1 ⟨W.toNat, by omega⟩
  rw [e] at h1 h2 h3 h4
  exact ⟨h1, h2, h3, h4⟩
section TESTE
variable {L : Nat} {sh : Nat → SH} {c : Nat → Int → Int} {n : Nat} {Q : Option AV → List SC → Nat → Prop} {g : Int → Int} {N p m z f p' m' W W' F : Int} {T T' : List Tk} {O O' : List Int}
theorem c63_t (hR : LRd L sh) {Z : Int} {d : Nat → Int → Int} (hD : LD d g N p m z T) (hT : LT d O W) (hLQ : LQT c d Z) (hZ : Z ≤ z + T.length) (hW : 0 ≤ W ∧ W ≤ 3) (hz : 0 ≤ z ∧ z + T.length < 399) (hq : ∀ e, LQT c e Z → LD e g N p m z (T ++ t10 W) → LT e O (W - W % 2) → Q none (hp L sh e) n) : tc_W 63 41 [rf 70] [] (hp L sh d) n Q := by
  obtain ⟨hL, h70, h27, h71, h72, h73⟩ := id hR
  have hL70 : 70 < L := by omega
  obtain ⟨w1, w2, w3, w4⟩ := w_all hW
  obtain ⟨t1, t2, t3⟩ := id hT
  by_cases hodd : W % 2 = 1
  · rw [hodd] at w1
    have et : t10 W = [(10, 0)] := if_pos hodd
    rw [et] at hq
    repeat' (first | (simp (disch := first | omega | exact Nat.le_of_ble_eq_true rfl | exact rfl | assumption | (simp (disch := omega) only [fr_ne, fr_same]; first | assumption | omega)) only [r63_1, r63_7, r63_8, r63_11, r63_12, r63_15, r63_16, r63_17, r63_18, r63_22, r63_23, r63_23A, r63_24, r63_27, r63_28, r63_29, r63_32, r63_33, r63_35, v63_35_2, r63_38, r63_41, r63_42, r63_45, r63_46, r63_50, r63_51, r63_53, v63_53_2, r63_56, r63_57, r63_57A, r63_58, r63_61, r63_63, r63_64, r63_67, g2_28_2, g2_18_2, p2_28_2, g2_31_2, p2_31_2, o2_len, o2_g10, o2_g7, o2_s10, o2_g11, o2_s11, il_s, bl_s, bl_z, ll_s, is_s, bs_s, bs_z, ls_s, al_s, al_b, al_l, fr_ne, fr_same, fr_fr, Nat.reduceEqDiff, tc_gf3_s, tc_ql2_s, tc_ws_0, tc_ws_i, tc_ws_l, tc_ws_r, Nat.reduceLeDiff, Nat.reduceAdd, Nat.reduceLT, true_and, and_true, if_true, if_false, tc_K, Option.toList_some, Option.toList_none, List.nil_append, List.cons_append, ite_true, ite_false, Int.cast_ofNat_Int, reduceIte, i3_add_eq, i3_sub_eq, Int.add_sub_cancel, Int.add_neg_cancel_right, hO hL70 h70, t2, w1]) | (simp only [r63_4, r63_19, r63_47, i6_lt0, i6_0lt, i6_0le, i6_le0, i6_eq0, b10_0, ite_not, Int.reduceLT, Int.reduceLE, Int.reduceEq, Int.reduceNeg, if_true, if_false, ite_true, ite_false, reduceIte, eq_self, not_true, not_false_eq_true]; try refine tc_ite (fun _ => ?_) (fun _ => ?_) <;> try (exfalso; omega)))
    all_goals try omega
    refine c58 (t := (10, 0)) hR hD (by decide) (by omega) (by omega) ?_
    intro e g1 g2
    have t2' : e 70 11 = W := (g2.lt hT).2.1
    have hL2 := hLQ.trans g2.t hZ
    obtain ⟨l1, l2, l3, l4, l5, l6, l7⟩ := g1
    have hq' := hq (fr e 70 (fu (e 70) 11 (W - W % 2))) (hL2.trans ⟨fun a a1 _ _ => fr_ne a1, fun i _ => by rw [fr_ne (by omega)], by rw [fr_same, fu_ne (by omega)]⟩ (Int.le_refl _)) ⟨l1, by rw [fr_same, fu_ne (by omega)]; exact l2, by rw [fr_same, fu_ne (by omega)]; exact l3, by rw [fr_same, fu_ne (by omega)]; exact l4, by rw [fr_same, fu_ne (by omega)]; exact l5, by rw [fr_same, fu_ne (by omega)]; exact l6, l7⟩ ⟨by rw [fr_same, fu_ne (by omega), g2.2.2.2.1]; exact t1, by rw [fr_same, fu_same], by rw [fr_ne (by omega), g2.1 73 (by omega) (by omega)]; exact t3⟩
    repeat' (first | (simp (disch := first | omega | exact Nat.le_of_ble_eq_true rfl | exact rfl | assumption | (simp (disch := omega) only [fr_ne, fr_same]; first | assumption | omega)) only [r63_1, r63_7, r63_8, r63_11, r63_12, r63_15, r63_16, r63_17, r63_18, r63_22, r63_23, r63_23A, r63_24, r63_27, r63_28, r63_29, r63_32, r63_33, r63_35, v63_35_2, r63_38, r63_41, r63_42, r63_45, r63_46, r63_50, r63_51, r63_53, v63_53_2, r63_56, r63_57, r63_57A, r63_58, r63_61, r63_63, r63_64, r63_67, g2_28_2, g2_18_2, p2_28_2, g2_31_2, p2_31_2, o2_len, o2_g10, o2_g7, o2_s10, o2_g11, o2_s11, il_s, bl_s, bl_z, ll_s, is_s, bs_s, bs_z, ls_s, al_s, al_b, al_l, fr_ne, fr_same, fr_fr, Nat.reduceEqDiff, tc_gf3_s, tc_ql2_s, tc_ws_0, tc_ws_i, tc_ws_l, tc_ws_r, Nat.reduceLeDiff, Nat.reduceAdd, Nat.reduceLT, true_and, and_true, if_true, if_false, tc_K, Option.toList_some, Option.toList_none, List.nil_append, List.cons_append, ite_true, ite_false, Int.cast_ofNat_Int, reduceIte, i3_add_eq, i3_sub_eq, Int.add_sub_cancel, Int.add_neg_cancel_right, hO hL70 h70, hOs h70, t2', w3]) | (simp only [r63_4, r63_19, r63_47, i6_lt0, i6_0lt, i6_0le, i6_le0, i6_eq0, b10_0, ite_not, Int.reduceLT, Int.reduceLE, Int.reduceEq, Int.reduceNeg, if_true, if_false, ite_true, ite_false, reduceIte, eq_self, not_true, not_false_eq_true]; try refine tc_ite (fun _ => ?_) (fun _ => ?_) <;> try (exfalso; omega)))
    all_goals first
      | exact hq'
      | omega
  · have h0 : W % 2 = 0 := by omega
    rw [h0] at w1
    have et : t10 W = [] := if_neg hodd
    rw [et, List.append_nil, h0, Int.sub_zero] at hq
    have hq' := hq d hLQ hD hT
    repeat' (first | (simp (disch := first | omega | exact Nat.le_of_ble_eq_true rfl | exact rfl | assumption | (simp (disch := omega) only [fr_ne, fr_same]; first | assumption | omega)) only [r63_1, r63_7, r63_8, r63_11, r63_12, r63_15, r63_16, r63_17, r63_18, r63_22, r63_23, r63_23A, r63_24, r63_27, r63_28, r63_29, r63_32, r63_33, r63_35, v63_35_2, r63_38, r63_41, r63_42, r63_45, r63_46, r63_50, r63_51, r63_53, v63_53_2, r63_56, r63_57, r63_57A, r63_58, r63_61, r63_63, r63_64, r63_67, g2_28_2, g2_18_2, p2_28_2, g2_31_2, p2_31_2, o2_len, o2_g10, o2_g7, o2_s10, o2_g11, o2_s11, il_s, bl_s, bl_z, ll_s, is_s, bs_s, bs_z, ls_s, al_s, al_b, al_l, fr_ne, fr_same, fr_fr, Nat.reduceEqDiff, tc_gf3_s, tc_ql2_s, tc_ws_0, tc_ws_i, tc_ws_l, tc_ws_r, Nat.reduceLeDiff, Nat.reduceAdd, Nat.reduceLT, true_and, and_true, if_true, if_false, tc_K, Option.toList_some, Option.toList_none, List.nil_append, List.cons_append, ite_true, ite_false, Int.cast_ofNat_Int, reduceIte, i3_add_eq, i3_sub_eq, Int.add_sub_cancel, Int.add_neg_cancel_right, hO hL70 h70, t2, w1]) | (simp only [r63_4, r63_19, r63_47, i6_lt0, i6_0lt, i6_0le, i6_le0, i6_eq0, b10_0, ite_not, Int.reduceLT, Int.reduceLE, Int.reduceEq, Int.reduceNeg, if_true, if_false, ite_true, ite_false, reduceIte, eq_self, not_true, not_false_eq_true]; try refine tc_ite (fun _ => ?_) (fun _ => ?_) <;> try (exfalso; omega)))
    all_goals first
      | exact hq'
      | omega
theorem c63_l (hR : LRd L sh) {Z : Int} (hW : 0 ≤ W ∧ W ≤ 3) (hz0 : 0 ≤ z) : ∀ (O : List Int) (T : List Tk) (d : Nat → Int → Int), LD d g N p m z T → LT d O W → LQT c d Z → Z ≤ z + T.length → okO O → O.length ≤ 10 → z + T.length + nts O < 399 → (∀ e, LQT c e Z → LD e g N p m z (T ++ List.replicate (nts O) (9, 0) ++ t10 W) → LT e (drp O) (W - W % 2) → Q none (hp L sh e) n) → tc_W 63 0 [rf 70] [] (hp L sh d) n Q := by
  obtain ⟨hL, h70, h27, h71, h72, h73⟩ := id hR
  have hL70 : 70 < L := by omega
  have hL73 : 73 < L := by omega
  intro O
  induction O with
  | nil =>
    intro T d hD hT hLQ hZ hok hOl hz hq
    obtain ⟨t1, t2, t3⟩ := id hT
    have t1' : d 70 10 = 0 := t1
    simp only [r63_0]
    repeat' (first | (simp (disch := first | omega | exact Nat.le_of_ble_eq_true rfl | exact rfl | assumption | (simp (disch := omega) only [fr_ne, fr_same]; first | assumption | omega)) only [r63_1, r63_7, r63_8, r63_11, r63_12, r63_15, r63_16, r63_17, r63_18, r63_22, r63_23, r63_23A, r63_24, r63_27, r63_28, r63_29, r63_32, r63_33, r63_35, v63_35_2, r63_38, r63_42, r63_45, r63_46, r63_50, r63_51, r63_53, v63_53_2, r63_56, r63_57, r63_57A, r63_58, r63_61, r63_63, r63_64, r63_67, g2_28_2, g2_18_2, p2_28_2, g2_31_2, p2_31_2, o2_len, o2_g10, o2_g7, o2_s10, o2_g11, o2_s11, il_s, bl_s, bl_z, ll_s, is_s, bs_s, bs_z, ls_s, al_s, al_b, al_l, fr_ne, fr_same, fr_fr, Nat.reduceEqDiff, tc_gf3_s, tc_ql2_s, tc_ws_0, tc_ws_i, tc_ws_l, tc_ws_r, Nat.reduceLeDiff, Nat.reduceAdd, Nat.reduceLT, true_and, and_true, if_true, if_false, tc_K, Option.toList_some, Option.toList_none, List.nil_append, List.cons_append, ite_true, ite_false, Int.cast_ofNat_Int, reduceIte, i3_add_eq, i3_sub_eq, Int.add_sub_cancel, Int.add_neg_cancel_right, hO hL70 h70, t1']) | (simp only [r63_4, r63_19, r63_47, i6_lt0, i6_0lt, i6_0le, i6_le0, i6_eq0, b10_0, ite_not, Int.reduceLT, Int.reduceLE, Int.reduceEq, Int.reduceNeg, if_true, if_false, ite_true, ite_false, reduceIte, eq_self, not_true, not_false_eq_true]; try refine tc_ite (fun _ => ?_) (fun _ => ?_) <;> try (exfalso; omega)))
    all_goals try omega
    refine c63_t hR hD hT hLQ hZ hW (by show _ ∧ _; exact ⟨hz0, by have : nts [] = 0 := rfl; omega⟩) ?_
    intro e g1 g2 g3
    refine hq e g1 ?_ g3
    show LD e g N p m z (T ++ [] ++ t10 W)
    rw [List.append_nil]
    exact g2
  | cons x O ih =>
    intro T d hD hT hLQ hZ hok hOl hz hq
    obtain ⟨t1, t2, t3⟩ := id hT
    have hl : (((x :: O).length : Nat) : Int) = O.length + 1 := by
      show ((O.length + 1 : Nat) : Int) = _
      omega
    have hlO : (x :: O).length = O.length + 1 := rfl
    rw [hl] at t1
    have t4 : d 73 (O.length : Int) = x := t3.1
    by_cases hx : x = -1
    · have u1 : nts (x :: O) = nts O + 1 := if_pos hx
      have u2 : drp (x :: O) = drp O := if_pos hx
      rw [u1] at hz
      rw [u1, u2] at hq
      subst hx
      generalize hM : ((O.length : Nat) : Int) = M at t1 t4
      have hM0 : 0 ≤ M ∧ M < 10 := by omega
      simp only [r63_0]
      repeat' (first | (simp (disch := first | omega | exact Nat.le_of_ble_eq_true rfl | exact rfl | assumption | (simp (disch := omega) only [fr_ne, fr_same]; first | assumption | omega)) only [r63_1, r63_7, r63_8, r63_11, r63_12, r63_15, r63_16, r63_17, r63_18, r63_22, r63_23, r63_23A, r63_24, r63_27, r63_28, r63_29, r63_32, r63_33, r63_35, v63_35_2, r63_38, r63_42, r63_45, r63_46, r63_50, r63_51, r63_53, v63_53_2, r63_56, r63_57, r63_57A, r63_58, r63_61, r63_63, r63_64, r63_67, g2_28_2, g2_18_2, p2_28_2, g2_31_2, p2_31_2, o2_len, o2_g10, o2_g7, o2_s10, o2_g11, o2_s11, il_s, bl_s, bl_z, ll_s, is_s, bs_s, bs_z, ls_s, al_s, al_b, al_l, fr_ne, fr_same, fr_fr, Nat.reduceEqDiff, tc_gf3_s, tc_ql2_s, tc_ws_0, tc_ws_i, tc_ws_l, tc_ws_r, Nat.reduceLeDiff, Nat.reduceAdd, Nat.reduceLT, true_and, and_true, if_true, if_false, tc_K, Option.toList_some, Option.toList_none, List.nil_append, List.cons_append, ite_true, ite_false, Int.cast_ofNat_Int, reduceIte, i3_add_eq, i3_sub_eq, Int.add_sub_cancel, Int.add_neg_cancel_right, hO hL70 h70, hOs h70, hI hL73 h73, t1, t4]) | (simp only [r63_4, r63_19, r63_47, i6_lt0, i6_0lt, i6_0le, i6_le0, i6_eq0, b10_0, ite_not, Int.reduceLT, Int.reduceLE, Int.reduceEq, Int.reduceNeg, if_true, if_false, ite_true, ite_false, reduceIte, eq_self, not_true, not_false_eq_true]; try refine tc_ite (fun _ => ?_) (fun _ => ?_) <;> try (exfalso; omega)))
      all_goals try omega
      obtain ⟨l1, l2, l3, l4, l5, l6, l7⟩ := id hD
      refine c58 (c := fr d 70 (fu (d 70) 10 M)) (st := -22) (T := T) (z := z) (m := m) (p := p) (N := N) (g := g) (t := (9, 0)) hR ⟨by rw [fr_ne (by omega)]; exact l1, by rw [fr_same, fu_ne (by omega)]; exact l2, by rw [fr_same, fu_ne (by omega)]; exact l3, by rw [fr_same, fu_ne (by omega)]; exact l4, by rw [fr_same, fu_ne (by omega)]; exact l5, by rw [fr_same, fu_ne (by omega)]; exact l6, l7⟩ (by decide) (by omega) (by omega) ?_
      intro e g1 g2
      repeat' (first | (simp (disch := first | omega | exact Nat.le_of_ble_eq_true rfl | exact rfl | assumption | (simp (disch := omega) only [fr_ne, fr_same]; first | assumption | omega)) only [r63_1, r63_7, r63_8, r63_11, r63_12, r63_15, r63_16, r63_17, r63_18, r63_22, r63_23, r63_23A, r63_24, r63_27, r63_28, r63_29, r63_32, r63_33, r63_35, v63_35_2, r63_38, r63_42, r63_45, r63_46, r63_50, r63_51, r63_53, v63_53_2, r63_56, r63_57, r63_57A, r63_58, r63_61, r63_63, r63_64, r63_67, g2_28_2, g2_18_2, p2_28_2, g2_31_2, p2_31_2, o2_len, o2_g10, o2_g7, o2_s10, o2_g11, o2_s11, il_s, bl_s, bl_z, ll_s, is_s, bs_s, bs_z, ls_s, al_s, al_b, al_l, fr_ne, fr_same, fr_fr, Nat.reduceEqDiff, tc_gf3_s, tc_ql2_s, tc_ws_0, tc_ws_i, tc_ws_l, tc_ws_r, Nat.reduceLeDiff, Nat.reduceAdd, Nat.reduceLT, true_and, and_true, if_true, if_false, tc_K, Option.toList_some, Option.toList_none, List.nil_append, List.cons_append, ite_true, ite_false, Int.cast_ofNat_Int, reduceIte, i3_add_eq, i3_sub_eq, Int.add_sub_cancel, Int.add_neg_cancel_right]) | (simp only [r63_4, r63_19, r63_47, i6_lt0, i6_0lt, i6_0le, i6_le0, i6_eq0, b10_0, ite_not, Int.reduceLT, Int.reduceLE, Int.reduceEq, Int.reduceNeg, if_true, if_false, ite_true, ite_false, reduceIte, eq_self, not_true, not_false_eq_true]; try refine tc_ite (fun _ => ?_) (fun _ => ?_) <;> try (exfalso; omega)))
      have hl2 := len_app (t := (9, 0)) (T := T)
      refine ih (T ++ [(9, 0)]) e g1 ⟨?_, ?_, ?_⟩ ?_ (by omega) hok.2 (by omega) (by omega) ?_
      · rw [g2.2.2.2.1, fr_same, fu_same, hM]
      · rw [g2.2.2.2.2, fr_same, fu_ne (by omega)]
        exact t2
      · rw [g2.1 73 (by omega) (by omega), fr_ne (by omega)]
        exact t3.2
      · exact (hLQ.trans ⟨fun a a1 _ _ => fr_ne a1, fun i _ => by rw [fr_ne (by omega)], by rw [fr_same, fu_ne (by omega)]⟩ (Int.le_refl _)).trans g2.t hZ
      · intro e2 k1 k2 k3
        refine hq e2 k1 ?_ k3
        rw [List.replicate_succ, show T ++ (9, 0) :: List.replicate (nts O) (9, 0) = T ++ [(9, 0)] ++ List.replicate (nts O) (9, 0) by rw [List.append_assoc]; rfl]
        exact k2
    · have u1 : nts (x :: O) = 0 := if_neg hx
      have u2 : drp (x :: O) = x :: O := if_neg hx
      rw [u1] at hz
      rw [u1, u2] at hq
      generalize hM : ((O.length : Nat) : Int) = M at t1 t4
      have hM0 : 0 ≤ M ∧ M < 10 := by omega
      simp only [r63_0]
      repeat' (first | (simp (disch := first | omega | exact Nat.le_of_ble_eq_true rfl | exact rfl | assumption | (simp (disch := omega) only [fr_ne, fr_same]; first | assumption | omega)) only [r63_1, r63_7, r63_8, r63_11, r63_12, r63_15, r63_16, r63_17, r63_18, r63_22, r63_23, r63_23A, r63_24, r63_27, r63_28, r63_29, r63_32, r63_33, r63_35, v63_35_2, r63_38, r63_42, r63_45, r63_46, r63_50, r63_51, r63_53, v63_53_2, r63_56, r63_57, r63_57A, r63_58, r63_61, r63_63, r63_64, r63_67, g2_28_2, g2_18_2, p2_28_2, g2_31_2, p2_31_2, o2_len, o2_g10, o2_g7, o2_s10, o2_g11, o2_s11, il_s, bl_s, bl_z, ll_s, is_s, bs_s, bs_z, ls_s, al_s, al_b, al_l, fr_ne, fr_same, fr_fr, Nat.reduceEqDiff, tc_gf3_s, tc_ql2_s, tc_ws_0, tc_ws_i, tc_ws_l, tc_ws_r, Nat.reduceLeDiff, Nat.reduceAdd, Nat.reduceLT, true_and, and_true, if_true, if_false, tc_K, Option.toList_some, Option.toList_none, List.nil_append, List.cons_append, ite_true, ite_false, Int.cast_ofNat_Int, reduceIte, i3_add_eq, i3_sub_eq, Int.add_sub_cancel, Int.add_neg_cancel_right, hO hL70 h70, hI hL73 h73, t1, t4]) | (simp only [r63_4, r63_19, r63_47, i6_lt0, i6_0lt, i6_0le, i6_le0, i6_eq0, b10_0, ite_not, Int.reduceLT, Int.reduceLE, Int.reduceEq, Int.reduceNeg, if_true, if_false, ite_true, ite_false, reduceIte, eq_self, not_true, not_false_eq_true]; try refine tc_ite (fun _ => ?_) (fun _ => ?_) <;> try (exfalso; omega)))
      all_goals try omega
      refine c63_t hR hD hT hLQ hZ hW ⟨hz0, by omega⟩ ?_
      intro e g1 g2 g3
      refine hq e g1 ?_ g3
      rw [List.replicate_zero, List.append_nil]
      exact g2
theorem c63 (hR : LRd L sh) (hD : LD c g N p m z T) (hT : LT c O W) (hW : 0 ≤ W ∧ W ≤ 3) (hok : okO O) (hOl : O.length ≤ 10) (hz : 0 ≤ z ∧ z + T.length + nts O < 399) (hq : ∀ e, LQT c e (z + T.length) → LD e g N p m z (tn T O W) → LT e (drp O) (W - W % 2) → Q none (hp L sh e) n) : tc_C 63 [rf 70] (hp L sh c) n Q := by
  show tc_W 63 0 [rf 70] [] _ _ Q
  exact c63_l (c := c) hR hW hz.1 O T c hD hT LQT.refl (Int.le_refl _) hok hOl hz.2 hq
theorem c62f (hR : LRd L sh) {F : Int} (h4 : c 70 4 = F) (hF : ¬ F = 0) : tc_C 62 [rf 70] (hp L sh c) n Q = Q (some (.inl 0)) (hp L sh c) n := tc_det fun Q hq => by
  obtain ⟨hL, h70, h27, h71, h72, h73⟩ := id hR
  have hL70 : 70 < L := by omega
  show tc_W 62 0 [rf 70, tc_nil, tc_nil] [] _ _ Q
  repeat' (first | (simp (disch := first | omega | exact Nat.le_of_ble_eq_true rfl | exact rfl | assumption | (simp (disch := omega) only [fr_ne, fr_same]; first | assumption | omega)) only [r62_0, r62_1r, r62_3, r62_8, r62_9, r62_15, r62_16, v62_16_2, r62_19, r62_20, r62_22, v62_22_2, r62_25, r62_29, r62_30, r62_30A, r62_31, r62_34, r62_35, r62_36, r62_39, r62_40h, r62_40f, r62_40t, r62_41, r62_42, r62_44, v62_44_2, r62_47, r62_51, r62_52, r62_55, r62_56i, r62_57, r62_58, r62_59, r62_62, r62_63, r62_67, r62_69, r62_72, r62_73, v62_73_2, r62_76, r62_80, r62_81, r62_82, r62_85, r62_86h, r62_86f, r62_86t, r62_87, r62_88, r62_94, r62_95h, r62_95f, r62_95t, r62_96, r62_97, r62_99, v62_99_2, r62_105, r62_106, r62_107, r62_110, r62_111, v62_111_2, r62_114, r62_115h, r62_115f, r62_115t, r62_116, r62_117, r62_117A, r62_118, r62_121, r62_122, r62_123, r62_126, r62_127, r62_128, r62_131, r62_132, r62_135, r62_136, r62_139r, r62_142, r62_145, r62_146h, r62_146f, r62_146t, g2_46_0, g2_46_2, g2_31_2, p2_31_2, g2_28_2, g2_63_0, g2_63_2, p2_28_2, g2_18_2, o0_len, o0_g4, o2_len, o2_g4, o2_g11, o2_s11, o2_g10, o0_g2, o2_g2, o2_s10, o2_g7, il_s, bl_s, bl_z, ll_s, is_s, bs_s, bs_z, ls_s, al_s, al_b, al_l, fr_ne, fr_same, fr_fr, Nat.reduceEqDiff, tc_gf3_s, tc_ql2_s, tc_ws_0, tc_ws_i, tc_ws_l, tc_ws_r, Nat.reduceLeDiff, Nat.reduceAdd, Nat.reduceLT, true_and, and_true, if_true, if_false, tc_K, Option.toList_some, Option.toList_none, List.nil_append, List.cons_append, ite_true, ite_false, Int.cast_ofNat_Int, reduceIte, i3_add_eq, i3_sub_eq, Int.add_sub_cancel, Int.add_neg_cancel_right]) | (simp only [r62_5, r62_12, r62_26, r62_48, r62_64, r62_77, r62_91, r62_102, i6_lt0, i6_0lt, i6_0le, i6_le0, i6_eq0, b10_0, ite_not, Int.reduceLT, Int.reduceLE, Int.reduceEq, Int.reduceNeg, if_true, if_false, ite_true, ite_false, reduceIte, eq_self, not_true, not_false_eq_true]; try refine tc_ite (fun _ => ?_) (fun _ => ?_) <;> try (exfalso; omega)))
  simp only [r62_2]
  repeat' (first | (simp (disch := first | omega | exact Nat.le_of_ble_eq_true rfl | exact rfl | assumption | (simp (disch := omega) only [fr_ne, fr_same]; first | assumption | omega)) only [r62_0, r62_1r, r62_3, r62_8, r62_9, r62_15, r62_16, v62_16_2, r62_19, r62_20, r62_22, v62_22_2, r62_25, r62_29, r62_30, r62_30A, r62_31, r62_34, r62_35, r62_36, r62_39, r62_40h, r62_40f, r62_40t, r62_41, r62_42, r62_44, v62_44_2, r62_47, r62_51, r62_52, r62_55, r62_56i, r62_57, r62_58, r62_59, r62_62, r62_63, r62_67, r62_69, r62_72, r62_73, v62_73_2, r62_76, r62_80, r62_81, r62_82, r62_85, r62_86h, r62_86f, r62_86t, r62_87, r62_88, r62_94, r62_95h, r62_95f, r62_95t, r62_96, r62_97, r62_99, v62_99_2, r62_105, r62_106, r62_107, r62_110, r62_111, v62_111_2, r62_114, r62_115h, r62_115f, r62_115t, r62_116, r62_117, r62_117A, r62_118, r62_121, r62_122, r62_123, r62_126, r62_127, r62_128, r62_131, r62_132, r62_135, r62_136, r62_139r, r62_142, r62_145, r62_146h, r62_146f, r62_146t, g2_46_0, g2_46_2, g2_31_2, p2_31_2, g2_28_2, g2_63_0, g2_63_2, p2_28_2, g2_18_2, o0_len, o0_g4, o2_len, o2_g4, o2_g11, o2_s11, o2_g10, o0_g2, o2_g2, o2_s10, o2_g7, il_s, bl_s, bl_z, ll_s, is_s, bs_s, bs_z, ls_s, al_s, al_b, al_l, fr_ne, fr_same, fr_fr, Nat.reduceEqDiff, tc_gf3_s, tc_ql2_s, tc_ws_0, tc_ws_i, tc_ws_l, tc_ws_r, Nat.reduceLeDiff, Nat.reduceAdd, Nat.reduceLT, true_and, and_true, if_true, if_false, tc_K, Option.toList_some, Option.toList_none, List.nil_append, List.cons_append, ite_true, ite_false, Int.cast_ofNat_Int, reduceIte, i3_add_eq, i3_sub_eq, Int.add_sub_cancel, Int.add_neg_cancel_right, hO hL70 h70, h4]) | (simp only [r62_5, r62_12, r62_26, r62_48, r62_64, r62_77, r62_91, r62_102, i6_lt0, i6_0lt, i6_0le, i6_le0, i6_eq0, b10_0, ite_not, Int.reduceLT, Int.reduceLE, Int.reduceEq, Int.reduceNeg, if_true, if_false, ite_true, ite_false, reduceIte, eq_self, not_true, not_false_eq_true]; try refine tc_ite (fun _ => ?_) (fun _ => ?_) <;> try (exfalso; omega)))
  all_goals first
    | exact hq
    | omega
theorem c62_l (hR : LRd L sh) (hST : STRS sh c) (hTP : TP g N) {Z mo : Int} (hm : 0 ≤ m ∧ m ≤ 60) (hz0 : 0 ≤ z) (hq : ∀ e, LQT c e Z → RG e N → e 70 4 = f → (f = 0 → LD e g N p' m z T' ∧ (mo = 1 → LT e O' W')) → Q (some (.inl (if f = 0 then mo else 0))) (hp L sh e) n) : ∀ (k : Nat) (p W i : Int) (T : List Tk) (O : List Int) (d : Nat → Int → Int) (a2 : AV), LD d g N p m z T → LT d O W → LQT c d Z → Z ≤ z + T.length → okO O → 0 ≤ W → W ≤ 3 → O.length < k → 0 ≤ i → i + O.length ≤ 10 → 0 ≤ p → p ≤ N → z + T.length + wn W + pnb O + nnt O < 398 → cls g N k p T O W = (f, mo, p', T', O', W') → tc_W 62 2 [rf 70, .inl i, a2] [] (hp L sh d) n Q := by
  obtain ⟨hL, h70, h27, h71, h72, h73⟩ := id hR
  have hL70 : 70 < L := by omega
  have hL73 : 73 < L := by omega
  have hN := hTP.1
  intro k
  induction k with
  | zero => intro p W i T O d a2 _ _ _ _ _ _ _ h; omega
  | succ k ih =>
    intro p W i T O d a2 hD hLT hLQ hZ hok hW1 hW2 hOl hi1 hi2 hp1 hp2 hz hr
    have hs := nm_rng (g := g) (p := p) (N := N) ⟨hp1, hp2⟩
    have hkr := sk_rng (g := g) (n := N) (p := p)
    obtain ⟨q1, q2, q3, q4, q5, q6⟩ := drp_f O hok
    have hpn := pnb_nn O
    have hnn := nnt_nn (drp O)
    have hwn := wn_rng W
    have hwn2 := wn_rng (W - W % 2)
    have hwm : wn (W - W % 2) ≤ wn W := by
      rcases (by omega : W = 0 ∨ W = 1 ∨ W = 2 ∨ W = 3) with rfl | rfl | rfl | rfl <;> decide
    have a10 := t10_f (X := T ++ List.replicate (nts O) (9, 0)) (W := W) (n := pnb O) ⟨hW1, hW2⟩ hpn
    have el : (((T ++ List.replicate (nts O) (9, 0)).length : Nat) : Int) = T.length + nts O := by
      rw [List.length_append, List.length_replicate]
      omega
    have htn : tn T O W = T ++ List.replicate (nts O) (9, 0) ++ t10 W := rfl
    rw [← htn, el] at a10
    have hlt := a10.2.2.1
    have a11 := (t11_f (X := tn T O W) (W := W) (n := pnb O) ⟨hW1, hW2⟩ hpn).2.2
    obtain ⟨w1, w2, w3, w4⟩ := w_all ⟨hW1, hW2⟩
    have d4 : d 70 4 = 0 := hD.2.2.2.1
    simp only [r62_2]
    repeat' (first | (simp (disch := first | omega | exact Nat.le_of_ble_eq_true rfl | exact rfl | assumption | (simp (disch := omega) only [fr_ne, fr_same]; first | assumption | omega)) only [r62_0, r62_1r, r62_3, r62_8, r62_9, r62_15, r62_16, v62_16_2, r62_19, r62_20, r62_22, v62_22_2, r62_25, r62_29, r62_30, r62_30A, r62_31, r62_34, r62_35, r62_36, r62_39, r62_40h, r62_40f, r62_40t, r62_41, r62_42, r62_44, v62_44_2, r62_47, r62_51, r62_52, r62_55, r62_56i, r62_57, r62_58, r62_59, r62_62, r62_63, r62_67, r62_69, r62_72, r62_73, v62_73_2, r62_76, r62_80, r62_81, r62_82, r62_85, r62_86h, r62_86f, r62_86t, r62_87, r62_88, r62_94, r62_95h, r62_95f, r62_95t, r62_96, r62_97, r62_99, v62_99_2, r62_105, r62_106, r62_107, r62_110, r62_111, v62_111_2, r62_114, r62_115h, r62_115f, r62_115t, r62_116, r62_117, r62_117A, r62_118, r62_121, r62_122, r62_123, r62_126, r62_127, r62_128, r62_131, r62_132, r62_135, r62_136, r62_139r, r62_142, r62_145, r62_146h, r62_146f, r62_146t, g2_46_0, g2_46_2, g2_31_2, p2_31_2, g2_28_2, g2_63_0, g2_63_2, p2_28_2, g2_18_2, o0_len, o0_g4, o2_len, o2_g4, o2_g11, o2_s11, o2_g10, o0_g2, o2_g2, o2_s10, o2_g7, il_s, bl_s, bl_z, ll_s, is_s, bs_s, bs_z, ls_s, al_s, al_b, al_l, fr_ne, fr_same, fr_fr, Nat.reduceEqDiff, tc_gf3_s, tc_ql2_s, tc_ws_0, tc_ws_i, tc_ws_l, tc_ws_r, Nat.reduceLeDiff, Nat.reduceAdd, Nat.reduceLT, true_and, and_true, if_true, if_false, tc_K, Option.toList_some, Option.toList_none, List.nil_append, List.cons_append, ite_true, ite_false, Int.cast_ofNat_Int, reduceIte, i3_add_eq, i3_sub_eq, Int.add_sub_cancel, Int.add_neg_cancel_right, hO hL70 h70, d4]) | (simp only [r62_5, r62_12, r62_26, r62_48, r62_64, r62_77, r62_91, r62_102, i6_lt0, i6_0lt, i6_0le, i6_le0, i6_eq0, b10_0, ite_not, Int.reduceLT, Int.reduceLE, Int.reduceEq, Int.reduceNeg, if_true, if_false, ite_true, ite_false, reduceIte, eq_self, not_true, not_false_eq_true]; try refine tc_ite (fun _ => ?_) (fun _ => ?_) <;> try (exfalso; omega)))
    all_goals try omega
    refine c63 hR hD hLT ⟨hW1, hW2⟩ hok (by omega) ⟨hz0, by omega⟩ ?_
    intro e1 g1 g2 g3
    have hL1 := hLQ.trans g1 hZ
    have hZ1 : Z ≤ z + (tn T O W).length := by omega
    unfold cls at hr
    generalize hq0 : sk g N p = q at hs hkr hr
    have hsq : sk g N q = q := by rw [← hq0]; exact sk_2 g N p
    have hw1 := fun v hv Q => cw1 (c := e1) (n := n) (Q := Q) (v := v) hR (hST.t hL1) hTP w1_and g2.1 g2.2.1 g2.2.2.1 ⟨hp1, hp2⟩ hq0 hv
    by_cases ha : stq g N q (chs 23) 3 = 1
    · rw [if_pos ha] at hr
      have hrn := stq_rn ha
      have hr2 := rn_rng (g := g) (n := N) (p := q)
      have h21 := hw1 1 ha
      simp only [if_true] at h21
      obtain ⟨f1, f2, f3, f4, f5, f6⟩ := prC hr
      have hat := g2.at (q + ((3 : Nat) : Int))
      have t11' := ((hat.2 Z).lt g3).2.1
      generalize hc2 : fr e1 70 (fu (e1 70) 2 (q + ((3 : Nat) : Int))) = c2 at h21 hat t11'
      obtain ⟨l1, l2, l3, l4, l5, l6, l7⟩ := id hat.1
      obtain ⟨y1, y2, y3⟩ := (hat.2 Z).lt g3
      have hq' := hq (fr c2 70 (fu (c2 70) 11 (W - W % 2 + 1))) ((hL1.trans (hat.2 Z).t (Int.le_refl _)).trans ⟨fun a a1 _ _ => fr_ne a1, fun i _ => by rw [fr_ne (by omega)], by rw [fr_same, fu_ne (by omega)]⟩ (Int.le_refl _)) ⟨by rw [fr_same, fu_ne (by omega), l3]; omega, by rw [fr_same, fu_ne (by omega), l6]; omega⟩ (by rw [fr_same, fu_ne (by omega), l4]; exact f1) (fun _ => by
        rw [← f3, ← f4, ← f5, ← f6]
        exact ⟨⟨l1, by rw [fr_same, fu_ne (by omega)]; exact l2, by rw [fr_same, fu_ne (by omega)]; exact l3, by rw [fr_same, fu_ne (by omega)]; exact l4, by rw [fr_same, fu_ne (by omega)]; exact l5, by rw [fr_same, fu_ne (by omega)]; exact l6, l7⟩, fun _ => ⟨by rw [fr_same, fu_ne (by omega)]; exact y1, by rw [fr_same, fu_same], y3⟩⟩)
      rw [← f1, if_pos rfl, ← f2] at hq'
      repeat' (first | (simp (disch := first | omega | exact Nat.le_of_ble_eq_true rfl | exact rfl | assumption | (simp (disch := omega) only [fr_ne, fr_same]; first | assumption | omega)) only [r62_0, r62_1r, r62_3, r62_8, r62_9, r62_15, r62_16, v62_16_2, r62_19, r62_20, r62_22, v62_22_2, r62_25, r62_29, r62_30, r62_30A, r62_31, r62_34, r62_35, r62_36, r62_39, r62_40h, r62_40f, r62_40t, r62_41, r62_42, r62_44, v62_44_2, r62_47, r62_51, r62_52, r62_55, r62_56i, r62_57, r62_58, r62_59, r62_62, r62_63, r62_67, r62_69, r62_72, r62_73, v62_73_2, r62_76, r62_80, r62_81, r62_82, r62_85, r62_86h, r62_86f, r62_86t, r62_87, r62_88, r62_94, r62_95h, r62_95f, r62_95t, r62_96, r62_97, r62_99, v62_99_2, r62_105, r62_106, r62_107, r62_110, r62_111, v62_111_2, r62_114, r62_115h, r62_115f, r62_115t, r62_116, r62_117, r62_117A, r62_118, r62_121, r62_122, r62_123, r62_126, r62_127, r62_128, r62_131, r62_132, r62_135, r62_136, r62_139r, r62_142, r62_145, r62_146h, r62_146f, r62_146t, g2_46_0, g2_46_2, g2_31_2, p2_31_2, g2_28_2, g2_63_0, g2_63_2, p2_28_2, g2_18_2, o0_len, o0_g4, o2_len, o2_g4, o2_g11, o2_s11, o2_g10, o0_g2, o2_g2, o2_s10, o2_g7, il_s, bl_s, bl_z, ll_s, is_s, bs_s, bs_z, ls_s, al_s, al_b, al_l, fr_ne, fr_same, fr_fr, Nat.reduceEqDiff, tc_gf3_s, tc_ql2_s, tc_ws_0, tc_ws_i, tc_ws_l, tc_ws_r, Nat.reduceLeDiff, Nat.reduceAdd, Nat.reduceLT, true_and, and_true, if_true, if_false, tc_K, Option.toList_some, Option.toList_none, List.nil_append, List.cons_append, ite_true, ite_false, Int.cast_ofNat_Int, reduceIte, i3_add_eq, i3_sub_eq, Int.add_sub_cancel, Int.add_neg_cancel_right, hO hL70 h70, hOs h70, h21, t11', w4]) | (simp only [r62_5, r62_12, r62_26, r62_48, r62_64, r62_77, r62_91, r62_102, i6_lt0, i6_0lt, i6_0le, i6_le0, i6_eq0, b10_0, ite_not, Int.reduceLT, Int.reduceLE, Int.reduceEq, Int.reduceNeg, if_true, if_false, ite_true, ite_false, reduceIte, eq_self, not_true, not_false_eq_true]; try refine tc_ite (fun _ => ?_) (fun _ => ?_) <;> try (exfalso; omega)))
      all_goals first
        | exact hq'
        | omega
    · rw [if_neg ha] at hr
      have ha0 : stq g N q (chs 23) 3 = 0 := by
        rcases stq_01 g N q (chs 23) 3 with x | x
        · exact x
        · exact absurd x ha
      have h21 := hw1 0 ha0
      simp only [if_neg (show ¬ (0 : Int) = 1 by omega)] at h21
      have hat := g2.at q
      have hLT2 := (hat.2 Z).lt g3
      generalize hc2 : fr e1 70 (fu (e1 70) 2 q) = c2 at h21 hat hLT2
      have hL2 := hL1.trans (hat.2 Z).t (Int.le_refl _)
      have t11' := hLT2.2.1
      have hw2 := fun v hv Q => cw1 (c := c2) (n := n) (Q := Q) (v := v) hR (hST.t hL2) hTP w1_or hat.1.1 hat.1.2.1 hat.1.2.2.1 (by omega) hsq hv
      -- the or that waits
      have hem : ∀ (d : Nat → Int → Int) (p2 : Int) (n : Nat) (Q : Option AV → List SC → Nat → Prop), LD d g N p2 m z (tn T O W) → (∀ e, LQ d e (z + (tn T O W).length) → LD e g N p2 m z (tn T O W ++ t11 W) → Q none (hp L sh e) n) → tc_C 58 [rf 70, .inl (if 2 ≤ W then -21 else 0)] (hp L sh d) n Q := by
        intro d p2 n Q hd hQ
        by_cases h2 : 2 ≤ W
        · rw [if_pos h2]
          have et : t11 W = [(11, 0)] := if_pos h2
          rw [et] at hQ
          exact c58 (t := (11, 0)) hR hd (by decide) (by omega) (by omega) fun e x1 x2 => hQ e x2 x1
        · rw [if_neg h2]
          have et : t11 W = [] := if_neg h2
          rw [et, List.append_nil] at hQ
          rw [c58_0 hR]
          exact hQ d LQ.refl hd
      by_cases ho : stq g N q (chs 24) 2 = 1
      · rw [if_pos ho] at hr
        have hrn := stq_rn ho
        have hr2 := rn_rng (g := g) (n := N) (p := q)
        have h22 := hw2 1 ho
        simp only [if_true] at h22
        obtain ⟨f1, f2, f3, f4, f5, f6⟩ := prC hr
        have hat3 := hat.1.at (q + ((2 : Nat) : Int))
        have hLT3 := (hat3.2 Z).lt hLT2
        generalize hc3 : fr c2 70 (fu (c2 70) 2 (q + ((2 : Nat) : Int))) = c3 at h22 hat3 hLT3
        have hL3 := hL2.trans (hat3.2 Z).t (Int.le_refl _)
        have t11'' := hLT3.2.1
        have go : tc_C 58 [rf 70, .inl (if 2 ≤ W then -21 else 0)] (hp L sh c3) n (tc_K 62 76 [rf 70, .inl i, .inl 1] [] Q) := by
          refine hem c3 _ n _ hat3.1 ?_
          intro e x1 x2
          obtain ⟨l1, l2, l3, l4, l5, l6, l7⟩ := id x2
          obtain ⟨y1, y2, y3⟩ := x1.lt hLT3
          have hq' := hq (fr e 70 (fu (e 70) 11 2)) ((hL3.trans x1.t hZ1).trans ⟨fun a a1 _ _ => fr_ne a1, fun i _ => by rw [fr_ne (by omega)], by rw [fr_same, fu_ne (by omega)]⟩ (Int.le_refl _)) ⟨by rw [fr_same, fu_ne (by omega), l3]; omega, by rw [fr_same, fu_ne (by omega), l6]; omega⟩ (by rw [fr_same, fu_ne (by omega), l4]; exact f1) (fun _ => by
            rw [← f3, ← f4, ← f5, ← f6]
            exact ⟨⟨l1, by rw [fr_same, fu_ne (by omega)]; exact l2, by rw [fr_same, fu_ne (by omega)]; exact l3, by rw [fr_same, fu_ne (by omega)]; exact l4, by rw [fr_same, fu_ne (by omega)]; exact l5, by rw [fr_same, fu_ne (by omega)]; exact l6, l7⟩, fun _ => ⟨by rw [fr_same, fu_ne (by omega)]; exact y1, by rw [fr_same, fu_same], y3⟩⟩)
          rw [← f1, if_pos rfl, ← f2] at hq'
          repeat' (first | (simp (disch := first | omega | exact Nat.le_of_ble_eq_true rfl | exact rfl | assumption | (simp (disch := omega) only [fr_ne, fr_same]; first | assumption | omega)) only [r62_0, r62_1r, r62_3, r62_8, r62_9, r62_15, r62_16, v62_16_2, r62_19, r62_20, r62_22, v62_22_2, r62_25, r62_29, r62_30, r62_30A, r62_31, r62_34, r62_35, r62_36, r62_39, r62_40h, r62_40f, r62_40t, r62_41, r62_42, r62_44, v62_44_2, r62_47, r62_51, r62_52, r62_55, r62_56i, r62_57, r62_58, r62_59, r62_62, r62_63, r62_67, r62_69, r62_72, r62_73, v62_73_2, r62_76, r62_80, r62_81, r62_82, r62_85, r62_86h, r62_86f, r62_86t, r62_87, r62_88, r62_94, r62_95h, r62_95f, r62_95t, r62_96, r62_97, r62_99, v62_99_2, r62_105, r62_106, r62_107, r62_110, r62_111, v62_111_2, r62_114, r62_115h, r62_115f, r62_115t, r62_116, r62_117, r62_117A, r62_118, r62_121, r62_122, r62_123, r62_126, r62_127, r62_128, r62_131, r62_132, r62_135, r62_136, r62_139r, r62_142, r62_145, r62_146h, r62_146f, r62_146t, g2_46_0, g2_46_2, g2_31_2, p2_31_2, g2_28_2, g2_63_0, g2_63_2, p2_28_2, g2_18_2, o0_len, o0_g4, o2_len, o2_g4, o2_g11, o2_s11, o2_g10, o0_g2, o2_g2, o2_s10, o2_g7, il_s, bl_s, bl_z, ll_s, is_s, bs_s, bs_z, ls_s, al_s, al_b, al_l, fr_ne, fr_same, fr_fr, Nat.reduceEqDiff, tc_gf3_s, tc_ql2_s, tc_ws_0, tc_ws_i, tc_ws_l, tc_ws_r, Nat.reduceLeDiff, Nat.reduceAdd, Nat.reduceLT, true_and, and_true, if_true, if_false, tc_K, Option.toList_some, Option.toList_none, List.nil_append, List.cons_append, ite_true, ite_false, Int.cast_ofNat_Int, reduceIte, i3_add_eq, i3_sub_eq, Int.add_sub_cancel, Int.add_neg_cancel_right, hO hL70 h70, hOs h70]) | (simp only [r62_5, r62_12, r62_26, r62_48, r62_64, r62_77, r62_91, r62_102, i6_lt0, i6_0lt, i6_0le, i6_le0, i6_eq0, b10_0, ite_not, Int.reduceLT, Int.reduceLE, Int.reduceEq, Int.reduceNeg, if_true, if_false, ite_true, ite_false, reduceIte, eq_self, not_true, not_false_eq_true]; try refine tc_ite (fun _ => ?_) (fun _ => ?_) <;> try (exfalso; omega)))
          all_goals first
            | exact hq'
            | omega
        by_cases h2 : 2 ≤ W
        · rw [if_pos h2] at w2 go
          repeat' (first | (simp (disch := first | omega | exact Nat.le_of_ble_eq_true rfl | exact rfl | assumption | (simp (disch := omega) only [fr_ne, fr_same]; first | assumption | omega)) only [r62_0, r62_1r, r62_3, r62_8, r62_9, r62_15, r62_16, v62_16_2, r62_19, r62_20, r62_22, v62_22_2, r62_25, r62_29, r62_30, r62_30A, r62_31, r62_34, r62_35, r62_36, r62_39, r62_40h, r62_40f, r62_40t, r62_41, r62_42, r62_44, v62_44_2, r62_47, r62_51, r62_52, r62_55, r62_56i, r62_57, r62_58, r62_59, r62_62, r62_63, r62_67, r62_69, r62_72, r62_73, v62_73_2, r62_76, r62_80, r62_81, r62_82, r62_85, r62_86h, r62_86f, r62_86t, r62_87, r62_88, r62_94, r62_95h, r62_95f, r62_95t, r62_96, r62_97, r62_99, v62_99_2, r62_105, r62_106, r62_107, r62_110, r62_111, v62_111_2, r62_114, r62_115h, r62_115f, r62_115t, r62_116, r62_117, r62_117A, r62_118, r62_121, r62_122, r62_123, r62_126, r62_127, r62_128, r62_131, r62_132, r62_135, r62_136, r62_139r, r62_142, r62_145, r62_146h, r62_146f, r62_146t, g2_46_0, g2_46_2, g2_31_2, p2_31_2, g2_28_2, g2_63_0, g2_63_2, p2_28_2, g2_18_2, o0_len, o0_g4, o2_len, o2_g4, o2_g11, o2_s11, o2_g10, o0_g2, o2_g2, o2_s10, o2_g7, il_s, bl_s, bl_z, ll_s, is_s, bs_s, bs_z, ls_s, al_s, al_b, al_l, fr_ne, fr_same, fr_fr, Nat.reduceEqDiff, tc_gf3_s, tc_ql2_s, tc_ws_0, tc_ws_i, tc_ws_l, tc_ws_r, Nat.reduceLeDiff, Nat.reduceAdd, Nat.reduceLT, true_and, and_true, if_true, if_false, tc_K, Option.toList_some, Option.toList_none, List.nil_append, List.cons_append, ite_true, ite_false, Int.cast_ofNat_Int, reduceIte, i3_add_eq, i3_sub_eq, Int.add_sub_cancel, Int.add_neg_cancel_right, hO hL70 h70, h21, h22, t11'', w2]) | (simp only [r62_5, r62_12, r62_26, r62_48, r62_64, r62_77, r62_91, r62_102, i6_lt0, i6_0lt, i6_0le, i6_le0, i6_eq0, b10_0, ite_not, Int.reduceLT, Int.reduceLE, Int.reduceEq, Int.reduceNeg, if_true, if_false, ite_true, ite_false, reduceIte, eq_self, not_true, not_false_eq_true]; try refine tc_ite (fun _ => ?_) (fun _ => ?_) <;> try (exfalso; omega)))
          all_goals first
            | exact go
            | omega
        · rw [if_neg h2] at w2 go
          repeat' (first | (simp (disch := first | omega | exact Nat.le_of_ble_eq_true rfl | exact rfl | assumption | (simp (disch := omega) only [fr_ne, fr_same]; first | assumption | omega)) only [r62_0, r62_1r, r62_3, r62_8, r62_9, r62_15, r62_16, v62_16_2, r62_19, r62_20, r62_22, v62_22_2, r62_25, r62_29, r62_30, r62_30A, r62_31, r62_34, r62_35, r62_36, r62_39, r62_40h, r62_40f, r62_40t, r62_41, r62_42, r62_44, v62_44_2, r62_47, r62_51, r62_52, r62_55, r62_56i, r62_57, r62_58, r62_59, r62_62, r62_63, r62_67, r62_69, r62_72, r62_73, v62_73_2, r62_76, r62_80, r62_81, r62_82, r62_85, r62_86h, r62_86f, r62_86t, r62_87, r62_88, r62_94, r62_95h, r62_95f, r62_95t, r62_96, r62_97, r62_99, v62_99_2, r62_105, r62_106, r62_107, r62_110, r62_111, v62_111_2, r62_114, r62_115h, r62_115f, r62_115t, r62_116, r62_117, r62_117A, r62_118, r62_121, r62_122, r62_123, r62_126, r62_127, r62_128, r62_131, r62_132, r62_135, r62_136, r62_139r, r62_142, r62_145, r62_146h, r62_146f, r62_146t, g2_46_0, g2_46_2, g2_31_2, p2_31_2, g2_28_2, g2_63_0, g2_63_2, p2_28_2, g2_18_2, o0_len, o0_g4, o2_len, o2_g4, o2_g11, o2_s11, o2_g10, o0_g2, o2_g2, o2_s10, o2_g7, il_s, bl_s, bl_z, ll_s, is_s, bs_s, bs_z, ls_s, al_s, al_b, al_l, fr_ne, fr_same, fr_fr, Nat.reduceEqDiff, tc_gf3_s, tc_ql2_s, tc_ws_0, tc_ws_i, tc_ws_l, tc_ws_r, Nat.reduceLeDiff, Nat.reduceAdd, Nat.reduceLT, true_and, and_true, if_true, if_false, tc_K, Option.toList_some, Option.toList_none, List.nil_append, List.cons_append, ite_true, ite_false, Int.cast_ofNat_Int, reduceIte, i3_add_eq, i3_sub_eq, Int.add_sub_cancel, Int.add_neg_cancel_right, hO hL70 h70, h21, h22, t11'', w2]) | (simp only [r62_5, r62_12, r62_26, r62_48, r62_64, r62_77, r62_91, r62_102, i6_lt0, i6_0lt, i6_0le, i6_le0, i6_eq0, b10_0, ite_not, Int.reduceLT, Int.reduceLE, Int.reduceEq, Int.reduceNeg, if_true, if_false, ite_true, ite_false, reduceIte, eq_self, not_true, not_false_eq_true]; try refine tc_ite (fun _ => ?_) (fun _ => ?_) <;> try (exfalso; omega)))
          all_goals first
            | exact go
            | omega
      · rw [if_neg ho] at hr
        have ho0 : stq g N q (chs 24) 2 = 0 := by
          rcases stq_01 g N q (chs 24) 2 with x | x
          · exact x
          · exact absurd x ho
        have h22 := hw2 0 ho0
        have e5 : fr c2 70 (fu (c2 70) 2 q) = c2 := by rw [← hat.1.2.2.1, fu_id, fr_id]
        simp only [if_neg (show ¬ (0 : Int) = 1 by omega), e5] at h22
        have go : tc_C 58 [rf 70, .inl (if 2 ≤ W then -21 else 0)] (hp L sh c2) n (tc_K 62 76 [rf 70, .inl i, .inl 0] [] Q) := by
          refine hem c2 _ n _ hat.1 ?_
          intro e x1 x2
          obtain ⟨l1, l2, l3, l4, l5, l6, l7⟩ := id x2
          obtain ⟨y1, y2, y3⟩ := x1.lt hLT2
          have hLe := hL2.trans x1.t hZ1
          cases hdO : drp O with
          | nil =>
            rw [hdO] at hr y1
            dsimp only at hr
            obtain ⟨f1, f2, f3, f4, f5, f6⟩ := prC hr
            have y1' : e 70 10 = 0 := y1
            have hq' := hq e hLe ⟨by rw [l3]; omega, by rw [l6]; omega⟩ (by rw [l4]; exact f1) (fun _ => by
              rw [← f3, ← f4]
              exact ⟨x2, fun z => by omega⟩)
            rw [← f1, if_pos rfl, ← f2] at hq'
            repeat' (first | (simp (disch := first | omega | exact Nat.le_of_ble_eq_true rfl | exact rfl | assumption | (simp (disch := omega) only [fr_ne, fr_same]; first | assumption | omega)) only [r62_0, r62_1r, r62_3, r62_8, r62_9, r62_15, r62_16, v62_16_2, r62_19, r62_20, r62_22, v62_22_2, r62_25, r62_29, r62_30, r62_30A, r62_31, r62_34, r62_35, r62_36, r62_39, r62_40h, r62_40f, r62_40t, r62_41, r62_42, r62_44, v62_44_2, r62_47, r62_51, r62_52, r62_55, r62_56i, r62_57, r62_58, r62_59, r62_62, r62_63, r62_67, r62_69, r62_72, r62_73, v62_73_2, r62_76, r62_80, r62_81, r62_82, r62_85, r62_86h, r62_86f, r62_86t, r62_87, r62_88, r62_94, r62_95h, r62_95f, r62_95t, r62_96, r62_97, r62_99, v62_99_2, r62_105, r62_106, r62_107, r62_110, r62_111, v62_111_2, r62_114, r62_115h, r62_115f, r62_115t, r62_116, r62_117, r62_117A, r62_118, r62_121, r62_122, r62_123, r62_126, r62_127, r62_128, r62_131, r62_132, r62_135, r62_136, r62_139r, r62_142, r62_145, r62_146h, r62_146f, r62_146t, g2_46_0, g2_46_2, g2_31_2, p2_31_2, g2_28_2, g2_63_0, g2_63_2, p2_28_2, g2_18_2, o0_len, o0_g4, o2_len, o2_g4, o2_g11, o2_s11, o2_g10, o0_g2, o2_g2, o2_s10, o2_g7, il_s, bl_s, bl_z, ll_s, is_s, bs_s, bs_z, ls_s, al_s, al_b, al_l, fr_ne, fr_same, fr_fr, Nat.reduceEqDiff, tc_gf3_s, tc_ql2_s, tc_ws_0, tc_ws_i, tc_ws_l, tc_ws_r, Nat.reduceLeDiff, Nat.reduceAdd, Nat.reduceLT, true_and, and_true, if_true, if_false, tc_K, Option.toList_some, Option.toList_none, List.nil_append, List.cons_append, ite_true, ite_false, Int.cast_ofNat_Int, reduceIte, i3_add_eq, i3_sub_eq, Int.add_sub_cancel, Int.add_neg_cancel_right, hO hL70 h70, y1']) | (simp only [r62_5, r62_12, r62_26, r62_48, r62_64, r62_77, r62_91, r62_102, i6_lt0, i6_0lt, i6_0le, i6_le0, i6_eq0, b10_0, ite_not, Int.reduceLT, Int.reduceLE, Int.reduceEq, Int.reduceNeg, if_true, if_false, ite_true, ite_false, reduceIte, eq_self, not_true, not_false_eq_true]; try refine tc_ite (fun _ => ?_) (fun _ => ?_) <;> try (exfalso; omega)))
            all_goals first
              | exact hq'
              | omega
          | cons w O2 =>
            rw [hdO] at hr y1 y3 q1 q2 q4 q6
            dsimp only at hr
            have hw := q5 w O2 hdO
            have hwr : 0 ≤ w ∧ w ≤ 3 := by
              rcases q1.1 with x | x
              · exact absurd x hw
              · exact x
            have hl : (((w :: O2).length : Nat) : Int) = O2.length + 1 := by
              show ((O2.length + 1 : Nat) : Int) = _
              omega
            have hlO : (w :: O2).length = O2.length + 1 := rfl
            rw [hl] at y1
            have y4 : e 73 (O2.length : Int) = w := y3.1
            have h46 := fun Q => c46_l (c := e) (n := n) (Q := Q) (N := N) (p := q) (ch := 93) h70 h27 hL (by rw [l1]; exact hTP) l2 l3 (by omega)
            rw [l1, hsq] at h46
            generalize hM : ((O2.length : Nat) : Int) = M at y1 y4
            have hM0 : 0 ≤ M ∧ M < 10 := by omega
            by_cases hb : byt g N q = 93
            · rw [if_pos hb] at hr
              rw [if_pos hb, if_pos hb] at h46
              have hblt := byt_lt hb (by omega)
              have e6 : pnb O = wn w + pnb O2 := by
                rw [← q2]
                show (if w = -1 then 0 else wn w) + pnb O2 = _
                rw [if_neg hw]
              have e7 : nnt O = nts O + nnt O2 := by
                rw [q3, hdO]
                show _ + ((if w = -1 then 1 else 0) + nnt O2) = _
                rw [if_neg hw]
                omega
              repeat' (first | (simp (disch := first | omega | exact Nat.le_of_ble_eq_true rfl | exact rfl | assumption | (simp (disch := omega) only [fr_ne, fr_same]; first | assumption | omega)) only [r62_0, r62_1r, r62_3, r62_8, r62_9, r62_15, r62_16, v62_16_2, r62_19, r62_20, r62_22, v62_22_2, r62_25, r62_29, r62_30, r62_30A, r62_31, r62_34, r62_35, r62_36, r62_39, r62_40h, r62_40f, r62_40t, r62_41, r62_42, r62_44, v62_44_2, r62_47, r62_51, r62_52, r62_55, r62_56i, r62_57, r62_58, r62_59, r62_62, r62_63, r62_67, r62_69, r62_72, r62_73, v62_73_2, r62_76, r62_80, r62_81, r62_82, r62_85, r62_86h, r62_86f, r62_86t, r62_87, r62_88, r62_94, r62_95h, r62_95f, r62_95t, r62_96, r62_97, r62_99, v62_99_2, r62_105, r62_106, r62_107, r62_110, r62_111, v62_111_2, r62_114, r62_115h, r62_115f, r62_115t, r62_116, r62_117, r62_117A, r62_118, r62_121, r62_122, r62_123, r62_126, r62_127, r62_128, r62_131, r62_132, r62_135, r62_136, r62_139r, r62_142, r62_145, r62_146h, r62_146f, r62_146t, g2_46_0, g2_46_2, g2_31_2, p2_31_2, g2_28_2, g2_63_0, g2_63_2, p2_28_2, g2_18_2, o0_len, o0_g4, o2_len, o2_g4, o2_g11, o2_s11, o2_g10, o0_g2, o2_g2, o2_s10, o2_g7, il_s, bl_s, bl_z, ll_s, is_s, bs_s, bs_z, ls_s, al_s, al_b, al_l, fr_ne, fr_same, fr_fr, Nat.reduceEqDiff, tc_gf3_s, tc_ql2_s, tc_ws_0, tc_ws_i, tc_ws_l, tc_ws_r, Nat.reduceLeDiff, Nat.reduceAdd, Nat.reduceLT, true_and, and_true, if_true, if_false, tc_K, Option.toList_some, Option.toList_none, List.nil_append, List.cons_append, ite_true, ite_false, Int.cast_ofNat_Int, reduceIte, i3_add_eq, i3_sub_eq, Int.add_sub_cancel, Int.add_neg_cancel_right, hO hL70 h70, hOs h70, hI hL73 h73, y1, h46, fu_ne, fu_same, y4]) | (simp only [r62_5, r62_12, r62_26, r62_48, r62_64, r62_77, r62_91, r62_102, i6_lt0, i6_0lt, i6_0le, i6_le0, i6_eq0, b10_0, ite_not, Int.reduceLT, Int.reduceLE, Int.reduceEq, Int.reduceNeg, if_true, if_false, ite_true, ite_false, reduceIte, eq_self, not_true, not_false_eq_true]; try refine tc_ite (fun _ => ?_) (fun _ => ?_) <;> try (exfalso; omega)))
              all_goals try omega
              refine ih (q + 1) w (i + 1) _ O2 _ _ ⟨?_, ?_, ?_, ?_, ?_, ?_, ?_⟩ ⟨?_, ?_, ?_⟩ (hLe.trans ⟨fun a a1 _ _ => fr_ne a1, fun i _ => by rw [fr_ne (by omega)], by rw [fr_same]; simp (disch := omega) only [fu_ne]⟩ (Int.le_refl _)) (by omega) q1.2 hwr.1 hwr.2 (by omega) (by omega) (by omega) (by omega) (by omega) (by omega) hr
              · rw [fr_ne (by omega)]; exact l1
              · rw [fr_same]; simp (disch := omega) only [fu_ne]; exact l2
              · rw [fr_same]; simp (disch := omega) only [fu_ne, fu_same]
              · rw [fr_same]; simp (disch := omega) only [fu_ne]; exact l4
              · rw [fr_same]; simp (disch := omega) only [fu_ne]; exact l5
              · rw [fr_same]; simp (disch := omega) only [fu_ne]; exact l6
              · exact l7
              · rw [fr_same]; simp (disch := omega) only [fu_ne, fu_same]; omega
              · rw [fr_same]; simp (disch := omega) only [fu_ne, fu_same]
              · rw [fr_ne (by omega)]; exact y3.2
            · rw [if_neg hb] at hr
              rw [if_neg hb, if_neg hb] at h46
              obtain ⟨f1, _⟩ := prC hr
              have hf : ¬ f = 0 := by omega
              have e5' : fr e 70 (fu (e 70) 2 q) = e := by rw [← l3, fu_id, fr_id]
              rw [e5'] at h46
              have h34 := fun Q => c34_l (c := e) (n := n) (Q := Q) (a := q) (k := 0) h70 h27 hL (by omega) (by omega)
              rw [if_pos l4, show 1 + 8 * q + 0 = f by omega] at h34
              have hq' := hq (fr e 70 (fu (e 70) 4 f)) (hLe.trans ⟨fun a a1 _ _ => fr_ne a1, fun i _ => by rw [fr_ne (by omega)], by rw [fr_same, fu_ne (by omega)]⟩ (Int.le_refl _)) ⟨by rw [fr_same, fu_ne (by omega), l3]; omega, by rw [fr_same, fu_ne (by omega), l6]; omega⟩ (by rw [fr_same, fu_same]) (fun x => absurd x hf)
              rw [if_neg hf] at hq'
              repeat' (first | (simp (disch := first | omega | exact Nat.le_of_ble_eq_true rfl | exact rfl | assumption | (simp (disch := omega) only [fr_ne, fr_same]; first | assumption | omega)) only [r62_0, r62_1r, r62_3, r62_8, r62_9, r62_15, r62_16, v62_16_2, r62_19, r62_20, r62_22, v62_22_2, r62_25, r62_29, r62_30, r62_30A, r62_31, r62_34, r62_35, r62_36, r62_39, r62_40h, r62_40f, r62_40t, r62_41, r62_42, r62_44, v62_44_2, r62_47, r62_51, r62_52, r62_55, r62_56i, r62_57, r62_58, r62_59, r62_62, r62_63, r62_67, r62_69, r62_72, r62_73, v62_73_2, r62_76, r62_80, r62_81, r62_82, r62_85, r62_86h, r62_86f, r62_86t, r62_87, r62_88, r62_94, r62_95h, r62_95f, r62_95t, r62_96, r62_97, r62_99, v62_99_2, r62_105, r62_106, r62_107, r62_110, r62_111, v62_111_2, r62_114, r62_115h, r62_115f, r62_115t, r62_116, r62_117, r62_117A, r62_118, r62_121, r62_122, r62_123, r62_126, r62_127, r62_128, r62_131, r62_132, r62_135, r62_136, r62_139r, r62_142, r62_145, r62_146h, r62_146f, r62_146t, g2_46_0, g2_46_2, g2_31_2, p2_31_2, g2_28_2, g2_63_0, g2_63_2, p2_28_2, g2_18_2, o0_len, o0_g4, o2_len, o2_g4, o2_g11, o2_s11, o2_g10, o0_g2, o2_g2, o2_s10, o2_g7, il_s, bl_s, bl_z, ll_s, is_s, bs_s, bs_z, ls_s, al_s, al_b, al_l, fr_ne, fr_same, fr_fr, Nat.reduceEqDiff, tc_gf3_s, tc_ql2_s, tc_ws_0, tc_ws_i, tc_ws_l, tc_ws_r, Nat.reduceLeDiff, Nat.reduceAdd, Nat.reduceLT, true_and, and_true, if_true, if_false, tc_K, Option.toList_some, Option.toList_none, List.nil_append, List.cons_append, ite_true, ite_false, Int.cast_ofNat_Int, reduceIte, i3_add_eq, i3_sub_eq, Int.add_sub_cancel, Int.add_neg_cancel_right, hO hL70 h70, y1, h46, l3, h34]) | (simp only [r62_5, r62_12, r62_26, r62_48, r62_64, r62_77, r62_91, r62_102, i6_lt0, i6_0lt, i6_0le, i6_le0, i6_eq0, b10_0, ite_not, Int.reduceLT, Int.reduceLE, Int.reduceEq, Int.reduceNeg, if_true, if_false, ite_true, ite_false, reduceIte, eq_self, not_true, not_false_eq_true]; try refine tc_ite (fun _ => ?_) (fun _ => ?_) <;> try (exfalso; omega)))
              all_goals first
                | exact hq'
                | omega
        by_cases h2 : 2 ≤ W
        · rw [if_pos h2] at w2 go
          repeat' (first | (simp (disch := first | omega | exact Nat.le_of_ble_eq_true rfl | exact rfl | assumption | (simp (disch := omega) only [fr_ne, fr_same]; first | assumption | omega)) only [r62_0, r62_1r, r62_3, r62_8, r62_9, r62_15, r62_16, v62_16_2, r62_19, r62_20, r62_22, v62_22_2, r62_25, r62_29, r62_30, r62_30A, r62_31, r62_34, r62_35, r62_36, r62_39, r62_40h, r62_40f, r62_40t, r62_41, r62_42, r62_44, v62_44_2, r62_47, r62_51, r62_52, r62_55, r62_56i, r62_57, r62_58, r62_59, r62_62, r62_63, r62_67, r62_69, r62_72, r62_73, v62_73_2, r62_76, r62_80, r62_81, r62_82, r62_85, r62_86h, r62_86f, r62_86t, r62_87, r62_88, r62_94, r62_95h, r62_95f, r62_95t, r62_96, r62_97, r62_99, v62_99_2, r62_105, r62_106, r62_107, r62_110, r62_111, v62_111_2, r62_114, r62_115h, r62_115f, r62_115t, r62_116, r62_117, r62_117A, r62_118, r62_121, r62_122, r62_123, r62_126, r62_127, r62_128, r62_131, r62_132, r62_135, r62_136, r62_139r, r62_142, r62_145, r62_146h, r62_146f, r62_146t, g2_46_0, g2_46_2, g2_31_2, p2_31_2, g2_28_2, g2_63_0, g2_63_2, p2_28_2, g2_18_2, o0_len, o0_g4, o2_len, o2_g4, o2_g11, o2_s11, o2_g10, o0_g2, o2_g2, o2_s10, o2_g7, il_s, bl_s, bl_z, ll_s, is_s, bs_s, bs_z, ls_s, al_s, al_b, al_l, fr_ne, fr_same, fr_fr, Nat.reduceEqDiff, tc_gf3_s, tc_ql2_s, tc_ws_0, tc_ws_i, tc_ws_l, tc_ws_r, Nat.reduceLeDiff, Nat.reduceAdd, Nat.reduceLT, true_and, and_true, if_true, if_false, tc_K, Option.toList_some, Option.toList_none, List.nil_append, List.cons_append, ite_true, ite_false, Int.cast_ofNat_Int, reduceIte, i3_add_eq, i3_sub_eq, Int.add_sub_cancel, Int.add_neg_cancel_right, hO hL70 h70, h21, h22, t11', w2]) | (simp only [r62_5, r62_12, r62_26, r62_48, r62_64, r62_77, r62_91, r62_102, i6_lt0, i6_0lt, i6_0le, i6_le0, i6_eq0, b10_0, ite_not, Int.reduceLT, Int.reduceLE, Int.reduceEq, Int.reduceNeg, if_true, if_false, ite_true, ite_false, reduceIte, eq_self, not_true, not_false_eq_true]; try refine tc_ite (fun _ => ?_) (fun _ => ?_) <;> try (exfalso; omega)))
          all_goals first
            | exact go
            | omega
        · rw [if_neg h2] at w2 go
          repeat' (first | (simp (disch := first | omega | exact Nat.le_of_ble_eq_true rfl | exact rfl | assumption | (simp (disch := omega) only [fr_ne, fr_same]; first | assumption | omega)) only [r62_0, r62_1r, r62_3, r62_8, r62_9, r62_15, r62_16, v62_16_2, r62_19, r62_20, r62_22, v62_22_2, r62_25, r62_29, r62_30, r62_30A, r62_31, r62_34, r62_35, r62_36, r62_39, r62_40h, r62_40f, r62_40t, r62_41, r62_42, r62_44, v62_44_2, r62_47, r62_51, r62_52, r62_55, r62_56i, r62_57, r62_58, r62_59, r62_62, r62_63, r62_67, r62_69, r62_72, r62_73, v62_73_2, r62_76, r62_80, r62_81, r62_82, r62_85, r62_86h, r62_86f, r62_86t, r62_87, r62_88, r62_94, r62_95h, r62_95f, r62_95t, r62_96, r62_97, r62_99, v62_99_2, r62_105, r62_106, r62_107, r62_110, r62_111, v62_111_2, r62_114, r62_115h, r62_115f, r62_115t, r62_116, r62_117, r62_117A, r62_118, r62_121, r62_122, r62_123, r62_126, r62_127, r62_128, r62_131, r62_132, r62_135, r62_136, r62_139r, r62_142, r62_145, r62_146h, r62_146f, r62_146t, g2_46_0, g2_46_2, g2_31_2, p2_31_2, g2_28_2, g2_63_0, g2_63_2, p2_28_2, g2_18_2, o0_len, o0_g4, o2_len, o2_g4, o2_g11, o2_s11, o2_g10, o0_g2, o2_g2, o2_s10, o2_g7, il_s, bl_s, bl_z, ll_s, is_s, bs_s, bs_z, ls_s, al_s, al_b, al_l, fr_ne, fr_same, fr_fr, Nat.reduceEqDiff, tc_gf3_s, tc_ql2_s, tc_ws_0, tc_ws_i, tc_ws_l, tc_ws_r, Nat.reduceLeDiff, Nat.reduceAdd, Nat.reduceLT, true_and, and_true, if_true, if_false, tc_K, Option.toList_some, Option.toList_none, List.nil_append, List.cons_append, ite_true, ite_false, Int.cast_ofNat_Int, reduceIte, i3_add_eq, i3_sub_eq, Int.add_sub_cancel, Int.add_neg_cancel_right, hO hL70 h70, h21, h22, t11', w2]) | (simp only [r62_5, r62_12, r62_26, r62_48, r62_64, r62_77, r62_91, r62_102, i6_lt0, i6_0lt, i6_0le, i6_le0, i6_eq0, b10_0, ite_not, Int.reduceLT, Int.reduceLE, Int.reduceEq, Int.reduceNeg, if_true, if_false, ite_true, ite_false, reduceIte, eq_self, not_true, not_false_eq_true]; try refine tc_ite (fun _ => ?_) (fun _ => ?_) <;> try (exfalso; omega)))
          all_goals first
            | exact go
            | omega
end TESTE

/-! the reference: sums, all of them -/
section LAWP
variable {L : Nat} {sh : Nat → SH} {c : Nat → Int → Int} {n : Nat} {Q : Option AV → List SC → Nat → Prop} {g : Int → Int} {N p m s z f p' m' F : Int} {T T' : List Tk}
theorem m190_x (hS : MS L sh) {d : Nat → Int → Int} {a1 : AV} (h23 : ¬ d 75 23 = 0) (hq : Q none (hp L sh d) n) : tc_W 190 4 [rf 75, a1] [] (hp L sh d) n Q := by
  generalize hF : d 75 23 = F at h23
  simp only [r190_4]
  repeat' (first | (simp (disch := first | omega | exact Nat.le_of_ble_eq_true rfl | exact rfl | assumption | (simp only [fr_at, Nat.reduceEqDiff, if_false, if_true, reduceIte]; first | assumption | omega)) only [r190_0, r190_1, v190_1_11, r190_5, r190_11, r190_12, v190_12_11, r190_15, r190_20, r190_21, v190_21_11, r190_24, r190_29, r190_30, v190_30_11, r190_33, r190_38, r190_39, r190_42, r190_43r, r190_44, r190_45, r190_45A, r190_46, r190_49, r190_50, r190_51, r190_54, r190_55, v190_55_11, r190_58, r190_59, r190_60, r190_61, v190_61_11, r190_64, r190_67, g11_171_11, g11_174_11, p11_174_11, mo_len, ms75 hS, mt75 hS, mo_g23, mo_g22, mo_s22, il_s, bl_s, bl_z, ll_s, is_s, bs_s, bs_z, ls_s, al_s, al_b, al_l, fr_at, fr_fr, Nat.reduceEqDiff, tc_gf3_s, tc_ql2_s, tc_ws_0, tc_ws_i, tc_ws_l, tc_ws_r, Nat.reduceLeDiff, Nat.reduceAdd, Nat.reduceLT, true_and, and_true, if_true, if_false, tc_K, Option.toList_some, Option.toList_none, List.nil_append, List.cons_append, ite_true, ite_false, Int.cast_ofNat_Int, reduceIte, i3_add_eq, i3_sub_eq, Int.add_sub_cancel, Int.add_neg_cancel_right, hF]) | (simp only [r190_8, r190_17, r190_26, r190_35, i6_lt0, i6_0lt, i6_0le, i6_le0, i6_eq0, b10_0, ite_not, Int.reduceLT, Int.reduceLE, Int.reduceEq, Int.reduceNeg, if_true, if_false, ite_true, ite_false, reduceIte, eq_self, not_true, not_false_eq_true]; try refine tc_ite (fun _ => ?_) (fun _ => ?_) <;> try (exfalso; omega)))
  all_goals first
    | exact hq
    | omega
theorem m190_l (hS : MS L sh) (hST : STRS sh c) (hTP : TP g N) (hs : 0 ≤ s ∧ s ≤ 5) (hz0 : 0 ≤ z) {Z : Int} (hq : ∀ e, MLQ c e Z → RN e N 61 → e 75 23 = f → (f = 0 → ME e g N p' m' s z T') → Q none (hp L sh e) n) : ∀ (k : Nat) (q m : Int) (T : List Tk) (d : Nat → Int → Int) (a1 : AV), ME d g N q m s z T → MLQ c d Z → Z ≤ 300 * s + (z + T.length) → d 75 23 = 0 → 0 ≤ q → q ≤ N → 0 ≤ m → m ≤ 60 → N - q ≤ k → 3 * (z + T.length) ≤ 7 * m + q → sml g N k q m T = (f, p', m', T') → tc_W 190 4 [rf 75, a1] [] (hp L sh d) n Q := by
  have hN := hTP.1
  intro k
  induction k with
  | zero =>
    intro q m T d a1 hE hM hZ h23 hq1 hq2 hm1 hm2 hk hz hr
    obtain ⟨h95, h21, h22, h24, h26, h28, h30, hTT⟩ := id hE
    have h172 := fun Q => c172t (c := d) (n := n) (Q := Q) (N := N) (p := q) hS (by rw [h95]; exact hTP) h21 h22 hq1
    have hbt : byt (d 95) N q = -1 := by
      unfold byt
      rw [if_neg (by omega)]
    rw [hbt] at h172
    obtain ⟨e1, e2, e3, e4⟩ := prL hr
    have hq' := hq d hM ⟨by rw [h22]; omega, by rw [h28]; omega⟩ (by rw [h23]; exact e1) (fun _ => by
      rw [← e2, ← e3, ← e4]
      exact hE)
    simp only [r190_4]
    repeat' (first | (simp (disch := first | omega | exact Nat.le_of_ble_eq_true rfl | exact rfl | assumption | (simp only [fr_at, Nat.reduceEqDiff, if_false, if_true, reduceIte]; first | assumption | omega)) only [r190_0, r190_1, v190_1_11, r190_5, r190_11, r190_12, v190_12_11, r190_15, r190_20, r190_21, v190_21_11, r190_24, r190_29, r190_30, v190_30_11, r190_33, r190_38, r190_39, r190_42, r190_43r, r190_44, r190_45, r190_45A, r190_46, r190_49, r190_50, r190_51, r190_54, r190_55, v190_55_11, r190_58, r190_59, r190_60, r190_61, v190_61_11, r190_64, r190_67, g11_171_11, g11_174_11, p11_174_11, mo_len, ms75 hS, mt75 hS, mo_g23, mo_g22, mo_s22, il_s, bl_s, bl_z, ll_s, is_s, bs_s, bs_z, ls_s, al_s, al_b, al_l, fr_at, fr_fr, Nat.reduceEqDiff, tc_gf3_s, tc_ql2_s, tc_ws_0, tc_ws_i, tc_ws_l, tc_ws_r, Nat.reduceLeDiff, Nat.reduceAdd, Nat.reduceLT, true_and, and_true, if_true, if_false, tc_K, Option.toList_some, Option.toList_none, List.nil_append, List.cons_append, ite_true, ite_false, Int.cast_ofNat_Int, reduceIte, i3_add_eq, i3_sub_eq, Int.add_sub_cancel, Int.add_neg_cancel_right, h23, h172]) | (simp only [r190_8, r190_17, r190_26, r190_35, i6_lt0, i6_0lt, i6_0le, i6_le0, i6_eq0, b10_0, ite_not, Int.reduceLT, Int.reduceLE, Int.reduceEq, Int.reduceNeg, if_true, if_false, ite_true, ite_false, reduceIte, eq_self, not_true, not_false_eq_true]; try refine tc_ite (fun _ => ?_) (fun _ => ?_) <;> try (exfalso; omega)))
    all_goals first
      | exact hq'
      | omega
  | succ k ih =>
    intro q m T d a1 hE hM hZ h23 hq1 hq2 hm1 hm2 hk hz hr
    obtain ⟨h95, h21, h22, h24, h26, h28, h30, hTT⟩ := id hE
    have h172 := fun Q => c172t (c := d) (n := n) (Q := Q) (N := N) (p := q) hS (by rw [h95]; exact hTP) h21 h22 hq1
    rw [h95] at h172
    by_cases ho : wop (byt g N q) = 0
    · rw [sml_end ho] at hr
      obtain ⟨e1, e2, e3, e4⟩ := prL hr
      have hq' := hq d hM ⟨by rw [h22]; omega, by rw [h28]; omega⟩ (by rw [h23]; exact e1) (fun _ => by
        rw [← e2, ← e3, ← e4]
        exact hE)
      have hb : ¬ byt g N q = 43 ∧ ¬ byt g N q = 45 := by
        unfold wop at ho
        by_cases x1 : byt g N q = 43
        · rw [if_pos x1] at ho
          omega
        · by_cases x2 : byt g N q = 45
          · rw [if_neg x1, if_pos x2] at ho
            omega
          · exact ⟨x1, x2⟩
      generalize byt g N q = b at h172 hb
      simp only [r190_4]
      repeat' (first | (simp (disch := first | omega | exact Nat.le_of_ble_eq_true rfl | exact rfl | assumption | (simp only [fr_at, Nat.reduceEqDiff, if_false, if_true, reduceIte]; first | assumption | omega)) only [r190_0, r190_1, v190_1_11, r190_5, r190_11, r190_12, v190_12_11, r190_15, r190_20, r190_21, v190_21_11, r190_24, r190_29, r190_30, v190_30_11, r190_33, r190_38, r190_39, r190_42, r190_43r, r190_44, r190_45, r190_45A, r190_46, r190_49, r190_50, r190_51, r190_54, r190_55, v190_55_11, r190_58, r190_59, r190_60, r190_61, v190_61_11, r190_64, r190_67, g11_171_11, g11_174_11, p11_174_11, mo_len, ms75 hS, mt75 hS, mo_g23, mo_g22, mo_s22, il_s, bl_s, bl_z, ll_s, is_s, bs_s, bs_z, ls_s, al_s, al_b, al_l, fr_at, fr_fr, Nat.reduceEqDiff, tc_gf3_s, tc_ql2_s, tc_ws_0, tc_ws_i, tc_ws_l, tc_ws_r, Nat.reduceLeDiff, Nat.reduceAdd, Nat.reduceLT, true_and, and_true, if_true, if_false, tc_K, Option.toList_some, Option.toList_none, List.nil_append, List.cons_append, ite_true, ite_false, Int.cast_ofNat_Int, reduceIte, i3_add_eq, i3_sub_eq, Int.add_sub_cancel, Int.add_neg_cancel_right, h23, h172]) | (simp only [r190_8, r190_17, r190_26, r190_35, i6_lt0, i6_0lt, i6_0le, i6_le0, i6_eq0, b10_0, ite_not, Int.reduceLT, Int.reduceLE, Int.reduceEq, Int.reduceNeg, if_true, if_false, ite_true, ite_false, reduceIte, eq_self, not_true, not_false_eq_true]; try refine tc_ite (fun _ => ?_) (fun _ => ?_) <;> try (exfalso; omega)))
      all_goals first
        | exact hq'
        | omega
    · have hlt := wop_lt ho
      rcases hv : trm g N k (q + 1) m T with ⟨f1, p1, m1, T1⟩
      have htm := sml_st (k := k) (g := g) (N := N) (p := q) (m := m) (T := T) (o := wop (byt g N q)) (f1 := f1) (p1 := p1) (m1 := m1) (T1 := T1) rfl ho hv
      rw [htm] at hr
      have hat := hE.at (q + 1)
      generalize hc1 : fr d 75 (fu (d 75) 22 (q + 1)) = c1 at hat
      have hM1 := hM.trans (hat.2 Z) (Int.le_refl _)
      have h231 : c1 75 23 = 0 := by rw [← hc1, fr_same, fu_ne (by omega)]; exact h23
      have rest : ∀ o, wop (byt g N q) = o → tc_W 190 54 [rf 75, .inl o] [] (hp L sh c1) n Q := by
        intro o hso
        rw [hso] at hr ho
        repeat' (first | (simp (disch := first | omega | exact Nat.le_of_ble_eq_true rfl | exact rfl | assumption | (simp only [fr_at, Nat.reduceEqDiff, if_false, if_true, reduceIte]; first | assumption | omega)) only [r190_0, r190_1, v190_1_11, r190_5, r190_11, r190_12, v190_12_11, r190_15, r190_20, r190_21, v190_21_11, r190_24, r190_29, r190_30, v190_30_11, r190_33, r190_38, r190_39, r190_42, r190_43r, r190_44, r190_45, r190_45A, r190_46, r190_49, r190_50, r190_51, r190_54, r190_55, v190_55_11, r190_58, r190_59, r190_60, r190_61, v190_61_11, r190_64, r190_67, g11_171_11, g11_174_11, p11_174_11, mo_len, ms75 hS, mt75 hS, mo_g23, mo_g22, mo_s22, il_s, bl_s, bl_z, ll_s, is_s, bs_s, bs_z, ls_s, al_s, al_b, al_l, fr_at, fr_fr, Nat.reduceEqDiff, tc_gf3_s, tc_ql2_s, tc_ws_0, tc_ws_i, tc_ws_l, tc_ws_r, Nat.reduceLeDiff, Nat.reduceAdd, Nat.reduceLT, true_and, and_true, if_true, if_false, tc_K, Option.toList_some, Option.toList_none, List.nil_append, List.cons_append, ite_true, ite_false, Int.cast_ofNat_Int, reduceIte, i3_add_eq, i3_sub_eq, Int.add_sub_cancel, Int.add_neg_cancel_right]) | (simp only [r190_8, r190_17, r190_26, r190_35, i6_lt0, i6_0lt, i6_0le, i6_le0, i6_eq0, b10_0, ite_not, Int.reduceLT, Int.reduceLE, Int.reduceEq, Int.reduceNeg, if_true, if_false, ite_true, ite_false, reduceIte, eq_self, not_true, not_false_eq_true]; try refine tc_ite (fun _ => ?_) (fun _ => ?_) <;> try (exfalso; omega)))
        refine m191 (c := c1) (k := k) hS (STR.q hST hM1) hTP hat.1 (by omega) h231 (by omega) (fun _ => hm2) hs ⟨hz0, by omega, fun _ => by omega⟩ (by omega) hv ?_
        intro e j1 j2 j3 j4
        rw [fl_0] at j3 j4
        rw [if_pos rfl] at j2
        have hM2 := hM1.trans j1 hZ
        have hVG : f1 = 0 → VG N (q + 1) m p1 m1 T T1 [] [] (false :: []) ∧ sk g N p1 = p1 := fun h => trm_g (by rw [← h]; exact hv) (by omega) [] []
        obtain ⟨e2, b1, b2, b3, b4, b5, b6, b7, b8⟩ := m194g (e := e) (k := o) (v := 0) hS (fun h => j4 (by rw [← j3]; exact h)) hs (fun h => by
          have hf1 : f1 = 0 := by rw [← j3]; exact h
          obtain ⟨⟨v1, v2, v3, _, _, v6⟩, _⟩ := hVG hf1
          omega)
        repeat' (first | (simp (disch := first | omega | exact Nat.le_of_ble_eq_true rfl | exact rfl | assumption | (simp only [fr_at, Nat.reduceEqDiff, if_false, if_true, reduceIte]; first | assumption | omega)) only [r190_0, r190_1, v190_1_11, r190_5, r190_11, r190_12, v190_12_11, r190_15, r190_20, r190_21, v190_21_11, r190_24, r190_29, r190_30, v190_30_11, r190_33, r190_38, r190_39, r190_42, r190_43r, r190_44, r190_45, r190_45A, r190_46, r190_49, r190_50, r190_51, r190_54, r190_55, v190_55_11, r190_58, r190_59, r190_60, r190_61, v190_61_11, r190_64, r190_67, g11_171_11, g11_174_11, p11_174_11, mo_len, ms75 hS, mt75 hS, mo_g23, mo_g22, mo_s22, il_s, bl_s, bl_z, ll_s, is_s, bs_s, bs_z, ls_s, al_s, al_b, al_l, fr_at, fr_fr, Nat.reduceEqDiff, tc_gf3_s, tc_ql2_s, tc_ws_0, tc_ws_i, tc_ws_l, tc_ws_r, Nat.reduceLeDiff, Nat.reduceAdd, Nat.reduceLT, true_and, and_true, if_true, if_false, tc_K, Option.toList_some, Option.toList_none, List.nil_append, List.cons_append, ite_true, ite_false, Int.cast_ofNat_Int, reduceIte, i3_add_eq, i3_sub_eq, Int.add_sub_cancel, Int.add_neg_cancel_right, b1]) | (simp only [r190_8, r190_17, r190_26, r190_35, i6_lt0, i6_0lt, i6_0le, i6_le0, i6_eq0, b10_0, ite_not, Int.reduceLT, Int.reduceLE, Int.reduceEq, Int.reduceNeg, if_true, if_false, ite_true, ite_false, reduceIte, eq_self, not_true, not_false_eq_true]; try refine tc_ite (fun _ => ?_) (fun _ => ?_) <;> try (exfalso; omega)))
        by_cases hf1 : f1 = 0
        · obtain ⟨⟨v1, v2, v3, _, _, v6⟩, v7⟩ := hVG hf1
          have h0 : e 75 23 = 0 := by rw [j3]; exact hf1
          rw [if_neg (fun x => x hf1)] at hr
          obtain ⟨hE2, hM3⟩ := b8 h0
          have hl := len_app (t := (o, 0)) (T := T1)
          exact ih p1 m1 (T1 ++ [(o, 0)]) e2 (.inl o) hE2 (hM2.trans hM3 (by omega)) (by omega) (by rw [b2]; exact h0) (by omega) (by omega) (by omega) (by omega) (by omega) (by omega) hr
        · rw [if_pos hf1] at hr
          have hff := (prL hr).1
          have h0 : ¬ e 75 23 = 0 := by rw [j3]; exact hf1
          rw [b7 h0]
          exact m190_x hS h0 (hq e hM2 j2 (by rw [j3]; exact hff) fun x => absurd (hff.trans x) hf1)
      generalize hbb : byt g N q = b at h172 ho rest
      simp only [r190_4]
      by_cases b1 : b = 43
      · have hr3 := rest 2 (by unfold wop; rw [if_pos b1])
        repeat' (first | (simp (disch := first | omega | exact Nat.le_of_ble_eq_true rfl | exact rfl | assumption | (simp only [fr_at, Nat.reduceEqDiff, if_false, if_true, reduceIte]; first | assumption | omega)) only [r190_0, r190_1, v190_1_11, r190_5, r190_11, r190_12, v190_12_11, r190_15, r190_20, r190_21, v190_21_11, r190_24, r190_29, r190_30, v190_30_11, r190_33, r190_38, r190_39, r190_42, r190_43r, r190_44, r190_45, r190_45A, r190_46, r190_49, r190_50, r190_51, r190_55, v190_55_11, r190_58, r190_59, r190_60, r190_61, v190_61_11, r190_64, r190_67, g11_171_11, g11_174_11, p11_174_11, mo_len, ms75 hS, mt75 hS, mo_g23, mo_g22, mo_s22, il_s, bl_s, bl_z, ll_s, is_s, bs_s, bs_z, ls_s, al_s, al_b, al_l, fr_at, fr_fr, Nat.reduceEqDiff, tc_gf3_s, tc_ql2_s, tc_ws_0, tc_ws_i, tc_ws_l, tc_ws_r, Nat.reduceLeDiff, Nat.reduceAdd, Nat.reduceLT, true_and, and_true, if_true, if_false, tc_K, Option.toList_some, Option.toList_none, List.nil_append, List.cons_append, ite_true, ite_false, Int.cast_ofNat_Int, reduceIte, i3_add_eq, i3_sub_eq, Int.add_sub_cancel, Int.add_neg_cancel_right, h23, h172, h22, hc1]) | (simp only [r190_8, r190_17, r190_26, r190_35, i6_lt0, i6_0lt, i6_0le, i6_le0, i6_eq0, b10_0, ite_not, Int.reduceLT, Int.reduceLE, Int.reduceEq, Int.reduceNeg, if_true, if_false, ite_true, ite_false, reduceIte, eq_self, not_true, not_false_eq_true]; try refine tc_ite (fun _ => ?_) (fun _ => ?_) <;> try (exfalso; omega)))
        all_goals first
          | exact hr3
          | omega
      by_cases b2 : b = 45
      · have hr3 := rest 3 (by unfold wop; rw [if_neg b1, if_pos b2])
        repeat' (first | (simp (disch := first | omega | exact Nat.le_of_ble_eq_true rfl | exact rfl | assumption | (simp only [fr_at, Nat.reduceEqDiff, if_false, if_true, reduceIte]; first | assumption | omega)) only [r190_0, r190_1, v190_1_11, r190_5, r190_11, r190_12, v190_12_11, r190_15, r190_20, r190_21, v190_21_11, r190_24, r190_29, r190_30, v190_30_11, r190_33, r190_38, r190_39, r190_42, r190_43r, r190_44, r190_45, r190_45A, r190_46, r190_49, r190_50, r190_51, r190_55, v190_55_11, r190_58, r190_59, r190_60, r190_61, v190_61_11, r190_64, r190_67, g11_171_11, g11_174_11, p11_174_11, mo_len, ms75 hS, mt75 hS, mo_g23, mo_g22, mo_s22, il_s, bl_s, bl_z, ll_s, is_s, bs_s, bs_z, ls_s, al_s, al_b, al_l, fr_at, fr_fr, Nat.reduceEqDiff, tc_gf3_s, tc_ql2_s, tc_ws_0, tc_ws_i, tc_ws_l, tc_ws_r, Nat.reduceLeDiff, Nat.reduceAdd, Nat.reduceLT, true_and, and_true, if_true, if_false, tc_K, Option.toList_some, Option.toList_none, List.nil_append, List.cons_append, ite_true, ite_false, Int.cast_ofNat_Int, reduceIte, i3_add_eq, i3_sub_eq, Int.add_sub_cancel, Int.add_neg_cancel_right, h23, h172, h22, hc1]) | (simp only [r190_8, r190_17, r190_26, r190_35, i6_lt0, i6_0lt, i6_0le, i6_le0, i6_eq0, b10_0, ite_not, Int.reduceLT, Int.reduceLE, Int.reduceEq, Int.reduceNeg, if_true, if_false, ite_true, ite_false, reduceIte, eq_self, not_true, not_false_eq_true]; try refine tc_ite (fun _ => ?_) (fun _ => ?_) <;> try (exfalso; omega)))
        all_goals first
          | exact hr3
          | omega
      · exfalso
        apply ho
        unfold wop
        rw [if_neg b1, if_neg b2]
theorem m190 (hS : MS L sh) (hST : STRS sh c) (hTP : TP g N) (hE : ME c g N p m s z T) (hp0 : 0 ≤ p ∧ p ≤ N) (h23 : c 75 23 = F) (hm : 0 ≤ m ∧ m ≤ 62) (hm0 : F = 0 → m ≤ 60) (hs : 0 ≤ s ∧ s ≤ 5) (hz : 0 ≤ z ∧ z + T.length < 300 ∧ (F = 0 → 3 * (z + T.length) ≤ 7 * m + p)) {k : Nat} (hk : N - p ≤ k) (hb : smf g N k p m T = (f, p', m', T'))
    (hq : ∀ e, MLQ c e (300 * s + (z + T.length)) → RN e N (if F = 0 then 61 else m + 1) → e 75 23 = fl F f → (fl F f = 0 → ME e g N p' m' s z T') → Q none (hp L sh e) n) : tc_C 190 [rf 75] (hp L sh c) n Q := by
  have hN := hTP.1
  rcases hv : trm g N k p m T with ⟨f1, p1, m1, T1⟩
  unfold smf at hb
  rw [hv] at hb
  dsimp only at hb
  show tc_W 190 0 [rf 75, tc_nil] [] _ _ Q
  repeat' (first | (simp (disch := first | omega | exact Nat.le_of_ble_eq_true rfl | exact rfl | assumption | (simp only [fr_at, Nat.reduceEqDiff, if_false, if_true, reduceIte]; first | assumption | omega)) only [r190_0, r190_1, v190_1_11, r190_5, r190_11, r190_12, v190_12_11, r190_15, r190_20, r190_21, v190_21_11, r190_24, r190_29, r190_30, v190_30_11, r190_33, r190_38, r190_39, r190_42, r190_43r, r190_44, r190_45, r190_45A, r190_46, r190_49, r190_50, r190_51, r190_54, r190_55, v190_55_11, r190_58, r190_59, r190_60, r190_61, v190_61_11, r190_64, r190_67, g11_171_11, g11_174_11, p11_174_11, mo_len, ms75 hS, mt75 hS, mo_g23, mo_g22, mo_s22, il_s, bl_s, bl_z, ll_s, is_s, bs_s, bs_z, ls_s, al_s, al_b, al_l, fr_at, fr_fr, Nat.reduceEqDiff, tc_gf3_s, tc_ql2_s, tc_ws_0, tc_ws_i, tc_ws_l, tc_ws_r, Nat.reduceLeDiff, Nat.reduceAdd, Nat.reduceLT, true_and, and_true, if_true, if_false, tc_K, Option.toList_some, Option.toList_none, List.nil_append, List.cons_append, ite_true, ite_false, Int.cast_ofNat_Int, reduceIte, i3_add_eq, i3_sub_eq, Int.add_sub_cancel, Int.add_neg_cancel_right]) | (simp only [r190_8, r190_17, r190_26, r190_35, i6_lt0, i6_0lt, i6_0le, i6_le0, i6_eq0, b10_0, ite_not, Int.reduceLT, Int.reduceLE, Int.reduceEq, Int.reduceNeg, if_true, if_false, ite_true, ite_false, reduceIte, eq_self, not_true, not_false_eq_true]; try refine tc_ite (fun _ => ?_) (fun _ => ?_) <;> try (exfalso; omega)))
  refine m191 (k := k) hS hST hTP hE hp0 h23 hm hm0 hs hz hk hv ?_
  intro e j1 j2 j3 j4
  repeat' (first | (simp (disch := first | omega | exact Nat.le_of_ble_eq_true rfl | exact rfl | assumption | (simp only [fr_at, Nat.reduceEqDiff, if_false, if_true, reduceIte]; first | assumption | omega)) only [r190_0, r190_1, v190_1_11, r190_5, r190_11, r190_12, v190_12_11, r190_15, r190_20, r190_21, v190_21_11, r190_24, r190_29, r190_30, v190_30_11, r190_33, r190_38, r190_39, r190_42, r190_43r, r190_44, r190_45, r190_45A, r190_46, r190_49, r190_50, r190_51, r190_54, r190_55, v190_55_11, r190_58, r190_59, r190_60, r190_61, v190_61_11, r190_64, r190_67, g11_171_11, g11_174_11, p11_174_11, mo_len, ms75 hS, mt75 hS, mo_g23, mo_g22, mo_s22, il_s, bl_s, bl_z, ll_s, is_s, bs_s, bs_z, ls_s, al_s, al_b, al_l, fr_at, fr_fr, Nat.reduceEqDiff, tc_gf3_s, tc_ql2_s, tc_ws_0, tc_ws_i, tc_ws_l, tc_ws_r, Nat.reduceLeDiff, Nat.reduceAdd, Nat.reduceLT, true_and, and_true, if_true, if_false, tc_K, Option.toList_some, Option.toList_none, List.nil_append, List.cons_append, ite_true, ite_false, Int.cast_ofNat_Int, reduceIte, i3_add_eq, i3_sub_eq, Int.add_sub_cancel, Int.add_neg_cancel_right]) | (simp only [r190_8, r190_17, r190_26, r190_35, i6_lt0, i6_0lt, i6_0le, i6_le0, i6_eq0, b10_0, ite_not, Int.reduceLT, Int.reduceLE, Int.reduceEq, Int.reduceNeg, if_true, if_false, ite_true, ite_false, reduceIte, eq_self, not_true, not_false_eq_true]; try refine tc_ite (fun _ => ?_) (fun _ => ?_) <;> try (exfalso; omega)))
  by_cases hf : fl F f1 = 0
  · have hF0 : F = 0 ∧ f1 = 0 := by unfold fl at hf; split at hf <;> omega
    obtain ⟨rfl, rfl⟩ := hF0
    rw [if_neg (fun x => x rfl)] at hb
    rw [if_pos rfl, fl_0] at hq
    have hEe := j4 rfl
    obtain ⟨⟨v1, v2, v3, _, _, v6⟩, v7⟩ := trm_g hv hp0 [] []
    have hz3 := hz.2.2 rfl
    exact m190_l (c := c) hS hST hTP hs hz.1 hq k p1 m1 T1 e tc_nil hEe j1 (by omega) j3 (by omega) (by omega) (by omega) (by omega) (by omega) (by omega) hb
  · have hff : fl F f1 = fl F f := by
      unfold fl at hf ⊢
      by_cases x : F = 0
      · rw [if_pos x] at hf
        rw [if_pos x, if_pos x]
        rw [if_pos hf] at hb
        exact (prL hb).1
      · rw [if_neg x, if_neg x]
    exact m190_x hS (by rw [j3]; exact hf) (hq e j1 j2 (by rw [j3]; exact hff) fun x => by
      rw [← hff] at x
      exact absurd x hf)
end LAWP

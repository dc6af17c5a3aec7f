/-! the class: small things -/
theorem ni_6 (a : Nat) : (tc_6 (a : Int)).toBitVec = BitVec.ofNat 64 a := by
  show BitVec.ofInt 64 (a : Int) = _
  exact BitVec.ofInt_natCast 64 a
theorem i6_and_nat {a b : Nat} (ha : a < 9223372036854775808) (hb : b < 9223372036854775808) : i6_and a b = ((a &&& b : Nat) : Int) := by
  have h1 : a &&& b < 2 ^ 63 := Nat.and_lt_two_pow a hb
  show (tc_6 a &&& tc_6 b).toBitVec.toInt = _
  have h2 : (BitVec.ofNat 64 a &&& BitVec.ofNat 64 b).toNat = a &&& b := by
    rw [BitVec.toNat_and, BitVec.toNat_ofNat, BitVec.toNat_ofNat, Nat.mod_eq_of_lt (by omega), Nat.mod_eq_of_lt (by omega)]
  rw [Int64.toBitVec_and, ni_6, ni_6, BitVec.toInt_eq_toNat_of_lt (by rw [h2]; omega), h2]
section SMALLC
variable {L : Nat} {sh : Nat → SH} {c : Nat → Int → Int} {n : Nat} {Q : Option AV → List SC → Nat → Prop} {s lg : Nat} {b : Nat → Int → Int}
theorem c154 {h : List SC} {x : Int} (hx : 0 ≤ x ∧ x < 2147483648) : tc_C 154 [.inl x] h n Q = Q (some (.inl (nxd x))) h n := tc_det fun Q hq => by
  have e1 : i6_i (i6_and (i6_add (i6_mul x 1103515245) 12345) 2147483647) = nxd x := by
    rw [i6_mul_eq (by omega) (by omega), i6_add_eq (by omega) (by omega)]
    have h2 := i6_and_nat (a := (x * 1103515245 + 12345).toNat) (b := 2147483647) (by omega) (by omega)
    rw [Int.toNat_of_nonneg (by omega)] at h2
    rw [show i6_and (x * 1103515245 + 12345) 2147483647 = (((x * 1103515245 + 12345).toNat &&& 2147483647 : Nat) : Int) from h2, show (2147483647 : Nat) = 2 ^ 31 - 1 from rfl, Nat.and_two_pow_sub_one_eq_mod]
    have hr := nxd_rng x
    have e2 : (((x * 1103515245 + 12345).toNat % 2 ^ 31 : Nat) : Int) = nxd x := by
      unfold nxd
      omega
    rw [e2]
    exact i6_i_nn (by omega) (by omega)
  show tc_W 154 0 [.inl x] [] _ _ Q
  simp only [r154_0, r154_1, r154_2, r154_5, r154_6, r154_9, r154_10, r154_13, r154_14, r154_15]
  rw [e1]
  exact hq
theorem c138_l {h : List SC} {a0 b0 : Int} : ∀ (m : Nat) (x y i : Int) (a5 : AV), 0 ≤ x → x < m → x ≤ 100 → 0 < y → y ≤ 100 → 0 ≤ i → i + m ≤ 64 → Q (some (.inl (eu m x y))) h n → tc_W 138 7 [.inl a0, .inl b0, .inl y, .inl x, .inl i, a5] [] h n Q := by
  intro m
  induction m with
  | zero => intro x y i a5 h0 h1; omega
  | succ m ih =>
    intro x y i a5 h0 h1 h2 h3 h4 h5 h6 hq
    have e : eu (m + 1) x y = if x = 0 then y else eu m (y % x) x := rfl
    rw [e] at hq
    simp only [r138_7]
    by_cases hx : x = 0
    · rw [if_pos hx] at hq
      repeat' (first | (simp (disch := first | omega | exact Nat.le_of_ble_eq_true rfl | exact rfl | assumption | (simp (disch := omega) only [fr_ne, fr_same]; first | assumption | omega)) only [r138_0, r138_1i, r138_2, r138_3i, r138_4, r138_5i, r138_9, r138_14, r138_18, r138_19, r138_20, r138_21i, r138_23, r138_24i, r138_25, r138_27i, r138_28i, r138_31, r138_34, r138_35, il_s, bl_s, bl_z, ll_s, is_s, bs_s, bs_z, ls_s, al_s, al_b, al_l, fr_ne, fr_same, fr_fr, Nat.reduceEqDiff, tc_gf3_s, tc_ql2_s, tc_ws_0, tc_ws_i, tc_ws_l, tc_ws_r, Nat.reduceLeDiff, Nat.reduceAdd, Nat.reduceLT, true_and, and_true, if_true, if_false, tc_K, Option.toList_some, Option.toList_none, List.nil_append, List.cons_append, ite_true, ite_false, Int.cast_ofNat_Int, reduceIte, i3_add_eq, i3_sub_eq, Int.add_sub_cancel, Int.add_neg_cancel_right, hx]) | (simp only [r138_11, r138_15, i6_lt0, i6_0lt, i6_0le, i6_le0, i6_eq0, b10_0, ite_not, Int.reduceLT, Int.reduceLE, Int.reduceEq, Int.reduceNeg, if_true, if_false, ite_true, ite_false, reduceIte, eq_self, not_true, not_false_eq_true]; try refine tc_ite (fun _ => ?_) (fun _ => ?_) <;> try (exfalso; omega)))
      exact hq
    · rw [if_neg hx] at hq
      have h7 := Int.emod_nonneg y hx
      have h8 := Int.emod_lt_of_pos y (by omega : 0 < x)
      repeat' (first | (simp (disch := first | omega | exact Nat.le_of_ble_eq_true rfl | exact rfl | assumption | (simp (disch := omega) only [fr_ne, fr_same]; first | assumption | omega)) only [r138_0, r138_1i, r138_2, r138_3i, r138_4, r138_5i, r138_9, r138_14, r138_18, r138_19, r138_20, r138_21i, r138_23, r138_24i, r138_25, r138_27i, r138_28i, r138_31, r138_34, r138_35, il_s, bl_s, bl_z, ll_s, is_s, bs_s, bs_z, ls_s, al_s, al_b, al_l, fr_ne, fr_same, fr_fr, Nat.reduceEqDiff, tc_gf3_s, tc_ql2_s, tc_ws_0, tc_ws_i, tc_ws_l, tc_ws_r, Nat.reduceLeDiff, Nat.reduceAdd, Nat.reduceLT, true_and, and_true, if_true, if_false, tc_K, Option.toList_some, Option.toList_none, List.nil_append, List.cons_append, ite_true, ite_false, Int.cast_ofNat_Int, reduceIte, i3_add_eq, i3_sub_eq, Int.add_sub_cancel, Int.add_neg_cancel_right, i3_rem_nn]) | (simp only [r138_11, r138_15, i6_lt0, i6_0lt, i6_0le, i6_le0, i6_eq0, b10_0, ite_not, Int.reduceLT, Int.reduceLE, Int.reduceEq, Int.reduceNeg, if_true, if_false, ite_true, ite_false, reduceIte, eq_self, not_true, not_false_eq_true]; try refine tc_ite (fun _ => ?_) (fun _ => ?_) <;> try (exfalso; omega)))
      all_goals first
        | exact ih (y % x) x (i + 1) _ h7 (by omega) (by omega) (by omega) (by omega) (by omega) (by omega) hq
        | omega
theorem c138 {h : List SC} {x y : Int} (hx : 0 ≤ x ∧ x ≤ 27) (hy : 0 < y ∧ y ≤ 27) : tc_C 138 [.inl x, .inl y] h n Q = Q (some (.inl (eu 28 x y))) h n := tc_det fun Q hq => by
  show tc_W 138 0 [.inl x, .inl y, tc_nil, tc_nil, tc_nil, tc_nil] [] _ _ Q
  repeat' (first | (simp (disch := first | omega | exact Nat.le_of_ble_eq_true rfl | exact rfl | assumption | (simp (disch := omega) only [fr_ne, fr_same]; first | assumption | omega)) only [r138_0, r138_1i, r138_2, r138_3i, r138_4, r138_5i, r138_9, r138_14, r138_18, r138_19, r138_20, r138_21i, r138_23, r138_24i, r138_25, r138_27i, r138_28i, r138_31, r138_34, r138_35, il_s, bl_s, bl_z, ll_s, is_s, bs_s, bs_z, ls_s, al_s, al_b, al_l, fr_ne, fr_same, fr_fr, Nat.reduceEqDiff, tc_gf3_s, tc_ql2_s, tc_ws_0, tc_ws_i, tc_ws_l, tc_ws_r, Nat.reduceLeDiff, Nat.reduceAdd, Nat.reduceLT, true_and, and_true, if_true, if_false, tc_K, Option.toList_some, Option.toList_none, List.nil_append, List.cons_append, ite_true, ite_false, Int.cast_ofNat_Int, reduceIte, i3_add_eq, i3_sub_eq, Int.add_sub_cancel, Int.add_neg_cancel_right]) | (simp only [r138_11, r138_15, i6_lt0, i6_0lt, i6_0le, i6_le0, i6_eq0, b10_0, ite_not, Int.reduceLT, Int.reduceLE, Int.reduceEq, Int.reduceNeg, if_true, if_false, ite_true, ite_false, reduceIte, eq_self, not_true, not_false_eq_true]; try refine tc_ite (fun _ => ?_) (fun _ => ?_) <;> try (exfalso; omega)))
  exact c138_l 28 x y 0 tc_nil hx.1 (by omega) (by omega) hy.1 (by omega) (by omega) (by omega) hq
theorem c155 (hSh : ShoS L sh s) (hb : WB b) (hB : SHO b s c) {w x : Int} (hw : 0 ≤ w ∧ w < 2147483648) (hx : 0 ≤ x ∧ x < 2147483648) : tc_C 155 [rf s, .inl w, .inl (x / 65536)] (hp L sh c) n Q = Q (some (.inl (dfo b w x))) (hp L sh c) n := tc_det fun Q hq => by
  show tc_W 155 0 [rf s, .inl w, .inl (x / 65536), tc_nil, tc_nil, tc_nil] [] _ _ Q
  obtain ⟨o5, o6, o7⟩ := hB.2.2.2.2.1
  obtain ⟨q1, q2, q3, q4, q5, q6, q7⟩ := hb.2.2.1
  have h76 := fun Q => c76b (c := c) (n := n) (Q := Q) hSh hb hB hw
  have htf := tof_rng hb w
  unfold dfo at hq
  have hz := Int.emod_nonneg (x / 65536) (by omega : b 0 5 + b 0 6 + b 0 7 ≠ 0)
  have hz2 := Int.emod_lt_of_pos (x / 65536) (by omega : 0 < b 0 5 + b 0 6 + b 0 7)
  have erm : i3_rem (x / 65536) (b 0 5 + b 0 6 + b 0 7) = x / 65536 % (b 0 5 + b 0 6 + b 0 7) := i3_rem_nn (by omega) (by omega) (by omega) (by omega)
  generalize x / 65536 % (b 0 5 + b 0 6 + b 0 7) = z at hq hz hz2 erm
  generalize tof b w = T at hq h76 htf
  by_cases h1 : z < b 0 5
  · rw [if_pos h1] at hq
    have ev : (if 0 < T - 1 then T - 1 else 0) = (if 0 < T then T - 1 else 0) := by
      repeat' split
      all_goals omega
    rw [← ev] at hq
    repeat' (first | (simp (disch := first | omega | exact Nat.le_of_ble_eq_true rfl | exact rfl | assumption | (simp (disch := omega) only [fr_ne, fr_same]; first | assumption | omega)) only [r155_0, r155_1, r155_2, v155_2_8, r155_5i, r155_6, r155_7, r155_10, r155_11, r155_12, r155_13, r155_16, r155_17, r155_18, r155_19, r155_20, r155_23, r155_24, r155_25, r155_26i, r155_28, r155_33, r155_34, r155_37, r155_38, r155_40, r155_41i, r155_43, r155_45, r155_46, r155_49, r155_50, r155_54, r155_55, r155_56, r155_57, r155_58, r155_61, r155_62, r155_64, r155_65, r155_68, r155_69, r155_70, r155_71, r155_74, r155_75, r155_76, r155_80, r155_81, r155_84, r155_85, r155_86, r155_87, g8_43_8, o8_len, o8_g10, il_s, bl_s, bl_z, ll_s, is_s, bs_s, bs_z, ls_s, al_s, al_b, al_l, fr_ne, fr_same, fr_fr, Nat.reduceEqDiff, tc_gf3_s, tc_ql2_s, tc_ws_0, tc_ws_i, tc_ws_l, tc_ws_r, Nat.reduceLeDiff, Nat.reduceAdd, Nat.reduceLT, true_and, and_true, if_true, if_false, tc_K, Option.toList_some, Option.toList_none, List.nil_append, List.cons_append, ite_true, ite_false, Int.cast_ofNat_Int, reduceIte, i3_add_eq, i3_sub_eq, Int.add_sub_cancel, Int.add_neg_cancel_right, ShoS_g0 hSh, ShoS_s0 hSh, ShoS_g1 hSh, ShoS_s1 hSh, ShoS_g2 hSh, ShoS_s2 hSh, ShoS_g3 hSh, ShoS_s3 hSh, ShoS_g4 hSh, ShoS_s4 hSh, ShoS_g5 hSh, ShoS_s5 hSh, ShoS_g6 hSh, ShoS_s6 hSh, ShoS_g7 hSh, ShoS_s7 hSh, h76, o5, o6, o7, erm]) | (simp only [r155_30, r155_51, r155_77, i6_lt0, i6_0lt, i6_0le, i6_le0, i6_eq0, b10_0, ite_not, Int.reduceLT, Int.reduceLE, Int.reduceEq, Int.reduceNeg, if_true, if_false, ite_true, ite_false, reduceIte, eq_self, not_true, not_false_eq_true]; try refine tc_ite (fun _ => ?_) (fun _ => ?_) <;> try (exfalso; omega)))
    all_goals first
      | exact hq
      | omega
  · rw [if_neg h1] at hq
    by_cases h2 : z < b 0 5 + b 0 6
    · rw [if_pos h2] at hq
      repeat' (first | (simp (disch := first | omega | exact Nat.le_of_ble_eq_true rfl | exact rfl | assumption | (simp (disch := omega) only [fr_ne, fr_same]; first | assumption | omega)) only [r155_0, r155_1, r155_2, v155_2_8, r155_5i, r155_6, r155_7, r155_10, r155_11, r155_12, r155_13, r155_16, r155_17, r155_18, r155_19, r155_20, r155_23, r155_24, r155_25, r155_26i, r155_28, r155_33, r155_34, r155_37, r155_38, r155_40, r155_41i, r155_43, r155_45, r155_46, r155_49, r155_50, r155_54, r155_55, r155_56, r155_57, r155_58, r155_61, r155_62, r155_64, r155_65, r155_68, r155_69, r155_70, r155_71, r155_74, r155_75, r155_76, r155_80, r155_81, r155_84, r155_85, r155_86, r155_87, g8_43_8, o8_len, o8_g10, il_s, bl_s, bl_z, ll_s, is_s, bs_s, bs_z, ls_s, al_s, al_b, al_l, fr_ne, fr_same, fr_fr, Nat.reduceEqDiff, tc_gf3_s, tc_ql2_s, tc_ws_0, tc_ws_i, tc_ws_l, tc_ws_r, Nat.reduceLeDiff, Nat.reduceAdd, Nat.reduceLT, true_and, and_true, if_true, if_false, tc_K, Option.toList_some, Option.toList_none, List.nil_append, List.cons_append, ite_true, ite_false, Int.cast_ofNat_Int, reduceIte, i3_add_eq, i3_sub_eq, Int.add_sub_cancel, Int.add_neg_cancel_right, ShoS_g0 hSh, ShoS_s0 hSh, ShoS_g1 hSh, ShoS_s1 hSh, ShoS_g2 hSh, ShoS_s2 hSh, ShoS_g3 hSh, ShoS_s3 hSh, ShoS_g4 hSh, ShoS_s4 hSh, ShoS_g5 hSh, ShoS_s5 hSh, ShoS_g6 hSh, ShoS_s6 hSh, ShoS_g7 hSh, ShoS_s7 hSh, h76, o5, o6, o7, erm]) | (simp only [r155_30, r155_51, r155_77, i6_lt0, i6_0lt, i6_0le, i6_le0, i6_eq0, b10_0, ite_not, Int.reduceLT, Int.reduceLE, Int.reduceEq, Int.reduceNeg, if_true, if_false, ite_true, ite_false, reduceIte, eq_self, not_true, not_false_eq_true]; try refine tc_ite (fun _ => ?_) (fun _ => ?_) <;> try (exfalso; omega)))
      all_goals first
        | exact hq
        | omega
    · rw [if_neg h2] at hq
      repeat' (first | (simp (disch := first | omega | exact Nat.le_of_ble_eq_true rfl | exact rfl | assumption | (simp (disch := omega) only [fr_ne, fr_same]; first | assumption | omega)) only [r155_0, r155_1, r155_2, v155_2_8, r155_5i, r155_6, r155_7, r155_10, r155_11, r155_12, r155_13, r155_16, r155_17, r155_18, r155_19, r155_20, r155_23, r155_24, r155_25, r155_26i, r155_28, r155_33, r155_34, r155_37, r155_38, r155_40, r155_41i, r155_43, r155_45, r155_46, r155_49, r155_50, r155_54, r155_55, r155_56, r155_57, r155_58, r155_61, r155_62, r155_64, r155_65, r155_68, r155_69, r155_70, r155_71, r155_74, r155_75, r155_76, r155_80, r155_81, r155_84, r155_85, r155_86, r155_87, g8_43_8, o8_len, o8_g10, il_s, bl_s, bl_z, ll_s, is_s, bs_s, bs_z, ls_s, al_s, al_b, al_l, fr_ne, fr_same, fr_fr, Nat.reduceEqDiff, tc_gf3_s, tc_ql2_s, tc_ws_0, tc_ws_i, tc_ws_l, tc_ws_r, Nat.reduceLeDiff, Nat.reduceAdd, Nat.reduceLT, true_and, and_true, if_true, if_false, tc_K, Option.toList_some, Option.toList_none, List.nil_append, List.cons_append, ite_true, ite_false, Int.cast_ofNat_Int, reduceIte, i3_add_eq, i3_sub_eq, Int.add_sub_cancel, Int.add_neg_cancel_right, ShoS_g0 hSh, ShoS_s0 hSh, ShoS_g1 hSh, ShoS_s1 hSh, ShoS_g2 hSh, ShoS_s2 hSh, ShoS_g3 hSh, ShoS_s3 hSh, ShoS_g4 hSh, ShoS_s4 hSh, ShoS_g5 hSh, ShoS_s5 hSh, ShoS_g6 hSh, ShoS_s6 hSh, ShoS_g7 hSh, ShoS_s7 hSh, h76, o5, o6, o7, erm]) | (simp only [r155_30, r155_51, r155_77, i6_lt0, i6_0lt, i6_0le, i6_le0, i6_eq0, b10_0, ite_not, Int.reduceLT, Int.reduceLE, Int.reduceEq, Int.reduceNeg, if_true, if_false, ite_true, ite_false, reduceIte, eq_self, not_true, not_false_eq_true]; try refine tc_ite (fun _ => ?_) (fun _ => ?_) <;> try (exfalso; omega)))
      all_goals first
        | exact hq
        | omega
theorem c143 (hG : LogS L sh lg) {m w x h : Int} (hm : 0 ≤ m ∧ m ≤ 10) (h3 : c lg 3 = m) : tc_C 143 [rf lg, .inl w, .inl x, .inl h] (hp L sh c) n Q = (if m = 10 then Q (some (.inl 0)) (hp L sh c) n else Q (some (.inl 1)) (hp L sh (fr (fr (fr (fr c (lg + 1) (fu (c (lg + 1)) m w)) (lg + 2) (fu (c (lg + 2)) m x)) (lg + 3) (fu (c (lg + 3)) m h)) lg (fu (c lg) 3 (m + 1)))) n) := by
  by_cases h10 : m = 10
  · rw [if_pos h10]
    refine tc_det fun Q hq => ?_
    show tc_W 143 0 [rf lg, .inl w, .inl x, .inl h] [] _ _ Q
    repeat' (first | (simp (disch := first | omega | exact Nat.le_of_ble_eq_true rfl | exact rfl | assumption | (simp (disch := omega) only [fr_ne, fr_same]; first | assumption | omega)) only [r143_0, r143_1, r143_4, r143_9, r143_10h, r143_10f, r143_10t, r143_11, r143_12, r143_15, r143_16, r143_19, r143_20, r143_21, r143_22, r143_25, r143_26, r143_29, r143_30, r143_31, r143_32, r143_35, r143_36, r143_39, r143_40, r143_41, r143_42, r143_42A, r143_43, r143_46, r143_47, r143_48, r143_51, r143_52h, r143_52f, r143_52t, g3_21_3, g3_9_3, g3_15_3, g3_18_3, p3_21_3, o3_len, o3_g3, o3_g0, o3_g1, o3_g2, o3_s3, il_s, bl_s, bl_z, ll_s, is_s, bs_s, bs_z, ls_s, al_s, al_b, al_l, fr_ne, fr_same, fr_fr, Nat.reduceEqDiff, tc_gf3_s, tc_ql2_s, tc_ws_0, tc_ws_i, tc_ws_l, tc_ws_r, Nat.reduceLeDiff, Nat.reduceAdd, Nat.reduceLT, true_and, and_true, if_true, if_false, tc_K, Option.toList_some, Option.toList_none, List.nil_append, List.cons_append, ite_true, ite_false, Int.cast_ofNat_Int, reduceIte, i3_add_eq, i3_sub_eq, Int.add_sub_cancel, Int.add_neg_cancel_right, LogS_g0 hG, LogS_s0 hG, LogS_g1 hG, LogS_s1 hG, LogS_g2 hG, LogS_s2 hG, LogS_g3 hG, LogS_s3 hG, h3]) | (simp only [r143_6, i6_lt0, i6_0lt, i6_0le, i6_le0, i6_eq0, b10_0, ite_not, Int.reduceLT, Int.reduceLE, Int.reduceEq, Int.reduceNeg, if_true, if_false, ite_true, ite_false, reduceIte, eq_self, not_true, not_false_eq_true]; try refine tc_ite (fun _ => ?_) (fun _ => ?_) <;> try (exfalso; omega)))
    all_goals first
      | exact hq
      | omega
  · rw [if_neg h10]
    refine tc_det fun Q hq => ?_
    show tc_W 143 0 [rf lg, .inl w, .inl x, .inl h] [] _ _ Q
    repeat' (first | (simp (disch := first | omega | exact Nat.le_of_ble_eq_true rfl | exact rfl | assumption | (simp (disch := omega) only [fr_ne, fr_same]; first | assumption | omega)) only [r143_0, r143_1, r143_4, r143_9, r143_10h, r143_10f, r143_10t, r143_11, r143_12, r143_15, r143_16, r143_19, r143_20, r143_21, r143_22, r143_25, r143_26, r143_29, r143_30, r143_31, r143_32, r143_35, r143_36, r143_39, r143_40, r143_41, r143_42, r143_42A, r143_43, r143_46, r143_47, r143_48, r143_51, r143_52h, r143_52f, r143_52t, g3_21_3, g3_9_3, g3_15_3, g3_18_3, p3_21_3, o3_len, o3_g3, o3_g0, o3_g1, o3_g2, o3_s3, il_s, bl_s, bl_z, ll_s, is_s, bs_s, bs_z, ls_s, al_s, al_b, al_l, fr_ne, fr_same, fr_fr, Nat.reduceEqDiff, tc_gf3_s, tc_ql2_s, tc_ws_0, tc_ws_i, tc_ws_l, tc_ws_r, Nat.reduceLeDiff, Nat.reduceAdd, Nat.reduceLT, true_and, and_true, if_true, if_false, tc_K, Option.toList_some, Option.toList_none, List.nil_append, List.cons_append, ite_true, ite_false, Int.cast_ofNat_Int, reduceIte, i3_add_eq, i3_sub_eq, Int.add_sub_cancel, Int.add_neg_cancel_right, LogS_g0 hG, LogS_s0 hG, LogS_g1 hG, LogS_s1 hG, LogS_g2 hG, LogS_s2 hG, LogS_g3 hG, LogS_s3 hG, h3]) | (simp only [r143_6, i6_lt0, i6_0lt, i6_0le, i6_le0, i6_eq0, b10_0, ite_not, Int.reduceLT, Int.reduceLE, Int.reduceEq, Int.reduceNeg, if_true, if_false, ite_true, ite_false, reduceIte, eq_self, not_true, not_false_eq_true]; try refine tc_ite (fun _ => ?_) (fun _ => ?_) <;> try (exfalso; omega)))
    all_goals first
      | exact hq
      | omega
theorem c151 (h26 : sh 26 = (6, 10, [some 27, some 28, some 29, some 48, some 49, some 56, some 60, some 69, some 70, some 74])) (h74 : sh 74 = (0, 250, [])) (hL74 : 74 < L) {A : Int → Int} {x : Int} (hx : 0 ≤ x ∧ x < 25) (hA : ∀ h, 0 ≤ h → h < 10 → c 74 (10 * x + h) = A h) : tc_C 151 [rf 26, .inl x] (hp L sh c) n Q = Q (some (.inl (mx A 10))) (hp L sh c) n := tc_det fun Q hq => by
  have hL26 : 26 < L := by omega
  show tc_W 151 0 [rf 26, .inl x, tc_nil, tc_nil] [] _ _ Q
  repeat' (first | (simp (disch := first | omega | exact Nat.le_of_ble_eq_true rfl | exact rfl | assumption | (simp (disch := omega) only [fr_ne, fr_same]; first | assumption | omega)) only [r151_0, r151_1i, r151_2, r151_3i, r151_5, r151_10, r151_11, r151_12, r151_15, r151_17, r151_18, r151_19, r151_20, r151_21, r151_22, r151_25i, r151_26i, r151_29, r151_32, r151_33, g10_77_10, o10_len, o10_g11, il_s, bl_s, bl_z, ll_s, is_s, bs_s, bs_z, ls_s, al_s, al_b, al_l, fr_ne, fr_same, fr_fr, Nat.reduceEqDiff, tc_gf3_s, tc_ql2_s, tc_ws_0, tc_ws_i, tc_ws_l, tc_ws_r, Nat.reduceLeDiff, Nat.reduceAdd, Nat.reduceLT, true_and, and_true, if_true, if_false, tc_K, Option.toList_some, Option.toList_none, List.nil_append, List.cons_append, ite_true, ite_false, Int.cast_ofNat_Int, reduceIte, i3_add_eq, i3_sub_eq, Int.add_sub_cancel, Int.add_neg_cancel_right]) | (simp only [r151_7, i6_lt0, i6_0lt, i6_0le, i6_le0, i6_eq0, b10_0, ite_not, Int.reduceLT, Int.reduceLE, Int.reduceEq, Int.reduceNeg, if_true, if_false, ite_true, ite_false, reduceIte, eq_self, not_true, not_false_eq_true]; try refine tc_ite (fun _ => ?_) (fun _ => ?_) <;> try (exfalso; omega)))
  refine up (N := 10) (P := fun h => tc_W 151 4 [rf 26, .inl x, .inl (mx A h), .inl (h : Int)] [] (hp L sh c) n Q) ?_ ?_
  · intro h hh ih
    have e : mx A (h + 1) = if mx A h < A h then A h else mx A h := rfl
    have e3 := hA h (by omega) (by omega)
    rw [e] at ih
    simp only [r151_4]
    repeat' (first | (simp (disch := first | omega | exact Nat.le_of_ble_eq_true rfl | exact rfl | assumption | (simp (disch := omega) only [fr_ne, fr_same]; first | assumption | omega)) only [r151_0, r151_1i, r151_2, r151_3i, r151_5, r151_10, r151_11, r151_12, r151_15, r151_17, r151_18, r151_19, r151_20, r151_21, r151_22, r151_25i, r151_26i, r151_29, r151_32, r151_33, g10_77_10, o10_len, o10_g11, il_s, bl_s, bl_z, ll_s, is_s, bs_s, bs_z, ls_s, al_s, al_b, al_l, fr_ne, fr_same, fr_fr, Nat.reduceEqDiff, tc_gf3_s, tc_ql2_s, tc_ws_0, tc_ws_i, tc_ws_l, tc_ws_r, Nat.reduceLeDiff, Nat.reduceAdd, Nat.reduceLT, true_and, and_true, if_true, if_false, tc_K, Option.toList_some, Option.toList_none, List.nil_append, List.cons_append, ite_true, ite_false, Int.cast_ofNat_Int, reduceIte, i3_add_eq, i3_sub_eq, Int.add_sub_cancel, Int.add_neg_cancel_right, hO hL26 h26, hI hL74 h74, i3_mul_eq, e3]) | (simp only [r151_7, i6_lt0, i6_0lt, i6_0le, i6_le0, i6_eq0, b10_0, ite_not, Int.reduceLT, Int.reduceLE, Int.reduceEq, Int.reduceNeg, if_true, if_false, ite_true, ite_false, reduceIte, eq_self, not_true, not_false_eq_true]; try refine tc_ite (fun _ => ?_) (fun _ => ?_) <;> try (exfalso; omega)))
    exact ih
  · simp only [r151_4]
    repeat' (first | (simp (disch := first | omega | exact Nat.le_of_ble_eq_true rfl | exact rfl | assumption | (simp (disch := omega) only [fr_ne, fr_same]; first | assumption | omega)) only [r151_0, r151_1i, r151_2, r151_3i, r151_5, r151_10, r151_11, r151_12, r151_15, r151_17, r151_18, r151_19, r151_20, r151_21, r151_22, r151_25i, r151_26i, r151_29, r151_32, r151_33, g10_77_10, o10_len, o10_g11, il_s, bl_s, bl_z, ll_s, is_s, bs_s, bs_z, ls_s, al_s, al_b, al_l, fr_ne, fr_same, fr_fr, Nat.reduceEqDiff, tc_gf3_s, tc_ql2_s, tc_ws_0, tc_ws_i, tc_ws_l, tc_ws_r, Nat.reduceLeDiff, Nat.reduceAdd, Nat.reduceLT, true_and, and_true, if_true, if_false, tc_K, Option.toList_some, Option.toList_none, List.nil_append, List.cons_append, ite_true, ite_false, Int.cast_ofNat_Int, reduceIte, i3_add_eq, i3_sub_eq, Int.add_sub_cancel, Int.add_neg_cancel_right]) | (simp only [r151_7, i6_lt0, i6_0lt, i6_0le, i6_le0, i6_eq0, b10_0, ite_not, Int.reduceLT, Int.reduceLE, Int.reduceEq, Int.reduceNeg, if_true, if_false, ite_true, ite_false, reduceIte, eq_self, not_true, not_false_eq_true]; try refine tc_ite (fun _ => ?_) (fun _ => ?_) <;> try (exfalso; omega)))
    exact hq
end SMALLC

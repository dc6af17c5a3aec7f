/-! the reference: when flags fall -/
/-- whether a flag falls by a wave of a force -/
noncomputable def flb (b s : Nat → Int → Int) (la : Option Law) (f F : Int) : Int := if stp b s la F 3 f = -1 then 0 else 1
/-- the greatest force that is borne -/
def bnx (g : Int → Int) : Nat → Int → Int
  | 0, _ => 40
  | m + 1, k => if g k = 0 then bnx g m (k + 1) else k - 1
/-- Euclid's -/
def eu : Nat → Int → Int → Int
  | 0, _, y => y
  | m + 1, x, y => if x = 0 then y else eu m (y % x) x
theorem eu_st : ∀ (m k : Nat) (x y : Int), 0 ≤ x → x < m → x < k → eu m x y = eu k x y := by
  intro m
  induction m with
  | zero => intro k x y h0 h1 h2; omega
  | succ m ih =>
    intro k x y h0 h1 h2
    cases k with
    | zero => omega
    | succ k =>
      unfold eu
      by_cases hx : x = 0
      · rw [if_pos hx, if_pos hx]
      · rw [if_neg hx, if_neg hx]
        have h3 := Int.emod_nonneg y hx
        have h4 := Int.emod_lt_of_pos y (by omega : 0 < x)
        exact ih k _ _ h3 (by omega) (by omega)
theorem eu_rng : ∀ (m : Nat) (x y : Int), 0 ≤ x → 0 < y → 0 < eu m x y ∧ (eu m x y ≤ y ∨ eu m x y ≤ x) := by
  intro m
  induction m with
  | zero => intro x y h0 h1; exact ⟨h1, Or.inl (Int.le_refl y)⟩
  | succ m ih =>
    intro x y h0 h1
    unfold eu
    by_cases hx : x = 0
    · rw [if_pos hx]
      omega
    · rw [if_neg hx]
      have h3 := Int.emod_nonneg y hx
      have h4 := Int.emod_lt_of_pos y (by omega : 0 < x)
      have h5 := ih (y % x) x h3 (by omega)
      omega
noncomputable def oab (b s : Nat → Int → Int) (la : Option Law) (f F : Int) : Int := (if flb b s la f (if 0 < F then F - 1 else 0) = 0 then 0 else b 0 5) + (if flb b s la f F = 0 then 0 else b 0 6) + (if flb b s la f (F + 1) = 0 then 0 else b 0 7)
section MOD11
variable {L : Nat} {sh : Nat → SH} {c : Nat → Int → Int} {n : Nat} {Q : Option AV → List SC → Nat → Prop}
theorem flb_01 (b s : Nat → Int → Int) (la : Option Law) (f F : Int) : flb b s la f F = 0 ∨ flb b s la f F = 1 := by
  unfold flb
  split <;> omega
theorem c247_l (hS : MS L sh) (hb : WB (bm c)) {f : Int} (hf : 0 ≤ f ∧ f < c 76 2) (hf6 : c 76 2 ≤ 6) (hla : LF c) : ∀ (m : Nat) (k : Int) (d : Nat → Int → Int) (t : Nat → Int → Int), 0 ≤ k → k + m = 60 → QG c d → d 76 12 = c 76 12 → WS (bm c) t → SEq (bm c) (pm d) t → t 3 f = -1 → t 4 0 + m ≤ 900 → (∀ e, QR c e → Q (some (.inl (fls (bm c) (lm c) f m t))) (hp L sh e) n) → tc_W 247 29 [rf 75, .inl f, .inl k] [] (hp L sh d) n Q := by
  intro m
  induction m with
  | zero =>
    intro k d t hk hk2 hd h12 ht he h3 h9 hq
    have v : d 82 f = -1 := ((he.2.1 f hf.1 hf.2).2).trans h3
    simp only [r247_29]
    repeat' (first | (simp (disch := first | omega | exact Nat.le_of_ble_eq_true rfl | exact rfl | assumption | (simp only [fr_at, Nat.reduceEqDiff, if_false, if_true, reduceIte]; first | assumption | omega)) only [r247_0, r247_1, r247_2, v247_2_11, r247_8, r247_9, r247_10, r247_11, r247_14, r247_15, r247_16, r247_20, r247_22, r247_23, r247_24, v247_24_11, r247_27, r247_28i, r247_30, r247_35, r247_36, r247_39, r247_40, r247_41, r247_45, r247_46, r247_47, v247_47_11, r247_50, v247_50_11, r247_53, r247_53A, r247_54i, r247_57, r247_60, r247_61, r247_64, r247_65, r247_66, r247_70, r247_72, r247_75, r247_76, r247_79, r247_80, r247_81i, r247_82, r247_83, v247_83_11, r247_86, r247_87, g11_28_11, mo_len, ms75 hS, mt75 hS, mo_g7, ms82 hS, mt82 hS, il_s, bl_s, bl_z, ll_s, is_s, bs_s, bs_z, ls_s, al_s, al_b, al_l, fr_at, fr_fr, Nat.reduceEqDiff, tc_gf3_s, tc_ql2_s, tc_ws_0, tc_ws_i, tc_ws_l, tc_ws_r, Nat.reduceLeDiff, Nat.reduceAdd, Nat.reduceLT, true_and, and_true, if_true, if_false, tc_K, Option.toList_some, Option.toList_none, List.nil_append, List.cons_append, ite_true, ite_false, Int.cast_ofNat_Int, reduceIte, i3_add_eq, i3_sub_eq, Int.add_sub_cancel, Int.add_neg_cancel_right, v]) | (simp only [r247_5, r247_17, r247_32, r247_42, r247_67, i6_lt0, i6_0lt, i6_0le, i6_le0, i6_eq0, b10_0, ite_not, Int.reduceLT, Int.reduceLE, Int.reduceEq, Int.reduceNeg, if_true, if_false, ite_true, ite_false, reduceIte, eq_self, not_true, not_false_eq_true]; try refine tc_ite (fun _ => ?_) (fun _ => ?_) <;> try (exfalso; omega)))
    refine c246q (c := c) hS hd ?_
    intro e3 h6 h7
    repeat' (first | (simp (disch := first | omega | exact Nat.le_of_ble_eq_true rfl | exact rfl | assumption | (simp only [fr_at, Nat.reduceEqDiff, if_false, if_true, reduceIte]; first | assumption | omega)) only [r247_0, r247_1, r247_2, v247_2_11, r247_8, r247_9, r247_10, r247_11, r247_14, r247_15, r247_16, r247_20, r247_22, r247_23, r247_24, v247_24_11, r247_27, r247_28i, r247_30, r247_35, r247_36, r247_39, r247_40, r247_41, r247_45, r247_46, r247_47, v247_47_11, r247_50, v247_50_11, r247_53, r247_53A, r247_54i, r247_57, r247_60, r247_61, r247_64, r247_65, r247_66, r247_70, r247_72, r247_75, r247_76, r247_79, r247_80, r247_81i, r247_82, r247_83, v247_83_11, r247_86, r247_87, g11_28_11, mo_len, ms75 hS, mt75 hS, mo_g7, ms82 hS, mt82 hS, il_s, bl_s, bl_z, ll_s, is_s, bs_s, bs_z, ls_s, al_s, al_b, al_l, fr_at, fr_fr, Nat.reduceEqDiff, tc_gf3_s, tc_ql2_s, tc_ws_0, tc_ws_i, tc_ws_l, tc_ws_r, Nat.reduceLeDiff, Nat.reduceAdd, Nat.reduceLT, true_and, and_true, if_true, if_false, tc_K, Option.toList_some, Option.toList_none, List.nil_append, List.cons_append, ite_true, ite_false, Int.cast_ofNat_Int, reduceIte, i3_add_eq, i3_sub_eq, Int.add_sub_cancel, Int.add_neg_cancel_right]) | (simp only [r247_5, r247_17, r247_32, r247_42, r247_67, i6_lt0, i6_0lt, i6_0le, i6_le0, i6_eq0, b10_0, ite_not, Int.reduceLT, Int.reduceLE, Int.reduceEq, Int.reduceNeg, if_true, if_false, ite_true, ite_false, reduceIte, eq_self, not_true, not_false_eq_true]; try refine tc_ite (fun _ => ?_) (fun _ => ?_) <;> try (exfalso; omega)))
    exact hq e3 h6
  | succ m ih =>
    intro k d t hk hk2 hd h12 ht he h3 h9 hq
    have v : d 82 f = -1 := ((he.2.1 f hf.1 hf.2).2).trans h3
    have v8 : d 76 8 = t 4 0 := he.2.2.1
    have ht4 := ht.2.2.2
    have h207 := fun Q => c207q (n := n) (Q := Q) hS hb hd v8 (by omega)
    have htf := tof_rng hb (t 4 0)
    have hld : lm d = lm c := lm_ext hd.lr h12
    have e1 : fls (bm c) (lm c) f (m + 1) t = if stp (bm c) t (lm c) (tof (bm c) (t 4 0)) 3 f = -1 then fls (bm c) (lm c) f m (stp (bm c) t (lm c) (tof (bm c) (t 4 0))) else stp (bm c) t (lm c) (tof (bm c) (t 4 0)) 3 f := rfl
    simp only [r247_29]
    repeat' (first | (simp (disch := first | omega | exact Nat.le_of_ble_eq_true rfl | exact rfl | assumption | (simp only [fr_at, Nat.reduceEqDiff, if_false, if_true, reduceIte]; first | assumption | omega)) only [r247_0, r247_1, r247_2, v247_2_11, r247_8, r247_9, r247_10, r247_11, r247_14, r247_15, r247_16, r247_20, r247_22, r247_23, r247_24, v247_24_11, r247_27, r247_28i, r247_30, r247_35, r247_36, r247_39, r247_40, r247_41, r247_45, r247_46, r247_47, v247_47_11, r247_50, v247_50_11, r247_53, r247_53A, r247_54i, r247_57, r247_60, r247_61, r247_64, r247_65, r247_66, r247_70, r247_72, r247_75, r247_76, r247_79, r247_80, r247_81i, r247_82, r247_83, v247_83_11, r247_86, r247_87, g11_28_11, mo_len, ms75 hS, mt75 hS, mo_g7, ms82 hS, mt82 hS, il_s, bl_s, bl_z, ll_s, is_s, bs_s, bs_z, ls_s, al_s, al_b, al_l, fr_at, fr_fr, Nat.reduceEqDiff, tc_gf3_s, tc_ql2_s, tc_ws_0, tc_ws_i, tc_ws_l, tc_ws_r, Nat.reduceLeDiff, Nat.reduceAdd, Nat.reduceLT, true_and, and_true, if_true, if_false, tc_K, Option.toList_some, Option.toList_none, List.nil_append, List.cons_append, ite_true, ite_false, Int.cast_ofNat_Int, reduceIte, i3_add_eq, i3_sub_eq, Int.add_sub_cancel, Int.add_neg_cancel_right, v, h207]) | (simp only [r247_5, r247_17, r247_32, r247_42, r247_67, i6_lt0, i6_0lt, i6_0le, i6_le0, i6_eq0, b10_0, ite_not, Int.reduceLT, Int.reduceLE, Int.reduceEq, Int.reduceNeg, if_true, if_false, ite_true, ite_false, reduceIte, eq_self, not_true, not_false_eq_true]; try refine tc_ite (fun _ => ?_) (fun _ => ?_) <;> try (exfalso; omega)))
    refine c224q (c := c) hS hb hd (LF_ext hd.lr h12 hla) ht he (by omega) (by omega) ?_
    intro e h4 h5 h6 h7
    rw [hld] at h7
    have h12e : e 76 12 = c 76 12 := (h6.2 12 (by omega) (by omega)).trans h12
    have hw2 : WS (bm c) (stp (bm c) t (lm c) (tof (bm c) (t 4 0))) := stp_ws hb ht (by omega)
    have v4 : stp (bm c) t (lm c) (tof (bm c) (t 4 0)) 4 0 = t 4 0 + 1 := rfl
    by_cases hfl : stp (bm c) t (lm c) (tof (bm c) (t 4 0)) 3 f = -1
    · rw [e1, if_pos hfl] at hq
      repeat' (first | (simp (disch := first | omega | exact Nat.le_of_ble_eq_true rfl | exact rfl | assumption | (simp only [fr_at, Nat.reduceEqDiff, if_false, if_true, reduceIte]; first | assumption | omega)) only [r247_0, r247_1, r247_2, v247_2_11, r247_8, r247_9, r247_10, r247_11, r247_14, r247_15, r247_16, r247_20, r247_22, r247_23, r247_24, v247_24_11, r247_27, r247_28i, r247_30, r247_35, r247_36, r247_39, r247_40, r247_41, r247_45, r247_46, r247_47, v247_47_11, r247_50, v247_50_11, r247_53, r247_53A, r247_54i, r247_57, r247_60, r247_61, r247_64, r247_65, r247_66, r247_70, r247_72, r247_75, r247_76, r247_79, r247_80, r247_81i, r247_82, r247_83, v247_83_11, r247_86, r247_87, g11_28_11, mo_len, ms75 hS, mt75 hS, mo_g7, ms82 hS, mt82 hS, il_s, bl_s, bl_z, ll_s, is_s, bs_s, bs_z, ls_s, al_s, al_b, al_l, fr_at, fr_fr, Nat.reduceEqDiff, tc_gf3_s, tc_ql2_s, tc_ws_0, tc_ws_i, tc_ws_l, tc_ws_r, Nat.reduceLeDiff, Nat.reduceAdd, Nat.reduceLT, true_and, and_true, if_true, if_false, tc_K, Option.toList_some, Option.toList_none, List.nil_append, List.cons_append, ite_true, ite_false, Int.cast_ofNat_Int, reduceIte, i3_add_eq, i3_sub_eq, Int.add_sub_cancel, Int.add_neg_cancel_right]) | (simp only [r247_5, r247_17, r247_32, r247_42, r247_67, i6_lt0, i6_0lt, i6_0le, i6_le0, i6_eq0, b10_0, ite_not, Int.reduceLT, Int.reduceLE, Int.reduceEq, Int.reduceNeg, if_true, if_false, ite_true, ite_false, reduceIte, eq_self, not_true, not_false_eq_true]; try refine tc_ite (fun _ => ?_) (fun _ => ?_) <;> try (exfalso; omega)))
      exact ih (k + 1) e _ (by omega) (by omega) h4 h12e hw2 h7 hfl (by omega) hq
    · rw [e1, if_neg hfl] at hq
      have v3 : e 82 f = stp (bm c) t (lm c) (tof (bm c) (t 4 0)) 3 f := (h7.2.1 f hf.1 hf.2).2
      repeat' (first | (simp (disch := first | omega | exact Nat.le_of_ble_eq_true rfl | exact rfl | assumption | (simp only [fr_at, Nat.reduceEqDiff, if_false, if_true, reduceIte]; first | assumption | omega)) only [r247_0, r247_1, r247_2, v247_2_11, r247_8, r247_9, r247_10, r247_11, r247_14, r247_15, r247_16, r247_20, r247_22, r247_23, r247_24, v247_24_11, r247_27, r247_28i, r247_30, r247_35, r247_36, r247_39, r247_40, r247_41, r247_45, r247_46, r247_47, v247_47_11, r247_50, v247_50_11, r247_53, r247_53A, r247_54i, r247_57, r247_60, r247_61, r247_64, r247_65, r247_66, r247_70, r247_72, r247_75, r247_76, r247_79, r247_80, r247_81i, r247_82, r247_83, v247_83_11, r247_86, r247_87, g11_28_11, mo_len, ms75 hS, mt75 hS, mo_g7, ms82 hS, mt82 hS, il_s, bl_s, bl_z, ll_s, is_s, bs_s, bs_z, ls_s, al_s, al_b, al_l, fr_at, fr_fr, Nat.reduceEqDiff, tc_gf3_s, tc_ql2_s, tc_ws_0, tc_ws_i, tc_ws_l, tc_ws_r, Nat.reduceLeDiff, Nat.reduceAdd, Nat.reduceLT, true_and, and_true, if_true, if_false, tc_K, Option.toList_some, Option.toList_none, List.nil_append, List.cons_append, ite_true, ite_false, Int.cast_ofNat_Int, reduceIte, i3_add_eq, i3_sub_eq, Int.add_sub_cancel, Int.add_neg_cancel_right]) | (simp only [r247_5, r247_17, r247_32, r247_42, r247_67, i6_lt0, i6_0lt, i6_0le, i6_le0, i6_eq0, b10_0, ite_not, Int.reduceLT, Int.reduceLE, Int.reduceEq, Int.reduceNeg, if_true, if_false, ite_true, ite_false, reduceIte, eq_self, not_true, not_false_eq_true]; try refine tc_ite (fun _ => ?_) (fun _ => ?_) <;> try (exfalso; omega)))
      simp only [r247_29]
      have hw3 := hw2.2.2.1 f hf.1 hf.2
      generalize stp (bm c) t (lm c) (tof (bm c) (t 4 0)) 3 f = z at v3 hfl hq hw3
      repeat' (first | (simp (disch := first | omega | exact Nat.le_of_ble_eq_true rfl | exact rfl | assumption | (simp only [fr_at, Nat.reduceEqDiff, if_false, if_true, reduceIte]; first | assumption | omega)) only [r247_0, r247_1, r247_2, v247_2_11, r247_8, r247_9, r247_10, r247_11, r247_14, r247_15, r247_16, r247_20, r247_22, r247_23, r247_24, v247_24_11, r247_27, r247_28i, r247_30, r247_35, r247_36, r247_39, r247_40, r247_41, r247_45, r247_46, r247_47, v247_47_11, r247_50, v247_50_11, r247_53, r247_53A, r247_54i, r247_57, r247_60, r247_61, r247_64, r247_65, r247_66, r247_70, r247_72, r247_75, r247_76, r247_79, r247_80, r247_81i, r247_82, r247_83, v247_83_11, r247_86, r247_87, g11_28_11, mo_len, ms75 hS, mt75 hS, mo_g7, ms82 hS, mt82 hS, il_s, bl_s, bl_z, ll_s, is_s, bs_s, bs_z, ls_s, al_s, al_b, al_l, fr_at, fr_fr, Nat.reduceEqDiff, tc_gf3_s, tc_ql2_s, tc_ws_0, tc_ws_i, tc_ws_l, tc_ws_r, Nat.reduceLeDiff, Nat.reduceAdd, Nat.reduceLT, true_and, and_true, if_true, if_false, tc_K, Option.toList_some, Option.toList_none, List.nil_append, List.cons_append, ite_true, ite_false, Int.cast_ofNat_Int, reduceIte, i3_add_eq, i3_sub_eq, Int.add_sub_cancel, Int.add_neg_cancel_right, v3]) | (simp only [r247_5, r247_17, r247_32, r247_42, r247_67, i6_lt0, i6_0lt, i6_0le, i6_le0, i6_eq0, b10_0, ite_not, Int.reduceLT, Int.reduceLE, Int.reduceEq, Int.reduceNeg, if_true, if_false, ite_true, ite_false, reduceIte, eq_self, not_true, not_false_eq_true]; try refine tc_ite (fun _ => ?_) (fun _ => ?_) <;> try (exfalso; omega)))
      all_goals
        refine c246q (c := c) hS h4 ?_
        intro e3 h8 h9
        repeat' (first | (simp (disch := first | omega | exact Nat.le_of_ble_eq_true rfl | exact rfl | assumption | (simp only [fr_at, Nat.reduceEqDiff, if_false, if_true, reduceIte]; first | assumption | omega)) only [r247_0, r247_1, r247_2, v247_2_11, r247_8, r247_9, r247_10, r247_11, r247_14, r247_15, r247_16, r247_20, r247_22, r247_23, r247_24, v247_24_11, r247_27, r247_28i, r247_30, r247_35, r247_36, r247_39, r247_40, r247_41, r247_45, r247_46, r247_47, v247_47_11, r247_50, v247_50_11, r247_53, r247_53A, r247_54i, r247_57, r247_60, r247_61, r247_64, r247_65, r247_66, r247_70, r247_72, r247_75, r247_76, r247_79, r247_80, r247_81i, r247_82, r247_83, v247_83_11, r247_86, r247_87, g11_28_11, mo_len, ms75 hS, mt75 hS, mo_g7, ms82 hS, mt82 hS, il_s, bl_s, bl_z, ll_s, is_s, bs_s, bs_z, ls_s, al_s, al_b, al_l, fr_at, fr_fr, Nat.reduceEqDiff, tc_gf3_s, tc_ql2_s, tc_ws_0, tc_ws_i, tc_ws_l, tc_ws_r, Nat.reduceLeDiff, Nat.reduceAdd, Nat.reduceLT, true_and, and_true, if_true, if_false, tc_K, Option.toList_some, Option.toList_none, List.nil_append, List.cons_append, ite_true, ite_false, Int.cast_ofNat_Int, reduceIte, i3_add_eq, i3_sub_eq, Int.add_sub_cancel, Int.add_neg_cancel_right]) | (simp only [r247_5, r247_17, r247_32, r247_42, r247_67, i6_lt0, i6_0lt, i6_0le, i6_le0, i6_eq0, b10_0, ite_not, Int.reduceLT, Int.reduceLE, Int.reduceEq, Int.reduceNeg, if_true, if_false, ite_true, ite_false, reduceIte, eq_self, not_true, not_false_eq_true]; try refine tc_ite (fun _ => ?_) (fun _ => ?_) <;> try (exfalso; omega)))
        exact hq e3 h8
theorem c247 (hS : MS L sh) (hb : WB (bm c)) (hw : WS (bm c) (pm c)) (hla : LF c) (h9 : c 76 8 ≤ 700) {f : Int} (hf : 0 ≤ f ∧ f < c 76 2) (h3 : c 82 f = -1)
    (hq : ∀ e, QR c e → Q (some (.inl (fls (bm c) (lm c) f 60 (pm c)))) (hp L sh e) n) : tc_C 247 [rf 75, .inl f] (hp L sh c) n Q := by
  show tc_W 247 0 [rf 75, .inl f, tc_nil] [] _ _ Q
  obtain ⟨hd, hbd⟩ := hb.dm
  have hd2 := hd.2
  repeat' (first | (simp (disch := first | omega | exact Nat.le_of_ble_eq_true rfl | exact rfl | assumption | (simp only [fr_at, Nat.reduceEqDiff, if_false, if_true, reduceIte]; first | assumption | omega)) only [r247_0, r247_1, r247_2, v247_2_11, r247_8, r247_9, r247_10, r247_11, r247_14, r247_15, r247_16, r247_20, r247_22, r247_23, r247_24, v247_24_11, r247_27, r247_28i, r247_30, r247_35, r247_36, r247_39, r247_40, r247_41, r247_45, r247_46, r247_47, v247_47_11, r247_50, v247_50_11, r247_53, r247_53A, r247_54i, r247_57, r247_60, r247_61, r247_64, r247_65, r247_66, r247_70, r247_72, r247_75, r247_76, r247_79, r247_80, r247_81i, r247_82, r247_83, v247_83_11, r247_86, r247_87, g11_28_11, mo_len, ms75 hS, mt75 hS, mo_g7, ms82 hS, mt82 hS, il_s, bl_s, bl_z, ll_s, is_s, bs_s, bs_z, ls_s, al_s, al_b, al_l, fr_at, fr_fr, Nat.reduceEqDiff, tc_gf3_s, tc_ql2_s, tc_ws_0, tc_ws_i, tc_ws_l, tc_ws_r, Nat.reduceLeDiff, Nat.reduceAdd, Nat.reduceLT, true_and, and_true, if_true, if_false, tc_K, Option.toList_some, Option.toList_none, List.nil_append, List.cons_append, ite_true, ite_false, Int.cast_ofNat_Int, reduceIte, i3_add_eq, i3_sub_eq, Int.add_sub_cancel, Int.add_neg_cancel_right, c215 hS hd, h3]) | (simp only [r247_5, r247_17, r247_32, r247_42, r247_67, i6_lt0, i6_0lt, i6_0le, i6_le0, i6_eq0, b10_0, ite_not, Int.reduceLT, Int.reduceLE, Int.reduceEq, Int.reduceNeg, if_true, if_false, ite_true, ite_false, reduceIte, eq_self, not_true, not_false_eq_true]; try refine tc_ite (fun _ => ?_) (fun _ => ?_) <;> try (exfalso; omega)))
  refine c241q hS ?_
  intro e h1 _
  repeat' (first | (simp (disch := first | omega | exact Nat.le_of_ble_eq_true rfl | exact rfl | assumption | (simp only [fr_at, Nat.reduceEqDiff, if_false, if_true, reduceIte]; first | assumption | omega)) only [r247_0, r247_1, r247_2, v247_2_11, r247_8, r247_9, r247_10, r247_11, r247_14, r247_15, r247_16, r247_20, r247_22, r247_23, r247_24, v247_24_11, r247_27, r247_28i, r247_30, r247_35, r247_36, r247_39, r247_40, r247_41, r247_45, r247_46, r247_47, v247_47_11, r247_50, v247_50_11, r247_53, r247_53A, r247_54i, r247_57, r247_60, r247_61, r247_64, r247_65, r247_66, r247_70, r247_72, r247_75, r247_76, r247_79, r247_80, r247_81i, r247_82, r247_83, v247_83_11, r247_86, r247_87, g11_28_11, mo_len, ms75 hS, mt75 hS, mo_g7, ms82 hS, mt82 hS, il_s, bl_s, bl_z, ll_s, is_s, bs_s, bs_z, ls_s, al_s, al_b, al_l, fr_at, fr_fr, Nat.reduceEqDiff, tc_gf3_s, tc_ql2_s, tc_ws_0, tc_ws_i, tc_ws_l, tc_ws_r, Nat.reduceLeDiff, Nat.reduceAdd, Nat.reduceLT, true_and, and_true, if_true, if_false, tc_K, Option.toList_some, Option.toList_none, List.nil_append, List.cons_append, ite_true, ite_false, Int.cast_ofNat_Int, reduceIte, i3_add_eq, i3_sub_eq, Int.add_sub_cancel, Int.add_neg_cancel_right]) | (simp only [r247_5, r247_17, r247_32, r247_42, r247_67, i6_lt0, i6_0lt, i6_0le, i6_le0, i6_eq0, b10_0, ite_not, Int.reduceLT, Int.reduceLE, Int.reduceEq, Int.reduceNeg, if_true, if_false, ite_true, ite_false, reduceIte, eq_self, not_true, not_false_eq_true]; try refine tc_ite (fun _ => ?_) (fun _ => ?_) <;> try (exfalso; omega)))
  exact c247_l hS hb hf (by omega) hla 60 0 e (pm c) (by omega) (by omega) h1.1 (by rw [h1.2.1]) hw (by rw [h1.pm]; exact SEq.refl _ _) h3 (by show c 76 8 + 60 ≤ 900; omega) hq
/-- from a place in which only what a question uses has changed -/
theorem c262 (hS : MS L sh) (hb : WB (bm c)) (hw : WS (bm c) (pm c)) (hla : LF c) (h9 : c 76 8 ≤ 700) {f F : Int} (hf : 0 ≤ f ∧ f < c 76 2) (hF : 0 ≤ F ∧ F ≤ 100)
    (hq : ∀ e, QR c e → Q (some (.inl (flb (bm c) (pm c) (lm c) f F))) (hp L sh e) n) : tc_C 262 [rf 75, .inl f, .inl F] (hp L sh c) n Q := by
  show tc_W 262 0 [rf 75, .inl f, .inl F, tc_nil] [] _ _ Q
  obtain ⟨hd, hbd⟩ := hb.dm
  have hd2 := hd.2
  repeat' (first | (simp (disch := first | omega | exact Nat.le_of_ble_eq_true rfl | exact rfl | assumption | (simp only [fr_at, Nat.reduceEqDiff, if_false, if_true, reduceIte]; first | assumption | omega)) only [r262_0, r262_1, v262_1_11, r262_4, r262_5, r262_6, v262_6_11, r262_9, r262_9A, r262_10, r262_11, r262_14, r262_15, r262_16, r262_20, r262_21, r262_24, r262_25i, r262_26, r262_27, v262_27_11, r262_30, r262_31h, r262_31f, r262_31t, g11_28_11, mo_len, ms75 hS, mt75 hS, mo_g7, ms82 hS, mt82 hS, il_s, bl_s, bl_z, ll_s, is_s, bs_s, bs_z, ls_s, al_s, al_b, al_l, fr_at, fr_fr, Nat.reduceEqDiff, tc_gf3_s, tc_ql2_s, tc_ws_0, tc_ws_i, tc_ws_l, tc_ws_r, Nat.reduceLeDiff, Nat.reduceAdd, Nat.reduceLT, true_and, and_true, if_true, if_false, tc_K, Option.toList_some, Option.toList_none, List.nil_append, List.cons_append, ite_true, ite_false, Int.cast_ofNat_Int, reduceIte, i3_add_eq, i3_sub_eq, Int.add_sub_cancel, Int.add_neg_cancel_right]) | (simp only [r262_17, i6_lt0, i6_0lt, i6_0le, i6_le0, i6_eq0, b10_0, ite_not, Int.reduceLT, Int.reduceLE, Int.reduceEq, Int.reduceNeg, if_true, if_false, ite_true, ite_false, reduceIte, eq_self, not_true, not_false_eq_true]; try refine tc_ite (fun _ => ?_) (fun _ => ?_) <;> try (exfalso; omega)))
  refine c241q hS ?_
  intro e h1 _
  repeat' (first | (simp (disch := first | omega | exact Nat.le_of_ble_eq_true rfl | exact rfl | assumption | (simp only [fr_at, Nat.reduceEqDiff, if_false, if_true, reduceIte]; first | assumption | omega)) only [r262_0, r262_1, v262_1_11, r262_4, r262_5, r262_6, v262_6_11, r262_9, r262_9A, r262_10, r262_11, r262_14, r262_15, r262_16, r262_20, r262_21, r262_24, r262_25i, r262_26, r262_27, v262_27_11, r262_30, r262_31h, r262_31f, r262_31t, g11_28_11, mo_len, ms75 hS, mt75 hS, mo_g7, ms82 hS, mt82 hS, il_s, bl_s, bl_z, ll_s, is_s, bs_s, bs_z, ls_s, al_s, al_b, al_l, fr_at, fr_fr, Nat.reduceEqDiff, tc_gf3_s, tc_ql2_s, tc_ws_0, tc_ws_i, tc_ws_l, tc_ws_r, Nat.reduceLeDiff, Nat.reduceAdd, Nat.reduceLT, true_and, and_true, if_true, if_false, tc_K, Option.toList_some, Option.toList_none, List.nil_append, List.cons_append, ite_true, ite_false, Int.cast_ofNat_Int, reduceIte, i3_add_eq, i3_sub_eq, Int.add_sub_cancel, Int.add_neg_cancel_right]) | (simp only [r262_17, i6_lt0, i6_0lt, i6_0le, i6_le0, i6_eq0, b10_0, ite_not, Int.reduceLT, Int.reduceLE, Int.reduceEq, Int.reduceNeg, if_true, if_false, ite_true, ite_false, reduceIte, eq_self, not_true, not_false_eq_true]; try refine tc_ite (fun _ => ?_) (fun _ => ?_) <;> try (exfalso; omega)))
  refine c224q (c := c) (t := pm c) hS hb h1.1 (h1.lf hla) hw (by rw [h1.pm]; exact SEq.refl _ _) (by show c 76 8 < 900; omega) hF ?_
  intro e2 h2 h3 h4 h5
  rw [h1.lm] at h5
  have v : e2 82 f = stp (bm c) (pm c) (lm c) F 3 f := (h5.2.1 f hf.1 hf.2).2
  have efb : flb (bm c) (pm c) (lm c) f F = if e2 82 f = -1 then 0 else 1 := by
    rw [v]
    rfl
  rw [efb] at hq
  by_cases h6 : e2 82 f = -1
  · rw [if_pos h6] at hq
    repeat' (first | (simp (disch := first | omega | exact Nat.le_of_ble_eq_true rfl | exact rfl | assumption | (simp only [fr_at, Nat.reduceEqDiff, if_false, if_true, reduceIte]; first | assumption | omega)) only [r262_0, r262_1, v262_1_11, r262_4, r262_5, r262_6, v262_6_11, r262_9, r262_9A, r262_10, r262_11, r262_14, r262_15, r262_16, r262_20, r262_21, r262_24, r262_25i, r262_26, r262_27, v262_27_11, r262_30, r262_31h, r262_31f, r262_31t, g11_28_11, mo_len, ms75 hS, mt75 hS, mo_g7, ms82 hS, mt82 hS, il_s, bl_s, bl_z, ll_s, is_s, bs_s, bs_z, ls_s, al_s, al_b, al_l, fr_at, fr_fr, Nat.reduceEqDiff, tc_gf3_s, tc_ql2_s, tc_ws_0, tc_ws_i, tc_ws_l, tc_ws_r, Nat.reduceLeDiff, Nat.reduceAdd, Nat.reduceLT, true_and, and_true, if_true, if_false, tc_K, Option.toList_some, Option.toList_none, List.nil_append, List.cons_append, ite_true, ite_false, Int.cast_ofNat_Int, reduceIte, i3_add_eq, i3_sub_eq, Int.add_sub_cancel, Int.add_neg_cancel_right, h6]) | (simp only [r262_17, i6_lt0, i6_0lt, i6_0le, i6_le0, i6_eq0, b10_0, ite_not, Int.reduceLT, Int.reduceLE, Int.reduceEq, Int.reduceNeg, if_true, if_false, ite_true, ite_false, reduceIte, eq_self, not_true, not_false_eq_true]; try refine tc_ite (fun _ => ?_) (fun _ => ?_) <;> try (exfalso; omega)))
    refine c246q (c := c) hS h2 ?_
    intro e3 h8 h9
    repeat' (first | (simp (disch := first | omega | exact Nat.le_of_ble_eq_true rfl | exact rfl | assumption | (simp only [fr_at, Nat.reduceEqDiff, if_false, if_true, reduceIte]; first | assumption | omega)) only [r262_0, r262_1, v262_1_11, r262_4, r262_5, r262_6, v262_6_11, r262_9, r262_9A, r262_10, r262_11, r262_14, r262_15, r262_16, r262_20, r262_21, r262_24, r262_25i, r262_26, r262_27, v262_27_11, r262_30, r262_31h, r262_31f, r262_31t, g11_28_11, mo_len, ms75 hS, mt75 hS, mo_g7, ms82 hS, mt82 hS, il_s, bl_s, bl_z, ll_s, is_s, bs_s, bs_z, ls_s, al_s, al_b, al_l, fr_at, fr_fr, Nat.reduceEqDiff, tc_gf3_s, tc_ql2_s, tc_ws_0, tc_ws_i, tc_ws_l, tc_ws_r, Nat.reduceLeDiff, Nat.reduceAdd, Nat.reduceLT, true_and, and_true, if_true, if_false, tc_K, Option.toList_some, Option.toList_none, List.nil_append, List.cons_append, ite_true, ite_false, Int.cast_ofNat_Int, reduceIte, i3_add_eq, i3_sub_eq, Int.add_sub_cancel, Int.add_neg_cancel_right]) | (simp only [r262_17, i6_lt0, i6_0lt, i6_0le, i6_le0, i6_eq0, b10_0, ite_not, Int.reduceLT, Int.reduceLE, Int.reduceEq, Int.reduceNeg, if_true, if_false, ite_true, ite_false, reduceIte, eq_self, not_true, not_false_eq_true]; try refine tc_ite (fun _ => ?_) (fun _ => ?_) <;> try (exfalso; omega)))
    exact hq e3 h8
  · rw [if_neg h6] at hq
    repeat' (first | (simp (disch := first | omega | exact Nat.le_of_ble_eq_true rfl | exact rfl | assumption | (simp only [fr_at, Nat.reduceEqDiff, if_false, if_true, reduceIte]; first | assumption | omega)) only [r262_0, r262_1, v262_1_11, r262_4, r262_5, r262_6, v262_6_11, r262_9, r262_9A, r262_10, r262_11, r262_14, r262_15, r262_16, r262_20, r262_21, r262_24, r262_25i, r262_26, r262_27, v262_27_11, r262_30, r262_31h, r262_31f, r262_31t, g11_28_11, mo_len, ms75 hS, mt75 hS, mo_g7, ms82 hS, mt82 hS, il_s, bl_s, bl_z, ll_s, is_s, bs_s, bs_z, ls_s, al_s, al_b, al_l, fr_at, fr_fr, Nat.reduceEqDiff, tc_gf3_s, tc_ql2_s, tc_ws_0, tc_ws_i, tc_ws_l, tc_ws_r, Nat.reduceLeDiff, Nat.reduceAdd, Nat.reduceLT, true_and, and_true, if_true, if_false, tc_K, Option.toList_some, Option.toList_none, List.nil_append, List.cons_append, ite_true, ite_false, Int.cast_ofNat_Int, reduceIte, i3_add_eq, i3_sub_eq, Int.add_sub_cancel, Int.add_neg_cancel_right]) | (simp only [r262_17, i6_lt0, i6_0lt, i6_0le, i6_le0, i6_eq0, b10_0, ite_not, Int.reduceLT, Int.reduceLE, Int.reduceEq, Int.reduceNeg, if_true, if_false, ite_true, ite_false, reduceIte, eq_self, not_true, not_false_eq_true]; try refine tc_ite (fun _ => ?_) (fun _ => ?_) <;> try (exfalso; omega)))
    all_goals
      refine c246q (c := c) hS h2 ?_
      intro e3 h8 h9
      repeat' (first | (simp (disch := first | omega | exact Nat.le_of_ble_eq_true rfl | exact rfl | assumption | (simp only [fr_at, Nat.reduceEqDiff, if_false, if_true, reduceIte]; first | assumption | omega)) only [r262_0, r262_1, v262_1_11, r262_4, r262_5, r262_6, v262_6_11, r262_9, r262_9A, r262_10, r262_11, r262_14, r262_15, r262_16, r262_20, r262_21, r262_24, r262_25i, r262_26, r262_27, v262_27_11, r262_30, r262_31h, r262_31f, r262_31t, g11_28_11, mo_len, ms75 hS, mt75 hS, mo_g7, ms82 hS, mt82 hS, il_s, bl_s, bl_z, ll_s, is_s, bs_s, bs_z, ls_s, al_s, al_b, al_l, fr_at, fr_fr, Nat.reduceEqDiff, tc_gf3_s, tc_ql2_s, tc_ws_0, tc_ws_i, tc_ws_l, tc_ws_r, Nat.reduceLeDiff, Nat.reduceAdd, Nat.reduceLT, true_and, and_true, if_true, if_false, tc_K, Option.toList_some, Option.toList_none, List.nil_append, List.cons_append, ite_true, ite_false, Int.cast_ofNat_Int, reduceIte, i3_add_eq, i3_sub_eq, Int.add_sub_cancel, Int.add_neg_cancel_right]) | (simp only [r262_17, i6_lt0, i6_0lt, i6_0le, i6_le0, i6_eq0, b10_0, ite_not, Int.reduceLT, Int.reduceLE, Int.reduceEq, Int.reduceNeg, if_true, if_false, ite_true, ite_false, reduceIte, eq_self, not_true, not_false_eq_true]; try refine tc_ite (fun _ => ?_) (fun _ => ?_) <;> try (exfalso; omega)))
      exact hq e3 h8
theorem QR.bm {d : Nat → Int → Int} (h : QR c d) : bm d = bm c := by
  obtain ⟨⟨h1, _⟩, h2, _⟩ := h
  exact bm_ext h2 (h1 _ (by omega) (by omega) (by omega) (by omega) (by omega) (by omega) (by omega)) (h1 _ (by omega) (by omega) (by omega) (by omega) (by omega) (by omega) (by omega)) (h1 _ (by omega) (by omega) (by omega) (by omega) (by omega) (by omega) (by omega)) (h1 _ (by omega) (by omega) (by omega) (by omega) (by omega) (by omega) (by omega)) (h1 _ (by omega) (by omega) (by omega) (by omega) (by omega) (by omega) (by omega))
/-- a question leaves all that counts as it was -/
def QX (c d : Nat → Int → Int) : Prop := (∀ a, ¬ a = 75 → (a < 103 ∨ 113 < a ∨ a = 107 ∨ a = 108) → d a = c a) ∧ (∀ i, ¬ i = 50 → ¬ i = 51 → ¬ i = 56 → ¬ i = 57 → d 75 i = c 75 i) ∧ (∀ j, j < 6000 → d 113 j = c 113 j)
theorem QX.refl (c : Nat → Int → Int) : QX c c := ⟨fun _ _ _ => rfl, fun _ _ _ _ _ => rfl, fun _ _ => rfl⟩
theorem QX.trans {d e : Nat → Int → Int} (h : QX c d) (k : QX d e) : QX c e := ⟨fun a a1 a2 => (k.1 a a1 a2).trans (h.1 a a1 a2), fun i i1 i2 i3 i4 => (k.2.1 i i1 i2 i3 i4).trans (h.2.1 i i1 i2 i3 i4), fun j j1 => (k.2.2 j j1).trans (h.2.2 j j1)⟩
theorem QR.x {d : Nat → Int → Int} (h : QR c d) : QX c d := by
  obtain ⟨⟨h1, h2, h3, h4, h5⟩, k1, k2, k3, k4, k5⟩ := h
  refine ⟨fun a a1 a2 => ?_, h3, h4⟩
  by_cases e1 : a = 76
  · rw [e1, k1]
  by_cases e2 : a = 77
  · rw [e2, k2]
  by_cases e3 : a = 78
  · rw [e3, k3]
  by_cases e4 : a = 79
  · rw [e4, k4]
  by_cases e5 : a = 82
  · rw [e5, k5]
  exact h1 a a1 e1 e2 e3 e4 e5 a2
theorem QX.all {d : Nat → Int → Int} (h : QX c d) : bm d = bm c ∧ pm d = pm c ∧ lm d = lm c ∧ (LF c → LF d) := by
  have r : ∀ a, ¬ a = 75 → a < 103 → d a = c a := fun a a1 a2 => h.1 a a1 (Or.inl a2)
  have lr : LR c d := ⟨r _ (by omega) (by omega), r _ (by omega) (by omega), r _ (by omega) (by omega), r _ (by omega) (by omega), r _ (by omega) (by omega), r _ (by omega) (by omega)⟩
  exact ⟨bm_ext (r _ (by omega) (by omega)) (r _ (by omega) (by omega)) (r _ (by omega) (by omega)) (r _ (by omega) (by omega)) (r _ (by omega) (by omega)) (r _ (by omega) (by omega)), pm_ext (r _ (by omega) (by omega)) (r _ (by omega) (by omega)) (r _ (by omega) (by omega)) (r _ (by omega) (by omega)) (r _ (by omega) (by omega)), lm_ext lr (by rw [r 76 (by omega) (by omega)]), LF_ext lr (by rw [r 76 (by omega) (by omega)])⟩
theorem c262x (hS : MS L sh) (hb : WB (bm c)) (hw : WS (bm c) (pm c)) (hla : LF c) (h9 : c 76 8 ≤ 700) {d : Nat → Int → Int} (hx : QX c d) {f F : Int} (hf : 0 ≤ f ∧ f < c 76 2) (hF : 0 ≤ F ∧ F ≤ 100)
    (hq : ∀ e, QX c e → Q (some (.inl (flb (bm c) (pm c) (lm c) f F))) (hp L sh e) n) : tc_C 262 [rf 75, .inl f, .inl F] (hp L sh d) n Q := by
  obtain ⟨a1, a2, a3, a4⟩ := hx.all
  have r76 := hx.1 76 (by omega) (by omega)
  refine c262 (c := d) hS (by rw [a1]; exact hb) (by rw [a1, a2]; exact hw) (a4 hla) (by rw [r76]; exact h9) (by rw [r76]; exact hf) hF ?_
  rw [a1, a2, a3]
  exact fun e he => hq e (hx.trans he.x)
theorem c265_l (hS : MS L sh) (hb : WB (bm c)) (hw : WS (bm c) (pm c)) (hla : LF c) (h9 : c 76 8 ≤ 700) {f : Int} (hf : 0 ≤ f ∧ f < c 76 2) : ∀ (m : Nat) (k : Int) (d : Nat → Int → Int), 0 ≤ k → k + m = 41 → QX c d → (∀ e, QX c e → Q (some (.inl (bnx (fun F => flb (bm c) (pm c) (lm c) f F) m k))) (hp L sh e) n) → tc_W 265 13 [rf 75, .inl f, .inl (k - 1)] [] (hp L sh d) n Q := by
  intro m
  induction m with
  | zero =>
    intro k d hk hk2 hd hq
    simp only [r265_13]
    repeat' (first | (simp (disch := first | omega | exact Nat.le_of_ble_eq_true rfl | exact rfl | assumption | (simp only [fr_at, Nat.reduceEqDiff, if_false, if_true, reduceIte]; first | assumption | omega)) only [r265_0, r265_1, r265_2, v265_2_11, r265_8, r265_10, r265_11, r265_12i, r265_14, r265_19, r265_20, r265_21, r265_22, r265_23, r265_24, v265_24_11, r265_30i, r265_33, r265_36, r265_37, ms75 hS, il_s, bl_s, bl_z, ll_s, is_s, bs_s, bs_z, ls_s, al_s, al_b, al_l, fr_at, fr_fr, Nat.reduceEqDiff, tc_gf3_s, tc_ql2_s, tc_ws_0, tc_ws_i, tc_ws_l, tc_ws_r, Nat.reduceLeDiff, Nat.reduceAdd, Nat.reduceLT, true_and, and_true, if_true, if_false, tc_K, Option.toList_some, Option.toList_none, List.nil_append, List.cons_append, ite_true, ite_false, Int.cast_ofNat_Int, reduceIte, i3_add_eq, i3_sub_eq, Int.add_sub_cancel, Int.add_neg_cancel_right]) | (simp only [r265_5, r265_16, r265_27, i6_lt0, i6_0lt, i6_0le, i6_le0, i6_eq0, b10_0, ite_not, Int.reduceLT, Int.reduceLE, Int.reduceEq, Int.reduceNeg, if_true, if_false, ite_true, ite_false, reduceIte, eq_self, not_true, not_false_eq_true]; try refine tc_ite (fun _ => ?_) (fun _ => ?_) <;> try (exfalso; omega)))
    have e : k - 1 = 40 := by omega
    rw [e]
    exact hq d hd
  | succ m ih =>
    intro k d hk hk2 hd hq
    have e1 : bnx (fun F => flb (bm c) (pm c) (lm c) f F) (m + 1) k = if flb (bm c) (pm c) (lm c) f k = 0 then bnx (fun F => flb (bm c) (pm c) (lm c) f F) m (k + 1) else k - 1 := rfl
    rw [e1] at hq
    simp only [r265_13]
    repeat' (first | (simp (disch := first | omega | exact Nat.le_of_ble_eq_true rfl | exact rfl | assumption | (simp only [fr_at, Nat.reduceEqDiff, if_false, if_true, reduceIte]; first | assumption | omega)) only [r265_0, r265_1, r265_2, v265_2_11, r265_8, r265_10, r265_11, r265_12i, r265_14, r265_19, r265_20, r265_21, r265_22, r265_23, r265_24, v265_24_11, r265_30i, r265_33, r265_36, r265_37, ms75 hS, il_s, bl_s, bl_z, ll_s, is_s, bs_s, bs_z, ls_s, al_s, al_b, al_l, fr_at, fr_fr, Nat.reduceEqDiff, tc_gf3_s, tc_ql2_s, tc_ws_0, tc_ws_i, tc_ws_l, tc_ws_r, Nat.reduceLeDiff, Nat.reduceAdd, Nat.reduceLT, true_and, and_true, if_true, if_false, tc_K, Option.toList_some, Option.toList_none, List.nil_append, List.cons_append, ite_true, ite_false, Int.cast_ofNat_Int, reduceIte, i3_add_eq, i3_sub_eq, Int.add_sub_cancel, Int.add_neg_cancel_right, Int.sub_add_cancel]) | (simp only [r265_5, r265_16, r265_27, i6_lt0, i6_0lt, i6_0le, i6_le0, i6_eq0, b10_0, ite_not, Int.reduceLT, Int.reduceLE, Int.reduceEq, Int.reduceNeg, if_true, if_false, ite_true, ite_false, reduceIte, eq_self, not_true, not_false_eq_true]; try refine tc_ite (fun _ => ?_) (fun _ => ?_) <;> try (exfalso; omega)))
    refine c262x (c := c) hS hb hw hla h9 hd hf (by omega) ?_
    intro e he
    rcases flb_01 (bm c) (pm c) (lm c) f k with h0 | h0
    · rw [if_pos h0] at hq
      repeat' (first | (simp (disch := first | omega | exact Nat.le_of_ble_eq_true rfl | exact rfl | assumption | (simp only [fr_at, Nat.reduceEqDiff, if_false, if_true, reduceIte]; first | assumption | omega)) only [r265_0, r265_1, r265_2, v265_2_11, r265_8, r265_10, r265_11, r265_12i, r265_14, r265_19, r265_20, r265_21, r265_22, r265_23, r265_24, v265_24_11, r265_30i, r265_33, r265_36, r265_37, ms75 hS, il_s, bl_s, bl_z, ll_s, is_s, bs_s, bs_z, ls_s, al_s, al_b, al_l, fr_at, fr_fr, Nat.reduceEqDiff, tc_gf3_s, tc_ql2_s, tc_ws_0, tc_ws_i, tc_ws_l, tc_ws_r, Nat.reduceLeDiff, Nat.reduceAdd, Nat.reduceLT, true_and, and_true, if_true, if_false, tc_K, Option.toList_some, Option.toList_none, List.nil_append, List.cons_append, ite_true, ite_false, Int.cast_ofNat_Int, reduceIte, i3_add_eq, i3_sub_eq, Int.add_sub_cancel, Int.add_neg_cancel_right, h0, Int.sub_add_cancel]) | (simp only [r265_5, r265_16, r265_27, i6_lt0, i6_0lt, i6_0le, i6_le0, i6_eq0, b10_0, ite_not, Int.reduceLT, Int.reduceLE, Int.reduceEq, Int.reduceNeg, if_true, if_false, ite_true, ite_false, reduceIte, eq_self, not_true, not_false_eq_true]; try refine tc_ite (fun _ => ?_) (fun _ => ?_) <;> try (exfalso; omega)))
      have := ih (k + 1) e (by omega) (by omega) he hq
      rw [Int.add_sub_cancel] at this
      exact this
    · rw [if_neg (by omega)] at hq
      repeat' (first | (simp (disch := first | omega | exact Nat.le_of_ble_eq_true rfl | exact rfl | assumption | (simp only [fr_at, Nat.reduceEqDiff, if_false, if_true, reduceIte]; first | assumption | omega)) only [r265_0, r265_1, r265_2, v265_2_11, r265_8, r265_10, r265_11, r265_12i, r265_14, r265_19, r265_20, r265_21, r265_22, r265_23, r265_24, v265_24_11, r265_30i, r265_33, r265_36, r265_37, ms75 hS, il_s, bl_s, bl_z, ll_s, is_s, bs_s, bs_z, ls_s, al_s, al_b, al_l, fr_at, fr_fr, Nat.reduceEqDiff, tc_gf3_s, tc_ql2_s, tc_ws_0, tc_ws_i, tc_ws_l, tc_ws_r, Nat.reduceLeDiff, Nat.reduceAdd, Nat.reduceLT, true_and, and_true, if_true, if_false, tc_K, Option.toList_some, Option.toList_none, List.nil_append, List.cons_append, ite_true, ite_false, Int.cast_ofNat_Int, reduceIte, i3_add_eq, i3_sub_eq, Int.add_sub_cancel, Int.add_neg_cancel_right, h0]) | (simp only [r265_5, r265_16, r265_27, i6_lt0, i6_0lt, i6_0le, i6_le0, i6_eq0, b10_0, ite_not, Int.reduceLT, Int.reduceLE, Int.reduceEq, Int.reduceNeg, if_true, if_false, ite_true, ite_false, reduceIte, eq_self, not_true, not_false_eq_true]; try refine tc_ite (fun _ => ?_) (fun _ => ?_) <;> try (exfalso; omega)))
      exact hq e he
theorem c265 (hS : MS L sh) (hb : WB (bm c)) (hw : WS (bm c) (pm c)) (hla : LF c) (h9 : c 76 8 ≤ 700) {f : Int} (hf : 0 ≤ f ∧ f < c 76 2) (h3 : c 82 f = -1)
    (hq : ∀ e, QX c e → Q (some (.inl (bnx (fun F => flb (bm c) (pm c) (lm c) f F) 41 0))) (hp L sh e) n) : tc_C 265 [rf 75, .inl f] (hp L sh c) n Q := by
  show tc_W 265 0 [rf 75, .inl f, tc_nil] [] _ _ Q
  obtain ⟨hd, hbd⟩ := hb.dm
  repeat' (first | (simp (disch := first | omega | exact Nat.le_of_ble_eq_true rfl | exact rfl | assumption | (simp only [fr_at, Nat.reduceEqDiff, if_false, if_true, reduceIte]; first | assumption | omega)) only [r265_0, r265_1, r265_2, v265_2_11, r265_8, r265_10, r265_11, r265_12i, r265_14, r265_19, r265_20, r265_21, r265_22, r265_23, r265_24, v265_24_11, r265_30i, r265_33, r265_36, r265_37, ms75 hS, il_s, bl_s, bl_z, ll_s, is_s, bs_s, bs_z, ls_s, al_s, al_b, al_l, fr_at, fr_fr, Nat.reduceEqDiff, tc_gf3_s, tc_ql2_s, tc_ws_0, tc_ws_i, tc_ws_l, tc_ws_r, Nat.reduceLeDiff, Nat.reduceAdd, Nat.reduceLT, true_and, and_true, if_true, if_false, tc_K, Option.toList_some, Option.toList_none, List.nil_append, List.cons_append, ite_true, ite_false, Int.cast_ofNat_Int, reduceIte, i3_add_eq, i3_sub_eq, Int.add_sub_cancel, Int.add_neg_cancel_right, c235 hS hd, h3]) | (simp only [r265_5, r265_16, r265_27, i6_lt0, i6_0lt, i6_0le, i6_le0, i6_eq0, b10_0, ite_not, Int.reduceLT, Int.reduceLE, Int.reduceEq, Int.reduceNeg, if_true, if_false, ite_true, ite_false, reduceIte, eq_self, not_true, not_false_eq_true]; try refine tc_ite (fun _ => ?_) (fun _ => ?_) <;> try (exfalso; omega)))
  exact c265_l hS hb hw hla h9 hf 41 0 c (by omega) (by omega) (QX.refl c) hq
end MOD11

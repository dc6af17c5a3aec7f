/-! the class: more questions -/
section QUERYC3
variable {L : Nat} {sh : Nat → SH} {c : Nat → Int → Int} {n : Nat} {Q : Option AV → List SC → Nat → Prop} {s : Nat} {v : Option Nat} {b σ : Nat → Int → Int} {la : Option Law}
theorem c117 (h : CQ L sh c s v b σ la) (h9 : σ 4 0 ≤ 700) {f : Int} (hf : 0 ≤ f ∧ f < b 0 2) (h3 : σ 3 f = -1)
    (hq : ∀ e, FQ c e → Q (some (.inl (fls b la f 60 σ))) (hp L (seaf sh (some s) v) e) n) : tc_C 117 [rf 26, .inl f] (hp L sh c) n Q := by
  obtain ⟨hM, ⟨s1, l1, hE⟩, hSh, hs, h38, h56, _, hb, hw, hB, hσ, hl, hal⟩ := id h
  have hL := hE.1
  have hL26 : 26 < L := by omega
  have hL29 : 29 < L := by omega
  have hm2 := hb.2.1
  have h81 := fun Q => c81 (c := c) (n := n) (Q := Q) (f := f) hM hSh hL hB.2.1.2.1
  simp only [if_pos hf] at h81
  have h108 := fun Q => c108q (n := n) (Q := Q) (f := f) h
  simp only [if_pos (⟨hf, h3⟩ : (0 ≤ f ∧ f < b 0 2) ∧ σ 3 f = -1)] at h108
  have h72 := fun Q => c72q (n := n) (Q := Q) h
  have h2 := h.next (FQ.refl c)
  have hS : seaf (seaf sh (some s) v) (some s) v = seaf sh (some s) v := seaf_seaf
  generalize seaf sh (some s) v = S2 at hq h72 h2 hS
  obtain ⟨hM2, ⟨s2, l2, hE2⟩, _, _, h382, h562, _⟩ := id h2
  have h26 := hM.1
  have g26 := hM2.1
  have g29 := hM2.2
  show tc_W 117 0 [rf 26, .inl f, tc_nil] [] _ _ Q
  repeat' (first | (simp (disch := first | omega | exact Nat.le_of_ble_eq_true rfl | exact rfl | assumption | (simp (disch := omega) only [fr_ne, fr_same]; first | assumption | omega)) only [r117_0, r117_1, r117_2, v117_2_10, r117_8, r117_9, r117_10, r117_11, r117_12, v117_12_10, r117_18, r117_20, r117_21, r117_22, v117_22_10, r117_25, r117_25A, r117_26, r117_27, r117_30, r117_31, r117_34, r117_37, v117_37_5, r117_40, r117_41i, r117_43, r117_48, r117_49, r117_52, r117_53, r117_56, v117_56_7, r117_59, r117_59A, r117_60, r117_61, r117_64, r117_65, v117_65_5, r117_71, r117_72, r117_75, r117_78, r117_79, r117_80, r117_81i, r117_84, r117_87, r117_89, g10_52_10, g10_34_10, g10_109_6, g10_45_10, g10_141_5, o10_len, o10_g7, o10_g4, o6_len, o6_g1, o10_g6, o5_len, o5_g2, il_s, bl_s, bl_z, ll_s, is_s, bs_s, bs_z, ls_s, al_s, al_b, al_l, fr_ne, fr_same, fr_fr, Nat.reduceEqDiff, tc_gf3_s, tc_ql2_s, tc_ws_0, tc_ws_i, tc_ws_l, tc_ws_r, Nat.reduceLeDiff, Nat.reduceAdd, Nat.reduceLT, true_and, and_true, if_true, if_false, tc_K, Option.toList_some, Option.toList_none, List.nil_append, List.cons_append, ite_true, ite_false, Int.cast_ofNat_Int, reduceIte, i3_add_eq, i3_sub_eq, Int.add_sub_cancel, Int.add_neg_cancel_right, hO hL26 h26, h81, h108, h72, hO hL26 g26, hO hL29 g29, SanS_g0 h562, SanS_s0 h562, SanS_g1 h562, SanS_s1 h562, SanS_g2 h562, SanS_s2 h562, SanS_g3 h562, SanS_s3 h562]) | (simp only [r117_5, r117_15, r117_45, r117_68, i6_lt0, i6_0lt, i6_0le, i6_le0, i6_eq0, b10_0, ite_not, Int.reduceLT, Int.reduceLE, Int.reduceEq, Int.reduceNeg, if_true, if_false, ite_true, ite_false, reduceIte, eq_self, not_true, not_false_eq_true]; try refine tc_ite (fun _ => ?_) (fun _ => ?_) <;> try (exfalso; omega)))
  refine c88p h2 ?_
  intro e he hσe
  repeat' (first | (simp (disch := first | omega | exact Nat.le_of_ble_eq_true rfl | exact rfl | assumption | (simp (disch := omega) only [fr_ne, fr_same]; first | assumption | omega)) only [r117_0, r117_1, r117_2, v117_2_10, r117_8, r117_9, r117_10, r117_11, r117_12, v117_12_10, r117_18, r117_20, r117_21, r117_22, v117_22_10, r117_25, r117_25A, r117_26, r117_27, r117_30, r117_31, r117_34, r117_37, v117_37_5, r117_40, r117_41i, r117_43, r117_48, r117_49, r117_52, r117_53, r117_56, v117_56_7, r117_59, r117_59A, r117_60, r117_61, r117_64, r117_65, v117_65_5, r117_71, r117_72, r117_75, r117_78, r117_79, r117_80, r117_81i, r117_84, r117_87, r117_89, g10_52_10, g10_34_10, g10_109_6, g10_45_10, g10_141_5, o10_len, o10_g7, o10_g4, o6_len, o6_g1, o10_g6, o5_len, o5_g2, il_s, bl_s, bl_z, ll_s, is_s, bs_s, bs_z, ls_s, al_s, al_b, al_l, fr_ne, fr_same, fr_fr, Nat.reduceEqDiff, tc_gf3_s, tc_ql2_s, tc_ws_0, tc_ws_i, tc_ws_l, tc_ws_r, Nat.reduceLeDiff, Nat.reduceAdd, Nat.reduceLT, true_and, and_true, if_true, if_false, tc_K, Option.toList_some, Option.toList_none, List.nil_append, List.cons_append, ite_true, ite_false, Int.cast_ofNat_Int, reduceIte, i3_add_eq, i3_sub_eq, Int.add_sub_cancel, Int.add_neg_cancel_right]) | (simp only [r117_5, r117_15, r117_45, r117_68, i6_lt0, i6_0lt, i6_0le, i6_le0, i6_eq0, b10_0, ite_not, Int.reduceLT, Int.reduceLE, Int.reduceEq, Int.reduceNeg, if_true, if_false, ite_true, ite_false, reduceIte, eq_self, not_true, not_false_eq_true]; try refine tc_ite (fun _ => ?_) (fun _ => ?_) <;> try (exfalso; omega)))
  have key : ∀ (m : Nat) (k : Int) (d : Nat → Int → Int) (t : Nat → Int → Int), 0 ≤ k → k + m = 60 → FQ c d → WS b t → SAN True b 56 d t → t 4 0 + m ≤ 900 → (∀ e, FQ c e → Q (some (.inl (fls b la f m t))) (hp L S2 e) n) → tc_W 117 42 [rf 26, .inl f, .inl k] [] (hp L S2 d) n Q := by
    intro m
    induction m with
    | zero =>
      intro k d t hk hk2 hfd ht hσd h9t hq
      simp only [r117_42]
      repeat' (first | (simp (disch := first | omega | exact Nat.le_of_ble_eq_true rfl | exact rfl | assumption | (simp (disch := omega) only [fr_ne, fr_same]; first | assumption | omega)) only [r117_0, r117_1, r117_2, v117_2_10, r117_8, r117_9, r117_10, r117_11, r117_12, v117_12_10, r117_18, r117_20, r117_21, r117_22, v117_22_10, r117_25, r117_25A, r117_26, r117_27, r117_30, r117_31, r117_34, r117_37, v117_37_5, r117_40, r117_41i, r117_43, r117_48, r117_49, r117_52, r117_53, r117_56, v117_56_7, r117_59, r117_59A, r117_60, r117_61, r117_64, r117_65, v117_65_5, r117_71, r117_72, r117_75, r117_78, r117_79, r117_80, r117_81i, r117_84, r117_87, r117_89, g10_52_10, g10_34_10, g10_109_6, g10_45_10, g10_141_5, o10_len, o10_g7, o10_g4, o6_len, o6_g1, o10_g6, o5_len, o5_g2, il_s, bl_s, bl_z, ll_s, is_s, bs_s, bs_z, ls_s, al_s, al_b, al_l, fr_ne, fr_same, fr_fr, Nat.reduceEqDiff, tc_gf3_s, tc_ql2_s, tc_ws_0, tc_ws_i, tc_ws_l, tc_ws_r, Nat.reduceLeDiff, Nat.reduceAdd, Nat.reduceLT, true_and, and_true, if_true, if_false, tc_K, Option.toList_some, Option.toList_none, List.nil_append, List.cons_append, ite_true, ite_false, Int.cast_ofNat_Int, reduceIte, i3_add_eq, i3_sub_eq, Int.add_sub_cancel, Int.add_neg_cancel_right]) | (simp only [r117_5, r117_15, r117_45, r117_68, i6_lt0, i6_0lt, i6_0le, i6_le0, i6_eq0, b10_0, ite_not, Int.reduceLT, Int.reduceLE, Int.reduceEq, Int.reduceNeg, if_true, if_false, ite_true, ite_false, reduceIte, eq_self, not_true, not_false_eq_true]; try refine tc_ite (fun _ => ?_) (fun _ => ?_) <;> try (exfalso; omega)))
      exact hq d hfd
    | succ m ih =>
      intro k d t hk hk2 hfd ht hσd h9t hq
      have hCd : CQ L S2 d s v b σ la := hS ▸ h2.next hfd
      have e1 : fls b la f (m + 1) t = if stp b t la (tof b (t 4 0)) 3 f = -1 then fls b la f m (stp b t la (tof b (t 4 0))) else stp b t la (tof b (t 4 0)) 3 f := rfl
      simp only [r117_42]
      repeat' (first | (simp (disch := first | omega | exact Nat.le_of_ble_eq_true rfl | exact rfl | assumption | (simp (disch := omega) only [fr_ne, fr_same]; first | assumption | omega)) only [r117_0, r117_1, r117_2, v117_2_10, r117_8, r117_9, r117_10, r117_11, r117_12, v117_12_10, r117_18, r117_20, r117_21, r117_22, v117_22_10, r117_25, r117_25A, r117_26, r117_27, r117_30, r117_31, r117_34, r117_37, v117_37_5, r117_40, r117_41i, r117_43, r117_48, r117_49, r117_52, r117_53, r117_56, v117_56_7, r117_59, r117_59A, r117_60, r117_61, r117_64, r117_65, v117_65_5, r117_71, r117_72, r117_75, r117_78, r117_79, r117_80, r117_81i, r117_84, r117_87, r117_89, g10_52_10, g10_34_10, g10_109_6, g10_45_10, g10_141_5, o10_len, o10_g7, o10_g4, o6_len, o6_g1, o10_g6, o5_len, o5_g2, il_s, bl_s, bl_z, ll_s, is_s, bs_s, bs_z, ls_s, al_s, al_b, al_l, fr_ne, fr_same, fr_fr, Nat.reduceEqDiff, tc_gf3_s, tc_ql2_s, tc_ws_0, tc_ws_i, tc_ws_l, tc_ws_r, Nat.reduceLeDiff, Nat.reduceAdd, Nat.reduceLT, true_and, and_true, if_true, if_false, tc_K, Option.toList_some, Option.toList_none, List.nil_append, List.cons_append, ite_true, ite_false, Int.cast_ofNat_Int, reduceIte, i3_add_eq, i3_sub_eq, Int.add_sub_cancel, Int.add_neg_cancel_right, hO hL26 g26, SeaS_g0 hE2, SeaS_s0 hE2, SeaS_g1 hE2, SeaS_s1 hE2, SeaS_g2 hE2, SeaS_s2 hE2, SeaS_g3 hE2, SeaS_s3 hE2, SeaS_g4 hE2, SeaS_s4 hE2, SeaS_g5 hE2, SeaS_s5 hE2, SeaS_g6 hE2, SeaS_s6 hE2]) | (simp only [r117_5, r117_15, r117_45, r117_68, i6_lt0, i6_0lt, i6_0le, i6_le0, i6_eq0, b10_0, ite_not, Int.reduceLT, Int.reduceLE, Int.reduceEq, Int.reduceNeg, if_true, if_false, ite_true, ite_false, reduceIte, eq_self, not_true, not_false_eq_true]; try refine tc_ite (fun _ => ?_) (fun _ => ?_) <;> try (exfalso; omega)))
      refine c89p hCd hS ht hσd (by omega) ?_
      intro e2 z k1 k2
      have hw2 := stp_ws (la := la) (F := tof b (t 4 0)) hb ht (by omega)
      have h70 := fun Q => c70 (c := e2) (n := n) (Q := Q) h562 (m := (b 0 2).toNat) (by omega) k2.2.2.1 (f := f) hf.1 (by omega)
      have v4 : stp b t la (tof b (t 4 0)) 4 0 = t 4 0 + 1 := rfl
      by_cases hst : stp b t la (tof b (t 4 0)) 3 f = -1
      · rw [e1, if_pos hst] at hq
        have hs1 : stn (stp b t la (tof b (t 4 0)) 3) f = true := decide_eq_true hst
        simp only [hs1, if_true] at h70
        repeat' (first | (simp (disch := first | omega | exact Nat.le_of_ble_eq_true rfl | exact rfl | assumption | (simp (disch := omega) only [fr_ne, fr_same]; first | assumption | omega)) only [r117_0, r117_1, r117_2, v117_2_10, r117_8, r117_9, r117_10, r117_11, r117_12, v117_12_10, r117_18, r117_20, r117_21, r117_22, v117_22_10, r117_25, r117_25A, r117_26, r117_27, r117_30, r117_31, r117_34, r117_37, v117_37_5, r117_40, r117_41i, r117_43, r117_48, r117_49, r117_52, r117_53, r117_56, v117_56_7, r117_59, r117_59A, r117_60, r117_61, r117_64, r117_65, v117_65_5, r117_71, r117_72, r117_75, r117_78, r117_79, r117_80, r117_81i, r117_84, r117_87, r117_89, g10_52_10, g10_34_10, g10_109_6, g10_45_10, g10_141_5, o10_len, o10_g7, o10_g4, o6_len, o6_g1, o10_g6, o5_len, o5_g2, il_s, bl_s, bl_z, ll_s, is_s, bs_s, bs_z, ls_s, al_s, al_b, al_l, fr_ne, fr_same, fr_fr, Nat.reduceEqDiff, tc_gf3_s, tc_ql2_s, tc_ws_0, tc_ws_i, tc_ws_l, tc_ws_r, Nat.reduceLeDiff, Nat.reduceAdd, Nat.reduceLT, true_and, and_true, if_true, if_false, tc_K, Option.toList_some, Option.toList_none, List.nil_append, List.cons_append, ite_true, ite_false, Int.cast_ofNat_Int, reduceIte, i3_add_eq, i3_sub_eq, Int.add_sub_cancel, Int.add_neg_cancel_right, hO hL26 g26, SanS_g0 h562, SanS_s0 h562, SanS_g1 h562, SanS_s1 h562, SanS_g2 h562, SanS_s2 h562, SanS_g3 h562, SanS_s3 h562, h70]) | (simp only [r117_5, r117_15, r117_45, r117_68, i6_lt0, i6_0lt, i6_0le, i6_le0, i6_eq0, b10_0, ite_not, Int.reduceLT, Int.reduceLE, Int.reduceEq, Int.reduceNeg, if_true, if_false, ite_true, ite_false, reduceIte, eq_self, not_true, not_false_eq_true]; try refine tc_ite (fun _ => ?_) (fun _ => ?_) <;> try (exfalso; omega)))
        exact ih (k + 1) e2 _ (by omega) (by omega) (hfd.trans k1) hw2 k2 (by omega) hq
      · rw [e1, if_neg hst] at hq
        have hs1 : stn (stp b t la (tof b (t 4 0)) 3) f = false := decide_eq_false hst
        simp only [hs1, Bool.false_eq_true, if_false] at h70
        have v3 : e2 59 f = stp b t la (tof b (t 4 0)) 3 f := (k2.2.1 f hf.1 hf.2).2 (Or.inl trivial)
        repeat' (first | (simp (disch := first | omega | exact Nat.le_of_ble_eq_true rfl | exact rfl | assumption | (simp (disch := omega) only [fr_ne, fr_same]; first | assumption | omega)) only [r117_0, r117_1, r117_2, v117_2_10, r117_8, r117_9, r117_10, r117_11, r117_12, v117_12_10, r117_18, r117_20, r117_21, r117_22, v117_22_10, r117_25, r117_25A, r117_26, r117_27, r117_30, r117_31, r117_34, r117_37, v117_37_5, r117_40, r117_41i, r117_43, r117_48, r117_49, r117_52, r117_53, r117_56, v117_56_7, r117_59, r117_59A, r117_60, r117_61, r117_64, r117_65, v117_65_5, r117_71, r117_72, r117_75, r117_78, r117_79, r117_80, r117_81i, r117_84, r117_87, r117_89, g10_52_10, g10_34_10, g10_109_6, g10_45_10, g10_141_5, o10_len, o10_g7, o10_g4, o6_len, o6_g1, o10_g6, o5_len, o5_g2, il_s, bl_s, bl_z, ll_s, is_s, bs_s, bs_z, ls_s, al_s, al_b, al_l, fr_ne, fr_same, fr_fr, Nat.reduceEqDiff, tc_gf3_s, tc_ql2_s, tc_ws_0, tc_ws_i, tc_ws_l, tc_ws_r, Nat.reduceLeDiff, Nat.reduceAdd, Nat.reduceLT, true_and, and_true, if_true, if_false, tc_K, Option.toList_some, Option.toList_none, List.nil_append, List.cons_append, ite_true, ite_false, Int.cast_ofNat_Int, reduceIte, i3_add_eq, i3_sub_eq, Int.add_sub_cancel, Int.add_neg_cancel_right, hO hL26 g26, SanS_g0 h562, SanS_s0 h562, SanS_g1 h562, SanS_s1 h562, SanS_g2 h562, SanS_s2 h562, SanS_g3 h562, SanS_s3 h562, h70, v3]) | (simp only [r117_5, r117_15, r117_45, r117_68, i6_lt0, i6_0lt, i6_0le, i6_le0, i6_eq0, b10_0, ite_not, Int.reduceLT, Int.reduceLE, Int.reduceEq, Int.reduceNeg, if_true, if_false, ite_true, ite_false, reduceIte, eq_self, not_true, not_false_eq_true]; try refine tc_ite (fun _ => ?_) (fun _ => ?_) <;> try (exfalso; omega)))
        exact hq e2 (hfd.trans k1)
  exact key 60 0 e σ (by omega) (by omega) he hw hσe (by omega) hq
/-- the strength to come -/
theorem c71 (h : CQ L sh c s v b σ la) {x : Int} (hx : 0 ≤ x ∧ x < b 0 0 * b 0 1)
    (hq : ∀ e, FQ c e → (∀ y, 0 ≤ y → y < b 0 0 * b 0 1 → e 50 y = stg (b 0 0) (b 0 0 * b 0 1) (c 39) (tof b (σ 4 0)) y) → Q (some (.inl (stg (b 0 0) (b 0 0 * b 0 1) (c 39) (tof b (σ 4 0)) x))) (hp L (seaf sh (some s) v) e) n) : tc_C 71 [rf 26, .inl x] (hp L sh c) n Q := by
  obtain ⟨hM, ⟨s1, l1, hE⟩, hSh, hs, h38, h56, _, hb, hw, hB, hσ, hl, hal⟩ := id h
  have hL := hE.1
  have hL26 : 26 < L := by omega
  have hL29 : 29 < L := by omega
  have hN := hb.n25
  have htf := tof_rng hb (σ 4 0)
  have hh : HT (b 0 0 * b 0 1) (c 39) := fun y y1 y2 => by
    rw [show c 39 y = σ 0 y from hσ.1 y y1 y2]
    exact hw.1 y y1 y2
  have h72 := fun Q => c72q (n := n) (Q := Q) h
  have h2 := h.next (FQ.refl c)
  have hE2 := SeaS_new hE (some s) v
  generalize seaf sh (some s) v = S2 at hq h72 h2 hE2
  obtain ⟨hM2, _, hSh2, _, h382, h562, _, _, _, hB2, hσ2, _⟩ := id h2
  have h75 := fun Q => c75 (c := c) (n := n) (Q := Q) hM2 hSh2 h382 hL hb hB2 hσ2 hw
  have h26 := hM.1
  have g26 := hM2.1
  have g29 := hM2.2
  show tc_W 71 0 [rf 26, .inl x] [] _ _ Q
  repeat' (simp (disch := first | omega | exact Nat.le_of_ble_eq_true rfl | exact rfl | assumption | (simp (disch := omega) only [fr_ne, fr_same]; first | assumption | omega)) only [r71_0, r71_1, v71_1_10, r71_4, r71_5, r71_8, r71_11, r71_14, r71_15, v71_15_10, r71_18, v71_18_7, r71_21, r71_22, r71_25, r71_28, r71_29, r71_30, g10_34_10, g10_109_6, g10_112_5, g10_45_10, g10_253_7, o10_len, o10_g4, o6_len, o6_g1, o5_len, o5_g0, o10_g6, o7_len, o7_g2, il_s, bl_s, bl_z, ll_s, is_s, bs_s, bs_z, ls_s, al_s, al_b, al_l, fr_ne, fr_same, fr_fr, Nat.reduceEqDiff, tc_gf3_s, tc_ql2_s, tc_ws_0, tc_ws_i, tc_ws_l, tc_ws_r, Nat.reduceLeDiff, Nat.reduceAdd, Nat.reduceLT, true_and, and_true, if_true, if_false, tc_K, Option.toList_some, Option.toList_none, List.nil_append, List.cons_append, ite_true, ite_false, Int.cast_ofNat_Int, reduceIte, i3_add_eq, i3_sub_eq, Int.add_sub_cancel, Int.add_neg_cancel_right, hO hL26 h26, h72, hO hL26 g26, hO hL29 g29, SanS_g0 h382, SanS_s0 h382, SanS_g1 h382, SanS_s1 h382, SanS_g2 h382, SanS_s2 h382, SanS_g3 h382, SanS_s3 h382, h75, SeaS_g0 hE2, SeaS_s0 hE2, SeaS_g1 hE2, SeaS_s1 hE2, SeaS_g2 hE2, SeaS_s2 hE2, SeaS_g3 hE2, SeaS_s3 hE2, SeaS_g4 hE2, SeaS_s4 hE2, SeaS_g5 hE2, SeaS_s5 hE2, SeaS_g6 hE2, SeaS_s6 hE2])
  refine c77 (c := c) (hr := 39) (W := b 0 0) (D := b 0 1) hE2 hSh2 hs h382.2.2.1 (by omega) (by omega) ⟨hb.1.1, hb.1.2.1⟩ hN hB2.1 hh (by omega) ?_
  intro e k1 k2
  have e50 : ∀ y, 0 ≤ y → y < b 0 0 * b 0 1 → e 50 y = stg (b 0 0) (b 0 0 * b 0 1) (c 39) (tof b (σ 4 0)) y := fun y y1 y2 => by
    rw [k2]
    exact lay_in ⟨y1, y2⟩
  have ex := e50 x hx.1 hx.2
  repeat' (simp (disch := first | omega | exact Nat.le_of_ble_eq_true rfl | exact rfl | assumption | (simp (disch := omega) only [fr_ne, fr_same]; first | assumption | omega)) only [r71_0, r71_1, v71_1_10, r71_4, r71_5, r71_8, r71_11, r71_14, r71_15, v71_15_10, r71_18, v71_18_7, r71_21, r71_22, r71_25, r71_28, r71_29, r71_30, g10_34_10, g10_109_6, g10_112_5, g10_45_10, g10_253_7, o10_len, o10_g4, o6_len, o6_g1, o5_len, o5_g0, o10_g6, o7_len, o7_g2, il_s, bl_s, bl_z, ll_s, is_s, bs_s, bs_z, ls_s, al_s, al_b, al_l, fr_ne, fr_same, fr_fr, Nat.reduceEqDiff, tc_gf3_s, tc_ql2_s, tc_ws_0, tc_ws_i, tc_ws_l, tc_ws_r, Nat.reduceLeDiff, Nat.reduceAdd, Nat.reduceLT, true_and, and_true, if_true, if_false, tc_K, Option.toList_some, Option.toList_none, List.nil_append, List.cons_append, ite_true, ite_false, Int.cast_ofNat_Int, reduceIte, i3_add_eq, i3_sub_eq, Int.add_sub_cancel, Int.add_neg_cancel_right, hO hL26 g26, SeaS_g0 hE2, SeaS_s0 hE2, SeaS_g1 hE2, SeaS_s1 hE2, SeaS_g2 hE2, SeaS_s2 hE2, SeaS_g3 hE2, SeaS_s3 hE2, SeaS_g4 hE2, SeaS_s4 hE2, SeaS_g5 hE2, SeaS_s5 hE2, SeaS_g6 hE2, SeaS_s6 hE2, ex])
  exact hq e (fun a ha => k1 a (by omega) (by omega)) e50
end QUERYC3

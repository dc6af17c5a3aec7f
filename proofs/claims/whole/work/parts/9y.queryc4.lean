/-! the class: way, wall -/
section QUERYC4
variable {L : Nat} {sh : Nat → SH} {c : Nat → Int → Int} {n : Nat} {Q : Option AV → List SC → Nat → Prop} {s : Nat} {v : Option Nat} {b σ : Nat → Int → Int} {la : Option Law}
theorem CQ.ht (h : CQ L sh c s v b σ la) : HT (b 0 0 * b 0 1) (c 39) := by
  obtain ⟨_, _, _, _, _, _, _, _, hw, _, hσ, _⟩ := h
  intro y y1 y2
  rw [show c 39 y = σ 0 y from hσ.1 y y1 y2]
  exact hw.1 y y1 y2
theorem c113 (h : CQ L sh c s v b σ la) {T : Int} (hT : tof b (σ 4 0) = T) {g : Int → Int} (hg : g = stg (b 0 0) (b 0 0 * b 0 1) (c 39) T) {x k : Int} (hx : 0 ≤ x ∧ x < b 0 0 * b 0 1) (hk : 0 ≤ k) (hk2 : k < 2147483648)
    (hq : ∀ (j : Nat) e, FQ c e → WYS (pxs (whn (b 0 0) (b 0 0 * b 0 1) (c 39) T g) (if 0 < g x then x else -1)) j → Q (some (.inl (if k < j then pxs (whn (b 0 0) (b 0 0 * b 0 1) (c 39) T g) (if 0 < g x then x else -1) (j - 1 - k.toNat) else -2))) (hp L (seaf sh (some s) v) e) n) : tc_C 113 [rf 26, .inl x, .inl k] (hp L sh c) n Q := by
  obtain ⟨hM, ⟨s1, l1, hE⟩, hSh, hs, h38, h56, _, hb, hw, hB, hσ, hl, hal⟩ := id h
  have hL := hE.1
  have hL26 : 26 < L := by omega
  have hL29 : 29 < L := by omega
  have hN := hb.n25
  have htf : 0 ≤ T ∧ T ≤ 20 := hT ▸ tof_rng hb (σ 4 0)
  have hh := h.ht
  have hW : 2 ≤ b 0 0 ∧ b 0 0 ≤ 5 := ⟨hb.1.1, hb.1.2.1⟩
  have hgr : ∀ y, 0 ≤ y → y < b 0 0 * b 0 1 → 0 ≤ g y ∧ g y ≤ T := fun y y1 y2 => by
    rw [hg]
    exact stg_rng hW hh htf.1 y1 y2
  have h68 := fun Q => c68 (c := c) (n := n) (Q := Q) (x := x) hM hSh hL hB.1.2.1
  simp only [if_pos hx] at h68
  have h26 := hM.1
  show tc_W 113 0 [rf 26, .inl x, .inl k, tc_nil] [] _ _ Q
  repeat' (first | (simp (disch := first | omega | exact Nat.le_of_ble_eq_true rfl | exact rfl | assumption | (simp (disch := omega) only [fr_ne, fr_same]; first | assumption | omega)) only [r113_0, r113_1, r113_2, v113_2_10, r113_8, r113_12, r113_13, r113_14, r113_15, r113_16, v113_16_10, r113_19, r113_23, r113_25, r113_26, r113_27, r113_30, r113_31, r113_34, r113_37, r113_40, r113_41, r113_42, v113_42_10, r113_45, v113_45_7, r113_48i, r113_49, r113_50, r113_54, r113_55, r113_58, r113_61, r113_62, r113_63, r113_64, r113_65, r113_66, r113_67, r113_70, r113_72, g10_45_10, g10_34_10, g10_109_6, g10_112_5, g10_199_7, o10_len, o10_g6, o10_g4, o6_len, o6_g1, o5_len, o5_g0, o7_len, o7_g3, il_s, bl_s, bl_z, ll_s, is_s, bs_s, bs_z, ls_s, al_s, al_b, al_l, fr_ne, fr_same, fr_fr, Nat.reduceEqDiff, tc_gf3_s, tc_ql2_s, tc_ws_0, tc_ws_i, tc_ws_l, tc_ws_r, Nat.reduceLeDiff, Nat.reduceAdd, Nat.reduceLT, true_and, and_true, if_true, if_false, tc_K, Option.toList_some, Option.toList_none, List.nil_append, List.cons_append, ite_true, ite_false, Int.cast_ofNat_Int, reduceIte, i3_add_eq, i3_sub_eq, Int.add_sub_cancel, Int.add_neg_cancel_right, hO hL26 h26, h68]) | (simp only [r113_5, r113_9, r113_20, r113_51, i6_lt0, i6_0lt, i6_0le, i6_le0, i6_eq0, b10_0, ite_not, Int.reduceLT, Int.reduceLE, Int.reduceEq, Int.reduceNeg, if_true, if_false, ite_true, ite_false, reduceIte, eq_self, not_true, not_false_eq_true]; try refine tc_ite (fun _ => ?_) (fun _ => ?_) <;> try (exfalso; omega)))
  refine c71 h hx ?_
  rw [hT, ← hg]
  intro e he e50
  have h2 := h.next he
  have hE2 := SeaS_new hE (some s) v
  generalize seaf sh (some s) v = S2 at hq h2 hE2
  obtain ⟨hM2, _, hSh2, _, h382, h562, _, _, _, hB2, hσ2, _⟩ := id h2
  have g26 := hM2.1
  have g29 := hM2.2
  have hgx := hgr x hx.1 hx.2
  have e39 : e 39 = c 39 := he 39 (by omega)
  by_cases h0 : 0 < g x
  · rw [if_pos h0] at hq
    have h75 := fun Q => c75 (c := e) (n := n) (Q := Q) hM2 hSh2 h382 hL hb hB2 hσ2 hw
    simp only [hT] at h75
    repeat' (first | (simp (disch := first | omega | exact Nat.le_of_ble_eq_true rfl | exact rfl | assumption | (simp (disch := omega) only [fr_ne, fr_same]; first | assumption | omega)) only [r113_0, r113_1, r113_2, v113_2_10, r113_8, r113_12, r113_13, r113_14, r113_15, r113_16, v113_16_10, r113_19, r113_23, r113_25, r113_26, r113_27, r113_30, r113_31, r113_34, r113_37, r113_40, r113_41, r113_42, v113_42_10, r113_45, v113_45_7, r113_48i, r113_49, r113_50, r113_54, r113_55, r113_58, r113_61, r113_62, r113_63, r113_64, r113_65, r113_66, r113_67, r113_70, r113_72, g10_45_10, g10_34_10, g10_109_6, g10_112_5, g10_199_7, o10_len, o10_g6, o10_g4, o6_len, o6_g1, o5_len, o5_g0, o7_len, o7_g3, il_s, bl_s, bl_z, ll_s, is_s, bs_s, bs_z, ls_s, al_s, al_b, al_l, fr_ne, fr_same, fr_fr, Nat.reduceEqDiff, tc_gf3_s, tc_ql2_s, tc_ws_0, tc_ws_i, tc_ws_l, tc_ws_r, Nat.reduceLeDiff, Nat.reduceAdd, Nat.reduceLT, true_and, and_true, if_true, if_false, tc_K, Option.toList_some, Option.toList_none, List.nil_append, List.cons_append, ite_true, ite_false, Int.cast_ofNat_Int, reduceIte, i3_add_eq, i3_sub_eq, Int.add_sub_cancel, Int.add_neg_cancel_right, hO hL26 g26, hO hL29 g29, SanS_g0 h382, SanS_s0 h382, SanS_g1 h382, SanS_s1 h382, SanS_g2 h382, SanS_s2 h382, SanS_g3 h382, SanS_s3 h382, SeaS_g0 hE2, SeaS_s0 hE2, SeaS_g1 hE2, SeaS_s1 hE2, SeaS_g2 hE2, SeaS_s2 hE2, SeaS_g3 hE2, SeaS_s3 hE2, SeaS_g4 hE2, SeaS_s4 hE2, SeaS_g5 hE2, SeaS_s5 hE2, SeaS_g6 hE2, SeaS_s6 hE2, h75]) | (simp only [r113_5, r113_9, r113_20, r113_51, i6_lt0, i6_0lt, i6_0le, i6_le0, i6_eq0, b10_0, ite_not, Int.reduceLT, Int.reduceLE, Int.reduceEq, Int.reduceNeg, if_true, if_false, ite_true, ite_false, reduceIte, eq_self, not_true, not_false_eq_true]; try refine tc_ite (fun _ => ?_) (fun _ => ?_) <;> try (exfalso; omega)))
    all_goals try omega
    refine c114 (c := e) (hr := 39) (g := g) hE2 hSh2 hs h382.2.2.1 (by omega) (by omega) hW hN hB2.1 (by rw [e39]; exact hh) (by omega) (fun y y1 y2 => ⟨e50 y y1 y2, hgr y y1 y2⟩) hx.1 hx.2 (by omega) ?_
    rw [e39]
    intro j e2 k1 k2 k3 k4
    have hq' := hq j e2 (fun a ha => (k1 a (by omega)).trans (he a ha)) k2
    by_cases hkj : k < j
    · rw [if_pos hkj, ← k4 (j - 1 - k.toNat) (by omega), show ((j - 1 - k.toNat : Nat) : Int) = (j : Int) - 1 - k by omega] at hq'
      repeat' (first | (simp (disch := first | omega | exact Nat.le_of_ble_eq_true rfl | exact rfl | assumption | (simp (disch := omega) only [fr_ne, fr_same]; first | assumption | omega)) only [r113_0, r113_1, r113_2, v113_2_10, r113_8, r113_12, r113_13, r113_14, r113_15, r113_16, v113_16_10, r113_19, r113_23, r113_25, r113_26, r113_27, r113_30, r113_31, r113_34, r113_37, r113_40, r113_41, r113_42, v113_42_10, r113_45, v113_45_7, r113_48i, r113_49, r113_50, r113_54, r113_55, r113_58, r113_61, r113_62, r113_63, r113_64, r113_65, r113_66, r113_67, r113_70, r113_72, g10_45_10, g10_34_10, g10_109_6, g10_112_5, g10_199_7, o10_len, o10_g6, o10_g4, o6_len, o6_g1, o5_len, o5_g0, o7_len, o7_g3, il_s, bl_s, bl_z, ll_s, is_s, bs_s, bs_z, ls_s, al_s, al_b, al_l, fr_ne, fr_same, fr_fr, Nat.reduceEqDiff, tc_gf3_s, tc_ql2_s, tc_ws_0, tc_ws_i, tc_ws_l, tc_ws_r, Nat.reduceLeDiff, Nat.reduceAdd, Nat.reduceLT, true_and, and_true, if_true, if_false, tc_K, Option.toList_some, Option.toList_none, List.nil_append, List.cons_append, ite_true, ite_false, Int.cast_ofNat_Int, reduceIte, i3_add_eq, i3_sub_eq, Int.add_sub_cancel, Int.add_neg_cancel_right, hO hL26 g26, SeaS_g0 hE2, SeaS_s0 hE2, SeaS_g1 hE2, SeaS_s1 hE2, SeaS_g2 hE2, SeaS_s2 hE2, SeaS_g3 hE2, SeaS_s3 hE2, SeaS_g4 hE2, SeaS_s4 hE2, SeaS_g5 hE2, SeaS_s5 hE2, SeaS_g6 hE2, SeaS_s6 hE2]) | (simp only [r113_5, r113_9, r113_20, r113_51, i6_lt0, i6_0lt, i6_0le, i6_le0, i6_eq0, b10_0, ite_not, Int.reduceLT, Int.reduceLE, Int.reduceEq, Int.reduceNeg, if_true, if_false, ite_true, ite_false, reduceIte, eq_self, not_true, not_false_eq_true]; try refine tc_ite (fun _ => ?_) (fun _ => ?_) <;> try (exfalso; omega)))
      all_goals first
        | exact hq'
        | omega
    · rw [if_neg hkj] at hq'
      repeat' (first | (simp (disch := first | omega | exact Nat.le_of_ble_eq_true rfl | exact rfl | assumption | (simp (disch := omega) only [fr_ne, fr_same]; first | assumption | omega)) only [r113_0, r113_1, r113_2, v113_2_10, r113_8, r113_12, r113_13, r113_14, r113_15, r113_16, v113_16_10, r113_19, r113_23, r113_25, r113_26, r113_27, r113_30, r113_31, r113_34, r113_37, r113_40, r113_41, r113_42, v113_42_10, r113_45, v113_45_7, r113_48i, r113_49, r113_50, r113_54, r113_55, r113_58, r113_61, r113_62, r113_63, r113_64, r113_65, r113_66, r113_67, r113_70, r113_72, g10_45_10, g10_34_10, g10_109_6, g10_112_5, g10_199_7, o10_len, o10_g6, o10_g4, o6_len, o6_g1, o5_len, o5_g0, o7_len, o7_g3, il_s, bl_s, bl_z, ll_s, is_s, bs_s, bs_z, ls_s, al_s, al_b, al_l, fr_ne, fr_same, fr_fr, Nat.reduceEqDiff, tc_gf3_s, tc_ql2_s, tc_ws_0, tc_ws_i, tc_ws_l, tc_ws_r, Nat.reduceLeDiff, Nat.reduceAdd, Nat.reduceLT, true_and, and_true, if_true, if_false, tc_K, Option.toList_some, Option.toList_none, List.nil_append, List.cons_append, ite_true, ite_false, Int.cast_ofNat_Int, reduceIte, i3_add_eq, i3_sub_eq, Int.add_sub_cancel, Int.add_neg_cancel_right, hO hL26 g26, SeaS_g0 hE2, SeaS_s0 hE2, SeaS_g1 hE2, SeaS_s1 hE2, SeaS_g2 hE2, SeaS_s2 hE2, SeaS_g3 hE2, SeaS_s3 hE2, SeaS_g4 hE2, SeaS_s4 hE2, SeaS_g5 hE2, SeaS_s5 hE2, SeaS_g6 hE2, SeaS_s6 hE2]) | (simp only [r113_5, r113_9, r113_20, r113_51, i6_lt0, i6_0lt, i6_0le, i6_le0, i6_eq0, b10_0, ite_not, Int.reduceLT, Int.reduceLE, Int.reduceEq, Int.reduceNeg, if_true, if_false, ite_true, ite_false, reduceIte, eq_self, not_true, not_false_eq_true]; try refine tc_ite (fun _ => ?_) (fun _ => ?_) <;> try (exfalso; omega)))
      all_goals first
        | exact hq'
        | omega
  · rw [if_neg h0] at hq
    have hq' := hq 0 e he ⟨fun i hi => by omega, rfl⟩
    rw [if_neg (by omega)] at hq'
    repeat' (first | (simp (disch := first | omega | exact Nat.le_of_ble_eq_true rfl | exact rfl | assumption | (simp (disch := omega) only [fr_ne, fr_same]; first | assumption | omega)) only [r113_0, r113_1, r113_2, v113_2_10, r113_8, r113_12, r113_13, r113_14, r113_15, r113_16, v113_16_10, r113_19, r113_23, r113_25, r113_26, r113_27, r113_30, r113_31, r113_34, r113_37, r113_40, r113_41, r113_42, v113_42_10, r113_45, v113_45_7, r113_48i, r113_49, r113_50, r113_54, r113_55, r113_58, r113_61, r113_62, r113_63, r113_64, r113_65, r113_66, r113_67, r113_70, r113_72, g10_45_10, g10_34_10, g10_109_6, g10_112_5, g10_199_7, o10_len, o10_g6, o10_g4, o6_len, o6_g1, o5_len, o5_g0, o7_len, o7_g3, il_s, bl_s, bl_z, ll_s, is_s, bs_s, bs_z, ls_s, al_s, al_b, al_l, fr_ne, fr_same, fr_fr, Nat.reduceEqDiff, tc_gf3_s, tc_ql2_s, tc_ws_0, tc_ws_i, tc_ws_l, tc_ws_r, Nat.reduceLeDiff, Nat.reduceAdd, Nat.reduceLT, true_and, and_true, if_true, if_false, tc_K, Option.toList_some, Option.toList_none, List.nil_append, List.cons_append, ite_true, ite_false, Int.cast_ofNat_Int, reduceIte, i3_add_eq, i3_sub_eq, Int.add_sub_cancel, Int.add_neg_cancel_right]) | (simp only [r113_5, r113_9, r113_20, r113_51, i6_lt0, i6_0lt, i6_0le, i6_le0, i6_eq0, b10_0, ite_not, Int.reduceLT, Int.reduceLE, Int.reduceEq, Int.reduceNeg, if_true, if_false, ite_true, ite_false, reduceIte, eq_self, not_true, not_false_eq_true]; try refine tc_ite (fun _ => ?_) (fun _ => ?_) <;> try (exfalso; omega)))
    all_goals first
      | exact hq'
      | omega
theorem c130 (h : CQ L sh c s v b σ la) {T : Int} (hT : tof b (σ 4 0) = T) {gd : (Int → Bool) → Int} {x : Int} (hx : 0 ≤ x ∧ x < b 0 0 * b 0 1) (hgd : gd = wdr (b 0 0) (b 0 0 * b 0 1) (c 39) T x)
    (hq : ∀ (R : Int) e, FQ c e → WSP (b 0 0 * b 0 1) x gd R → Q (some (.inl (if R = -2 then -1 else R))) (hp L (seaf sh (some s) v) e) n) : tc_C 130 [rf 26, .inl x, .inl T] (hp L sh c) n Q := by
  obtain ⟨hM, ⟨s1, l1, hE⟩, hSh, hs, h38, h56, _, hb, hw, hB, hσ, hl, hal⟩ := id h
  have hL := hE.1
  have hL26 : 26 < L := by omega
  have hN := hb.n25
  have hN4 : 4 ≤ b 0 0 * b 0 1 := by
    have : 2 * 2 ≤ b 0 0 * b 0 1 := Int.mul_le_mul hb.1.1 hb.1.2.2.1 (by omega) (by have := hb.1; omega)
    omega
  have htf : 0 ≤ T ∧ T ≤ 20 := hT ▸ tof_rng hb (σ 4 0)
  have hh := h.ht
  have hW : 2 ≤ b 0 0 ∧ b 0 0 ≤ 5 := ⟨hb.1.1, hb.1.2.1⟩
  have h26 := hM.1
  show tc_W 130 0 [rf 26, .inl x, .inl T, tc_nil, tc_nil, tc_nil, tc_nil] [] _ _ Q
  repeat' (first | (simp (disch := first | omega | exact Nat.le_of_ble_eq_true rfl | exact rfl | assumption | (simp (disch := omega) only [fr_ne, fr_same]; first | assumption | omega)) only [r130_0, r130_1, r130_2, v130_2_10, r130_5, r130_9, r130_10, r130_11, r130_12, r130_13, r130_14, v130_14_10, r130_17, r130_18, r130_19, r130_20, r130_21, r130_22, r130_23i, r130_24, r130_28, r130_29, r130_30, r130_31i, r130_35, r130_39, r130_40, r130_42, r130_43, r130_44, r130_45i, r130_47, r130_48i, r130_52, r130_58, r130_60, r130_61, r130_62, r130_65, r130_68, r130_71, r130_75, r130_77, r130_78, r130_82, r130_84, r130_85, r130_86, r130_87, r130_91, r130_92, r130_94, r130_95, r130_96, v130_96_10, r130_102, r130_104, r130_105, r130_107, r130_110i, r130_112i, r130_115, r130_118i, r130_121, r130_124, r130_125, g10_34_10, g10_131_6, g10_95_8, o10_len, o10_g4, o6_len, o6_g0, o8_len, o8_g2, il_s, bl_s, bl_z, ll_s, is_s, bs_s, bs_z, ls_s, al_s, al_b, al_l, fr_ne, fr_same, fr_fr, Nat.reduceEqDiff, tc_gf3_s, tc_ql2_s, tc_ws_0, tc_ws_i, tc_ws_l, tc_ws_r, Nat.reduceLeDiff, Nat.reduceAdd, Nat.reduceLT, true_and, and_true, if_true, if_false, tc_K, Option.toList_some, Option.toList_none, List.nil_append, List.cons_append, ite_true, ite_false, Int.cast_ofNat_Int, reduceIte, i3_add_eq, i3_sub_eq, Int.add_sub_cancel, Int.add_neg_cancel_right, hO hL26 h26]) | (simp only [r130_6, r130_25, r130_36, r130_55, r130_72, r130_79, r130_88, r130_99, i6_lt0, i6_0lt, i6_0le, i6_le0, i6_eq0, b10_0, ite_not, Int.reduceLT, Int.reduceLE, Int.reduceEq, Int.reduceNeg, if_true, if_false, ite_true, ite_false, reduceIte, eq_self, not_true, not_false_eq_true]; try refine tc_ite (fun _ => ?_) (fun _ => ?_) <;> try (exfalso; omega)))
  refine c71 h hx ?_
  rw [hT]
  intro e he e50
  have h2 := h.next he
  have hE2 := SeaS_new hE (some s) v
  generalize seaf sh (some s) v = S2 at hq h2 hE2
  obtain ⟨hM2, _, hSh2, _, h382, h562, _, _, _, hB2, hσ2, _⟩ := id h2
  have e39 : e 39 = c 39 := he 39 (by omega)
  have ex := e50 x hx.1 hx.2
  show tc_W 130 5 [rf 26, .inl x, .inl T, tc_nil, tc_nil, tc_nil, tc_nil] [.inl (stg (b 0 0) (b 0 0 * b 0 1) (c 39) T x)] (hp L S2 e) n Q
  rw [← ex]
  refine c130_t (c := e) (W := b 0 0) (D := b 0 1) (gd := gd) ⟨hM2.1, hM2.2, h382, h562, hE2, hSh2, hs⟩ hW ⟨hN4, hN.2⟩ hB2.1 (by rw [e39]; exact hh) (by omega) hx.1 hx.2 (by rw [e39]; exact hgd) (by rw [e39]; exact e50) ?_
  intro R e2 k1 k2
  exact hq R e2 (fun a ha => (k1 a (by omega) (by omega) (by omega) (by omega)).trans (he a ha)) k2
theorem c129 (h : CQ L sh c s v b σ la) {T f w : Int} (hT : tof b (σ 4 0) = T) {gd : (Int → Bool) → Int} (hf : 0 ≤ f ∧ f < b 0 2) (h3 : σ 3 f = -1) (hw2 : w = 0 ∨ w = 1) (hgd : gd = wdr (b 0 0) (b 0 0 * b 0 1) (c 39) T (σ 2 f))
    (hq : ∀ (R : Int) e, FQ c e → WSP (b 0 0 * b 0 1) (σ 2 f) gd R → Q (some (.inl (if R = -2 then -2 else if w = 1 then R else cn (fun j => R.toNat.testBit j.toNat) 25))) (hp L (seaf sh (some s) v) e) n) : tc_C 129 [rf 26, .inl f, .inl w] (hp L sh c) n Q := by
  obtain ⟨hM, ⟨sq1, lq1, hE⟩, hSh, hs, h38, h56, _, hb, hw, hB, hσ, hl, hal⟩ := id h
  have hL := hE.1
  have hL26 : 26 < L := by omega
  have hL29 : 29 < L := by omega
  have hm2 := hb.2.1
  have h108 := fun Q => c108q (n := n) (Q := Q) (f := f) h
  simp only [if_pos (⟨hf, h3⟩ : (0 ≤ f ∧ f < b 0 2) ∧ σ 3 f = -1)] at h108
  have h75 := fun Q => c75 (c := c) (n := n) (Q := Q) hM hSh h38 hL hb hB hσ hw
  simp only [hT] at h75
  have hw3 := hw.2.2.1 f hf.1 hf.2
  have e40 : c 40 f = σ 2 f := (hσ.2.1 f hf.1 hf.2).1
  obtain ⟨h26, h29⟩ := id hM
  show tc_W 129 0 [rf 26, .inl f, .inl w, tc_nil] [] _ _ Q
  repeat' (first | (simp (disch := first | omega | exact Nat.le_of_ble_eq_true rfl | exact rfl | assumption | (simp (disch := omega) only [fr_ne, fr_same]; first | assumption | omega)) only [r129_0, r129_1, r129_2, v129_2_10, r129_8, r129_12, r129_13, r129_17, r129_18, r129_19, r129_20, r129_21, r129_24, r129_27, r129_30, r129_31, r129_32, r129_33, v129_33_10, r129_36, v129_36_10, r129_39i, r129_40, r129_41, r129_45, r129_47, r129_48, r129_52, r129_53, r129_56, r129_59, r129_60, g10_34_10, g10_109_6, g10_128_5, o10_len, o10_g4, o6_len, o6_g1, o5_len, o5_g1, il_s, bl_s, bl_z, ll_s, is_s, bs_s, bs_z, ls_s, al_s, al_b, al_l, fr_ne, fr_same, fr_fr, Nat.reduceEqDiff, tc_gf3_s, tc_ql2_s, tc_ws_0, tc_ws_i, tc_ws_l, tc_ws_r, Nat.reduceLeDiff, Nat.reduceAdd, Nat.reduceLT, true_and, and_true, if_true, if_false, tc_K, Option.toList_some, Option.toList_none, List.nil_append, List.cons_append, ite_true, ite_false, Int.cast_ofNat_Int, reduceIte, i3_add_eq, i3_sub_eq, Int.add_sub_cancel, Int.add_neg_cancel_right, hO hL26 h26, hO hL29 h29, SanS_g0 h38, SanS_s0 h38, SanS_g1 h38, SanS_s1 h38, SanS_g2 h38, SanS_s2 h38, SanS_g3 h38, SanS_s3 h38, h108, h75, e40]) | (simp only [r129_5, r129_9, r129_14, r129_42, r129_49, i6_lt0, i6_0lt, i6_0le, i6_le0, i6_eq0, b10_0, ite_not, Int.reduceLT, Int.reduceLE, Int.reduceEq, Int.reduceNeg, if_true, if_false, ite_true, ite_false, reduceIte, eq_self, not_true, not_false_eq_true]; try refine tc_ite (fun _ => ?_) (fun _ => ?_) <;> try (exfalso; omega)))
  all_goals try omega
  refine c130 h hT ⟨hw3.1, hw3.2.1⟩ hgd ?_
  intro R e he hR
  have hq' := hq R e he hR
  have key : R = -2 ∨ ∃ p, R = (mk p 25 : Nat) := by
    rcases hR with h | ⟨_, a, h⟩ | ⟨_, _, a, b, h⟩ | ⟨_, _, _, a, b, d, h⟩ | h
    · exact Or.inr ⟨s0, by rw [mk_s0]; exact h.1⟩
    · exact Or.inr ⟨s1 a, h.2.2.2.2.1⟩
    · exact Or.inr ⟨s2 a b, h.2.2.2.2.2.2.1⟩
    · exact Or.inr ⟨s3 a b d, h.2.2.2.2.2.2.2.2.1⟩
    · exact Or.inl h.2.2.2.2
  rcases key with rfl | ⟨p, rfl⟩
  · rw [if_pos rfl] at hq'
    rw [if_pos rfl]
    repeat' (first | (simp (disch := first | omega | exact Nat.le_of_ble_eq_true rfl | exact rfl | assumption | (simp (disch := omega) only [fr_ne, fr_same]; first | assumption | omega)) only [r129_0, r129_1, r129_2, v129_2_10, r129_8, r129_12, r129_13, r129_17, r129_18, r129_19, r129_20, r129_21, r129_24, r129_27, r129_30, r129_31, r129_32, r129_33, v129_33_10, r129_36, v129_36_10, r129_39i, r129_40, r129_41, r129_45, r129_47, r129_48, r129_52, r129_53, r129_56, r129_59, r129_60, g10_34_10, g10_109_6, g10_128_5, o10_len, o10_g4, o6_len, o6_g1, o5_len, o5_g1, il_s, bl_s, bl_z, ll_s, is_s, bs_s, bs_z, ls_s, al_s, al_b, al_l, fr_ne, fr_same, fr_fr, Nat.reduceEqDiff, tc_gf3_s, tc_ql2_s, tc_ws_0, tc_ws_i, tc_ws_l, tc_ws_r, Nat.reduceLeDiff, Nat.reduceAdd, Nat.reduceLT, true_and, and_true, if_true, if_false, tc_K, Option.toList_some, Option.toList_none, List.nil_append, List.cons_append, ite_true, ite_false, Int.cast_ofNat_Int, reduceIte, i3_add_eq, i3_sub_eq, Int.add_sub_cancel, Int.add_neg_cancel_right]) | (simp only [r129_5, r129_9, r129_14, r129_42, r129_49, i6_lt0, i6_0lt, i6_0le, i6_le0, i6_eq0, b10_0, ite_not, Int.reduceLT, Int.reduceLE, Int.reduceEq, Int.reduceNeg, if_true, if_false, ite_true, ite_false, reduceIte, eq_self, not_true, not_false_eq_true]; try refine tc_ite (fun _ => ?_) (fun _ => ?_) <;> try (exfalso; omega)))
    all_goals first
      | exact hq'
      | omega
  · rw [if_neg (by omega)] at hq'
    rw [if_neg (by omega)]
    have ep : cn (fun j => (((mk p 25 : Nat) : Int)).toNat.testBit j.toNat) 25 = cn p 25 := cn_ext fun j j1 j2 => by
      rw [Int.toNat_natCast, mk_bit, decide_eq_true (by omega), Bool.true_and, Int.toNat_of_nonneg j1]
    rw [ep] at hq'
    have h103 := fun h Q => c103 (n := n) (Q := Q) (h := h) (p := p) (N := 25) (by omega)
    rcases hw2 with rfl | rfl
    · rw [if_neg (by omega)] at hq'
      repeat' (first | (simp (disch := first | omega | exact Nat.le_of_ble_eq_true rfl | exact rfl | assumption | (simp (disch := omega) only [fr_ne, fr_same]; first | assumption | omega)) only [r129_0, r129_1, r129_2, v129_2_10, r129_8, r129_12, r129_13, r129_17, r129_18, r129_19, r129_20, r129_21, r129_24, r129_27, r129_30, r129_31, r129_32, r129_33, v129_33_10, r129_36, v129_36_10, r129_39i, r129_40, r129_41, r129_45, r129_47, r129_48, r129_52, r129_53, r129_56, r129_59, r129_60, g10_34_10, g10_109_6, g10_128_5, o10_len, o10_g4, o6_len, o6_g1, o5_len, o5_g1, il_s, bl_s, bl_z, ll_s, is_s, bs_s, bs_z, ls_s, al_s, al_b, al_l, fr_ne, fr_same, fr_fr, Nat.reduceEqDiff, tc_gf3_s, tc_ql2_s, tc_ws_0, tc_ws_i, tc_ws_l, tc_ws_r, Nat.reduceLeDiff, Nat.reduceAdd, Nat.reduceLT, true_and, and_true, if_true, if_false, tc_K, Option.toList_some, Option.toList_none, List.nil_append, List.cons_append, ite_true, ite_false, Int.cast_ofNat_Int, reduceIte, i3_add_eq, i3_sub_eq, Int.add_sub_cancel, Int.add_neg_cancel_right, h103]) | (simp only [r129_5, r129_9, r129_14, r129_42, r129_49, i6_lt0, i6_0lt, i6_0le, i6_le0, i6_eq0, b10_0, ite_not, Int.reduceLT, Int.reduceLE, Int.reduceEq, Int.reduceNeg, if_true, if_false, ite_true, ite_false, reduceIte, eq_self, not_true, not_false_eq_true]; try refine tc_ite (fun _ => ?_) (fun _ => ?_) <;> try (exfalso; omega)))
      all_goals first
        | exact hq'
        | omega
    · rw [if_pos rfl] at hq'
      repeat' (first | (simp (disch := first | omega | exact Nat.le_of_ble_eq_true rfl | exact rfl | assumption | (simp (disch := omega) only [fr_ne, fr_same]; first | assumption | omega)) only [r129_0, r129_1, r129_2, v129_2_10, r129_8, r129_12, r129_13, r129_17, r129_18, r129_19, r129_20, r129_21, r129_24, r129_27, r129_30, r129_31, r129_32, r129_33, v129_33_10, r129_36, v129_36_10, r129_39i, r129_40, r129_41, r129_45, r129_47, r129_48, r129_52, r129_53, r129_56, r129_59, r129_60, g10_34_10, g10_109_6, g10_128_5, o10_len, o10_g4, o6_len, o6_g1, o5_len, o5_g1, il_s, bl_s, bl_z, ll_s, is_s, bs_s, bs_z, ls_s, al_s, al_b, al_l, fr_ne, fr_same, fr_fr, Nat.reduceEqDiff, tc_gf3_s, tc_ql2_s, tc_ws_0, tc_ws_i, tc_ws_l, tc_ws_r, Nat.reduceLeDiff, Nat.reduceAdd, Nat.reduceLT, true_and, and_true, if_true, if_false, tc_K, Option.toList_some, Option.toList_none, List.nil_append, List.cons_append, ite_true, ite_false, Int.cast_ofNat_Int, reduceIte, i3_add_eq, i3_sub_eq, Int.add_sub_cancel, Int.add_neg_cancel_right, h103]) | (simp only [r129_5, r129_9, r129_14, r129_42, r129_49, i6_lt0, i6_0lt, i6_0le, i6_le0, i6_eq0, b10_0, ite_not, Int.reduceLT, Int.reduceLE, Int.reduceEq, Int.reduceNeg, if_true, if_false, ite_true, ite_false, reduceIte, eq_self, not_true, not_false_eq_true]; try refine tc_ite (fun _ => ?_) (fun _ => ?_) <;> try (exfalso; omega)))
      all_goals first
        | exact hq'
        | omega
end QUERYC4

/-! the class: how high -/
section HIGHQ
variable {L : Nat} {sh : Nat → SH} {c : Nat → Int → Int} {n : Nat} {Q : Option AV → List SC → Nat → Prop} {s : Nat} {v : Option Nat} {b σ : Nat → Int → Int} {la : Option Law}
theorem c135 (h : CQ L sh c s v b σ la) {T f x : Int} (hT : tof b (σ 4 0) = T) (hf : 0 ≤ f ∧ f < b 0 2) (h3 : σ 3 f = -1) (hx : 0 ≤ x ∧ x < b 0 0 * b 0 1) (hne : ¬ σ 2 f = x) {g : Int → Int} (hg : ∀ h, g h = stg (b 0 0) (b 0 0 * b 0 1) (fu (c 39) x h) (T + 1) (σ 2 f))
    (hq : ∀ e, FQ c e → Q (some (.inl (hgx g (10 - c 39 x).toNat (c 39 x)))) (hp L (seaf sh (some s) v) e) n) : tc_C 135 [rf 26, .inl f, .inl x] (hp L sh c) n Q := by
  obtain ⟨hM, ⟨sq1, lq1, hE⟩, hSh, hs, h38, h56, _, hb, hw, hB, hσ, hl, hal⟩ := id h
  have hL := hE.1
  have hL26 : 26 < L := by omega
  have hL29 : 29 < L := by omega
  have hN := hb.n25
  have hm2 := hb.2.1
  have htf : 0 ≤ T ∧ T ≤ 20 := hT ▸ tof_rng hb (σ 4 0)
  have hh := h.ht
  have hW : 2 ≤ b 0 0 ∧ b 0 0 ≤ 5 := ⟨hb.1.1, hb.1.2.1⟩
  have hhx := hh x hx.1 hx.2
  have hw3 := hw.2.2.1 f hf.1 hf.2
  have e40 : c 40 f = σ 2 f := (hσ.2.1 f hf.1 hf.2).1
  have h68 := fun Q => c68 (c := c) (n := n) (Q := Q) (x := x) hM hSh hL hB.1.2.1
  simp only [if_pos hx] at h68
  have h108 := fun Q => c108q (n := n) (Q := Q) (f := f) h
  simp only [if_pos (⟨hf, h3⟩ : (0 ≤ f ∧ f < b 0 2) ∧ σ 3 f = -1)] at h108
  have h72 := fun Q => c72q (n := n) (Q := Q) h
  have h2 := h.next (FQ.refl c)
  have hS : seaf (seaf sh (some s) v) (some s) v = seaf sh (some s) v := seaf_seaf
  have hE2 := SeaS_new hE (some s) v
  generalize seaf sh (some s) v = S2 at hq h72 h2 hS hE2
  obtain ⟨hM2, _, hSh2, _, h382, h562, _⟩ := id h2
  have h26 := hM.1
  have h29 := hM.2
  have g26 := hM2.1
  have g29 := hM2.2
  show tc_W 135 0 [rf 26, .inl f, .inl x, tc_nil, tc_nil] [] _ _ Q
  repeat' (first | (simp (disch := first | omega | exact Nat.le_of_ble_eq_true rfl | exact rfl | assumption | (simp (disch := omega) only [fr_ne, fr_same]; first | assumption | omega)) only [r135_0, r135_1, r135_2, v135_2_10, r135_8, r135_9, r135_10, v135_10_10, r135_16, r135_17, r135_20, r135_23, r135_26, r135_27, r135_28, r135_32, r135_33, r135_34, r135_35, v135_35_10, r135_38, r135_38A, r135_39, r135_40, r135_43, r135_44, r135_47, r135_50, v135_50_5, r135_53, r135_54, r135_57, r135_60, r135_63, r135_64, r135_65i, r135_66, r135_67, r135_70, r135_73, r135_76, r135_77, r135_78i, r135_82, r135_87, r135_88, r135_91, r135_94, r135_95, r135_97, r135_98, r135_99, r135_102, r135_103, r135_106, r135_109, r135_110, v135_110_10, r135_113, r135_114, r135_115, v135_115_7, r135_118, r135_119, r135_122, r135_125, r135_126, r135_127, r135_131, r135_133, r135_134i, r135_137, r135_140, r135_142, g10_34_10, g10_109_6, g10_128_5, g10_52_10, g10_112_5, g10_45_10, g10_253_7, o10_len, o10_g4, o6_len, o6_g1, o5_len, o5_g1, o10_g7, o5_g0, o10_g6, o7_len, o7_g2, il_s, bl_s, bl_z, ll_s, is_s, bs_s, bs_z, ls_s, al_s, al_b, al_l, fr_ne, fr_same, fr_fr, Nat.reduceEqDiff, tc_gf3_s, tc_ql2_s, tc_ws_0, tc_ws_i, tc_ws_l, tc_ws_r, Nat.reduceLeDiff, Nat.reduceAdd, Nat.reduceLT, true_and, and_true, if_true, if_false, tc_K, Option.toList_some, Option.toList_none, List.nil_append, List.cons_append, ite_true, ite_false, Int.cast_ofNat_Int, reduceIte, i3_add_eq, i3_sub_eq, Int.add_sub_cancel, Int.add_neg_cancel_right, hO hL26 h26, hO hL29 h29, SanS_g0 h38, SanS_s0 h38, SanS_g1 h38, SanS_s1 h38, SanS_g2 h38, SanS_s2 h38, SanS_g3 h38, SanS_s3 h38, h68, h108, e40, h72, hO hL26 g26, hO hL29 g29, SanS_g0 h562, SanS_s0 h562, SanS_g1 h562, SanS_s1 h562, SanS_g2 h562, SanS_s2 h562, SanS_g3 h562, SanS_s3 h562]) | (simp only [r135_5, r135_13, r135_29, r135_84, r135_128, i6_lt0, i6_0lt, i6_0le, i6_le0, i6_eq0, b10_0, ite_not, Int.reduceLT, Int.reduceLE, Int.reduceEq, Int.reduceNeg, if_true, if_false, ite_true, ite_false, reduceIte, eq_self, not_true, not_false_eq_true]; try refine tc_ite (fun _ => ?_) (fun _ => ?_) <;> try (exfalso; omega)))
  all_goals try omega
  refine c88p h2 ?_
  intro e he hσe
  have r40 : e 40 f = σ 2 f := by rw [he 40 (by omega)]; exact e40
  have r39 : e 39 = c 39 := he 39 (by omega)
  repeat' (first | (simp (disch := first | omega | exact Nat.le_of_ble_eq_true rfl | exact rfl | assumption | (simp (disch := omega) only [fr_ne, fr_same]; first | assumption | omega)) only [r135_0, r135_1, r135_2, v135_2_10, r135_8, r135_9, r135_10, v135_10_10, r135_16, r135_17, r135_20, r135_23, r135_26, r135_27, r135_28, r135_32, r135_33, r135_34, r135_35, v135_35_10, r135_38, r135_38A, r135_39, r135_40, r135_43, r135_44, r135_47, r135_50, v135_50_5, r135_53, r135_54, r135_57, r135_60, r135_63, r135_64, r135_65i, r135_66, r135_67, r135_70, r135_73, r135_76, r135_77, r135_78i, r135_82, r135_87, r135_88, r135_91, r135_94, r135_95, r135_97, r135_98, r135_99, r135_102, r135_103, r135_106, r135_109, r135_110, v135_110_10, r135_113, r135_114, r135_115, v135_115_7, r135_118, r135_119, r135_122, r135_125, r135_126, r135_127, r135_131, r135_133, r135_134i, r135_137, r135_140, r135_142, g10_34_10, g10_109_6, g10_128_5, g10_52_10, g10_112_5, g10_45_10, g10_253_7, o10_len, o10_g4, o6_len, o6_g1, o5_len, o5_g1, o10_g7, o5_g0, o10_g6, o7_len, o7_g2, il_s, bl_s, bl_z, ll_s, is_s, bs_s, bs_z, ls_s, al_s, al_b, al_l, fr_ne, fr_same, fr_fr, Nat.reduceEqDiff, tc_gf3_s, tc_ql2_s, tc_ws_0, tc_ws_i, tc_ws_l, tc_ws_r, Nat.reduceLeDiff, Nat.reduceAdd, Nat.reduceLT, true_and, and_true, if_true, if_false, tc_K, Option.toList_some, Option.toList_none, List.nil_append, List.cons_append, ite_true, ite_false, Int.cast_ofNat_Int, reduceIte, i3_add_eq, i3_sub_eq, Int.add_sub_cancel, Int.add_neg_cancel_right, hO hL26 g26, hO hL29 g29, SanS_g0 h382, SanS_s0 h382, SanS_g1 h382, SanS_s1 h382, SanS_g2 h382, SanS_s2 h382, SanS_g3 h382, SanS_s3 h382, r40, r39]) | (simp only [r135_5, r135_13, r135_29, r135_84, r135_128, i6_lt0, i6_0lt, i6_0le, i6_le0, i6_eq0, b10_0, ite_not, Int.reduceLT, Int.reduceLE, Int.reduceEq, Int.reduceNeg, if_true, if_false, ite_true, ite_false, reduceIte, eq_self, not_true, not_false_eq_true]; try refine tc_ite (fun _ => ?_) (fun _ => ?_) <;> try (exfalso; omega)))
  have key : ∀ (m : Nat) (t : Int) (d : Nat → Int → Int), 0 ≤ t → t + m = 10 → FQ c d → (∀ y, 0 ≤ y → y < b 0 0 * b 0 1 → ¬ y = x → d 57 y = c 39 y) → (∀ e, FQ c e → Q (some (.inl (hgx g m t))) (hp L S2 e) n) → tc_W 135 80 [rf 26, .inl f, .inl x, .inl (σ 2 f), .inl t] [] (hp L S2 d) n Q := by
    intro m
    induction m with
    | zero =>
      intro t d ht ht2 hfd hdx hq
      simp only [r135_80]
      repeat' (first | (simp (disch := first | omega | exact Nat.le_of_ble_eq_true rfl | exact rfl | assumption | (simp (disch := omega) only [fr_ne, fr_same]; first | assumption | omega)) only [r135_0, r135_1, r135_2, v135_2_10, r135_8, r135_9, r135_10, v135_10_10, r135_16, r135_17, r135_20, r135_23, r135_26, r135_27, r135_28, r135_32, r135_33, r135_34, r135_35, v135_35_10, r135_38, r135_38A, r135_39, r135_40, r135_43, r135_44, r135_47, r135_50, v135_50_5, r135_53, r135_54, r135_57, r135_60, r135_63, r135_64, r135_65i, r135_66, r135_67, r135_70, r135_73, r135_76, r135_77, r135_78i, r135_82, r135_87, r135_88, r135_91, r135_94, r135_95, r135_97, r135_98, r135_99, r135_102, r135_103, r135_106, r135_109, r135_110, v135_110_10, r135_113, r135_114, r135_115, v135_115_7, r135_118, r135_119, r135_122, r135_125, r135_126, r135_127, r135_131, r135_133, r135_134i, r135_137, r135_140, r135_142, g10_34_10, g10_109_6, g10_128_5, g10_52_10, g10_112_5, g10_45_10, g10_253_7, o10_len, o10_g4, o6_len, o6_g1, o5_len, o5_g1, o10_g7, o5_g0, o10_g6, o7_len, o7_g2, il_s, bl_s, bl_z, ll_s, is_s, bs_s, bs_z, ls_s, al_s, al_b, al_l, fr_ne, fr_same, fr_fr, Nat.reduceEqDiff, tc_gf3_s, tc_ql2_s, tc_ws_0, tc_ws_i, tc_ws_l, tc_ws_r, Nat.reduceLeDiff, Nat.reduceAdd, Nat.reduceLT, true_and, and_true, if_true, if_false, tc_K, Option.toList_some, Option.toList_none, List.nil_append, List.cons_append, ite_true, ite_false, Int.cast_ofNat_Int, reduceIte, i3_add_eq, i3_sub_eq, Int.add_sub_cancel, Int.add_neg_cancel_right]) | (simp only [r135_5, r135_13, r135_29, r135_84, r135_128, i6_lt0, i6_0lt, i6_0le, i6_le0, i6_eq0, b10_0, ite_not, Int.reduceLT, Int.reduceLE, Int.reduceEq, Int.reduceNeg, if_true, if_false, ite_true, ite_false, reduceIte, eq_self, not_true, not_false_eq_true]; try refine tc_ite (fun _ => ?_) (fun _ => ?_) <;> try (exfalso; omega)))
      all_goals first
        | exact hq d hfd
        | omega
    | succ m ih =>
      intro t d ht ht2 hfd hdx hq
      have e1 : hgx g (m + 1) t = if g t = 0 then t else hgx g m (t + 1) := rfl
      rw [e1] at hq
      generalize hd' : fr d 57 (fu (d 57) x t) = d'
      have p57 : d' 57 = fu (d 57) x t := by rw [← hd', fr_same]
      have hfd' : FQ c d' := fun a ha => by
        rw [← hd', fr_ne (by omega)]
        exact hfd a ha
      have hC' : CQ L S2 d' s v b σ la := hS ▸ h2.next hfd'
      obtain ⟨_, _, _, _, _, _, _, _, _, hB', hσ', _⟩ := id hC'
      have h75 := fun Q => c75 (c := d') (n := n) (Q := Q) hM2 hSh2 h382 hL hb hB' hσ' hw
      simp only [hT] at h75
      have hrow : ∀ y, 0 ≤ y → y < b 0 0 * b 0 1 → d' 57 y = fu (c 39) x t y := fun y y1 y2 => by
        rw [p57, fu_at, fu_at]
        split
        · rfl
        · rename_i hy
          exact hdx y y1 y2 hy
      have hht : HT (b 0 0 * b 0 1) (d' 57) := fun y y1 y2 => by
        rw [hrow y y1 y2, fu_at]
        split
        · omega
        · exact hh y y1 y2
      simp only [r135_80]
      repeat' (first | (simp (disch := first | omega | exact Nat.le_of_ble_eq_true rfl | exact rfl | assumption | (simp (disch := omega) only [fr_ne, fr_same]; first | assumption | omega)) only [r135_0, r135_1, r135_2, v135_2_10, r135_8, r135_9, r135_10, v135_10_10, r135_16, r135_17, r135_20, r135_23, r135_26, r135_27, r135_28, r135_32, r135_33, r135_34, r135_35, v135_35_10, r135_38, r135_38A, r135_39, r135_40, r135_43, r135_44, r135_47, r135_50, v135_50_5, r135_53, r135_54, r135_57, r135_60, r135_63, r135_64, r135_65i, r135_66, r135_67, r135_70, r135_73, r135_76, r135_77, r135_78i, r135_82, r135_87, r135_88, r135_91, r135_94, r135_95, r135_97, r135_98, r135_99, r135_102, r135_103, r135_106, r135_109, r135_110, v135_110_10, r135_113, r135_114, r135_115, v135_115_7, r135_118, r135_119, r135_122, r135_125, r135_126, r135_127, r135_131, r135_133, r135_134i, r135_137, r135_140, r135_142, g10_34_10, g10_109_6, g10_128_5, g10_52_10, g10_112_5, g10_45_10, g10_253_7, o10_len, o10_g4, o6_len, o6_g1, o5_len, o5_g1, o10_g7, o5_g0, o10_g6, o7_len, o7_g2, il_s, bl_s, bl_z, ll_s, is_s, bs_s, bs_z, ls_s, al_s, al_b, al_l, fr_ne, fr_same, fr_fr, Nat.reduceEqDiff, tc_gf3_s, tc_ql2_s, tc_ws_0, tc_ws_i, tc_ws_l, tc_ws_r, Nat.reduceLeDiff, Nat.reduceAdd, Nat.reduceLT, true_and, and_true, if_true, if_false, tc_K, Option.toList_some, Option.toList_none, List.nil_append, List.cons_append, ite_true, ite_false, Int.cast_ofNat_Int, reduceIte, i3_add_eq, i3_sub_eq, Int.add_sub_cancel, Int.add_neg_cancel_right, hO hL26 g26, hO hL29 g29, SanS_g0 h562, SanS_s0 h562, SanS_g1 h562, SanS_s1 h562, SanS_g2 h562, SanS_s2 h562, SanS_g3 h562, SanS_s3 h562, SeaS_g0 hE2, SeaS_s0 hE2, SeaS_g1 hE2, SeaS_s1 hE2, SeaS_g2 hE2, SeaS_s2 hE2, SeaS_g3 hE2, SeaS_s3 hE2, SeaS_g4 hE2, SeaS_s4 hE2, SeaS_g5 hE2, SeaS_s5 hE2, SeaS_g6 hE2, SeaS_s6 hE2, hd', h75]) | (simp only [r135_5, r135_13, r135_29, r135_84, r135_128, i6_lt0, i6_0lt, i6_0le, i6_le0, i6_eq0, b10_0, ite_not, Int.reduceLT, Int.reduceLE, Int.reduceEq, Int.reduceNeg, if_true, if_false, ite_true, ite_false, reduceIte, eq_self, not_true, not_false_eq_true]; try refine tc_ite (fun _ => ?_) (fun _ => ?_) <;> try (exfalso; omega)))
      all_goals try omega
      refine c77 (c := d') (hr := 57) (W := b 0 0) (D := b 0 1) hE2 hSh2 hs h562.2.2.1 (by omega) (by omega) hW hN hB'.1 hht (by omega) ?_
      intro e2 k1 k2
      have ev : e2 50 (σ 2 f) = g t := by
        rw [k2, lay_in ⟨hw3.1, hw3.2.1⟩, hg, stg_ext hW hrow]
      have hgn : 0 ≤ g t := by
        rw [hg]
        exact (stg_rng (ht := fu (c 39) x t) hW (fun y y1 y2 => by
          rw [fu_at]
          split
          · omega
          · exact hh y y1 y2) (by omega) hw3.1 hw3.2.1).1
      have hfe : FQ c e2 := hfd'.trans fun a ha => k1 a (by omega) (by omega)
      by_cases hz : g t = 0
      · rw [if_pos hz] at hq
        repeat' (first | (simp (disch := first | omega | exact Nat.le_of_ble_eq_true rfl | exact rfl | assumption | (simp (disch := omega) only [fr_ne, fr_same]; first | assumption | omega)) only [r135_0, r135_1, r135_2, v135_2_10, r135_8, r135_9, r135_10, v135_10_10, r135_16, r135_17, r135_20, r135_23, r135_26, r135_27, r135_28, r135_32, r135_33, r135_34, r135_35, v135_35_10, r135_38, r135_38A, r135_39, r135_40, r135_43, r135_44, r135_47, r135_50, v135_50_5, r135_53, r135_54, r135_57, r135_60, r135_63, r135_64, r135_65i, r135_66, r135_67, r135_70, r135_73, r135_76, r135_77, r135_78i, r135_82, r135_87, r135_88, r135_91, r135_94, r135_95, r135_97, r135_98, r135_99, r135_102, r135_103, r135_106, r135_109, r135_110, v135_110_10, r135_113, r135_114, r135_115, v135_115_7, r135_118, r135_119, r135_122, r135_125, r135_126, r135_127, r135_131, r135_133, r135_134i, r135_137, r135_140, r135_142, g10_34_10, g10_109_6, g10_128_5, g10_52_10, g10_112_5, g10_45_10, g10_253_7, o10_len, o10_g4, o6_len, o6_g1, o5_len, o5_g1, o10_g7, o5_g0, o10_g6, o7_len, o7_g2, il_s, bl_s, bl_z, ll_s, is_s, bs_s, bs_z, ls_s, al_s, al_b, al_l, fr_ne, fr_same, fr_fr, Nat.reduceEqDiff, tc_gf3_s, tc_ql2_s, tc_ws_0, tc_ws_i, tc_ws_l, tc_ws_r, Nat.reduceLeDiff, Nat.reduceAdd, Nat.reduceLT, true_and, and_true, if_true, if_false, tc_K, Option.toList_some, Option.toList_none, List.nil_append, List.cons_append, ite_true, ite_false, Int.cast_ofNat_Int, reduceIte, i3_add_eq, i3_sub_eq, Int.add_sub_cancel, Int.add_neg_cancel_right, hO hL26 g26, SeaS_g0 hE2, SeaS_s0 hE2, SeaS_g1 hE2, SeaS_s1 hE2, SeaS_g2 hE2, SeaS_s2 hE2, SeaS_g3 hE2, SeaS_s3 hE2, SeaS_g4 hE2, SeaS_s4 hE2, SeaS_g5 hE2, SeaS_s5 hE2, SeaS_g6 hE2, SeaS_s6 hE2, ev, hz]) | (simp only [r135_5, r135_13, r135_29, r135_84, r135_128, i6_lt0, i6_0lt, i6_0le, i6_le0, i6_eq0, b10_0, ite_not, Int.reduceLT, Int.reduceLE, Int.reduceEq, Int.reduceNeg, if_true, if_false, ite_true, ite_false, reduceIte, eq_self, not_true, not_false_eq_true]; try refine tc_ite (fun _ => ?_) (fun _ => ?_) <;> try (exfalso; omega)))
        all_goals first
          | exact hq e2 hfe
          | omega
      · rw [if_neg hz] at hq
        repeat' (first | (simp (disch := first | omega | exact Nat.le_of_ble_eq_true rfl | exact rfl | assumption | (simp (disch := omega) only [fr_ne, fr_same]; first | assumption | omega)) only [r135_0, r135_1, r135_2, v135_2_10, r135_8, r135_9, r135_10, v135_10_10, r135_16, r135_17, r135_20, r135_23, r135_26, r135_27, r135_28, r135_32, r135_33, r135_34, r135_35, v135_35_10, r135_38, r135_38A, r135_39, r135_40, r135_43, r135_44, r135_47, r135_50, v135_50_5, r135_53, r135_54, r135_57, r135_60, r135_63, r135_64, r135_65i, r135_66, r135_67, r135_70, r135_73, r135_76, r135_77, r135_78i, r135_82, r135_87, r135_88, r135_91, r135_94, r135_95, r135_97, r135_98, r135_99, r135_102, r135_103, r135_106, r135_109, r135_110, v135_110_10, r135_113, r135_114, r135_115, v135_115_7, r135_118, r135_119, r135_122, r135_125, r135_126, r135_127, r135_131, r135_133, r135_134i, r135_137, r135_140, r135_142, g10_34_10, g10_109_6, g10_128_5, g10_52_10, g10_112_5, g10_45_10, g10_253_7, o10_len, o10_g4, o6_len, o6_g1, o5_len, o5_g1, o10_g7, o5_g0, o10_g6, o7_len, o7_g2, il_s, bl_s, bl_z, ll_s, is_s, bs_s, bs_z, ls_s, al_s, al_b, al_l, fr_ne, fr_same, fr_fr, Nat.reduceEqDiff, tc_gf3_s, tc_ql2_s, tc_ws_0, tc_ws_i, tc_ws_l, tc_ws_r, Nat.reduceLeDiff, Nat.reduceAdd, Nat.reduceLT, true_and, and_true, if_true, if_false, tc_K, Option.toList_some, Option.toList_none, List.nil_append, List.cons_append, ite_true, ite_false, Int.cast_ofNat_Int, reduceIte, i3_add_eq, i3_sub_eq, Int.add_sub_cancel, Int.add_neg_cancel_right, hO hL26 g26, SeaS_g0 hE2, SeaS_s0 hE2, SeaS_g1 hE2, SeaS_s1 hE2, SeaS_g2 hE2, SeaS_s2 hE2, SeaS_g3 hE2, SeaS_s3 hE2, SeaS_g4 hE2, SeaS_s4 hE2, SeaS_g5 hE2, SeaS_s5 hE2, SeaS_g6 hE2, SeaS_s6 hE2, ev]) | (simp only [r135_5, r135_13, r135_29, r135_84, r135_128, i6_lt0, i6_0lt, i6_0le, i6_le0, i6_eq0, b10_0, ite_not, Int.reduceLT, Int.reduceLE, Int.reduceEq, Int.reduceNeg, if_true, if_false, ite_true, ite_false, reduceIte, eq_self, not_true, not_false_eq_true]; try refine tc_ite (fun _ => ?_) (fun _ => ?_) <;> try (exfalso; omega)))
        all_goals first
          | exact ih (t + 1) e2 (by omega) (by omega) hfe (fun y y1 y2 y3 => by
              rw [k1 57 (by omega) (by omega), hrow y y1 y2, fu_ne y3]) hq
          | omega
  exact key (10 - c 39 x).toNat (c 39 x) e (by omega) (by omega) he (fun y y1 y2 _ => (hσe.1 y y1 y2).trans (hσ.1 y y1 y2).symm) hq
end HIGHQ

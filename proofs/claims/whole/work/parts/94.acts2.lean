/-! the reference: acts, what is told, counts -/
def psk (x : Int) : Int := if x = 20 then 19 else x
def pss (x : Int) : Int := if x = 20 then 1 else 0
/-- the past has grown by how all was -/
def PS (c e : Nat → Int → Int) : Prop := e 75 45 = psk (c 75 45) + 1 ∧ (∀ j, 0 ≤ j → j < 64 * psk (c 75 45) → e 107 j = c 107 (64 * pss (c 75 45) + j)) ∧ (∀ j, 0 ≤ j → j < 64 → e 107 (64 * psk (c 75 45) + j) = PAR c j) ∧ (∀ i, ¬ i = 45 → ¬ i = 46 → ¬ i = 47 → e 75 i = c 75 i)
section MOD24
variable {L : Nat} {sh : Nat → SH} {c : Nat → Int → Int} {n : Nat} {Q : Option AV → List SC → Nat → Prop}
theorem c223p (hS : MS L sh) (hp45 : 0 ≤ c 75 45 ∧ c 75 45 ≤ 20) (hq : ∀ e, (∀ b, ¬ b = 75 → ¬ b = 107 → e b = c b) → PS c e → Q none (hp L sh e) n) : tc_C 223 [rf 75] (hp L sh c) n Q := by
  refine c223 (s := pss (c 75 45)) (k := psk (c 75 45)) hS hp45 rfl rfl ?_
  intro e h1 h2 h3 h4 h5
  exact hq e h1 ⟨h3, h4, h5, h2⟩
theorem PS.of {e f : Nat → Int → Int} (h : PS c e) (h1 : f 75 = e 75) (h2 : f 107 = e 107) : PS c f := by
  unfold PS
  rw [h1, h2]
  exact h
theorem c222 (hS : MS L sh) (hb : WB (bm c)) (hw : WS (bm c) (pm c)) (hla : LF c) (h9 : c 76 8 < 900) (hp45 : 0 ≤ c 75 45 ∧ c 75 45 ≤ 20)
    (hq : ∀ e, PS c e → (∀ a, ¬ a = 75 → ¬ a = 76 → ¬ a = 77 → ¬ a = 78 → ¬ a = 82 → ¬ a = 103 → ¬ a = 104 → ¬ a = 105 → ¬ a = 106 → ¬ a = 107 → e a = c a) → (∀ i, ¬ i = 8 → ¬ i = 9 → e 76 i = c 76 i) → SEq (bm c) (pm e) (stp (bm c) (pm c) (lm c) (tof (bm c) (c 76 8))) → Q (some (.inl (sm (nws (sgb (bm c) (pm c) (tof (bm c) (c 76 8)))) (c 76 0 * c 76 1).toNat))) (hp L sh e) n) : tc_C 222 [rf 75] (hp L sh c) n Q := by
  show tc_W 222 0 [rf 75] [] _ _ Q
  obtain ⟨hd, hbd⟩ := hb.dm
  have h0 : 0 < c 76 0 := by have := hbd.1; omega
  have hw4 : 0 ≤ c 76 8 := hw.2.2.2.1
  repeat' (first | (simp (disch := first | omega | exact Nat.le_of_ble_eq_true rfl | exact rfl | assumption | (simp only [fr_at, Nat.reduceEqDiff, if_false, if_true, reduceIte]; first | assumption | omega)) only [r222_0, r222_1, v222_1_11, r222_7, r222_8, r222_11, r222_13, r222_14, r222_20, r222_21, r222_22, r222_23, v222_23_11, r222_26, r222_27, r222_28, v222_28_11, r222_31, v222_31_11, r222_34, g11_9_11, mo_len, ms75 hS, mt75 hS, mo_g1, ms76 hS, mt76 hS, il_s, bl_s, bl_z, ll_s, is_s, bs_s, bs_z, ls_s, al_s, al_b, al_l, fr_at, fr_fr, Nat.reduceEqDiff, tc_gf3_s, tc_ql2_s, tc_ws_0, tc_ws_i, tc_ws_l, tc_ws_r, Nat.reduceLeDiff, Nat.reduceAdd, Nat.reduceLT, true_and, and_true, if_true, if_false, tc_K, Option.toList_some, Option.toList_none, List.nil_append, List.cons_append, ite_true, ite_false, Int.cast_ofNat_Int, reduceIte, i3_add_eq, i3_sub_eq, Int.add_sub_cancel, Int.add_neg_cancel_right, c217 hS]) | (simp only [r222_4, r222_17, i6_lt0, i6_0lt, i6_0le, i6_le0, i6_eq0, b10_0, ite_not, Int.reduceLT, Int.reduceLE, Int.reduceEq, Int.reduceNeg, if_true, if_false, ite_true, ite_false, reduceIte, eq_self, not_true, not_false_eq_true]; try refine tc_ite (fun _ => ?_) (fun _ => ?_) <;> try (exfalso; omega)))
  refine c223p hS hp45 ?_
  intro e h1 h2
  have r76 := h1 76 (by omega) (by omega)
  have hbm : bm e = bm c := bm_ext r76 (h1 _ (by omega) (by omega)) (h1 _ (by omega) (by omega)) (h1 _ (by omega) (by omega)) (h1 _ (by omega) (by omega)) (h1 _ (by omega) (by omega))
  have hpm : pm e = pm c := pm_ext (h1 _ (by omega) (by omega)) (h1 _ (by omega) (by omega)) (h1 _ (by omega) (by omega)) (h1 _ (by omega) (by omega)) r76
  have lr : LR c e := ⟨h1 _ (by omega) (by omega), h1 _ (by omega) (by omega), h1 _ (by omega) (by omega), h1 _ (by omega) (by omega), h1 _ (by omega) (by omega), h1 _ (by omega) (by omega)⟩
  have hlm : lm e = lm c := lm_ext lr (by rw [r76])
  have h207 := fun Q => c207n (c := e) (d := e) (n := n) (Q := Q) hS (by rw [hbm]; exact hb) (GF.refl e) (w := c 76 8) (by rw [r76]) (by omega)
  simp only [hbm] at h207
  have htf := tof_rng hb (c 76 8)
  repeat' (first | (simp (disch := first | omega | exact Nat.le_of_ble_eq_true rfl | exact rfl | assumption | (simp only [fr_at, Nat.reduceEqDiff, if_false, if_true, reduceIte]; first | assumption | omega)) only [r222_0, r222_1, v222_1_11, r222_7, r222_8, r222_11, r222_13, r222_14, r222_20, r222_21, r222_22, r222_23, v222_23_11, r222_26, r222_27, r222_28, v222_28_11, r222_31, v222_31_11, r222_34, g11_9_11, mo_len, ms75 hS, mt75 hS, mo_g1, ms76 hS, mt76 hS, il_s, bl_s, bl_z, ll_s, is_s, bs_s, bs_z, ls_s, al_s, al_b, al_l, fr_at, fr_fr, Nat.reduceEqDiff, tc_gf3_s, tc_ql2_s, tc_ws_0, tc_ws_i, tc_ws_l, tc_ws_r, Nat.reduceLeDiff, Nat.reduceAdd, Nat.reduceLT, true_and, and_true, if_true, if_false, tc_K, Option.toList_some, Option.toList_none, List.nil_append, List.cons_append, ite_true, ite_false, Int.cast_ofNat_Int, reduceIte, i3_add_eq, i3_sub_eq, Int.add_sub_cancel, Int.add_neg_cancel_right, h207]) | (simp only [r222_4, r222_17, i6_lt0, i6_0lt, i6_0le, i6_le0, i6_eq0, b10_0, ite_not, Int.reduceLT, Int.reduceLE, Int.reduceEq, Int.reduceNeg, if_true, if_false, ite_true, ite_false, reduceIte, eq_self, not_true, not_false_eq_true]; try refine tc_ite (fun _ => ?_) (fun _ => ?_) <;> try (exfalso; omega)))
  refine c224 (c := e) hS (by rw [hbm]; exact hb) (by rw [hbm, hpm]; exact hw) (LF_ext lr (by rw [r76]) hla) (by omega) (by rw [r76]; exact h9) ?_
  rw [hbm, hpm, hlm, r76]
  intro e2 k1 k2 k3
  repeat' (first | (simp (disch := first | omega | exact Nat.le_of_ble_eq_true rfl | exact rfl | assumption | (simp only [fr_at, Nat.reduceEqDiff, if_false, if_true, reduceIte]; first | assumption | omega)) only [r222_0, r222_1, v222_1_11, r222_7, r222_8, r222_11, r222_13, r222_14, r222_20, r222_21, r222_22, r222_23, v222_23_11, r222_26, r222_27, r222_28, v222_28_11, r222_31, v222_31_11, r222_34, g11_9_11, mo_len, ms75 hS, mt75 hS, mo_g1, ms76 hS, mt76 hS, il_s, bl_s, bl_z, ll_s, is_s, bs_s, bs_z, ls_s, al_s, al_b, al_l, fr_at, fr_fr, Nat.reduceEqDiff, tc_gf3_s, tc_ql2_s, tc_ws_0, tc_ws_i, tc_ws_l, tc_ws_r, Nat.reduceLeDiff, Nat.reduceAdd, Nat.reduceLT, true_and, and_true, if_true, if_false, tc_K, Option.toList_some, Option.toList_none, List.nil_append, List.cons_append, ite_true, ite_false, Int.cast_ofNat_Int, reduceIte, i3_add_eq, i3_sub_eq, Int.add_sub_cancel, Int.add_neg_cancel_right]) | (simp only [r222_4, r222_17, i6_lt0, i6_0lt, i6_0le, i6_le0, i6_eq0, b10_0, ite_not, Int.reduceLT, Int.reduceLE, Int.reduceEq, Int.reduceNeg, if_true, if_false, ite_true, ite_false, reduceIte, eq_self, not_true, not_false_eq_true]; try refine tc_ite (fun _ => ?_) (fun _ => ?_) <;> try (exfalso; omega)))
  refine hq e2 (h2.of (k1 75 (by omega) (by omega) (by omega) (by omega) (by omega) (by omega) (by omega) (by omega)) (k1 107 (by omega) (by omega) (by omega) (by omega) (by omega) (by omega) (by omega) (by omega))) (fun a a1 a2 a3 a4 a5 a6 a7 a8 a9 a10 => (k1 a a2 a3 a4 a5 a6 a7 a8 a9).trans (h1 a a1 a10)) k2 k3
theorem c231 (hS : MS L sh) (hb : WB (bm c)) (hw : WS (bm c) (pm c)) (hp45 : 0 ≤ c 75 45 ∧ c 75 45 ≤ 20) {x d : Int} (hx : 0 ≤ x ∧ x < c 76 0 * c 76 1) (hd : 0 ≤ d ∧ d ≤ 3)
    (hq1 : cdg (bm c) (pm c) (4 * x + d) = 0 → Q (some (.inl (-1))) (hp L sh c) n)
    (hq : cdg (bm c) (pm c) (4 * x + d) = 1 → ∀ e, PS c e → (∀ a, ¬ a = 75 → ¬ a = 77 → ¬ a = 107 → e a = c a) → SEq (bm c) (pm e) (dgs (bm c) (pm c) (4 * x + d)) → Q (some (.inl (spt (bm c) (4 * x + d)))) (hp L sh e) n) : tc_C 231 [rf 75, .inl x, .inl d] (hp L sh c) n Q := by
  show tc_W 231 0 [rf 75, .inl x, .inl d] [] _ _ Q
  obtain ⟨hdm, hbd⟩ := hb.dm
  have hN := hdm.m.1
  have hW : 2 ≤ c 76 0 ∧ c 76 0 ≤ 5 := ⟨hbd.1, hbd.2.1⟩
  have hk : 0 ≤ 4 * x + d := by omega
  have hk2 : 4 * x + d < 4 * (c 76 0 * c 76 1) := by omega
  have h232 := fun Q => c232 (c := c) (n := n) (Q := Q) (k := 4 * x + d) hS hdm (by omega) (by
    intro y s y1 y2 h
    have := bes_rng (d := s) hW y1 y2 (by omega) (by omega)
    omega) hk hk2
  have ecd : cdg (bm c) (pm c) (4 * x + d) = if ¬ bes (c 76 0) (c 76 0 * c 76 1) ((4 * x + d) / 4) ((4 * x + d) % 4) = -1 ∧ 0 < c 77 ((4 * x + d) / 4) ∧ c 77 (bes (c 76 0) (c 76 0 * c 76 1) ((4 * x + d) / 4) ((4 * x + d) % 4)) < 9 then 1 else 0 := rfl
  simp only [← ecd] at h232
  rcases cdg_01 (bm c) (pm c) (4 * x + d) with h0 | h0
  · simp only [h0] at h232
    have hq' := hq1 h0
    repeat' (first | (simp (disch := first | omega | exact Nat.le_of_ble_eq_true rfl | exact rfl | assumption | (simp only [fr_at, Nat.reduceEqDiff, if_false, if_true, reduceIte]; first | assumption | omega)) only [r231_0, r231_1, r231_2, v231_2_11, r231_8, r231_9, r231_10, r231_11, r231_14, r231_20, r231_21, r231_22, r231_23, r231_24, r231_25, r231_26, v231_26_11, r231_32, r231_33, r231_34, r231_35, v231_35_11, r231_38, r231_39, r231_40, r231_41, r231_42, r231_43, r231_44, v231_44_11, r231_47, r231_48, r231_49, r231_50, v231_50_11, r231_53, ms75 hS, il_s, bl_s, bl_z, ll_s, is_s, bs_s, bs_z, ls_s, al_s, al_b, al_l, fr_at, fr_fr, Nat.reduceEqDiff, tc_gf3_s, tc_ql2_s, tc_ws_0, tc_ws_i, tc_ws_l, tc_ws_r, Nat.reduceLeDiff, Nat.reduceAdd, Nat.reduceLT, true_and, and_true, if_true, if_false, tc_K, Option.toList_some, Option.toList_none, List.nil_append, List.cons_append, ite_true, ite_false, Int.cast_ofNat_Int, reduceIte, i3_add_eq, i3_sub_eq, Int.add_sub_cancel, Int.add_neg_cancel_right, c205 hS hdm, c181, h232, i3_mul_eq]) | (simp only [r231_5, r231_17, r231_29, i6_lt0, i6_0lt, i6_0le, i6_le0, i6_eq0, b10_0, ite_not, Int.reduceLT, Int.reduceLE, Int.reduceEq, Int.reduceNeg, if_true, if_false, ite_true, ite_false, reduceIte, eq_self, not_true, not_false_eq_true]; try refine tc_ite (fun _ => ?_) (fun _ => ?_) <;> try (exfalso; omega)))
    exact hq'
  · simp only [h0] at h232
    have hq' := hq h0
    have h2 := cdg_1 h0
    have h3 := spt_rng hb hk hk2
    repeat' (first | (simp (disch := first | omega | exact Nat.le_of_ble_eq_true rfl | exact rfl | assumption | (simp only [fr_at, Nat.reduceEqDiff, if_false, if_true, reduceIte]; first | assumption | omega)) only [r231_0, r231_1, r231_2, v231_2_11, r231_8, r231_9, r231_10, r231_11, r231_14, r231_20, r231_21, r231_22, r231_23, r231_24, r231_25, r231_26, v231_26_11, r231_32, r231_33, r231_34, r231_35, v231_35_11, r231_38, r231_39, r231_40, r231_41, r231_42, r231_43, r231_44, v231_44_11, r231_47, r231_48, r231_49, r231_50, v231_50_11, r231_53, ms75 hS, il_s, bl_s, bl_z, ll_s, is_s, bs_s, bs_z, ls_s, al_s, al_b, al_l, fr_at, fr_fr, Nat.reduceEqDiff, tc_gf3_s, tc_ql2_s, tc_ws_0, tc_ws_i, tc_ws_l, tc_ws_r, Nat.reduceLeDiff, Nat.reduceAdd, Nat.reduceLT, true_and, and_true, if_true, if_false, tc_K, Option.toList_some, Option.toList_none, List.nil_append, List.cons_append, ite_true, ite_false, Int.cast_ofNat_Int, reduceIte, i3_add_eq, i3_sub_eq, Int.add_sub_cancel, Int.add_neg_cancel_right, c205 hS hdm, c181, h232, i3_mul_eq]) | (simp only [r231_5, r231_17, r231_29, i6_lt0, i6_0lt, i6_0le, i6_le0, i6_eq0, b10_0, ite_not, Int.reduceLT, Int.reduceLE, Int.reduceEq, Int.reduceNeg, if_true, if_false, ite_true, ite_false, reduceIte, eq_self, not_true, not_false_eq_true]; try refine tc_ite (fun _ => ?_) (fun _ => ?_) <;> try (exfalso; omega)))
    refine c223p hS hp45 ?_
    intro e h1 hps
    have r76 := h1 76 (by omega) (by omega)
    have r77 := h1 77 (by omega) (by omega)
    have es : spt (bm c) (4 * x + d) = bes (c 76 0) (c 76 0 * c 76 1) ((4 * x + d) / 4) ((4 * x + d) % 4) := rfl
    have es2 : spt (bm c) (4 * x + d) = bes (c 76 0) (c 76 0 * c 76 1) x d := by
      rw [es, show (4 * x + d) / 4 = x by omega, show (4 * x + d) % 4 = d by omega]
    have h31 : 0 ≤ spt (bm c) (4 * x + d) ∧ spt (bm c) (4 * x + d) < c 76 0 * c 76 1 := by
      rcases h3.1 with h | h
      · exact absurd h h2.1
      · exact h
    have w1 := hw.1 ((4 * x + d) / 4) h3.2.2.1 h3.2.2.2
    have w2 := hw.1 (spt (bm c) (4 * x + d)) h31.1 h31.2
    have h233 := fun Q => c233n (c := e) (n := n) (Q := Q) (k := 4 * x + d) hS (by rw [r76]; exact hdm) (by rw [r76]; omega) hk (by rw [r76]; exact hk2) (by rw [r76, ← es]; omega) (by rw [r76, ← es]; exact h3.2.1) (by rw [r77]; exact w1) (by rw [r76, r77, ← es]; exact w2)
    simp only [r76, r77, ← es] at h233
    generalize he2 : fr e 77 (fu (fu (c 77) ((4 * x + d) / 4) (c 77 ((4 * x + d) / 4) - 1)) (spt (bm c) (4 * x + d)) (c 77 (spt (bm c) (4 * x + d)) + 1)) = e2 at h233
    have o2 : ∀ a, ¬ a = 77 → e2 a = e a := fun a a1 => by rw [← he2, fr_ne a1]
    have p77 : e2 77 = fu (fu (c 77) ((4 * x + d) / 4) (c 77 ((4 * x + d) / 4) - 1)) (spt (bm c) (4 * x + d)) (c 77 (spt (bm c) (4 * x + d)) + 1) := by rw [← he2, fr_same]
    have h212 := fun Q => c212 (c := e2) (n := n) (Q := Q) (x := x) (s := d) hS (by rw [o2 76 (by omega), r76]; exact hdm) (by rw [o2 76 (by omega), r76]; omega) hx.1 (by omega) (by omega)
    simp only [o2 76 (by omega), r76, ← es2] at h212
    repeat' (first | (simp (disch := first | omega | exact Nat.le_of_ble_eq_true rfl | exact rfl | assumption | (simp only [fr_at, Nat.reduceEqDiff, if_false, if_true, reduceIte]; first | assumption | omega)) only [r231_0, r231_1, r231_2, v231_2_11, r231_8, r231_9, r231_10, r231_11, r231_14, r231_20, r231_21, r231_22, r231_23, r231_24, r231_25, r231_26, v231_26_11, r231_32, r231_33, r231_34, r231_35, v231_35_11, r231_38, r231_39, r231_40, r231_41, r231_42, r231_43, r231_44, v231_44_11, r231_47, r231_48, r231_49, r231_50, v231_50_11, r231_53, ms75 hS, il_s, bl_s, bl_z, ll_s, is_s, bs_s, bs_z, ls_s, al_s, al_b, al_l, fr_at, fr_fr, Nat.reduceEqDiff, tc_gf3_s, tc_ql2_s, tc_ws_0, tc_ws_i, tc_ws_l, tc_ws_r, Nat.reduceLeDiff, Nat.reduceAdd, Nat.reduceLT, true_and, and_true, if_true, if_false, tc_K, Option.toList_some, Option.toList_none, List.nil_append, List.cons_append, ite_true, ite_false, Int.cast_ofNat_Int, reduceIte, i3_add_eq, i3_sub_eq, Int.add_sub_cancel, Int.add_neg_cancel_right, h233, h212, i3_mul_eq]) | (simp only [r231_5, r231_17, r231_29, i6_lt0, i6_0lt, i6_0le, i6_le0, i6_eq0, b10_0, ite_not, Int.reduceLT, Int.reduceLE, Int.reduceEq, Int.reduceNeg, if_true, if_false, ite_true, ite_false, reduceIte, eq_self, not_true, not_false_eq_true]; try refine tc_ite (fun _ => ?_) (fun _ => ?_) <;> try (exfalso; omega)))
    refine hq' e2 (hps.of (o2 75 (by omega)) (o2 107 (by omega))) (fun a a1 a2 a3 => (o2 a a2).trans (h1 a a1 a3)) ?_
    refine ⟨fun y y1 y2 => ⟨?_, ?_⟩, fun f f1 f2 => ⟨?_, ?_⟩, ?_, ?_⟩
    · show e2 77 y = _
      rw [p77]
      rfl
    · show e2 78 y = c 78 y
      rw [o2 78 (by omega), h1 78 (by omega) (by omega)]
    · show e2 79 f = c 79 f
      rw [o2 79 (by omega), h1 79 (by omega) (by omega)]
    · show e2 82 f = c 82 f
      rw [o2 82 (by omega), h1 82 (by omega) (by omega)]
    · show e2 76 8 = c 76 8
      rw [o2 76 (by omega), r76]
    · show e2 76 9 = c 76 9
      rw [o2 76 (by omega), r76]
theorem c234 (hS : MS L sh) (hb : WB (bm c)) (hw : WS (bm c) (pm c)) (hp45 : 0 ≤ c 75 45 ∧ c 75 45 ≤ 20) {f : Int} (hf : 0 ≤ f ∧ f < c 76 2) (h3 : c 82 f = -1)
    (hq : ∀ e, PS c e → (∀ a, ¬ a = 75 → ¬ a = 77 → ¬ a = 82 → ¬ a = 107 → e a = c a) → SEq (bm c) (pm e) (giv (pm c) f) → Q (some (.inl (giv (pm c) f 0 (c 79 f)))) (hp L sh e) n) : tc_C 234 [rf 75, .inl f] (hp L sh c) n Q := by
  show tc_W 234 0 [rf 75, .inl f] [] _ _ Q
  obtain ⟨hd, hbd⟩ := hb.dm
  have hN := hd.m.1
  have hd2 := hd.2
  have hw3 := hw.2.2.1 f hf.1 hf.2
  have ha : 0 ≤ c 79 f ∧ c 79 f < c 76 0 * c 76 1 := ⟨hw3.1, hw3.2.1⟩
  have hh : 0 ≤ c 77 (c 79 f) ∧ c 77 (c 79 f) ≤ 9 := hw.1 (c 79 f) ha.1 ha.2
  repeat' (first | (simp (disch := first | omega | exact Nat.le_of_ble_eq_true rfl | exact rfl | assumption | (simp only [fr_at, Nat.reduceEqDiff, if_false, if_true, reduceIte]; first | assumption | omega)) only [r234_0, r234_1, r234_2, v234_2_11, r234_8, r234_9, r234_10, r234_11, v234_11_11, r234_14, r234_15, r234_16, v234_16_11, r234_19, r234_20, r234_23, r234_24, r234_27, r234_28, r234_29, r234_30, g11_13_11, g11_19_11, mo_len, ms75 hS, mt75 hS, mo_g2, ms77 hS, mt77 hS, mo_g4, ms79 hS, mt79 hS, il_s, bl_s, bl_z, ll_s, is_s, bs_s, bs_z, ls_s, al_s, al_b, al_l, fr_at, fr_fr, Nat.reduceEqDiff, tc_gf3_s, tc_ql2_s, tc_ws_0, tc_ws_i, tc_ws_l, tc_ws_r, Nat.reduceLeDiff, Nat.reduceAdd, Nat.reduceLT, true_and, and_true, if_true, if_false, tc_K, Option.toList_some, Option.toList_none, List.nil_append, List.cons_append, ite_true, ite_false, Int.cast_ofNat_Int, reduceIte, i3_add_eq, i3_sub_eq, Int.add_sub_cancel, Int.add_neg_cancel_right, c235 hS hd, h3]) | (simp only [r234_5, i6_lt0, i6_0lt, i6_0le, i6_le0, i6_eq0, b10_0, ite_not, Int.reduceLT, Int.reduceLE, Int.reduceEq, Int.reduceNeg, if_true, if_false, ite_true, ite_false, reduceIte, eq_self, not_true, not_false_eq_true]; try refine tc_ite (fun _ => ?_) (fun _ => ?_) <;> try (exfalso; omega)))
  refine c223p hS hp45 ?_
  intro e h1 hps
  have r76 := h1 76 (by omega) (by omega)
  have r77 := h1 77 (by omega) (by omega)
  have r79 := h1 79 (by omega) (by omega)
  have r82 := h1 82 (by omega) (by omega)
  have h236 := fun Q => c236 (c := e) (n := n) (Q := Q) hS (f := f) (by omega) (by rw [r79]; omega) (by rw [r77, r79]; omega)
  simp only [r76, r77, r79, r82] at h236
  generalize hd' : fr (fr e 82 (fu (c 82) f (c 76 8))) 77 (fu (c 77) (c 79 f) (c 77 (c 79 f) + (if c 77 (c 79 f) < 9 then 1 else 0))) = d' at h236
  have p77 : d' 77 = fu (c 77) (c 79 f) (c 77 (c 79 f) + (if c 77 (c 79 f) < 9 then 1 else 0)) := by rw [← hd', fr_same]
  have p82 : d' 82 = fu (c 82) f (c 76 8) := by rw [← hd', fr_ne (by omega), fr_same]
  have po : ∀ a, ¬ a = 77 → ¬ a = 82 → d' a = e a := fun a a1 a2 => by rw [← hd', fr_ne a1, fr_ne a2]
  have p79 : d' 79 = c 79 := (po 79 (by omega) (by omega)).trans r79
  have ev : d' 77 (c 79 f) = giv (pm c) f 0 (c 79 f) := by
    rw [p77]
    rfl
  repeat' (first | (simp (disch := first | omega | exact Nat.le_of_ble_eq_true rfl | exact rfl | assumption | (simp only [fr_at, Nat.reduceEqDiff, if_false, if_true, reduceIte]; first | assumption | omega)) only [r234_0, r234_1, r234_2, v234_2_11, r234_8, r234_9, r234_10, r234_11, v234_11_11, r234_14, r234_15, r234_16, v234_16_11, r234_19, r234_20, r234_23, r234_24, r234_27, r234_28, r234_29, r234_30, g11_13_11, g11_19_11, mo_len, ms75 hS, mt75 hS, mo_g2, ms77 hS, mt77 hS, mo_g4, ms79 hS, mt79 hS, il_s, bl_s, bl_z, ll_s, is_s, bs_s, bs_z, ls_s, al_s, al_b, al_l, fr_at, fr_fr, Nat.reduceEqDiff, tc_gf3_s, tc_ql2_s, tc_ws_0, tc_ws_i, tc_ws_l, tc_ws_r, Nat.reduceLeDiff, Nat.reduceAdd, Nat.reduceLT, true_and, and_true, if_true, if_false, tc_K, Option.toList_some, Option.toList_none, List.nil_append, List.cons_append, ite_true, ite_false, Int.cast_ofNat_Int, reduceIte, i3_add_eq, i3_sub_eq, Int.add_sub_cancel, Int.add_neg_cancel_right, h236, p79, ev]) | (simp only [r234_5, i6_lt0, i6_0lt, i6_0le, i6_le0, i6_eq0, b10_0, ite_not, Int.reduceLT, Int.reduceLE, Int.reduceEq, Int.reduceNeg, if_true, if_false, ite_true, ite_false, reduceIte, eq_self, not_true, not_false_eq_true]; try refine tc_ite (fun _ => ?_) (fun _ => ?_) <;> try (exfalso; omega)))
  refine hq d' (hps.of (po 75 (by omega) (by omega)) (po 107 (by omega) (by omega))) (fun a a1 a2 a3 a4 => (po a a2 a3).trans (h1 a a1 a4)) ?_
  refine ⟨fun y y1 y2 => ⟨?_, ?_⟩, fun g g1 g2 => ⟨?_, ?_⟩, ?_, ?_⟩
  · show d' 77 y = _
    rw [p77]
    rfl
  · show d' 78 y = c 78 y
    rw [po 78 (by omega) (by omega), h1 78 (by omega) (by omega)]
  · show d' 79 g = c 79 g
    rw [p79]
  · show d' 82 g = _
    rw [p82]
    rfl
  · show d' 76 8 = c 76 8
    rw [po 76 (by omega) (by omega), r76]
  · show d' 76 9 = c 76 9
    rw [po 76 (by omega) (by omega), r76]
theorem c237 (hS : MS L sh) (hb : WB (bm c)) (hw : WS (bm c) (pm c)) (hp45 : 0 ≤ c 75 45 ∧ c 75 45 ≤ 20) {f x : Int} (hf : 0 ≤ f ∧ f < c 76 2) (h3 : c 82 f = -1) (hx : 0 ≤ x ∧ x < c 76 0 * c 76 1) (hne : ¬ c 79 f = x)
    (hq : ∀ e, PS c e → (∀ a, ¬ a = 75 → ¬ a = 79 → ¬ a = 107 → e a = c a) → e 79 = fu (c 79) f x → Q (some (.inl (c 79 f))) (hp L sh e) n) : tc_C 237 [rf 75, .inl f, .inl x] (hp L sh c) n Q := by
  show tc_W 237 0 [rf 75, .inl f, .inl x, tc_nil] [] _ _ Q
  obtain ⟨hd, hbd⟩ := hb.dm
  have hN := hd.m.1
  have hd2 := hd.2
  repeat' (first | (simp (disch := first | omega | exact Nat.le_of_ble_eq_true rfl | exact rfl | assumption | (simp only [fr_at, Nat.reduceEqDiff, if_false, if_true, reduceIte]; first | assumption | omega)) only [r237_0, r237_1, r237_2, v237_2_11, r237_8, r237_9, r237_10, v237_10_11, r237_16, r237_17, r237_20, r237_21, r237_22, r237_26, r237_27, r237_28, r237_29, v237_29_11, r237_32, r237_33, r237_36, r237_37, r237_38i, r237_39, r237_40, r237_43, r237_44, r237_45, r237_46, r237_47, g11_19_11, mo_len, ms75 hS, mt75 hS, mo_g4, ms79 hS, mt79 hS, il_s, bl_s, bl_z, ll_s, is_s, bs_s, bs_z, ls_s, al_s, al_b, al_l, fr_at, fr_fr, Nat.reduceEqDiff, tc_gf3_s, tc_ql2_s, tc_ws_0, tc_ws_i, tc_ws_l, tc_ws_r, Nat.reduceLeDiff, Nat.reduceAdd, Nat.reduceLT, true_and, and_true, if_true, if_false, tc_K, Option.toList_some, Option.toList_none, List.nil_append, List.cons_append, ite_true, ite_false, Int.cast_ofNat_Int, reduceIte, i3_add_eq, i3_sub_eq, Int.add_sub_cancel, Int.add_neg_cancel_right, c235 hS hd, c205 hS hd, h3]) | (simp only [r237_5, r237_13, r237_23, i6_lt0, i6_0lt, i6_0le, i6_le0, i6_eq0, b10_0, ite_not, Int.reduceLT, Int.reduceLE, Int.reduceEq, Int.reduceNeg, if_true, if_false, ite_true, ite_false, reduceIte, eq_self, not_true, not_false_eq_true]; try refine tc_ite (fun _ => ?_) (fun _ => ?_) <;> try (exfalso; omega)))
  refine c223p hS hp45 ?_
  intro e h1 hps
  have r79 := h1 79 (by omega) (by omega)
  repeat' (first | (simp (disch := first | omega | exact Nat.le_of_ble_eq_true rfl | exact rfl | assumption | (simp only [fr_at, Nat.reduceEqDiff, if_false, if_true, reduceIte]; first | assumption | omega)) only [r237_0, r237_1, r237_2, v237_2_11, r237_8, r237_9, r237_10, v237_10_11, r237_16, r237_17, r237_20, r237_21, r237_22, r237_26, r237_27, r237_28, r237_29, v237_29_11, r237_32, r237_33, r237_36, r237_37, r237_38i, r237_39, r237_40, r237_43, r237_44, r237_45, r237_46, r237_47, g11_19_11, mo_len, ms75 hS, mt75 hS, mo_g4, ms79 hS, mt79 hS, il_s, bl_s, bl_z, ll_s, is_s, bs_s, bs_z, ls_s, al_s, al_b, al_l, fr_at, fr_fr, Nat.reduceEqDiff, tc_gf3_s, tc_ql2_s, tc_ws_0, tc_ws_i, tc_ws_l, tc_ws_r, Nat.reduceLeDiff, Nat.reduceAdd, Nat.reduceLT, true_and, and_true, if_true, if_false, tc_K, Option.toList_some, Option.toList_none, List.nil_append, List.cons_append, ite_true, ite_false, Int.cast_ofNat_Int, reduceIte, i3_add_eq, i3_sub_eq, Int.add_sub_cancel, Int.add_neg_cancel_right, r79]) | (simp only [r237_5, r237_13, r237_23, i6_lt0, i6_0lt, i6_0le, i6_le0, i6_eq0, b10_0, ite_not, Int.reduceLT, Int.reduceLE, Int.reduceEq, Int.reduceNeg, if_true, if_false, ite_true, ite_false, reduceIte, eq_self, not_true, not_false_eq_true]; try refine tc_ite (fun _ => ?_) (fun _ => ?_) <;> try (exfalso; omega)))
  refine hq _ (hps.of (by rw [fr_ne (by omega)]) (by rw [fr_ne (by omega)])) (fun a a1 a2 a3 => by rw [fr_ne a2]; exact h1 a a1 a3) (fr_same _ _ _)
theorem c266 (hS : MS L sh) (hd : DM (c 76)) (h10 : 0 ≤ c 76 10 ∧ c 76 10 ≤ 10) {m x h : Int} : tc_C 266 [rf 75, .inl m, .inl x, .inl h] (hp L sh c) n Q = if m = -1 then Q (some (.inl 0)) (hp L sh (fr c 76 (fu (c 76) 10 0))) n else if (0 ≤ m ∧ m ≤ 60) ∧ (0 ≤ x ∧ x ≤ c 76 0 * c 76 1 - 1) ∧ (0 ≤ h ∧ h ≤ 9) ∧ ¬ c 76 10 = 10 then Q (some (.inl (c 76 10 + 1))) (hp L sh (fr (fr (fr (fr c 84 (fu (c 84) (c 76 10) m)) 85 (fu (c 85) (c 76 10) x)) 86 (fu (c 86) (c 76 10) h)) 76 (fu (c 76) 10 (c 76 10 + 1)))) n else Q (some (.inl (-2))) (hp L sh c) n := by
  by_cases hm : m = -1
  · rw [if_pos hm]
    refine tc_det fun Q hq => ?_
    show tc_W 266 0 [rf 75, .inl m, .inl x, .inl h, tc_nil] [] _ _ Q
    repeat' (first | (simp (disch := first | omega | exact Nat.le_of_ble_eq_true rfl | exact rfl | assumption | (simp only [fr_at, Nat.reduceEqDiff, if_false, if_true, reduceIte]; first | assumption | omega)) only [r266_0, r266_1, r266_5, r266_6, r266_9, r266_11, r266_12, r266_13, r266_14, r266_15, r266_16, r266_19, r266_21, r266_22i, r266_24, r266_25, r266_26, r266_27, r266_30, r266_36, r266_37, r266_38, v266_38_11, r266_44, r266_45, r266_46, r266_47, r266_50, r266_56, r266_58, r266_63, r266_65, r266_66, r266_67, r266_70, r266_72, r266_73, r266_74, r266_75, r266_78, r266_80, r266_81, r266_82, r266_83, r266_86, r266_88, r266_89, r266_90, r266_91, r266_94, r266_96, r266_97, r266_98, r266_99, r266_100, r266_101, r266_103, r266_104, r266_105, g11_9_11, g11_34_11, g11_37_11, g11_40_11, mo_len, ms75 hS, mt75 hS, mo_g1, ms76 hS, mt76 hS, mo_g9, ms84 hS, mt84 hS, mo_g10, ms85 hS, mt85 hS, mo_g11, ms86 hS, mt86 hS, il_s, bl_s, bl_z, ll_s, is_s, bs_s, bs_z, ls_s, al_s, al_b, al_l, fr_at, fr_fr, Nat.reduceEqDiff, tc_gf3_s, tc_ql2_s, tc_ws_0, tc_ws_i, tc_ws_l, tc_ws_r, Nat.reduceLeDiff, Nat.reduceAdd, Nat.reduceLT, true_and, and_true, if_true, if_false, tc_K, Option.toList_some, Option.toList_none, List.nil_append, List.cons_append, ite_true, ite_false, Int.cast_ofNat_Int, reduceIte, i3_add_eq, i3_sub_eq, Int.add_sub_cancel, Int.add_neg_cancel_right, hm]) | (simp only [r266_2, r266_33, r266_41, r266_53, r266_60, i6_lt0, i6_0lt, i6_0le, i6_le0, i6_eq0, b10_0, ite_not, Int.reduceLT, Int.reduceLE, Int.reduceEq, Int.reduceNeg, if_true, if_false, ite_true, ite_false, reduceIte, eq_self, not_true, not_false_eq_true]; try refine tc_ite (fun _ => ?_) (fun _ => ?_) <;> try (exfalso; omega)))
    exact hq
  · rw [if_neg hm]
    by_cases hc : (0 ≤ m ∧ m ≤ 60) ∧ (0 ≤ x ∧ x ≤ c 76 0 * c 76 1 - 1) ∧ (0 ≤ h ∧ h ≤ 9) ∧ ¬ c 76 10 = 10
    · rw [if_pos hc]
      refine tc_det fun Q hq => ?_
      show tc_W 266 0 [rf 75, .inl m, .inl x, .inl h, tc_nil] [] _ _ Q
      repeat' (first | (simp (disch := first | omega | exact Nat.le_of_ble_eq_true rfl | exact rfl | assumption | (simp only [fr_at, Nat.reduceEqDiff, if_false, if_true, reduceIte]; first | assumption | omega)) only [r266_0, r266_1, r266_5, r266_6, r266_9, r266_11, r266_12, r266_13, r266_14, r266_15, r266_16, r266_19, r266_21, r266_22i, r266_24, r266_25, r266_26, r266_27, r266_30, r266_36, r266_37, r266_38, v266_38_11, r266_44, r266_45, r266_46, r266_47, r266_50, r266_56, r266_58, r266_63, r266_65, r266_66, r266_67, r266_70, r266_72, r266_73, r266_74, r266_75, r266_78, r266_80, r266_81, r266_82, r266_83, r266_86, r266_88, r266_89, r266_90, r266_91, r266_94, r266_96, r266_97, r266_98, r266_99, r266_100, r266_101, r266_103, r266_104, r266_105, g11_9_11, g11_34_11, g11_37_11, g11_40_11, mo_len, ms75 hS, mt75 hS, mo_g1, ms76 hS, mt76 hS, mo_g9, ms84 hS, mt84 hS, mo_g10, ms85 hS, mt85 hS, mo_g11, ms86 hS, mt86 hS, il_s, bl_s, bl_z, ll_s, is_s, bs_s, bs_z, ls_s, al_s, al_b, al_l, fr_at, fr_fr, Nat.reduceEqDiff, tc_gf3_s, tc_ql2_s, tc_ws_0, tc_ws_i, tc_ws_l, tc_ws_r, Nat.reduceLeDiff, Nat.reduceAdd, Nat.reduceLT, true_and, and_true, if_true, if_false, tc_K, Option.toList_some, Option.toList_none, List.nil_append, List.cons_append, ite_true, ite_false, Int.cast_ofNat_Int, reduceIte, i3_add_eq, i3_sub_eq, Int.add_sub_cancel, Int.add_neg_cancel_right, c181, c205 hS hd]) | (simp only [r266_2, r266_33, r266_41, r266_53, r266_60, i6_lt0, i6_0lt, i6_0le, i6_le0, i6_eq0, b10_0, ite_not, Int.reduceLT, Int.reduceLE, Int.reduceEq, Int.reduceNeg, if_true, if_false, ite_true, ite_false, reduceIte, eq_self, not_true, not_false_eq_true]; try refine tc_ite (fun _ => ?_) (fun _ => ?_) <;> try (exfalso; omega)))
      all_goals first
        | exact hq
        | omega
    · rw [if_neg hc]
      refine tc_det fun Q hq => ?_
      show tc_W 266 0 [rf 75, .inl m, .inl x, .inl h, tc_nil] [] _ _ Q
      repeat' (first | (simp (disch := first | omega | exact Nat.le_of_ble_eq_true rfl | exact rfl | assumption | (simp only [fr_at, Nat.reduceEqDiff, if_false, if_true, reduceIte]; first | assumption | omega)) only [r266_0, r266_1, r266_5, r266_6, r266_9, r266_11, r266_12, r266_13, r266_14, r266_15, r266_16, r266_19, r266_21, r266_22i, r266_24, r266_25, r266_26, r266_27, r266_30, r266_36, r266_37, r266_38, v266_38_11, r266_44, r266_45, r266_46, r266_47, r266_50, r266_56, r266_58, r266_63, r266_65, r266_66, r266_67, r266_70, r266_72, r266_73, r266_74, r266_75, r266_78, r266_80, r266_81, r266_82, r266_83, r266_86, r266_88, r266_89, r266_90, r266_91, r266_94, r266_96, r266_97, r266_98, r266_99, r266_100, r266_101, r266_103, r266_104, r266_105, g11_9_11, g11_34_11, g11_37_11, g11_40_11, mo_len, ms75 hS, mt75 hS, mo_g1, ms76 hS, mt76 hS, mo_g9, ms84 hS, mt84 hS, mo_g10, ms85 hS, mt85 hS, mo_g11, ms86 hS, mt86 hS, il_s, bl_s, bl_z, ll_s, is_s, bs_s, bs_z, ls_s, al_s, al_b, al_l, fr_at, fr_fr, Nat.reduceEqDiff, tc_gf3_s, tc_ql2_s, tc_ws_0, tc_ws_i, tc_ws_l, tc_ws_r, Nat.reduceLeDiff, Nat.reduceAdd, Nat.reduceLT, true_and, and_true, if_true, if_false, tc_K, Option.toList_some, Option.toList_none, List.nil_append, List.cons_append, ite_true, ite_false, Int.cast_ofNat_Int, reduceIte, i3_add_eq, i3_sub_eq, Int.add_sub_cancel, Int.add_neg_cancel_right, c181, c205 hS hd]) | (simp only [r266_2, r266_33, r266_41, r266_53, r266_60, i6_lt0, i6_0lt, i6_0le, i6_le0, i6_eq0, b10_0, ite_not, Int.reduceLT, Int.reduceLE, Int.reduceEq, Int.reduceNeg, if_true, if_false, ite_true, ite_false, reduceIte, eq_self, not_true, not_false_eq_true]; try refine tc_ite (fun _ => ?_) (fun _ => ?_) <;> try (exfalso; omega)))
      all_goals first
        | exact hq
        | omega
theorem c275 (hS : MS L sh) (hd : DM (c 76)) (hh : HT (c 76 0 * c 76 1) (c 77)) {w : Int} : tc_C 275 [rf 75, .inl w] (hp L sh c) n Q = Q (some (.inl (if w = 0 then c 76 0 else if w = 1 then c 76 1 else if w = 2 then c 76 2 else if w = 3 then c 76 3 else if w = 4 then c 75 25 else if w = 5 then c 76 12 else if w = 6 then c 76 8 else if w = 7 then c 76 9 else if w = 8 then (mk (stn (c 82)) (c 76 2).toNat : Nat) else if w = 9 then sm (c 77) (c 76 0 * c 76 1).toNat else if w = 10 then c 76 10 else if w = 11 then c 75 45 else if w = 12 then c 76 11 else if w = 13 then c 75 21 else -1))) (hp L sh c) n := tc_det fun Q hq => by
  show tc_W 275 0 [rf 75, .inl w] [] _ _ Q
  by_cases hr : 0 ≤ w ∧ w ≤ 13
  · rcases (by omega : w = 0 ∨ w = 1 ∨ w = 2 ∨ w = 3 ∨ w = 4 ∨ w = 5 ∨ w = 6 ∨ w = 7 ∨ w = 8 ∨ w = 9 ∨ w = 10 ∨ w = 11 ∨ w = 12 ∨ w = 13) with rfl | rfl | rfl | rfl | rfl | rfl | rfl | rfl | rfl | rfl | rfl | rfl | rfl | rfl
    all_goals
      simp only [Int.reduceEq, if_true, if_false, reduceIte] at hq
      repeat' (simp (disch := first | omega | exact Nat.le_of_ble_eq_true rfl | exact rfl | assumption | (simp only [fr_at, Nat.reduceEqDiff, if_false, if_true, reduceIte]; first | assumption | omega)) only [r275_0, r275_1_0, r275_1_1, r275_1_2, r275_1_3, r275_1_4, r275_1_5, r275_1_6, r275_1_7, r275_1_8, r275_1_9, r275_1_10, r275_1_11, r275_1_12, r275_1_13, r275_1_d, r275_72, r275_73, r275_76, r275_77, r275_78, r275_79, r275_80, r275_83, r275_84, r275_85, r275_86, r275_87, r275_90, r275_91, r275_92, r275_93, r275_94, r275_97, r275_98, r275_99, r275_100, r275_101, r275_104, r275_105, r275_106, r275_109, r275_111, r275_112, r275_113, r275_114, r275_117, r275_119, r275_120, r275_121, r275_122, r275_125, r275_127, r275_128, r275_129, r275_130, v275_130_11, r275_133, r275_134, r275_135, v275_135_11, r275_138, r275_139, r275_140, r275_143, r275_145, r275_146, r275_147, r275_148, r275_151, r275_152, r275_153, r275_156, r275_158, r275_159, r275_160, r275_161, r275_164, r275_165, r275_166, g11_9_11, g11_331_11, g11_318_11, g11_149_11, mo_len, ms75 hS, mt75 hS, mo_g1, ms76 hS, mt76 hS, mo_g25, mo_g45, mo_g21, il_s, bl_s, bl_z, ll_s, is_s, bs_s, bs_z, ls_s, al_s, al_b, al_l, fr_at, fr_fr, Nat.reduceEqDiff, tc_gf3_s, tc_ql2_s, tc_ws_0, tc_ws_i, tc_ws_l, tc_ws_r, Nat.reduceLeDiff, Nat.reduceAdd, Nat.reduceLT, true_and, and_true, if_true, if_false, tc_K, Option.toList_some, Option.toList_none, List.nil_append, List.cons_append, ite_true, ite_false, Int.cast_ofNat_Int, reduceIte, i3_add_eq, i3_sub_eq, Int.add_sub_cancel, Int.add_neg_cancel_right, c245 hS hd, c276 hS hd hh])
      exact hq
  · rw [if_neg (by omega), if_neg (by omega), if_neg (by omega), if_neg (by omega), if_neg (by omega), if_neg (by omega), if_neg (by omega), if_neg (by omega), if_neg (by omega), if_neg (by omega), if_neg (by omega), if_neg (by omega), if_neg (by omega), if_neg (by omega)] at hq
    repeat' (simp (disch := first | omega | exact Nat.le_of_ble_eq_true rfl | exact rfl | assumption | (simp only [fr_at, Nat.reduceEqDiff, if_false, if_true, reduceIte]; first | assumption | omega)) only [r275_0, r275_1_0, r275_1_1, r275_1_2, r275_1_3, r275_1_4, r275_1_5, r275_1_6, r275_1_7, r275_1_8, r275_1_9, r275_1_10, r275_1_11, r275_1_12, r275_1_13, r275_1_d, r275_72, r275_73, r275_76, r275_77, r275_78, r275_79, r275_80, r275_83, r275_84, r275_85, r275_86, r275_87, r275_90, r275_91, r275_92, r275_93, r275_94, r275_97, r275_98, r275_99, r275_100, r275_101, r275_104, r275_105, r275_106, r275_109, r275_111, r275_112, r275_113, r275_114, r275_117, r275_119, r275_120, r275_121, r275_122, r275_125, r275_127, r275_128, r275_129, r275_130, v275_130_11, r275_133, r275_134, r275_135, v275_135_11, r275_138, r275_139, r275_140, r275_143, r275_145, r275_146, r275_147, r275_148, r275_151, r275_152, r275_153, r275_156, r275_158, r275_159, r275_160, r275_161, r275_164, r275_165, r275_166, g11_9_11, g11_331_11, g11_318_11, g11_149_11, mo_len, ms75 hS, mt75 hS, mo_g1, ms76 hS, mt76 hS, mo_g25, mo_g45, mo_g21, il_s, bl_s, bl_z, ll_s, is_s, bs_s, bs_z, ls_s, al_s, al_b, al_l, fr_at, fr_fr, Nat.reduceEqDiff, tc_gf3_s, tc_ql2_s, tc_ws_0, tc_ws_i, tc_ws_l, tc_ws_r, Nat.reduceLeDiff, Nat.reduceAdd, Nat.reduceLT, true_and, and_true, if_true, if_false, tc_K, Option.toList_some, Option.toList_none, List.nil_append, List.cons_append, ite_true, ite_false, Int.cast_ofNat_Int, reduceIte, i3_add_eq, i3_sub_eq, Int.add_sub_cancel, Int.add_neg_cancel_right])
    exact hq
end MOD24

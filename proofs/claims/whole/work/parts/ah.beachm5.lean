/-! beach, on both sides -/
theorem nmf_rng {g : Int → Int} {N p lo hi : Int} (hp : 0 ≤ p ∧ p ≤ N) (hN : N ≤ 400) : 0 ≤ nmf g N p lo hi ∧ nmf g N p lo hi ≤ 4000 := by
  have hs := nm_rng (g := g) hp
  unfold nmf amf
  repeat' split
  all_goals omega
theorem bpt_rng {g : Int → Int} {N w p R : Int} {B : Nat → Int → Int} (hp : 0 ≤ p ∧ p ≤ N) (hN : N ≤ 400) (hB : B 0 0 ≤ 5) : 0 ≤ (bpt g N w p R B).1 ∧ (bpt g N w p R B).1 ≤ 4000 := by
  have r1 := nm_rng (g := g) hp
  have r2 := nm_rng (g := g) (p := nmp g N p) ⟨r1.1, r1.2.1⟩
  have r3 := nm_rng (g := g) (p := nmp g N (nmp g N p)) ⟨r2.1, r2.2.1⟩
  have n1 := fun lo hi => nmf_rng (g := g) (lo := lo) (hi := hi) hp hN
  have n2 := fun lo hi => nmf_rng (g := g) (lo := lo) (hi := hi) (p := nmp g N p) ⟨r1.1, r1.2.1⟩ hN
  have n3 := fun lo hi => nmf_rng (g := g) (lo := lo) (hi := hi) (p := nmp g N (nmp g N p)) ⟨r2.1, r2.2.1⟩ hN
  have hw := rwf_rng (g := g) (N := N) r1.2.2.1 (B 0 0).toNat
  unfold bpt
  repeat' split
  all_goals first
    | exact n1 _ _
    | exact n2 _ _
    | exact n3 _ _
    | (show 0 ≤ (0 : Int) ∧ (0 : Int) ≤ 4000; omega)
    | (show 0 ≤ rwf g N (sk g N p) (B 0 0).toNat ∧ rwf g N (sk g N p) (B 0 0).toNat ≤ 4000; omega)
    | (show 0 ≤ 1 + 8 * sk g N (nmp g N (nmp g N p)) + 1 ∧ 1 + 8 * sk g N (nmp g N (nmp g N p)) + 1 ≤ 4000; omega)
theorem bcl_rng {g : Int → Int} {N k p R : Int} {B : Nat → Int → Int} (hp : 0 ≤ p ∧ p ≤ N) (hN : N ≤ 400) (hB : B 0 0 ≤ 5) : 0 ≤ (bcl g N k p R B).1 ∧ (bcl g N k p R B).1 ≤ 4000 := by
  have r1 := nm_rng (g := g) hp
  unfold bcl
  split
  · show 0 ≤ 1 + 8 * sk g N p ∧ 1 + 8 * sk g N p ≤ 4000
    omega
  · split
    · show 0 ≤ 1 + 8 * sk g N p + 4 ∧ 1 + 8 * sk g N p + 4 ≤ 4000
      omega
    · next h1 _ => exact bpt_rng (bw_place h1 ⟨r1.2.2.1, r1.2.2.2⟩) hN hB
theorem gof_rng {g : Int → Int} {N p : Int} (hp : 0 ≤ p ∧ p ≤ N) (hN : N ≤ 400) : 0 ≤ gof g N p ∧ gof g N p ≤ 4000 := by
  unfold gof
  split <;> omega
theorem bpr_rng {g : Int → Int} {N f : Int} {B' : Nat → Int → Int} (hN : N ≤ 400) : ∀ (m : Nat) (k p R : Int) (B : Nat → Int → Int), WP B R k → 0 ≤ p → p ≤ N → bpr g N m k p R B = (f, B') → 0 ≤ f ∧ f ≤ 4000 := by
  intro m
  induction m with
  | zero =>
    intro k p R B _ _ _ h
    injection h with h1 _
    omega
  | succ m ih =>
    intro k p R B hW hp1 hp2 h
    have hB : B 0 0 ≤ 5 := by
      have := hW.2.2.1
      omega
    have hr := bcl_rng (g := g) (k := k) (R := R) ⟨hp1, hp2⟩ hN hB
    unfold bpr at h
    rcases hbc : bcl g N k p R B with ⟨f1, p1, R1, B1⟩
    rw [hbc] at h hr
    simp only at h hr
    by_cases hf : f1 = 0
    · subst hf
      have hwp := bcl_wp hbc hW ⟨hp1, hp2⟩
      have hs := nm_rng (g := g) (p := p1) (N := N) hwp.2
      rw [if_neg (fun z => z rfl)] at h
      by_cases hg : gof g N (sk g N p1) = 0
      · rw [if_neg (fun z => z hg)] at h
        by_cases hn : gon g N (sk g N p1) = 1
        · rw [if_pos hn] at h
          have := gon_1 hn
          exact ih (k + 1) (sk g N p1 + 1) R1 B1 hwp.1 (by omega) (by omega) h
        · rw [if_neg hn] at h
          injection h with h1 _
          omega
      · rw [if_pos hg] at h
        injection h with h1 _
        have := gof_rng (g := g) (p := sk g N p1) (N := N) ⟨hs.2.2.1, hs.2.2.2⟩ hN
        omega
    · rw [if_pos hf] at h
      injection h with h1 _
      omega
theorem WP_bsg : WP bsg 0 0 := ⟨by omega, by decide, Or.inl ⟨rfl, rfl, rfl, rfl⟩, by decide, Or.inl rfl, by decide, fun f f1 f2 => absurd f2 (by show ¬ f < 0; omega), fun f f1 f2 => absurd f2 (by show ¬ f < 0; omega), fun x _ _ => by show (0 : Int) ≤ 2 ∧ (2 : Int) ≤ 9; omega, fun _ x _ _ => rfl⟩
section BEACHQ
variable {L : Nat} {sh : Nat → SH} {c : Nat → Int → Int} {n : Nat} {Q : Option AV → List SC → Nat → Prop} {g : Int → Int} {N f : Int} {B' : Nat → Int → Int}
theorem m169 (hS : MS L sh) : tc_C 169 [rf 75] (hp L sh c) n Q = Q none (hp L sh (fr c 75 (fu (fu (fu (fu (fu (c 75) 22 0) 23 0) 26 0) 27 0) 28 0))) n := tc_det fun Q hq => by
  show tc_W 169 0 [rf 75] [] _ _ Q
  repeat' (simp (disch := first | omega | exact Nat.le_of_ble_eq_true rfl | exact rfl | assumption | (simp only [fr_at, Nat.reduceEqDiff, if_false, if_true, reduceIte]; first | assumption | omega)) only [r169_0, r169_1, r169_2, r169_5, r169_6, r169_7, r169_10, r169_11, r169_12, r169_15, r169_16, r169_17, r169_20, r169_21, r169_22, r169_25, p11_174_11, p11_171_11, p11_203_11, p11_244_11, p11_206_11, mo_len, ms75 hS, mt75 hS, mo_s22, mo_s23, mo_s26, mo_s27, mo_s28, il_s, bl_s, bl_z, ll_s, is_s, bs_s, bs_z, ls_s, al_s, al_b, al_l, fr_at, fr_fr, Nat.reduceEqDiff, tc_gf3_s, tc_ql2_s, tc_ws_0, tc_ws_i, tc_ws_l, tc_ws_r, Nat.reduceLeDiff, Nat.reduceAdd, Nat.reduceLT, true_and, and_true, if_true, if_false, tc_K, Option.toList_some, Option.toList_none, List.nil_append, List.cons_append, ite_true, ite_false, Int.cast_ofNat_Int, reduceIte, i3_add_eq, i3_sub_eq, Int.add_sub_cancel, Int.add_neg_cancel_right])
  exact hq
theorem m168 (hS : MS L sh) (hST : STRS sh c) (hT : TP g N) (h95 : c 95 = g) (h21 : c 75 21 = N) (hb : bpr g N 41 0 0 0 bsg = (f, B'))
    (hq : ∀ e, MG c e → e 75 21 = 0 → e 75 23 = f → (f = 0 → (∃ R', RRM e B' R') ∧ WB B') → Q none (hp L sh e) n) : tc_C 168 [rf 75] (hp L sh c) n Q := by
  have h169 := fun Q => m169 (c := c) (n := n) (Q := Q) hS
  generalize hc0 : fr c 75 (fu (fu (fu (fu (fu (c 75) 22 0) 23 0) 26 0) 27 0) 28 0) = c0 at h169
  have g75 : ∀ i, c0 75 i = fu (fu (fu (fu (fu (c 75) 22 0) 23 0) 26 0) 27 0) 28 0 i := fun i => by rw [← hc0, fr_same]
  have go : ∀ a, ¬ a = 75 → c0 a = c a := fun a ha => by rw [← hc0, fr_ne ha]
  show tc_W 168 0 [rf 75, tc_nil, tc_nil] [] _ _ Q
  repeat' (first | (simp (disch := first | omega | exact Nat.le_of_ble_eq_true rfl | exact rfl | assumption | (simp only [fr_at, Nat.reduceEqDiff, if_false, if_true, reduceIte]; first | assumption | omega)) only [r168_0, r168_1, v168_1_11, r168_4, r168_5r, r168_7, r168_12, r168_13, r168_16, r168_17, r168_18, r168_23, r168_24, r168_27, r168_28, r168_29r, r168_32, r168_35, r168_36r, r168_38, r168_43, r168_44, r168_47, r168_48, r168_49, r168_50r, r168_53, r168_56, r168_57, r168_58, r168_61, r168_62r, r168_63, r168_64i, r168_69, r168_70, r168_71, v168_71_11, r168_74r, r168_77, r168_78, v168_78_11, r168_81i, r168_82, r168_85, r168_86, r168_87, r168_90, g11_49_11, g11_52_11, p11_276_11, p11_149_11, mo_len, ms75 hS, mt75 hS, mo_g14, ms89 hS, mt89 hS, mo_g15, ms90 hS, mt90 hS, mo_s20, mo_s21, il_s, bl_s, bl_z, ll_s, is_s, bs_s, bs_z, ls_s, al_s, al_b, al_l, fr_at, fr_fr, Nat.reduceEqDiff, tc_gf3_s, tc_ql2_s, tc_ws_0, tc_ws_i, tc_ws_l, tc_ws_r, Nat.reduceLeDiff, Nat.reduceAdd, Nat.reduceLT, true_and, and_true, if_true, if_false, tc_K, Option.toList_some, Option.toList_none, List.nil_append, List.cons_append, ite_true, ite_false, Int.cast_ofNat_Int, reduceIte, i3_add_eq, i3_sub_eq, Int.add_sub_cancel, Int.add_neg_cancel_right, h169]) | (simp only [r168_9, r168_20, r168_40, r168_66, i6_lt0, i6_0lt, i6_0le, i6_le0, i6_eq0, b10_0, ite_not, Int.reduceLT, Int.reduceLE, Int.reduceEq, Int.reduceNeg, if_true, if_false, ite_true, ite_false, reduceIte, eq_self, not_true, not_false_eq_true]; try refine tc_ite (fun _ => ?_) (fun _ => ?_) <;> try (exfalso; omega)))
  have hlp := upI (N := 8) (P := fun i => tc_W 168 6 [rf 75, .inl i, tc_nil] [] (hp L sh (fr c0 89 (lay i (bsg 0) (c0 89)))) n Q) (by omega) ?_ ?_
  · rw [lay_0, fr_id] at hlp
    exact hlp
  · intro i hi hi2 ih
    simp only [r168_6]
    by_cases h6 : i = 6
    · have e6 : bsg 0 i = 1 := if_pos h6
      repeat' (first | (simp (disch := first | omega | exact Nat.le_of_ble_eq_true rfl | exact rfl | assumption | (simp only [fr_at, Nat.reduceEqDiff, if_false, if_true, reduceIte]; first | assumption | omega)) only [r168_0, r168_1, v168_1_11, r168_4, r168_5r, r168_7, r168_12, r168_13, r168_16, r168_17, r168_18, r168_23, r168_24, r168_27, r168_28, r168_29r, r168_32, r168_35, r168_36r, r168_38, r168_43, r168_44, r168_47, r168_48, r168_49, r168_50r, r168_53, r168_56, r168_57, r168_58, r168_61, r168_62r, r168_63, r168_64i, r168_69, r168_70, r168_71, v168_71_11, r168_74r, r168_77, r168_78, v168_78_11, r168_81i, r168_82, r168_85, r168_86, r168_87, r168_90, g11_49_11, g11_52_11, p11_276_11, p11_149_11, mo_len, ms75 hS, mt75 hS, mo_g14, ms89 hS, mt89 hS, mo_g15, ms90 hS, mt90 hS, mo_s20, mo_s21, il_s, bl_s, bl_z, ll_s, is_s, bs_s, bs_z, ls_s, al_s, al_b, al_l, fr_at, fr_fr, Nat.reduceEqDiff, tc_gf3_s, tc_ql2_s, tc_ws_0, tc_ws_i, tc_ws_l, tc_ws_r, Nat.reduceLeDiff, Nat.reduceAdd, Nat.reduceLT, true_and, and_true, if_true, if_false, tc_K, Option.toList_some, Option.toList_none, List.nil_append, List.cons_append, ite_true, ite_false, Int.cast_ofNat_Int, reduceIte, i3_add_eq, i3_sub_eq, Int.add_sub_cancel, Int.add_neg_cancel_right]) | (simp only [r168_9, r168_20, r168_40, r168_66, i6_lt0, i6_0lt, i6_0le, i6_le0, i6_eq0, b10_0, ite_not, Int.reduceLT, Int.reduceLE, Int.reduceEq, Int.reduceNeg, if_true, if_false, ite_true, ite_false, reduceIte, eq_self, not_true, not_false_eq_true]; try refine tc_ite (fun _ => ?_) (fun _ => ?_) <;> try (exfalso; omega)))
      all_goals first
        | (rw [lay_upv (f := bsg 0) hi e6.symm]; exact ih)
    · have e6 : bsg 0 i = 0 := if_neg h6
      repeat' (first | (simp (disch := first | omega | exact Nat.le_of_ble_eq_true rfl | exact rfl | assumption | (simp only [fr_at, Nat.reduceEqDiff, if_false, if_true, reduceIte]; first | assumption | omega)) only [r168_0, r168_1, v168_1_11, r168_4, r168_5r, r168_7, r168_12, r168_13, r168_16, r168_17, r168_18, r168_23, r168_24, r168_27, r168_28, r168_29r, r168_32, r168_35, r168_36r, r168_38, r168_43, r168_44, r168_47, r168_48, r168_49, r168_50r, r168_53, r168_56, r168_57, r168_58, r168_61, r168_62r, r168_63, r168_64i, r168_69, r168_70, r168_71, v168_71_11, r168_74r, r168_77, r168_78, v168_78_11, r168_81i, r168_82, r168_85, r168_86, r168_87, r168_90, g11_49_11, g11_52_11, p11_276_11, p11_149_11, mo_len, ms75 hS, mt75 hS, mo_g14, ms89 hS, mt89 hS, mo_g15, ms90 hS, mt90 hS, mo_s20, mo_s21, il_s, bl_s, bl_z, ll_s, is_s, bs_s, bs_z, ls_s, al_s, al_b, al_l, fr_at, fr_fr, Nat.reduceEqDiff, tc_gf3_s, tc_ql2_s, tc_ws_0, tc_ws_i, tc_ws_l, tc_ws_r, Nat.reduceLeDiff, Nat.reduceAdd, Nat.reduceLT, true_and, and_true, if_true, if_false, tc_K, Option.toList_some, Option.toList_none, List.nil_append, List.cons_append, ite_true, ite_false, Int.cast_ofNat_Int, reduceIte, i3_add_eq, i3_sub_eq, Int.add_sub_cancel, Int.add_neg_cancel_right]) | (simp only [r168_9, r168_20, r168_40, r168_66, i6_lt0, i6_0lt, i6_0le, i6_le0, i6_eq0, b10_0, ite_not, Int.reduceLT, Int.reduceLE, Int.reduceEq, Int.reduceNeg, if_true, if_false, ite_true, ite_false, reduceIte, eq_self, not_true, not_false_eq_true]; try refine tc_ite (fun _ => ?_) (fun _ => ?_) <;> try (exfalso; omega)))
      all_goals first
        | (rw [lay_upv (f := bsg 0) hi e6.symm]; exact ih)
        | omega
  generalize hc1 : fr c0 89 (lay 8 (bsg 0) (c0 89)) = c1
  simp only [r168_6]
  repeat' (first | (simp (disch := first | omega | exact Nat.le_of_ble_eq_true rfl | exact rfl | assumption | (simp only [fr_at, Nat.reduceEqDiff, if_false, if_true, reduceIte]; first | assumption | omega)) only [r168_0, r168_1, v168_1_11, r168_4, r168_5r, r168_7, r168_12, r168_13, r168_16, r168_17, r168_18, r168_23, r168_24, r168_27, r168_28, r168_29r, r168_32, r168_35, r168_36r, r168_38, r168_43, r168_44, r168_47, r168_48, r168_49, r168_50r, r168_53, r168_56, r168_57, r168_58, r168_61, r168_62r, r168_63, r168_64i, r168_69, r168_70, r168_71, v168_71_11, r168_74r, r168_77, r168_78, v168_78_11, r168_81i, r168_82, r168_85, r168_86, r168_87, r168_90, g11_49_11, g11_52_11, p11_276_11, p11_149_11, mo_len, ms75 hS, mt75 hS, mo_g14, ms89 hS, mt89 hS, mo_g15, ms90 hS, mt90 hS, mo_s20, mo_s21, il_s, bl_s, bl_z, ll_s, is_s, bs_s, bs_z, ls_s, al_s, al_b, al_l, fr_at, fr_fr, Nat.reduceEqDiff, tc_gf3_s, tc_ql2_s, tc_ws_0, tc_ws_i, tc_ws_l, tc_ws_r, Nat.reduceLeDiff, Nat.reduceAdd, Nat.reduceLT, true_and, and_true, if_true, if_false, tc_K, Option.toList_some, Option.toList_none, List.nil_append, List.cons_append, ite_true, ite_false, Int.cast_ofNat_Int, reduceIte, i3_add_eq, i3_sub_eq, Int.add_sub_cancel, Int.add_neg_cancel_right]) | (simp only [r168_9, r168_20, r168_40, r168_66, i6_lt0, i6_0lt, i6_0le, i6_le0, i6_eq0, b10_0, ite_not, Int.reduceLT, Int.reduceLE, Int.reduceEq, Int.reduceNeg, if_true, if_false, ite_true, ite_false, reduceIte, eq_self, not_true, not_false_eq_true]; try refine tc_ite (fun _ => ?_) (fun _ => ?_) <;> try (exfalso; omega)))
  have hlp := upI (N := 25) (P := fun i => tc_W 168 37 [rf 75, .inl i, tc_nil] [] (hp L sh (fr c1 90 (lay i (fun _ => 2) (c1 90)))) n Q) (by omega) ?_ ?_
  · rw [lay_0, fr_id] at hlp
    exact hlp
  · intro i hi hi2 ih
    simp only [r168_37]
    repeat' (first | (simp (disch := first | omega | exact Nat.le_of_ble_eq_true rfl | exact rfl | assumption | (simp only [fr_at, Nat.reduceEqDiff, if_false, if_true, reduceIte]; first | assumption | omega)) only [r168_0, r168_1, v168_1_11, r168_4, r168_5r, r168_7, r168_12, r168_13, r168_16, r168_17, r168_18, r168_23, r168_24, r168_27, r168_28, r168_29r, r168_32, r168_35, r168_36r, r168_38, r168_43, r168_44, r168_47, r168_48, r168_49, r168_50r, r168_53, r168_56, r168_57, r168_58, r168_61, r168_62r, r168_63, r168_64i, r168_69, r168_70, r168_71, v168_71_11, r168_74r, r168_77, r168_78, v168_78_11, r168_81i, r168_82, r168_85, r168_86, r168_87, r168_90, g11_49_11, g11_52_11, p11_276_11, p11_149_11, mo_len, ms75 hS, mt75 hS, mo_g14, ms89 hS, mt89 hS, mo_g15, ms90 hS, mt90 hS, mo_s20, mo_s21, il_s, bl_s, bl_z, ll_s, is_s, bs_s, bs_z, ls_s, al_s, al_b, al_l, fr_at, fr_fr, Nat.reduceEqDiff, tc_gf3_s, tc_ql2_s, tc_ws_0, tc_ws_i, tc_ws_l, tc_ws_r, Nat.reduceLeDiff, Nat.reduceAdd, Nat.reduceLT, true_and, and_true, if_true, if_false, tc_K, Option.toList_some, Option.toList_none, List.nil_append, List.cons_append, ite_true, ite_false, Int.cast_ofNat_Int, reduceIte, i3_add_eq, i3_sub_eq, Int.add_sub_cancel, Int.add_neg_cancel_right]) | (simp only [r168_9, r168_20, r168_40, r168_66, i6_lt0, i6_0lt, i6_0le, i6_le0, i6_eq0, b10_0, ite_not, Int.reduceLT, Int.reduceLE, Int.reduceEq, Int.reduceNeg, if_true, if_false, ite_true, ite_false, reduceIte, eq_self, not_true, not_false_eq_true]; try refine tc_ite (fun _ => ?_) (fun _ => ?_) <;> try (exfalso; omega)))
    all_goals first
      | (rw [lay_upv (f := fun _ => 2) hi rfl]; exact ih)
      | omega
  generalize hc2 : fr c1 90 (lay 25 (fun _ => 2) (c1 90)) = c2
  have o2 : ∀ a, ¬ a = 75 → ¬ a = 89 → ¬ a = 90 → c2 a = c a := fun a q1 q2 q3 => by rw [← hc2, fr_ne q3, ← hc1, fr_ne q2, go a q1]
  have e75 : c2 75 = c0 75 := by rw [← hc2, fr_ne (by omega), ← hc1, fr_ne (by omega)]
  simp only [r168_37]
  repeat' (first | (simp (disch := first | omega | exact Nat.le_of_ble_eq_true rfl | exact rfl | assumption | (simp only [fr_at, Nat.reduceEqDiff, if_false, if_true, reduceIte]; first | assumption | omega)) only [r168_0, r168_1, v168_1_11, r168_4, r168_5r, r168_7, r168_12, r168_13, r168_16, r168_17, r168_18, r168_23, r168_24, r168_27, r168_28, r168_29r, r168_32, r168_35, r168_36r, r168_38, r168_43, r168_44, r168_47, r168_48, r168_49, r168_50r, r168_53, r168_56, r168_57, r168_58, r168_61, r168_62r, r168_63, r168_64i, r168_69, r168_70, r168_71, v168_71_11, r168_74r, r168_77, r168_78, v168_78_11, r168_81i, r168_82, r168_85, r168_86, r168_87, r168_90, g11_49_11, g11_52_11, p11_276_11, p11_149_11, mo_len, ms75 hS, mt75 hS, mo_g14, ms89 hS, mt89 hS, mo_g15, ms90 hS, mt90 hS, mo_s20, mo_s21, il_s, bl_s, bl_z, ll_s, is_s, bs_s, bs_z, ls_s, al_s, al_b, al_l, fr_at, fr_fr, Nat.reduceEqDiff, tc_gf3_s, tc_ql2_s, tc_ws_0, tc_ws_i, tc_ws_l, tc_ws_r, Nat.reduceLeDiff, Nat.reduceAdd, Nat.reduceLT, true_and, and_true, if_true, if_false, tc_K, Option.toList_some, Option.toList_none, List.nil_append, List.cons_append, ite_true, ite_false, Int.cast_ofNat_Int, reduceIte, i3_add_eq, i3_sub_eq, Int.add_sub_cancel, Int.add_neg_cancel_right]) | (simp only [r168_9, r168_20, r168_40, r168_66, i6_lt0, i6_0lt, i6_0le, i6_le0, i6_eq0, b10_0, ite_not, Int.reduceLT, Int.reduceLE, Int.reduceEq, Int.reduceNeg, if_true, if_false, ite_true, ite_false, reduceIte, eq_self, not_true, not_false_eq_true]; try refine tc_ite (fun _ => ?_) (fun _ => ?_) <;> try (exfalso; omega)))
  refine m168_l (c := c) hS hT hq 41 0 0 0 bsg _ (by omega) WP_bsg (by omega) hT.1.1 hb ⟨?_, ?_, ?_, ?_⟩ ⟨fun i i1 i2 => ?_, fun j j1 j2 => ?_, fun j j1 j2 => ?_, fun x x1 x2 => ?_, ?_⟩ ?_ ⟨fun a q1 q2 => ?_, fun i q0 q1 q2 q3 q4 q5 q6 => ?_⟩
  · rw [fr_ne (by omega), o2 95 (by omega) (by omega) (by omega)]
    exact h95
  · rw [fr_same, fu_ne (by omega), e75, g75]
    simp (disch := omega) only [fu_ne]
    exact h21
  · rw [fr_same, fu_ne (by omega), e75, g75]
    simp (disch := omega) only [fu_ne, fu_same]
  · rw [fr_same, fu_ne (by omega), e75, g75]
    simp (disch := omega) only [fu_ne, fu_same]
  · rw [fr_ne (by omega), ← hc2, fr_ne (by omega), ← hc1, fr_same, lay_in (by omega)]
  · have j2 : j < 0 := j2
    omega
  · have j2 : j < 0 := j2
    omega
  · rw [fr_ne (by omega), ← hc2, fr_same, lay_in (by omega)]
    rfl
  · rw [fr_same, fu_same]
  · intro a ha
    refine ⟨(hST a ha).1, ?_⟩
    rw [fr_ne (by omega), o2 a (by omega) (by omega) (by omega)]
    exact (hST a ha).2
  · rw [fr_ne q1, o2 a q1 (by omega) (by omega)]
  · rw [fr_same, fu_ne q0, e75, g75]
    simp (disch := assumption) only [fu_ne]
theorem m167 (hS : MS L sh) (hST : STRS sh c) (hT : TP g N) (h95 : c 95 = g) (h21 : c 75 21 = N) (hb : bpr g N 41 0 0 0 bsg = (f, B'))
    (hq1 : ¬ f = 0 → ∀ e, MG c e → e 75 21 = 0 → Q (some (.inl (-2 - f))) (hp L sh e) n)
    (hq : f = 0 → ∀ e, (∀ a, (a < 75 ∨ 94 < a ∨ a = 84 ∨ a = 85 ∨ a = 86) → e a = c a) → (∀ i, ¬ i = 20 → ¬ i = 21 → ¬ i = 22 → ¬ i = 23 → ¬ i = 26 → ¬ i = 27 → ¬ i = 28 → ¬ i = 45 → e 75 i = c 75 i) → e 75 21 = 0 → e 75 45 = 0 → (∀ i, 0 ≤ i → i ≤ 7 → e 76 i = B' 0 i) → (e 76 8 = 0 ∧ e 76 9 = 0 ∧ e 76 10 = 0) → (∀ i, 10 < i → e 76 i = c 76 i) → (∀ x, 0 ≤ x → x < 25 → e 87 x = B' 4 x ∧ e 77 x = B' 4 x ∧ e 78 x = 0) → (∀ j, 0 ≤ j → j < B' 0 2 → e 88 j = B' 5 j ∧ e 79 j = B' 5 j ∧ e 80 j = B' 1 j ∧ e 81 j = B' 2 j ∧ e 82 j = -1) → (∀ j, 0 ≤ j → j < B' 0 3 → e 83 j = B' 3 j) → WB B' → Q (some (.inl (B' 0 0 * B' 0 1))) (hp L sh e) n) : tc_C 167 [rf 75] (hp L sh c) n Q := by
  have hfr := bpr_rng hT.1.2 41 0 0 0 bsg WP_bsg (by omega) hT.1.1 hb
  show tc_W 167 0 [rf 75, tc_nil] [] _ _ Q
  repeat' (first | (simp (disch := first | omega | exact Nat.le_of_ble_eq_true rfl | exact rfl | assumption | (simp only [fr_at, Nat.reduceEqDiff, if_false, if_true, reduceIte]; first | assumption | omega)) only [r167_0, r167_1, v167_1_11, r167_4, r167_5, r167_11, r167_13, r167_14, r167_17, r167_18, r167_19, r167_20r, r167_22, r167_27, r167_28, r167_31, r167_32, r167_33, r167_38, r167_39, r167_42, r167_43, r167_44, r167_47, r167_48, r167_49r, r167_52, r167_55, r167_56, r167_59, r167_60, r167_63, r167_66, r167_67, r167_70, r167_71, r167_74, r167_77, r167_78, r167_81, r167_82, r167_85, r167_88, r167_89, r167_92, r167_93, r167_96, r167_99, r167_100, r167_103, r167_104, r167_107, r167_110, r167_111, v167_111_11, r167_114, r167_115, r167_116, r167_119, r167_120, v167_120_11, r167_123, g11_171_11, g11_9_11, g11_49_11, g11_52_11, g11_43_11, g11_55_11, g11_46_11, g11_58_11, g11_22_11, g11_61_11, g11_25_11, g11_64_11, g11_31_11, p11_318_11, mo_len, ms75 hS, mt75 hS, mo_g23, mo_g1, ms76 hS, mt76 hS, mo_g14, ms89 hS, mt89 hS, mo_g15, ms90 hS, mt90 hS, mo_g12, ms87 hS, mt87 hS, mo_g16, ms91 hS, mt91 hS, mo_g13, ms88 hS, mt88 hS, mo_g17, ms92 hS, mt92 hS, mo_g5, ms80 hS, mt80 hS, mo_g18, ms93 hS, mt93 hS, mo_g6, ms81 hS, mt81 hS, mo_g19, ms94 hS, mt94 hS, mo_g8, ms83 hS, mt83 hS, mo_s45, il_s, bl_s, bl_z, ll_s, is_s, bs_s, bs_z, ls_s, al_s, al_b, al_l, fr_at, fr_fr, Nat.reduceEqDiff, tc_gf3_s, tc_ql2_s, tc_ws_0, tc_ws_i, tc_ws_l, tc_ws_r, Nat.reduceLeDiff, Nat.reduceAdd, Nat.reduceLT, true_and, and_true, if_true, if_false, tc_K, Option.toList_some, Option.toList_none, List.nil_append, List.cons_append, ite_true, ite_false, Int.cast_ofNat_Int, reduceIte, i3_add_eq, i3_sub_eq, Int.add_sub_cancel, Int.add_neg_cancel_right]) | (simp only [r167_8, r167_24, r167_35, i6_lt0, i6_0lt, i6_0le, i6_le0, i6_eq0, b10_0, ite_not, Int.reduceLT, Int.reduceLE, Int.reduceEq, Int.reduceNeg, if_true, if_false, ite_true, ite_false, reduceIte, eq_self, not_true, not_false_eq_true]; try refine tc_ite (fun _ => ?_) (fun _ => ?_) <;> try (exfalso; omega)))
  refine m168 hS hST hT h95 h21 hb ?_
  intro e k1 k2 k3 k4
  by_cases hf : f = 0
  · have hq' := hq hf
    obtain ⟨⟨R', w1, w2, w3, w4, w5⟩, hwb⟩ := k4 hf
    subst hf
    have hw2 := hwb.2.1
    repeat' (first | (simp (disch := first | omega | exact Nat.le_of_ble_eq_true rfl | exact rfl | assumption | (simp only [fr_at, Nat.reduceEqDiff, if_false, if_true, reduceIte]; first | assumption | omega)) only [r167_0, r167_1, v167_1_11, r167_4, r167_5, r167_11, r167_13, r167_14, r167_17, r167_18, r167_19, r167_20r, r167_22, r167_27, r167_28, r167_31, r167_32, r167_33, r167_38, r167_39, r167_42, r167_43, r167_44, r167_47, r167_48, r167_49r, r167_52, r167_55, r167_56, r167_59, r167_60, r167_63, r167_66, r167_67, r167_70, r167_71, r167_74, r167_77, r167_78, r167_81, r167_82, r167_85, r167_88, r167_89, r167_92, r167_93, r167_96, r167_99, r167_100, r167_103, r167_104, r167_107, r167_110, r167_111, v167_111_11, r167_114, r167_115, r167_116, r167_119, r167_120, v167_120_11, r167_123, g11_171_11, g11_9_11, g11_49_11, g11_52_11, g11_43_11, g11_55_11, g11_46_11, g11_58_11, g11_22_11, g11_61_11, g11_25_11, g11_64_11, g11_31_11, p11_318_11, mo_len, ms75 hS, mt75 hS, mo_g23, mo_g1, ms76 hS, mt76 hS, mo_g14, ms89 hS, mt89 hS, mo_g15, ms90 hS, mt90 hS, mo_g12, ms87 hS, mt87 hS, mo_g16, ms91 hS, mt91 hS, mo_g13, ms88 hS, mt88 hS, mo_g17, ms92 hS, mt92 hS, mo_g5, ms80 hS, mt80 hS, mo_g18, ms93 hS, mt93 hS, mo_g6, ms81 hS, mt81 hS, mo_g19, ms94 hS, mt94 hS, mo_g8, ms83 hS, mt83 hS, mo_s45, il_s, bl_s, bl_z, ll_s, is_s, bs_s, bs_z, ls_s, al_s, al_b, al_l, fr_at, fr_fr, Nat.reduceEqDiff, tc_gf3_s, tc_ql2_s, tc_ws_0, tc_ws_i, tc_ws_l, tc_ws_r, Nat.reduceLeDiff, Nat.reduceAdd, Nat.reduceLT, true_and, and_true, if_true, if_false, tc_K, Option.toList_some, Option.toList_none, List.nil_append, List.cons_append, ite_true, ite_false, Int.cast_ofNat_Int, reduceIte, i3_add_eq, i3_sub_eq, Int.add_sub_cancel, Int.add_neg_cancel_right, k3]) | (simp only [r167_8, r167_24, r167_35, i6_lt0, i6_0lt, i6_0le, i6_le0, i6_eq0, b10_0, ite_not, Int.reduceLT, Int.reduceLE, Int.reduceEq, Int.reduceNeg, if_true, if_false, ite_true, ite_false, reduceIte, eq_self, not_true, not_false_eq_true]; try refine tc_ite (fun _ => ?_) (fun _ => ?_) <;> try (exfalso; omega)))
    all_goals try omega
    have hlp := upI (N := 11) (P := fun i => tc_W 167 21 [rf 75, .inl i] [] (hp L sh (fr e 76 (lay i (fun j => if j < 8 then B' 0 j else 0) (e 76)))) n Q) (by omega) ?_ ?_
    · rw [lay_0, fr_id] at hlp
      exact hlp
    · intro i hi hi2 ih
      simp only [r167_21]
      by_cases h8 : i < 8
      · have e8 : (fun j => if j < 8 then B' 0 j else 0) i = B' 0 i := if_pos h8
        have e9 := w1 i hi (by omega)
        repeat' (first | (simp (disch := first | omega | exact Nat.le_of_ble_eq_true rfl | exact rfl | assumption | (simp only [fr_at, Nat.reduceEqDiff, if_false, if_true, reduceIte]; first | assumption | omega)) only [r167_0, r167_1, v167_1_11, r167_4, r167_5, r167_11, r167_13, r167_14, r167_17, r167_18, r167_19, r167_20r, r167_22, r167_27, r167_28, r167_31, r167_32, r167_33, r167_38, r167_39, r167_42, r167_43, r167_44, r167_47, r167_48, r167_49r, r167_52, r167_55, r167_56, r167_59, r167_60, r167_63, r167_66, r167_67, r167_70, r167_71, r167_74, r167_77, r167_78, r167_81, r167_82, r167_85, r167_88, r167_89, r167_92, r167_93, r167_96, r167_99, r167_100, r167_103, r167_104, r167_107, r167_110, r167_111, v167_111_11, r167_114, r167_115, r167_116, r167_119, r167_120, v167_120_11, r167_123, g11_171_11, g11_9_11, g11_49_11, g11_52_11, g11_43_11, g11_55_11, g11_46_11, g11_58_11, g11_22_11, g11_61_11, g11_25_11, g11_64_11, g11_31_11, p11_318_11, mo_len, ms75 hS, mt75 hS, mo_g23, mo_g1, ms76 hS, mt76 hS, mo_g14, ms89 hS, mt89 hS, mo_g15, ms90 hS, mt90 hS, mo_g12, ms87 hS, mt87 hS, mo_g16, ms91 hS, mt91 hS, mo_g13, ms88 hS, mt88 hS, mo_g17, ms92 hS, mt92 hS, mo_g5, ms80 hS, mt80 hS, mo_g18, ms93 hS, mt93 hS, mo_g6, ms81 hS, mt81 hS, mo_g19, ms94 hS, mt94 hS, mo_g8, ms83 hS, mt83 hS, mo_s45, il_s, bl_s, bl_z, ll_s, is_s, bs_s, bs_z, ls_s, al_s, al_b, al_l, fr_at, fr_fr, Nat.reduceEqDiff, tc_gf3_s, tc_ql2_s, tc_ws_0, tc_ws_i, tc_ws_l, tc_ws_r, Nat.reduceLeDiff, Nat.reduceAdd, Nat.reduceLT, true_and, and_true, if_true, if_false, tc_K, Option.toList_some, Option.toList_none, List.nil_append, List.cons_append, ite_true, ite_false, Int.cast_ofNat_Int, reduceIte, i3_add_eq, i3_sub_eq, Int.add_sub_cancel, Int.add_neg_cancel_right, e9]) | (simp only [r167_8, r167_24, r167_35, i6_lt0, i6_0lt, i6_0le, i6_le0, i6_eq0, b10_0, ite_not, Int.reduceLT, Int.reduceLE, Int.reduceEq, Int.reduceNeg, if_true, if_false, ite_true, ite_false, reduceIte, eq_self, not_true, not_false_eq_true]; try refine tc_ite (fun _ => ?_) (fun _ => ?_) <;> try (exfalso; omega)))
        all_goals first
          | (rw [lay_upv (f := fun j => if j < 8 then B' 0 j else 0) hi e8.symm]; exact ih)
          | omega
      · have e8 : (fun j => if j < 8 then B' 0 j else 0) i = 0 := if_neg h8
        repeat' (first | (simp (disch := first | omega | exact Nat.le_of_ble_eq_true rfl | exact rfl | assumption | (simp only [fr_at, Nat.reduceEqDiff, if_false, if_true, reduceIte]; first | assumption | omega)) only [r167_0, r167_1, v167_1_11, r167_4, r167_5, r167_11, r167_13, r167_14, r167_17, r167_18, r167_19, r167_20r, r167_22, r167_27, r167_28, r167_31, r167_32, r167_33, r167_38, r167_39, r167_42, r167_43, r167_44, r167_47, r167_48, r167_49r, r167_52, r167_55, r167_56, r167_59, r167_60, r167_63, r167_66, r167_67, r167_70, r167_71, r167_74, r167_77, r167_78, r167_81, r167_82, r167_85, r167_88, r167_89, r167_92, r167_93, r167_96, r167_99, r167_100, r167_103, r167_104, r167_107, r167_110, r167_111, v167_111_11, r167_114, r167_115, r167_116, r167_119, r167_120, v167_120_11, r167_123, g11_171_11, g11_9_11, g11_49_11, g11_52_11, g11_43_11, g11_55_11, g11_46_11, g11_58_11, g11_22_11, g11_61_11, g11_25_11, g11_64_11, g11_31_11, p11_318_11, mo_len, ms75 hS, mt75 hS, mo_g23, mo_g1, ms76 hS, mt76 hS, mo_g14, ms89 hS, mt89 hS, mo_g15, ms90 hS, mt90 hS, mo_g12, ms87 hS, mt87 hS, mo_g16, ms91 hS, mt91 hS, mo_g13, ms88 hS, mt88 hS, mo_g17, ms92 hS, mt92 hS, mo_g5, ms80 hS, mt80 hS, mo_g18, ms93 hS, mt93 hS, mo_g6, ms81 hS, mt81 hS, mo_g19, ms94 hS, mt94 hS, mo_g8, ms83 hS, mt83 hS, mo_s45, il_s, bl_s, bl_z, ll_s, is_s, bs_s, bs_z, ls_s, al_s, al_b, al_l, fr_at, fr_fr, Nat.reduceEqDiff, tc_gf3_s, tc_ql2_s, tc_ws_0, tc_ws_i, tc_ws_l, tc_ws_r, Nat.reduceLeDiff, Nat.reduceAdd, Nat.reduceLT, true_and, and_true, if_true, if_false, tc_K, Option.toList_some, Option.toList_none, List.nil_append, List.cons_append, ite_true, ite_false, Int.cast_ofNat_Int, reduceIte, i3_add_eq, i3_sub_eq, Int.add_sub_cancel, Int.add_neg_cancel_right]) | (simp only [r167_8, r167_24, r167_35, i6_lt0, i6_0lt, i6_0le, i6_le0, i6_eq0, b10_0, ite_not, Int.reduceLT, Int.reduceLE, Int.reduceEq, Int.reduceNeg, if_true, if_false, ite_true, ite_false, reduceIte, eq_self, not_true, not_false_eq_true]; try refine tc_ite (fun _ => ?_) (fun _ => ?_) <;> try (exfalso; omega)))
        all_goals first
          | (rw [lay_upv (f := fun j => if j < 8 then B' 0 j else 0) hi e8.symm]; exact ih)
          | omega
    simp only [r167_21]
    have h185 := fun (a b m : Nat) (ha : a < 115 ∧ b < 115) (h1 : sh a = (0, m, [])) (h2 : sh b = (0, m, [])) (h3 : ¬ a = b) (h4 : (m : Int) < 10000) (d : Nat → Int → Int) n Q => c185 (c := d) (n := n) (Q := Q) (L := L) (sh := sh) (a := a) (b := b) (m := m) (by have := hS.1; omega) h1 h2 h3 h4
    have x1 := h185 90 87 25 (by omega) (hS.2 90 (by omega) (by omega)) (hS.2 87 (by omega) (by omega)) (by omega) (by omega)
    have x2 := h185 91 88 6 (by omega) (hS.2 91 (by omega) (by omega)) (hS.2 88 (by omega) (by omega)) (by omega) (by omega)
    have x3 := h185 92 80 6 (by omega) (hS.2 92 (by omega) (by omega)) (hS.2 80 (by omega) (by omega)) (by omega) (by omega)
    have x4 := h185 93 81 6 (by omega) (hS.2 93 (by omega) (by omega)) (hS.2 81 (by omega) (by omega)) (by omega) (by omega)
    have x5 := h185 94 83 12 (by omega) (hS.2 94 (by omega) (by omega)) (hS.2 83 (by omega) (by omega)) (by omega) (by omega)
    repeat' (first | (simp (disch := first | omega | exact Nat.le_of_ble_eq_true rfl | exact rfl | assumption | (simp only [fr_at, Nat.reduceEqDiff, if_false, if_true, reduceIte]; first | assumption | omega)) only [r167_0, r167_1, v167_1_11, r167_4, r167_5, r167_11, r167_13, r167_14, r167_17, r167_18, r167_19, r167_20r, r167_22, r167_27, r167_28, r167_31, r167_32, r167_33, r167_38, r167_39, r167_42, r167_43, r167_44, r167_47, r167_48, r167_49r, r167_52, r167_55, r167_56, r167_59, r167_60, r167_63, r167_66, r167_67, r167_70, r167_71, r167_74, r167_77, r167_78, r167_81, r167_82, r167_85, r167_88, r167_89, r167_92, r167_93, r167_96, r167_99, r167_100, r167_103, r167_104, r167_107, r167_110, r167_111, v167_111_11, r167_114, r167_115, r167_116, r167_119, r167_120, v167_120_11, r167_123, g11_171_11, g11_9_11, g11_49_11, g11_52_11, g11_43_11, g11_55_11, g11_46_11, g11_58_11, g11_22_11, g11_61_11, g11_25_11, g11_64_11, g11_31_11, p11_318_11, mo_len, ms75 hS, mt75 hS, mo_g23, mo_g1, ms76 hS, mt76 hS, mo_g14, ms89 hS, mt89 hS, mo_g15, ms90 hS, mt90 hS, mo_g12, ms87 hS, mt87 hS, mo_g16, ms91 hS, mt91 hS, mo_g13, ms88 hS, mt88 hS, mo_g17, ms92 hS, mt92 hS, mo_g5, ms80 hS, mt80 hS, mo_g18, ms93 hS, mt93 hS, mo_g6, ms81 hS, mt81 hS, mo_g19, ms94 hS, mt94 hS, mo_g8, ms83 hS, mt83 hS, mo_s45, il_s, bl_s, bl_z, ll_s, is_s, bs_s, bs_z, ls_s, al_s, al_b, al_l, fr_at, fr_fr, Nat.reduceEqDiff, tc_gf3_s, tc_ql2_s, tc_ws_0, tc_ws_i, tc_ws_l, tc_ws_r, Nat.reduceLeDiff, Nat.reduceAdd, Nat.reduceLT, true_and, and_true, if_true, if_false, tc_K, Option.toList_some, Option.toList_none, List.nil_append, List.cons_append, ite_true, ite_false, Int.cast_ofNat_Int, reduceIte, i3_add_eq, i3_sub_eq, Int.add_sub_cancel, Int.add_neg_cancel_right, x1, x2, x3, x4, x5]) | (simp only [r167_8, r167_24, r167_35, i6_lt0, i6_0lt, i6_0le, i6_le0, i6_eq0, b10_0, ite_not, Int.reduceLT, Int.reduceLE, Int.reduceEq, Int.reduceNeg, if_true, if_false, ite_true, ite_false, reduceIte, eq_self, not_true, not_false_eq_true]; try refine tc_ite (fun _ => ?_) (fun _ => ?_) <;> try (exfalso; omega)))
    all_goals try omega
    refine c186 hS ?_
    intro e2 l1 l2 l3 l4 l5 l6
    simp (disch := omega) only [fr_ne, fr_same] at l1 l2 l3 l4 l5 l6
    have hd2 : ∀ i, 0 ≤ i → i ≤ 7 → e2 76 i = B' 0 i := fun i i1 i2 => by
      rw [l2 i (by omega) (by omega), lay_in (by omega)]
      exact if_pos (by omega)
    have h187 := fun Q => c187 (c := fr e2 75 (fu (e2 75) 45 0)) (n := n) (Q := Q) hS (by
      rw [fr_ne (by omega)]
      unfold DM
      rw [hd2 0 (by omega) (by omega), hd2 1 (by omega) (by omega), hd2 2 (by omega) (by omega), hd2 3 (by omega) (by omega)]
      have := hwb.1
      omega)
    rw [fr_ne (show ¬ 76 = 75 by omega), hd2 0 (by omega) (by omega), hd2 1 (by omega) (by omega)] at h187
    repeat' (first | (simp (disch := first | omega | exact Nat.le_of_ble_eq_true rfl | exact rfl | assumption | (simp only [fr_at, Nat.reduceEqDiff, if_false, if_true, reduceIte]; first | assumption | omega)) only [r167_0, r167_1, v167_1_11, r167_4, r167_5, r167_11, r167_13, r167_14, r167_17, r167_18, r167_19, r167_20r, r167_22, r167_27, r167_28, r167_31, r167_32, r167_33, r167_38, r167_39, r167_42, r167_43, r167_44, r167_47, r167_48, r167_49r, r167_52, r167_55, r167_56, r167_59, r167_60, r167_63, r167_66, r167_67, r167_70, r167_71, r167_74, r167_77, r167_78, r167_81, r167_82, r167_85, r167_88, r167_89, r167_92, r167_93, r167_96, r167_99, r167_100, r167_103, r167_104, r167_107, r167_110, r167_111, v167_111_11, r167_114, r167_115, r167_116, r167_119, r167_120, v167_120_11, r167_123, g11_171_11, g11_9_11, g11_49_11, g11_52_11, g11_43_11, g11_55_11, g11_46_11, g11_58_11, g11_22_11, g11_61_11, g11_25_11, g11_64_11, g11_31_11, p11_318_11, mo_len, ms75 hS, mt75 hS, mo_g23, mo_g1, ms76 hS, mt76 hS, mo_g14, ms89 hS, mt89 hS, mo_g15, ms90 hS, mt90 hS, mo_g12, ms87 hS, mt87 hS, mo_g16, ms91 hS, mt91 hS, mo_g13, ms88 hS, mt88 hS, mo_g17, ms92 hS, mt92 hS, mo_g5, ms80 hS, mt80 hS, mo_g18, ms93 hS, mt93 hS, mo_g6, ms81 hS, mt81 hS, mo_g19, ms94 hS, mt94 hS, mo_g8, ms83 hS, mt83 hS, mo_s45, il_s, bl_s, bl_z, ll_s, is_s, bs_s, bs_z, ls_s, al_s, al_b, al_l, fr_at, fr_fr, Nat.reduceEqDiff, tc_gf3_s, tc_ql2_s, tc_ws_0, tc_ws_i, tc_ws_l, tc_ws_r, Nat.reduceLeDiff, Nat.reduceAdd, Nat.reduceLT, true_and, and_true, if_true, if_false, tc_K, Option.toList_some, Option.toList_none, List.nil_append, List.cons_append, ite_true, ite_false, Int.cast_ofNat_Int, reduceIte, i3_add_eq, i3_sub_eq, Int.add_sub_cancel, Int.add_neg_cancel_right, h187]) | (simp only [r167_8, r167_24, r167_35, i6_lt0, i6_0lt, i6_0le, i6_le0, i6_eq0, b10_0, ite_not, Int.reduceLT, Int.reduceLE, Int.reduceEq, Int.reduceNeg, if_true, if_false, ite_true, ite_false, reduceIte, eq_self, not_true, not_false_eq_true]; try refine tc_ite (fun _ => ?_) (fun _ => ?_) <;> try (exfalso; omega)))
    have y87 : ∀ x, 0 ≤ x → x < 25 → e2 87 x = B' 4 x := fun x x1 x2 => by
      rw [l1 87 (by omega) (by omega) (by omega) (by omega) (by omega)]
      simp (disch := omega) only [fr_ne, fr_same]
      rw [lay_in (by omega)]
      exact w4 x x1 x2
    have y88 : ∀ j, 0 ≤ j → j < B' 0 2 → e2 88 j = B' 5 j := fun j j1 j2 => by
      rw [l1 88 (by omega) (by omega) (by omega) (by omega) (by omega)]
      simp (disch := omega) only [fr_ne, fr_same]
      rw [lay_in (by omega)]
      exact (w2 j j1 j2).1
    refine hq' _ (fun a ha => ?_) (fun i i1 i2 i3 i4 i5 i6 i7 i8 => ?_) ?_ ?_ (fun i i1 i2 => ?_) ?_ (fun i hi => ?_) (fun x x1 x2 => ?_) (fun j j1 j2 => ?_) (fun j j1 j2 => ?_) hwb
    · rw [fr_ne (by omega), l1 a (by omega) (by omega) (by omega) (by omega) (by omega)]
      simp (disch := omega) only [fr_ne]
      exact k1.1 a (by omega) (by omega)
    · rw [fr_same, fu_ne i8, l1 75 (by omega) (by omega) (by omega) (by omega) (by omega)]
      simp (disch := omega) only [fr_ne]
      exact k1.2 i i1 i2 i3 i4 i5 i6 i7
    · rw [fr_same, fu_ne (by omega), l1 75 (by omega) (by omega) (by omega) (by omega) (by omega)]
      simp (disch := omega) only [fr_ne]
      exact k2
    · rw [fr_same, fu_same]
    · rw [fr_ne (by omega)]
      exact hd2 i i1 i2
    · rw [fr_ne (by omega)]
      refine ⟨l3, l4, ?_⟩
      rw [l2 10 (by omega) (by omega), lay_in (by omega)]
      exact if_neg (by omega)
    · rw [fr_ne (by omega), l2 i (by omega) (by omega), lay_out (by omega), k1.1 76 (by omega) (by omega)]
    · rw [fr_ne (by omega), fr_ne (by omega), fr_ne (by omega)]
      have h5 := l5 x x1 x2
      refine ⟨y87 x x1 x2, ?_, h5.2⟩
      rw [← y87 x x1 x2, l1 87 (by omega) (by omega) (by omega) (by omega) (by omega)]
      simp (disch := omega) only [fr_ne, fr_same]
      exact h5.1
    · rw [fr_ne (by omega), fr_ne (by omega), fr_ne (by omega), fr_ne (by omega), fr_ne (by omega)]
      have h6 := l6 j j1 (by omega)
      refine ⟨y88 j j1 j2, ?_, ?_, ?_, h6.2⟩
      · rw [← y88 j j1 j2, l1 88 (by omega) (by omega) (by omega) (by omega) (by omega)]
        simp (disch := omega) only [fr_ne, fr_same]
        exact h6.1
      · rw [l1 80 (by omega) (by omega) (by omega) (by omega) (by omega)]
        simp (disch := omega) only [fr_ne, fr_same]
        rw [lay_in (by omega)]
        exact (w2 j j1 j2).2.1
      · rw [l1 81 (by omega) (by omega) (by omega) (by omega) (by omega)]
        simp (disch := omega) only [fr_ne, fr_same]
        rw [lay_in (by omega)]
        exact (w2 j j1 j2).2.2
    · rw [fr_ne (by omega), l1 83 (by omega) (by omega) (by omega) (by omega) (by omega)]
      simp (disch := omega) only [fr_ne, fr_same]
      rw [lay_in (by omega)]
      exact w3 j j1 j2
  · have hq' := hq1 hf e k1 k2
    repeat' (first | (simp (disch := first | omega | exact Nat.le_of_ble_eq_true rfl | exact rfl | assumption | (simp only [fr_at, Nat.reduceEqDiff, if_false, if_true, reduceIte]; first | assumption | omega)) only [r167_0, r167_1, v167_1_11, r167_4, r167_5, r167_11, r167_13, r167_14, r167_17, r167_18, r167_19, r167_20r, r167_22, r167_27, r167_28, r167_31, r167_32, r167_33, r167_38, r167_39, r167_42, r167_43, r167_44, r167_47, r167_48, r167_49r, r167_52, r167_55, r167_56, r167_59, r167_60, r167_63, r167_66, r167_67, r167_70, r167_71, r167_74, r167_77, r167_78, r167_81, r167_82, r167_85, r167_88, r167_89, r167_92, r167_93, r167_96, r167_99, r167_100, r167_103, r167_104, r167_107, r167_110, r167_111, v167_111_11, r167_114, r167_115, r167_116, r167_119, r167_120, v167_120_11, r167_123, g11_171_11, g11_9_11, g11_49_11, g11_52_11, g11_43_11, g11_55_11, g11_46_11, g11_58_11, g11_22_11, g11_61_11, g11_25_11, g11_64_11, g11_31_11, p11_318_11, mo_len, ms75 hS, mt75 hS, mo_g23, mo_g1, ms76 hS, mt76 hS, mo_g14, ms89 hS, mt89 hS, mo_g15, ms90 hS, mt90 hS, mo_g12, ms87 hS, mt87 hS, mo_g16, ms91 hS, mt91 hS, mo_g13, ms88 hS, mt88 hS, mo_g17, ms92 hS, mt92 hS, mo_g5, ms80 hS, mt80 hS, mo_g18, ms93 hS, mt93 hS, mo_g6, ms81 hS, mt81 hS, mo_g19, ms94 hS, mt94 hS, mo_g8, ms83 hS, mt83 hS, mo_s45, il_s, bl_s, bl_z, ll_s, is_s, bs_s, bs_z, ls_s, al_s, al_b, al_l, fr_at, fr_fr, Nat.reduceEqDiff, tc_gf3_s, tc_ql2_s, tc_ws_0, tc_ws_i, tc_ws_l, tc_ws_r, Nat.reduceLeDiff, Nat.reduceAdd, Nat.reduceLT, true_and, and_true, if_true, if_false, tc_K, Option.toList_some, Option.toList_none, List.nil_append, List.cons_append, ite_true, ite_false, Int.cast_ofNat_Int, reduceIte, i3_add_eq, i3_sub_eq, Int.add_sub_cancel, Int.add_neg_cancel_right, k3]) | (simp only [r167_8, r167_24, r167_35, i6_lt0, i6_0lt, i6_0le, i6_le0, i6_eq0, b10_0, ite_not, Int.reduceLT, Int.reduceLE, Int.reduceEq, Int.reduceNeg, if_true, if_false, ite_true, ite_false, reduceIte, eq_self, not_true, not_false_eq_true]; try refine tc_ite (fun _ => ?_) (fun _ => ?_) <;> try (exfalso; omega)))
    all_goals first
      | exact hq'
      | omega
end BEACHQ

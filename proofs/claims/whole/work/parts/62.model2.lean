/-! the reference: STRENGTH -/
section MOD2
variable {L : Nat} {sh : Nat → SH} {c : Nat → Int → Int} {n : Nat} {Q : Option AV → List SC → Nat → Prop}
def StI (W N : Int) (ht : Int → Int) (F : Int) (g s : Int → Int) : Prop := Lo W N ht F s ∧ (∀ x, 0 ≤ x → x < N → 0 ≤ s x ∧ fse W N ht F x ≤ s x) ∧ ∀ x, ¬ (0 ≤ x ∧ x < N) → s x = g x
theorem StI.up {W D F : Int} {ht g s : Int → Int} (hW : 2 ≤ W ∧ W ≤ 5) (h : StI W (W * D) ht F g s) {x d : Int} (hx : 0 ≤ x) (hx2 : x < W * D) (hd : 0 ≤ d) (hd2 : d < 4) (hn : ¬ bes W (W * D) x d = -1) (hl : s x < fce ht s x (bes W (W * D) x d)) : StI W (W * D) ht F g (fu s x (fce ht s x (bes W (W * D) x d))) := by
  refine ⟨h.1.up hW hx hx2 hd hd2 hn, ?_, ?_⟩
  · intro y hy hy2
    have h1 := h.2.1 y hy hy2
    unfold fu
    split
    · rename_i h2
      rw [← h2] at hl
      rw [h2] at h1 hl ⊢
      omega
    · exact h1
  · intro y hy
    rw [fu_ne (by omega)]
    exact h.2.2 y hy
theorem StI.z {W N F : Int} {ht g : Int → Int} (hN : 0 ≤ N) : StI W N ht F g (lay N (fun x => if 0 < fse W N ht F x then fse W N ht F x else 0) g) := by
  refine ⟨?_, ?_, ?_⟩
  · intro t h1 x hx hx2
    have h2 := (h1 x hx hx2).1
    have e : lay N (fun x => if 0 < fse W N ht F x then fse W N ht F x else 0) g x = if 0 < fse W N ht F x then fse W N ht F x else 0 := lay_in ⟨hx, hx2⟩
    rw [e]
    split <;> omega
  · intro x hx hx2
    have e : lay N (fun x => if 0 < fse W N ht F x then fse W N ht F x else 0) g x = if 0 < fse W N ht F x then fse W N ht F x else 0 := lay_in ⟨hx, hx2⟩
    rw [e]
    split <;> omega
  · intro x hx
    exact lay_out hx

def ck (W N : Int) (ht s : Int → Int) (y e : Int) : Prop := ¬ bes W N y e = -1 → fce ht s y (bes W N y e) ≤ s y
theorem c209_p (hS : MS L sh) (hd : DM (c 76)) (hb : BD (c 76)) (hh : HT (c 76 0 * c 76 1) (c 77)) {F : Int} (hF : 0 ≤ F ∧ F ≤ 100) {s : Int → Int} (hs : StI (c 76 0) (c 76 0 * c 76 1) (c 77) F (c 105) s)
    (hz : Cl (c 76 0) (c 76 0 * c 76 1) (c 77) F s → ∀ a3 a4 a5 : AV, tc_W 209 40 [rf 75, .inl F, .inl 0, a3, a4, a5] [] (hp L sh (fr c 105 s)) n Q)
    (hm : ∀ s', StI (c 76 0) (c 76 0 * c 76 1) (c 77) F (c 105) s' → sm s (c 76 0 * c 76 1).toNat < sm s' (c 76 0 * c 76 1).toNat → ∀ a3 a4 a5 : AV, tc_W 209 40 [rf 75, .inl F, .inl 1, a3, a4, a5] [] (hp L sh (fr c 105 s')) n Q) (a4 a5 : AV) : tc_W 209 48 [rf 75, .inl F, .inl 0, .inl 0, a4, a5] [] (hp L sh (fr c 105 s)) n Q := by
  have hN := hd.m.1
  have hW : 2 ≤ c 76 0 ∧ c 76 0 ≤ 5 := ⟨hb.1, hb.2.1⟩
  refine lq_4 (N := c 76 0 * c 76 1) (P := fun x mo s' a4 a5 => tc_W 209 48 [rf 75, .inl F, .inl mo, .inl x, a4, a5] [] (hp L sh (fr c 105 s')) n Q)
    (I := fun x mo s' _ _ => StI (c 76 0) (c 76 0 * c 76 1) (c 77) F (c 105) s' ∧ ((mo = 0 ∧ s' = s ∧ ∀ y, 0 ≤ y → y < x → ∀ e, 0 ≤ e → e < 4 → ck (c 76 0) (c 76 0 * c 76 1) (c 77) s y e) ∨ (mo = 1 ∧ sm s (c 76 0 * c 76 1).toNat < sm s' (c 76 0 * c 76 1).toNat))) ?_ ?_ 0 0 s a4 a5 (by omega) hN.1 ⟨hs, Or.inl ⟨rfl, rfl, fun y h1 h2 => by omega⟩⟩
  · intro x mo s1 a4 a5 hx hx2 hI ih
    simp only [r209_48]
    repeat' (first | (simp (disch := first | omega | exact Nat.le_of_ble_eq_true rfl | exact rfl | assumption | (simp only [fr_at, Nat.reduceEqDiff, if_false, if_true, reduceIte]; first | assumption | omega)) only [r209_0, r209_1i, r209_3, r209_4, v209_4_11, r209_10, r209_11, r209_12, r209_13, v209_13_11, r209_16i, r209_17, r209_18, r209_21, r209_22, r209_26, r209_27, r209_30, r209_31, r209_32i, r209_35, r209_38, r209_39i, r209_44, r209_45i, r209_46, r209_47i, r209_49, r209_50, v209_50_11, r209_56, r209_57i, r209_61, r209_65, r209_66, r209_67, r209_69, v209_69_11, r209_72i, r209_74, r209_76, r209_80, r209_81, r209_82, r209_84, v209_84_11, r209_87, r209_88, r209_91, r209_92, r209_96, r209_97, r209_100, r209_101, r209_102, r209_103, r209_105, v209_105_11, r209_108, r209_109, r209_110i, r209_111i, r209_114, r209_117i, r209_120, r209_123, r209_126, g11_103_11, mo_len, ms75 hS, mt75 hS, mo_g41, ms105 hS, mt105 hS, il_s, bl_s, bl_z, ll_s, is_s, bs_s, bs_z, ls_s, al_s, al_b, al_l, fr_at, fr_fr, Nat.reduceEqDiff, tc_gf3_s, tc_ql2_s, tc_ws_0, tc_ws_i, tc_ws_l, tc_ws_r, Nat.reduceLeDiff, Nat.reduceAdd, Nat.reduceLT, true_and, and_true, if_true, if_false, tc_K, Option.toList_some, Option.toList_none, List.nil_append, List.cons_append, ite_true, ite_false, Int.cast_ofNat_Int, reduceIte, i3_add_eq, i3_sub_eq, Int.add_sub_cancel, Int.add_neg_cancel_right, c187 hS]) | (simp only [r209_7, r209_23, r209_41, r209_53, r209_62, r209_77, r209_93, i6_lt0, i6_0lt, i6_0le, i6_le0, i6_eq0, b10_0, ite_not, Int.reduceLT, Int.reduceLE, Int.reduceEq, Int.reduceNeg, if_true, if_false, ite_true, ite_false, reduceIte, eq_self, not_true, not_false_eq_true]; try refine tc_ite (fun _ => ?_) (fun _ => ?_) <;> try (exfalso; omega)))
    refine lq_3 (N := 4) (P := fun d mo s' a5 => tc_W 209 59 [rf 75, .inl F, .inl mo, .inl x, .inl d, a5] [] (hp L sh (fr c 105 s')) n Q)
      (I := fun d mo s' _ => StI (c 76 0) (c 76 0 * c 76 1) (c 77) F (c 105) s' ∧ ((mo = 0 ∧ s' = s ∧ (∀ y, 0 ≤ y → y < x → ∀ e, 0 ≤ e → e < 4 → ck (c 76 0) (c 76 0 * c 76 1) (c 77) s y e) ∧ ∀ e, 0 ≤ e → e < d → ck (c 76 0) (c 76 0 * c 76 1) (c 77) s x e) ∨ (mo = 1 ∧ sm s (c 76 0 * c 76 1).toNat < sm s' (c 76 0 * c 76 1).toNat))) ?_ ?_ 0 mo s1 a5 (by omega) (by omega) ⟨hI.1, hI.2.imp (fun q => ⟨q.1, q.2.1, q.2.2, fun e h1 h2 => by omega⟩) id⟩
    · intro d mo s2 a5 hd1 hd2 hJ ihd
      have hr := bes_rng hW hx hx2 hd1 hd2
      have hs2 : ∀ y, 0 ≤ y → y < c 76 0 * c 76 1 → 0 ≤ s2 y ∧ s2 y ≤ 100 := fun y h1 h2 => ⟨(hJ.1.2.1 y h1 h2).1, by have := hJ.1.1.le hh hF.1 h1 h2; omega⟩
      simp only [r209_59]
      by_cases hn : bes (c 76 0) (c 76 0 * c 76 1) x d = -1
      · repeat' (first | (simp (disch := first | omega | exact Nat.le_of_ble_eq_true rfl | exact rfl | assumption | (simp only [fr_at, Nat.reduceEqDiff, if_false, if_true, reduceIte]; first | assumption | omega)) only [r209_0, r209_1i, r209_3, r209_4, v209_4_11, r209_10, r209_11, r209_12, r209_13, v209_13_11, r209_16i, r209_17, r209_18, r209_21, r209_22, r209_26, r209_27, r209_30, r209_31, r209_32i, r209_35, r209_38, r209_39i, r209_44, r209_45i, r209_46, r209_47i, r209_49, r209_50, v209_50_11, r209_56, r209_57i, r209_61, r209_65, r209_66, r209_67, r209_69, v209_69_11, r209_72i, r209_74, r209_76, r209_80, r209_81, r209_82, r209_84, v209_84_11, r209_87, r209_88, r209_91, r209_92, r209_96, r209_97, r209_100, r209_101, r209_102, r209_103, r209_105, v209_105_11, r209_108, r209_109, r209_110i, r209_111i, r209_114, r209_117i, r209_120, r209_123, r209_126, g11_103_11, mo_len, ms75 hS, mt75 hS, mo_g41, ms105 hS, mt105 hS, il_s, bl_s, bl_z, ll_s, is_s, bs_s, bs_z, ls_s, al_s, al_b, al_l, fr_at, fr_fr, Nat.reduceEqDiff, tc_gf3_s, tc_ql2_s, tc_ws_0, tc_ws_i, tc_ws_l, tc_ws_r, Nat.reduceLeDiff, Nat.reduceAdd, Nat.reduceLT, true_and, and_true, if_true, if_false, tc_K, Option.toList_some, Option.toList_none, List.nil_append, List.cons_append, ite_true, ite_false, Int.cast_ofNat_Int, reduceIte, i3_add_eq, i3_sub_eq, Int.add_sub_cancel, Int.add_neg_cancel_right, c212 hS, hn]) | (simp only [r209_7, r209_23, r209_41, r209_53, r209_62, r209_77, r209_93, i6_lt0, i6_0lt, i6_0le, i6_le0, i6_eq0, b10_0, ite_not, Int.reduceLT, Int.reduceLE, Int.reduceEq, Int.reduceNeg, if_true, if_false, ite_true, ite_false, reduceIte, eq_self, not_true, not_false_eq_true]; try refine tc_ite (fun _ => ?_) (fun _ => ?_) <;> try (exfalso; omega)))
        refine ihd _ _ _ ⟨hJ.1, hJ.2.imp (fun q => ⟨q.1, q.2.1, q.2.2.1, fun e h1 h2 => ?_⟩) id⟩
        by_cases h3 : e = d
        · rw [h3]
          exact fun h => absurd hn h
        · exact q.2.2.2 e h1 (by omega)
      · have h5 := hs2 _ (by omega : 0 ≤ bes (c 76 0) (c 76 0 * c 76 1) x d) (by omega)
        have h6 := hs2 x hx hx2
        repeat' (first | (simp (disch := first | omega | exact Nat.le_of_ble_eq_true rfl | exact rfl | assumption | (simp only [fr_at, Nat.reduceEqDiff, if_false, if_true, reduceIte]; first | assumption | omega)) only [r209_0, r209_1i, r209_3, r209_4, v209_4_11, r209_10, r209_11, r209_12, r209_13, v209_13_11, r209_16i, r209_17, r209_18, r209_21, r209_22, r209_26, r209_27, r209_30, r209_31, r209_32i, r209_35, r209_38, r209_39i, r209_44, r209_45i, r209_46, r209_47i, r209_49, r209_50, v209_50_11, r209_56, r209_57i, r209_61, r209_65, r209_66, r209_67, r209_69, v209_69_11, r209_72i, r209_74, r209_76, r209_80, r209_81, r209_82, r209_84, v209_84_11, r209_87, r209_88, r209_91, r209_92, r209_96, r209_97, r209_100, r209_101, r209_102, r209_103, r209_105, v209_105_11, r209_108, r209_109, r209_110i, r209_111i, r209_114, r209_117i, r209_120, r209_123, r209_126, g11_103_11, mo_len, ms75 hS, mt75 hS, mo_g41, ms105 hS, mt105 hS, il_s, bl_s, bl_z, ll_s, is_s, bs_s, bs_z, ls_s, al_s, al_b, al_l, fr_at, fr_fr, Nat.reduceEqDiff, tc_gf3_s, tc_ql2_s, tc_ws_0, tc_ws_i, tc_ws_l, tc_ws_r, Nat.reduceLeDiff, Nat.reduceAdd, Nat.reduceLT, true_and, and_true, if_true, if_false, tc_K, Option.toList_some, Option.toList_none, List.nil_append, List.cons_append, ite_true, ite_false, Int.cast_ofNat_Int, reduceIte, i3_add_eq, i3_sub_eq, Int.add_sub_cancel, Int.add_neg_cancel_right, c212 hS, c213 hS]) | (simp only [r209_7, r209_23, r209_41, r209_53, r209_62, r209_77, r209_93, i6_lt0, i6_0lt, i6_0le, i6_le0, i6_eq0, b10_0, ite_not, Int.reduceLT, Int.reduceLE, Int.reduceEq, Int.reduceNeg, if_true, if_false, ite_true, ite_false, reduceIte, eq_self, not_true, not_false_eq_true]; try refine tc_ite (fun _ => ?_) (fun _ => ?_) <;> try (exfalso; omega)))
        · refine ihd _ _ _ ⟨hJ.1, hJ.2.imp (fun q => ⟨q.1, q.2.1, q.2.2.1, fun e h1 h2 => ?_⟩) id⟩
          by_cases h3 : e = d
          · rw [h3]
            intro _
            rw [← q.2.1]
            assumption
          · exact q.2.2.2 e h1 (by omega)
        · rename_i hgt
          have hgt2 : s2 x < fce (c 77) s2 x (bes (c 76 0) (c 76 0 * c 76 1) x d) := by omega
          refine ihd _ _ _ ⟨hJ.1.up hW hx hx2 hd1 hd2 hn hgt2, Or.inr ⟨rfl, ?_⟩⟩
          rw [sm_fu, if_pos (by omega)]
          rcases hJ.2 with q | q
          · rw [q.2.1] at hgt2 ⊢
            omega
          · omega
    · intro mo s2 a5 hJ
      simp only [r209_59]
      repeat' (first | (simp (disch := first | omega | exact Nat.le_of_ble_eq_true rfl | exact rfl | assumption | (simp only [fr_at, Nat.reduceEqDiff, if_false, if_true, reduceIte]; first | assumption | omega)) only [r209_0, r209_1i, r209_3, r209_4, v209_4_11, r209_10, r209_11, r209_12, r209_13, v209_13_11, r209_16i, r209_17, r209_18, r209_21, r209_22, r209_26, r209_27, r209_30, r209_31, r209_32i, r209_35, r209_38, r209_39i, r209_44, r209_45i, r209_46, r209_47i, r209_49, r209_50, v209_50_11, r209_56, r209_57i, r209_61, r209_65, r209_66, r209_67, r209_69, v209_69_11, r209_72i, r209_74, r209_76, r209_80, r209_81, r209_82, r209_84, v209_84_11, r209_87, r209_88, r209_91, r209_92, r209_96, r209_97, r209_100, r209_101, r209_102, r209_103, r209_105, v209_105_11, r209_108, r209_109, r209_110i, r209_111i, r209_114, r209_117i, r209_120, r209_123, r209_126, g11_103_11, mo_len, ms75 hS, mt75 hS, mo_g41, ms105 hS, mt105 hS, il_s, bl_s, bl_z, ll_s, is_s, bs_s, bs_z, ls_s, al_s, al_b, al_l, fr_at, fr_fr, Nat.reduceEqDiff, tc_gf3_s, tc_ql2_s, tc_ws_0, tc_ws_i, tc_ws_l, tc_ws_r, Nat.reduceLeDiff, Nat.reduceAdd, Nat.reduceLT, true_and, and_true, if_true, if_false, tc_K, Option.toList_some, Option.toList_none, List.nil_append, List.cons_append, ite_true, ite_false, Int.cast_ofNat_Int, reduceIte, i3_add_eq, i3_sub_eq, Int.add_sub_cancel, Int.add_neg_cancel_right]) | (simp only [r209_7, r209_23, r209_41, r209_53, r209_62, r209_77, r209_93, i6_lt0, i6_0lt, i6_0le, i6_le0, i6_eq0, b10_0, ite_not, Int.reduceLT, Int.reduceLE, Int.reduceEq, Int.reduceNeg, if_true, if_false, ite_true, ite_false, reduceIte, eq_self, not_true, not_false_eq_true]; try refine tc_ite (fun _ => ?_) (fun _ => ?_) <;> try (exfalso; omega)))
      refine ih _ _ _ _ ⟨hJ.1, hJ.2.imp (fun q => ⟨q.1, q.2.1, fun y h1 h2 e h3 h4 => ?_⟩) id⟩
      by_cases h5 : y = x
      · rw [h5]
        exact q.2.2.2 e h3 h4
      · exact q.2.2.1 y h1 (by omega) e h3 h4
  · intro mo s1 a4 a5 hI
    simp only [r209_48]
    repeat' (first | (simp (disch := first | omega | exact Nat.le_of_ble_eq_true rfl | exact rfl | assumption | (simp only [fr_at, Nat.reduceEqDiff, if_false, if_true, reduceIte]; first | assumption | omega)) only [r209_0, r209_1i, r209_3, r209_4, v209_4_11, r209_10, r209_11, r209_12, r209_13, v209_13_11, r209_16i, r209_17, r209_18, r209_21, r209_22, r209_26, r209_27, r209_30, r209_31, r209_32i, r209_35, r209_38, r209_39i, r209_44, r209_45i, r209_46, r209_47i, r209_49, r209_50, v209_50_11, r209_56, r209_57i, r209_61, r209_65, r209_66, r209_67, r209_69, v209_69_11, r209_72i, r209_74, r209_76, r209_80, r209_81, r209_82, r209_84, v209_84_11, r209_87, r209_88, r209_91, r209_92, r209_96, r209_97, r209_100, r209_101, r209_102, r209_103, r209_105, v209_105_11, r209_108, r209_109, r209_110i, r209_111i, r209_114, r209_117i, r209_120, r209_123, r209_126, g11_103_11, mo_len, ms75 hS, mt75 hS, mo_g41, ms105 hS, mt105 hS, il_s, bl_s, bl_z, ll_s, is_s, bs_s, bs_z, ls_s, al_s, al_b, al_l, fr_at, fr_fr, Nat.reduceEqDiff, tc_gf3_s, tc_ql2_s, tc_ws_0, tc_ws_i, tc_ws_l, tc_ws_r, Nat.reduceLeDiff, Nat.reduceAdd, Nat.reduceLT, true_and, and_true, if_true, if_false, tc_K, Option.toList_some, Option.toList_none, List.nil_append, List.cons_append, ite_true, ite_false, Int.cast_ofNat_Int, reduceIte, i3_add_eq, i3_sub_eq, Int.add_sub_cancel, Int.add_neg_cancel_right, c187 hS]) | (simp only [r209_7, r209_23, r209_41, r209_53, r209_62, r209_77, r209_93, i6_lt0, i6_0lt, i6_0le, i6_le0, i6_eq0, b10_0, ite_not, Int.reduceLT, Int.reduceLE, Int.reduceEq, Int.reduceNeg, if_true, if_false, ite_true, ite_false, reduceIte, eq_self, not_true, not_false_eq_true]; try refine tc_ite (fun _ => ?_) (fun _ => ?_) <;> try (exfalso; omega)))
    rcases hI.2 with q | q
    · rw [q.1, q.2.1]
      exact hz (fun x hx hx2 => ⟨hs.2.1 x hx hx2, fun d h1 h2 => q.2.2 x hx hx2 d h1 h2⟩) _ _ _
    · rw [q.1]
      exact hm s1 hI.1 q.2 _ _ _
theorem c209_w (hS : MS L sh) (hd : DM (c 76)) (hb : BD (c 76)) (hh : HT (c 76 0 * c 76 1) (c 77)) {F : Int} (hF : 0 ≤ F ∧ F ≤ 100)
    (hq : ∀ s, StI (c 76 0) (c 76 0 * c 76 1) (c 77) F (c 105) s → St (c 76 0) (c 76 0 * c 76 1) (c 77) F s → Q none (hp L sh (fr c 105 s)) n) : ∀ (m : Nat) (s : Int → Int) (a3 a4 a5 : AV), StI (c 76 0) (c 76 0 * c 76 1) (c 77) F (c 105) s → (c 76 0 * c 76 1) * F - sm s (c 76 0 * c 76 1).toNat < m → tc_W 209 40 [rf 75, .inl F, .inl 1, a3, a4, a5] [] (hp L sh (fr c 105 s)) n Q := by
  have hN := hd.m.1
  have hmx : ∀ s, StI (c 76 0) (c 76 0 * c 76 1) (c 77) F (c 105) s → sm s (c 76 0 * c 76 1).toNat ≤ (c 76 0 * c 76 1) * F := by
    intro s hs
    have h1 := sm_le (s := s) hF.1 (c 76 0 * c 76 1).toNat (fun x hx hx2 => hs.1.le hh hF.1 hx (by omega))
    rw [Int.toNat_of_nonneg hN.1] at h1
    exact h1
  intro m
  induction m with
  | zero =>
    intro s a3 a4 a5 hs hm
    have := hmx s hs
    omega
  | succ m ih =>
    intro s a3 a4 a5 hs hm
    simp only [r209_40]
    repeat' (first | (simp (disch := first | omega | exact Nat.le_of_ble_eq_true rfl | exact rfl | assumption | (simp only [fr_at, Nat.reduceEqDiff, if_false, if_true, reduceIte]; first | assumption | omega)) only [r209_0, r209_1i, r209_3, r209_4, v209_4_11, r209_10, r209_11, r209_12, r209_13, v209_13_11, r209_16i, r209_17, r209_18, r209_21, r209_22, r209_26, r209_27, r209_30, r209_31, r209_32i, r209_35, r209_38, r209_39i, r209_44, r209_45i, r209_46, r209_47i, r209_49, r209_50, v209_50_11, r209_56, r209_57i, r209_61, r209_65, r209_66, r209_67, r209_69, v209_69_11, r209_72i, r209_74, r209_76, r209_80, r209_81, r209_82, r209_84, v209_84_11, r209_87, r209_88, r209_91, r209_92, r209_96, r209_97, r209_100, r209_101, r209_102, r209_103, r209_105, v209_105_11, r209_108, r209_109, r209_110i, r209_111i, r209_114, r209_117i, r209_120, r209_123, r209_126, g11_103_11, mo_len, ms75 hS, mt75 hS, mo_g41, ms105 hS, mt105 hS, il_s, bl_s, bl_z, ll_s, is_s, bs_s, bs_z, ls_s, al_s, al_b, al_l, fr_at, fr_fr, Nat.reduceEqDiff, tc_gf3_s, tc_ql2_s, tc_ws_0, tc_ws_i, tc_ws_l, tc_ws_r, Nat.reduceLeDiff, Nat.reduceAdd, Nat.reduceLT, true_and, and_true, if_true, if_false, tc_K, Option.toList_some, Option.toList_none, List.nil_append, List.cons_append, ite_true, ite_false, Int.cast_ofNat_Int, reduceIte, i3_add_eq, i3_sub_eq, Int.add_sub_cancel, Int.add_neg_cancel_right]) | (simp only [r209_7, r209_23, r209_41, r209_53, r209_62, r209_77, r209_93, i6_lt0, i6_0lt, i6_0le, i6_le0, i6_eq0, b10_0, ite_not, Int.reduceLT, Int.reduceLE, Int.reduceEq, Int.reduceNeg, if_true, if_false, ite_true, ite_false, reduceIte, eq_self, not_true, not_false_eq_true]; try refine tc_ite (fun _ => ?_) (fun _ => ?_) <;> try (exfalso; omega)))
    refine c209_p hS hd hb hh hF hs ?_ ?_ _ _
    · intro hc a3 a4 a5
      simp only [r209_40]
      repeat' (first | (simp (disch := first | omega | exact Nat.le_of_ble_eq_true rfl | exact rfl | assumption | (simp only [fr_at, Nat.reduceEqDiff, if_false, if_true, reduceIte]; first | assumption | omega)) only [r209_0, r209_1i, r209_3, r209_4, v209_4_11, r209_10, r209_11, r209_12, r209_13, v209_13_11, r209_16i, r209_17, r209_18, r209_21, r209_22, r209_26, r209_27, r209_30, r209_31, r209_32i, r209_35, r209_38, r209_39i, r209_44, r209_45i, r209_46, r209_47i, r209_49, r209_50, v209_50_11, r209_56, r209_57i, r209_61, r209_65, r209_66, r209_67, r209_69, v209_69_11, r209_72i, r209_74, r209_76, r209_80, r209_81, r209_82, r209_84, v209_84_11, r209_87, r209_88, r209_91, r209_92, r209_96, r209_97, r209_100, r209_101, r209_102, r209_103, r209_105, v209_105_11, r209_108, r209_109, r209_110i, r209_111i, r209_114, r209_117i, r209_120, r209_123, r209_126, g11_103_11, mo_len, ms75 hS, mt75 hS, mo_g41, ms105 hS, mt105 hS, il_s, bl_s, bl_z, ll_s, is_s, bs_s, bs_z, ls_s, al_s, al_b, al_l, fr_at, fr_fr, Nat.reduceEqDiff, tc_gf3_s, tc_ql2_s, tc_ws_0, tc_ws_i, tc_ws_l, tc_ws_r, Nat.reduceLeDiff, Nat.reduceAdd, Nat.reduceLT, true_and, and_true, if_true, if_false, tc_K, Option.toList_some, Option.toList_none, List.nil_append, List.cons_append, ite_true, ite_false, Int.cast_ofNat_Int, reduceIte, i3_add_eq, i3_sub_eq, Int.add_sub_cancel, Int.add_neg_cancel_right]) | (simp only [r209_7, r209_23, r209_41, r209_53, r209_62, r209_77, r209_93, i6_lt0, i6_0lt, i6_0le, i6_le0, i6_eq0, b10_0, ite_not, Int.reduceLT, Int.reduceLE, Int.reduceEq, Int.reduceNeg, if_true, if_false, ite_true, ite_false, reduceIte, eq_self, not_true, not_false_eq_true]; try refine tc_ite (fun _ => ?_) (fun _ => ?_) <;> try (exfalso; omega)))
      exact hq s hs ⟨hc, hs.1⟩
    · intro s' hs' hlt a3 a4 a5
      exact ih s' a3 a4 a5 hs' (by omega)
theorem c209 (hS : MS L sh) (hd : DM (c 76)) (hb : BD (c 76)) (hh : HT (c 76 0 * c 76 1) (c 77)) {F : Int} (hF : 0 ≤ F ∧ F ≤ 100) : tc_C 209 [rf 75, .inl F] (hp L sh c) n Q = Q none (hp L sh (fr c 105 (lay (c 76 0 * c 76 1) (stg (c 76 0) (c 76 0 * c 76 1) (c 77) F) (c 105)))) n := tc_det fun Q hq => by
  show tc_W 209 0 [rf 75, .inl F, tc_nil, tc_nil, tc_nil, tc_nil] [] _ _ Q
  have hN := hd.m.1
  repeat' (first | (simp (disch := first | omega | exact Nat.le_of_ble_eq_true rfl | exact rfl | assumption | (simp only [fr_at, Nat.reduceEqDiff, if_false, if_true, reduceIte]; first | assumption | omega)) only [r209_0, r209_1i, r209_3, r209_4, v209_4_11, r209_10, r209_11, r209_12, r209_13, v209_13_11, r209_16i, r209_17, r209_18, r209_21, r209_22, r209_26, r209_27, r209_30, r209_31, r209_32i, r209_35, r209_38, r209_39i, r209_44, r209_45i, r209_46, r209_47i, r209_49, r209_50, v209_50_11, r209_56, r209_57i, r209_61, r209_65, r209_66, r209_67, r209_69, v209_69_11, r209_72i, r209_74, r209_76, r209_80, r209_81, r209_82, r209_84, v209_84_11, r209_87, r209_88, r209_91, r209_92, r209_96, r209_97, r209_100, r209_101, r209_102, r209_103, r209_105, v209_105_11, r209_108, r209_109, r209_110i, r209_111i, r209_114, r209_117i, r209_120, r209_123, r209_126, g11_103_11, mo_len, ms75 hS, mt75 hS, mo_g41, ms105 hS, mt105 hS, il_s, bl_s, bl_z, ll_s, is_s, bs_s, bs_z, ls_s, al_s, al_b, al_l, fr_at, fr_fr, Nat.reduceEqDiff, tc_gf3_s, tc_ql2_s, tc_ws_0, tc_ws_i, tc_ws_l, tc_ws_r, Nat.reduceLeDiff, Nat.reduceAdd, Nat.reduceLT, true_and, and_true, if_true, if_false, tc_K, Option.toList_some, Option.toList_none, List.nil_append, List.cons_append, ite_true, ite_false, Int.cast_ofNat_Int, reduceIte, i3_add_eq, i3_sub_eq, Int.add_sub_cancel, Int.add_neg_cancel_right]) | (simp only [r209_7, r209_23, r209_41, r209_53, r209_62, r209_77, r209_93, i6_lt0, i6_0lt, i6_0le, i6_le0, i6_eq0, b10_0, ite_not, Int.reduceLT, Int.reduceLE, Int.reduceEq, Int.reduceNeg, if_true, if_false, ite_true, ite_false, reduceIte, eq_self, not_true, not_false_eq_true]; try refine tc_ite (fun _ => ?_) (fun _ => ?_) <;> try (exfalso; omega)))
  have l1 : ∀ k : Int, ∀ a3 : AV, 0 ≤ k → k ≤ c 76 0 * c 76 1 → True → tc_W 209 2 [rf 75, .inl F, .inl k, a3, tc_nil, tc_nil] [] (hp L sh (fr c 105 (lay k (fun x => if 0 < fse (c 76 0) (c 76 0 * c 76 1) (c 77) F x then fse (c 76 0) (c 76 0 * c 76 1) (c 77) F x else 0) (c 105)))) n Q := by
    refine lq_1 (I := fun _ _ => True) ?_ ?_
    · intro k a3 hk hk2 _ ih
      have h4 := hh k hk hk2
      have h5 : -200 ≤ fse (c 76 0) (c 76 0 * c 76 1) (c 77) F k ∧ fse (c 76 0) (c 76 0 * c 76 1) (c 77) F k ≤ 200 := by
        unfold fse
        split <;> omega
      simp only [r209_2]
      repeat' (first | (simp (disch := first | omega | exact Nat.le_of_ble_eq_true rfl | exact rfl | assumption | (simp only [fr_at, Nat.reduceEqDiff, if_false, if_true, reduceIte]; first | assumption | omega)) only [r209_0, r209_1i, r209_3, r209_4, v209_4_11, r209_10, r209_11, r209_12, r209_13, v209_13_11, r209_16i, r209_17, r209_18, r209_21, r209_22, r209_26, r209_27, r209_30, r209_31, r209_32i, r209_35, r209_38, r209_39i, r209_44, r209_45i, r209_46, r209_47i, r209_49, r209_50, v209_50_11, r209_56, r209_57i, r209_61, r209_65, r209_66, r209_67, r209_69, v209_69_11, r209_72i, r209_74, r209_76, r209_80, r209_81, r209_82, r209_84, v209_84_11, r209_87, r209_88, r209_91, r209_92, r209_96, r209_97, r209_100, r209_101, r209_102, r209_103, r209_105, v209_105_11, r209_108, r209_109, r209_110i, r209_111i, r209_114, r209_117i, r209_120, r209_123, r209_126, g11_103_11, mo_len, ms75 hS, mt75 hS, mo_g41, ms105 hS, mt105 hS, il_s, bl_s, bl_z, ll_s, is_s, bs_s, bs_z, ls_s, al_s, al_b, al_l, fr_at, fr_fr, Nat.reduceEqDiff, tc_gf3_s, tc_ql2_s, tc_ws_0, tc_ws_i, tc_ws_l, tc_ws_r, Nat.reduceLeDiff, Nat.reduceAdd, Nat.reduceLT, true_and, and_true, if_true, if_false, tc_K, Option.toList_some, Option.toList_none, List.nil_append, List.cons_append, ite_true, ite_false, Int.cast_ofNat_Int, reduceIte, i3_add_eq, i3_sub_eq, Int.add_sub_cancel, Int.add_neg_cancel_right, c187 hS, c210 hS]) | (simp only [r209_7, r209_23, r209_41, r209_53, r209_62, r209_77, r209_93, i6_lt0, i6_0lt, i6_0le, i6_le0, i6_eq0, b10_0, ite_not, Int.reduceLT, Int.reduceLE, Int.reduceEq, Int.reduceNeg, if_true, if_false, ite_true, ite_false, reduceIte, eq_self, not_true, not_false_eq_true]; try refine tc_ite (fun _ => ?_) (fun _ => ?_) <;> try (exfalso; omega)))
      all_goals
        rw [lay_upv hk (by simp (disch := omega) only [if_pos, if_neg])]
        exact ih _ trivial
    · intro a3 _
      simp only [r209_2]
      repeat' (first | (simp (disch := first | omega | exact Nat.le_of_ble_eq_true rfl | exact rfl | assumption | (simp only [fr_at, Nat.reduceEqDiff, if_false, if_true, reduceIte]; first | assumption | omega)) only [r209_0, r209_1i, r209_3, r209_4, v209_4_11, r209_10, r209_11, r209_12, r209_13, v209_13_11, r209_16i, r209_17, r209_18, r209_21, r209_22, r209_26, r209_27, r209_30, r209_31, r209_32i, r209_35, r209_38, r209_39i, r209_44, r209_45i, r209_46, r209_47i, r209_49, r209_50, v209_50_11, r209_56, r209_57i, r209_61, r209_65, r209_66, r209_67, r209_69, v209_69_11, r209_72i, r209_74, r209_76, r209_80, r209_81, r209_82, r209_84, v209_84_11, r209_87, r209_88, r209_91, r209_92, r209_96, r209_97, r209_100, r209_101, r209_102, r209_103, r209_105, v209_105_11, r209_108, r209_109, r209_110i, r209_111i, r209_114, r209_117i, r209_120, r209_123, r209_126, g11_103_11, mo_len, ms75 hS, mt75 hS, mo_g41, ms105 hS, mt105 hS, il_s, bl_s, bl_z, ll_s, is_s, bs_s, bs_z, ls_s, al_s, al_b, al_l, fr_at, fr_fr, Nat.reduceEqDiff, tc_gf3_s, tc_ql2_s, tc_ws_0, tc_ws_i, tc_ws_l, tc_ws_r, Nat.reduceLeDiff, Nat.reduceAdd, Nat.reduceLT, true_and, and_true, if_true, if_false, tc_K, Option.toList_some, Option.toList_none, List.nil_append, List.cons_append, ite_true, ite_false, Int.cast_ofNat_Int, reduceIte, i3_add_eq, i3_sub_eq, Int.add_sub_cancel, Int.add_neg_cancel_right, c187 hS]) | (simp only [r209_7, r209_23, r209_41, r209_53, r209_62, r209_77, r209_93, i6_lt0, i6_0lt, i6_0le, i6_le0, i6_eq0, b10_0, ite_not, Int.reduceLT, Int.reduceLE, Int.reduceEq, Int.reduceNeg, if_true, if_false, ite_true, ite_false, reduceIte, eq_self, not_true, not_false_eq_true]; try refine tc_ite (fun _ => ?_) (fun _ => ?_) <;> try (exfalso; omega)))
      refine c209_w hS hd hb hh hF ?_ ((c 76 0 * c 76 1) * F - sm (lay (c 76 0 * c 76 1) (fun x => if 0 < fse (c 76 0) (c 76 0 * c 76 1) (c 77) F x then fse (c 76 0) (c 76 0 * c 76 1) (c 77) F x else 0) (c 105)) (c 76 0 * c 76 1).toNat + 1).toNat _ _ _ _ (StI.z hN.1) (by omega)
      intro s h1 h2
      rw [show lay (c 76 0 * c 76 1) (stg (c 76 0) (c 76 0 * c 76 1) (c 77) F) (c 105) = s by
        funext x
        by_cases hx : 0 ≤ x ∧ x < c 76 0 * c 76 1
        · rw [lay_in hx, h2.eq hx.1 hx.2]
        · rw [lay_out hx, h1.2.2 x hx]] at hq
      exact hq
  have l2 := l1 0 tc_nil (by omega) hN.1 trivial
  rw [lay_0, fr_id] at l2
  exact l2
end MOD2

/-! the reference: words, numbers -/
theorem sL_s {K pc m l : Nat} {ls st : List AV} {h : List SC} {Q : Option AV → List SC → Nat → Prop} {f : Int → Int} (hs : tc_ws st ≤ 8) : tc_sL K pc ls st h m Q (some (.inl (9, al l f))) = tc_W K pc ls (.inl (l : Int) :: st) h m Q := by
  show (if (9 : Nat) = 9 ∧ tc_ws st ≤ 8 then tc_W K pc ls (.inl ((al l f).length : Int) :: st) h m Q else False) = _
  rw [if_pos ⟨rfl, hs⟩, al_len]
theorem sC_s {K pc m l : Nat} {ls st : List AV} {h : List SC} {Q : Option AV → List SC → Nat → Prop} {f : Int → Int} {z : Int} (h0 : 0 ≤ z) (h1 : z < l) (hs : tc_ws st ≤ 8) : tc_sC K pc ls st h m Q z (some (.inl (9, al l f))) = tc_W K pc ls (.inl (f z) :: st) h m Q := by
  show (if ((9 : Nat) = 9 ∧ 0 ≤ z) ∧ tc_ws st ≤ 8 then tc_il2 K pc ls st h m Q (al l f)[z.toNat]? else False) = _
  rw [if_pos ⟨⟨rfl, h0⟩, hs⟩, al_get h0 h1]
  rfl
/-- the first signs are those of a word -/
def mtc (g : Int → Int) (p : Int) (f : Int → Int) : Nat → Int
  | 0 => 1
  | k + 1 => if mtc g p f k = 1 ∧ g (p + k) = f k then 1 else 0
theorem mtc_01 (g : Int → Int) (p : Int) (f : Int → Int) (k : Nat) : mtc g p f k = 0 ∨ mtc g p f k = 1 := by
  cases k with
  | zero => exact Or.inr rfl
  | succ k =>
    unfold mtc
    split <;> omega
theorem mtc_0 {g : Int → Int} {p : Int} {f : Int → Int} {k : Nat} (h : mtc g p f k = 0) : ∀ d : Nat, mtc g p f (k + d) = 0 := by
  intro d
  induction d with
  | zero => exact h
  | succ d ih =>
    show (if mtc g p f (k + d) = 1 ∧ g (p + ((k + d : Nat) : Int)) = f ((k + d : Nat) : Int) then (1 : Int) else 0) = 0
    exact if_neg fun q => by
      have := q.1
      omega
/-- whether a word stands at p -/
def stq (g : Int → Int) (N p : Int) (f : Int → Int) (l : Nat) : Int := if rn g N p - p = l ∧ mtc g p f l = 1 then 1 else 0
section WORDS
variable {L : Nat} {sh : Nat → SH} {c : Nat → Int → Int} {n : Nat} {Q : Option AV → List SC → Nat → Prop}
theorem c171q (hS : MS L sh) {N p : Int} (hT : TP (c 95) N) (h21 : c 75 21 = N) (h22 : c 75 22 = p) (hp0 : 0 ≤ p ∧ p ≤ 1000) : tc_C 171 [rf 75] (hp L sh c) n Q = Q none (hp L sh (fr c 75 (fu (c 75) 22 (sk (c 95) N p)))) n := tc_det fun Q hq => by
  show tc_W 171 0 [rf 75] [] _ _ Q
  have h := c171 (c := c) (n := n) (Q := Q) hS hT h21 (N - p).toNat p (by omega) hp0.1 hp0.2 hq
  rw [fu_idv h22, fr_id] at h
  exact h
theorem c174_r (hS : MS L sh) {N p : Int} (hT : TP (c 95) N) (h21 : c 75 21 = N) {a : Nat} {R : Int} (hR : tc_W 174 41 [rf 75, rf a, .inl R, tc_nil, tc_nil] [] (hp L sh c) n Q) : ∀ (k : Nat) (q : Int), N - q ≤ k → 0 ≤ q → q ≤ 1000 → rn (c 95) N q = R → tc_W 174 5 [rf 75, rf a, .inl q, tc_nil, tc_nil] [] (hp L sh c) n Q := by
  intro k
  have h1 := hT.1
  induction k with
  | zero =>
    intro q hk hq0 hq2 he
    have e := rn_e (g := c 95) (n := N) (p := q)
    rw [if_neg (fun h => by omega), he] at e
    rw [e] at hR
    simp only [r174_5]
    repeat' (first | (simp (disch := first | omega | exact Nat.le_of_ble_eq_true rfl | exact rfl | assumption | (simp only [fr_at, Nat.reduceEqDiff, if_false, if_true, reduceIte]; first | assumption | omega)) only [r174_0, r174_1, r174_4r, r174_6, r174_7, r174_13, r174_14, r174_17, r174_18, r174_19, r174_24, r174_25, r174_28, r174_29, r174_30, r174_35r, r174_38, r174_42, r174_43, r174_46, r174_47, r174_48, r174_54, r174_55, r174_58, r174_59i, r174_60, r174_61i, r174_65, r174_66, r174_72, r174_76, r174_77, r174_80, r174_81, r174_84, r174_86, r174_87, r174_88, r174_89, r174_91, r174_97, r174_98, r174_101, r174_102i, r174_103i, r174_106, r174_109, r174_110h, r174_110f, r174_110t, g11_174_11, g11_149_11, g11_71_11, mo_len, ms75 hS, mt75 hS, mo_g22, mo_g21, mo_g31, ms95 hS, mt95 hS, il_s, bl_s, bl_z, ll_s, is_s, bs_s, bs_z, ls_s, al_s, al_b, al_l, fr_at, fr_fr, Nat.reduceEqDiff, tc_gf3_s, tc_ql2_s, tc_ws_0, tc_ws_i, tc_ws_l, tc_ws_r, Nat.reduceLeDiff, Nat.reduceAdd, Nat.reduceLT, true_and, and_true, if_true, if_false, tc_K, Option.toList_some, Option.toList_none, List.nil_append, List.cons_append, ite_true, ite_false, Int.cast_ofNat_Int, reduceIte, i3_add_eq, i3_sub_eq, Int.add_sub_cancel, Int.add_neg_cancel_right, h21]) | (simp only [r174_10, r174_21, r174_32, r174_51, r174_69, r174_73, r174_94, i6_lt0, i6_0lt, i6_0le, i6_le0, i6_eq0, b10_0, ite_not, Int.reduceLT, Int.reduceLE, Int.reduceEq, Int.reduceNeg, if_true, if_false, ite_true, ite_false, reduceIte, eq_self, not_true, not_false_eq_true]; try refine tc_ite (fun _ => ?_) (fun _ => ?_) <;> try (exfalso; omega)))
    exact hR
  | succ k ih =>
    intro q hk hq0 hq2 he
    have e := rn_e (g := c 95) (n := N) (p := q)
    simp only [r174_5]
    by_cases h : q < N ∧ 97 ≤ c 95 q ∧ c 95 q ≤ 122
    · rw [if_pos h, he] at e
      repeat' (first | (simp (disch := first | omega | exact Nat.le_of_ble_eq_true rfl | exact rfl | assumption | (simp only [fr_at, Nat.reduceEqDiff, if_false, if_true, reduceIte]; first | assumption | omega)) only [r174_0, r174_1, r174_4r, r174_6, r174_7, r174_13, r174_14, r174_17, r174_18, r174_19, r174_24, r174_25, r174_28, r174_29, r174_30, r174_35r, r174_38, r174_42, r174_43, r174_46, r174_47, r174_48, r174_54, r174_55, r174_58, r174_59i, r174_60, r174_61i, r174_65, r174_66, r174_72, r174_76, r174_77, r174_80, r174_81, r174_84, r174_86, r174_87, r174_88, r174_89, r174_91, r174_97, r174_98, r174_101, r174_102i, r174_103i, r174_106, r174_109, r174_110h, r174_110f, r174_110t, g11_174_11, g11_149_11, g11_71_11, mo_len, ms75 hS, mt75 hS, mo_g22, mo_g21, mo_g31, ms95 hS, mt95 hS, il_s, bl_s, bl_z, ll_s, is_s, bs_s, bs_z, ls_s, al_s, al_b, al_l, fr_at, fr_fr, Nat.reduceEqDiff, tc_gf3_s, tc_ql2_s, tc_ws_0, tc_ws_i, tc_ws_l, tc_ws_r, Nat.reduceLeDiff, Nat.reduceAdd, Nat.reduceLT, true_and, and_true, if_true, if_false, tc_K, Option.toList_some, Option.toList_none, List.nil_append, List.cons_append, ite_true, ite_false, Int.cast_ofNat_Int, reduceIte, i3_add_eq, i3_sub_eq, Int.add_sub_cancel, Int.add_neg_cancel_right, h21]) | (simp only [r174_10, r174_21, r174_32, r174_51, r174_69, r174_73, r174_94, i6_lt0, i6_0lt, i6_0le, i6_le0, i6_eq0, b10_0, ite_not, Int.reduceLT, Int.reduceLE, Int.reduceEq, Int.reduceNeg, if_true, if_false, ite_true, ite_false, reduceIte, eq_self, not_true, not_false_eq_true]; try refine tc_ite (fun _ => ?_) (fun _ => ?_) <;> try (exfalso; omega)))
      all_goals first
        | exact ih (q + 1) (by omega) (by omega) (by omega) e.symm
        | omega
    · rw [if_neg h, he] at e
      rw [e] at hR
      repeat' (first | (simp (disch := first | omega | exact Nat.le_of_ble_eq_true rfl | exact rfl | assumption | (simp only [fr_at, Nat.reduceEqDiff, if_false, if_true, reduceIte]; first | assumption | omega)) only [r174_0, r174_1, r174_4r, r174_6, r174_7, r174_13, r174_14, r174_17, r174_18, r174_19, r174_24, r174_25, r174_28, r174_29, r174_30, r174_35r, r174_38, r174_42, r174_43, r174_46, r174_47, r174_48, r174_54, r174_55, r174_58, r174_59i, r174_60, r174_61i, r174_65, r174_66, r174_72, r174_76, r174_77, r174_80, r174_81, r174_84, r174_86, r174_87, r174_88, r174_89, r174_91, r174_97, r174_98, r174_101, r174_102i, r174_103i, r174_106, r174_109, r174_110h, r174_110f, r174_110t, g11_174_11, g11_149_11, g11_71_11, mo_len, ms75 hS, mt75 hS, mo_g22, mo_g21, mo_g31, ms95 hS, mt95 hS, il_s, bl_s, bl_z, ll_s, is_s, bs_s, bs_z, ls_s, al_s, al_b, al_l, fr_at, fr_fr, Nat.reduceEqDiff, tc_gf3_s, tc_ql2_s, tc_ws_0, tc_ws_i, tc_ws_l, tc_ws_r, Nat.reduceLeDiff, Nat.reduceAdd, Nat.reduceLT, true_and, and_true, if_true, if_false, tc_K, Option.toList_some, Option.toList_none, List.nil_append, List.cons_append, ite_true, ite_false, Int.cast_ofNat_Int, reduceIte, i3_add_eq, i3_sub_eq, Int.add_sub_cancel, Int.add_neg_cancel_right, h21]) | (simp only [r174_10, r174_21, r174_32, r174_51, r174_69, r174_73, r174_94, i6_lt0, i6_0lt, i6_0le, i6_le0, i6_eq0, b10_0, ite_not, Int.reduceLT, Int.reduceLE, Int.reduceEq, Int.reduceNeg, if_true, if_false, ite_true, ite_false, reduceIte, eq_self, not_true, not_false_eq_true]; try refine tc_ite (fun _ => ?_) (fun _ => ?_) <;> try (exfalso; omega)))
      all_goals first
        | exact hR
        | omega
theorem c174 (hS : MS L sh) {N p : Int} (hTP : TP (c 95) N) (h21 : c 75 21 = N) (h22 : c 75 22 = p) (hp0 : 0 ≤ p ∧ p ≤ 1000) {a l : Nat} (ha : a < L) (hs : sh a = (9, l, [])) (hl : l ≤ 100) : tc_C 174 [rf 75, rf a] (hp L sh c) n Q = Q (some (.inl (stq (c 95) N p (c a) l))) (hp L sh c) n := tc_det fun Q hq => by
  show tc_W 174 0 [rf 75, rf a, tc_nil, tc_nil, tc_nil] [] _ _ Q
  have h1 := hTP.1
  have hrg := rn_rng (g := c 95) (n := N) (p := p)
  repeat' (first | (simp (disch := first | omega | exact Nat.le_of_ble_eq_true rfl | exact rfl | assumption | (simp only [fr_at, Nat.reduceEqDiff, if_false, if_true, reduceIte]; first | assumption | omega)) only [r174_0, r174_1, r174_4r, r174_6, r174_7, r174_13, r174_14, r174_17, r174_18, r174_19, r174_24, r174_25, r174_28, r174_29, r174_30, r174_35r, r174_38, r174_41, r174_42, r174_43, r174_46, r174_47, r174_48, r174_54, r174_55, r174_58, r174_59i, r174_60, r174_61i, r174_65, r174_66, r174_72, r174_76, r174_77, r174_80, r174_81, r174_84, r174_86, r174_87, r174_88, r174_89, r174_91, r174_97, r174_98, r174_101, r174_102i, r174_103i, r174_106, r174_109, r174_110h, r174_110f, r174_110t, g11_174_11, g11_149_11, g11_71_11, mo_len, ms75 hS, mt75 hS, mo_g22, mo_g21, mo_g31, ms95 hS, mt95 hS, il_s, bl_s, bl_z, ll_s, is_s, bs_s, bs_z, ls_s, al_s, al_b, al_l, fr_at, fr_fr, Nat.reduceEqDiff, tc_gf3_s, tc_ql2_s, tc_ws_0, tc_ws_i, tc_ws_l, tc_ws_r, Nat.reduceLeDiff, Nat.reduceAdd, Nat.reduceLT, true_and, and_true, if_true, if_false, tc_K, Option.toList_some, Option.toList_none, List.nil_append, List.cons_append, ite_true, ite_false, Int.cast_ofNat_Int, reduceIte, i3_add_eq, i3_sub_eq, Int.add_sub_cancel, Int.add_neg_cancel_right, h22]) | (simp only [r174_10, r174_21, r174_32, r174_51, r174_69, r174_73, r174_94, i6_lt0, i6_0lt, i6_0le, i6_le0, i6_eq0, b10_0, ite_not, Int.reduceLT, Int.reduceLE, Int.reduceEq, Int.reduceNeg, if_true, if_false, ite_true, ite_false, reduceIte, eq_self, not_true, not_false_eq_true]; try refine tc_ite (fun _ => ?_) (fun _ => ?_) <;> try (exfalso; omega)))
  refine c174_r hS (p := p) hTP h21 (R := rn (c 95) N p) ?_ (N - p).toNat p (by omega) hp0.1 hp0.2 rfl
  unfold stq at hq
  generalize rn (c 95) N p = R at hq hrg
  by_cases hRl : R - p = l
  · have hlp := up (N := l) (P := fun k => tc_W 174 63 [rf 75, rf a, .inl R, .inl (mtc (c 95) p (c a) k), .inl (k : Int)] [] (hp L sh c) n Q) ?_ ?_
    · have hRl' : R - p = (l : Int) := hRl
      repeat' (first | (simp (disch := first | omega | exact Nat.le_of_ble_eq_true rfl | exact rfl | assumption | (simp only [fr_at, Nat.reduceEqDiff, if_false, if_true, reduceIte]; first | assumption | omega)) only [r174_0, r174_1, r174_4r, r174_6, r174_7, r174_13, r174_14, r174_17, r174_18, r174_19, r174_24, r174_25, r174_28, r174_29, r174_30, r174_35r, r174_38, r174_41, r174_42, r174_43, r174_46, r174_47, r174_48, r174_54, r174_55, r174_58, r174_59i, r174_60, r174_61i, r174_65, r174_66, r174_72, r174_76, r174_77, r174_80, r174_81, r174_84, r174_86, r174_87, r174_88, r174_89, r174_91, r174_97, r174_98, r174_101, r174_102i, r174_103i, r174_106, r174_109, r174_110h, r174_110f, r174_110t, g11_174_11, g11_149_11, g11_71_11, mo_len, ms75 hS, mt75 hS, mo_g22, mo_g21, mo_g31, ms95 hS, mt95 hS, il_s, bl_s, bl_z, ll_s, is_s, bs_s, bs_z, ls_s, al_s, al_b, al_l, fr_at, fr_fr, Nat.reduceEqDiff, tc_gf3_s, tc_ql2_s, tc_ws_0, tc_ws_i, tc_ws_l, tc_ws_r, Nat.reduceLeDiff, Nat.reduceAdd, Nat.reduceLT, true_and, and_true, if_true, if_false, tc_K, Option.toList_some, Option.toList_none, List.nil_append, List.cons_append, ite_true, ite_false, Int.cast_ofNat_Int, reduceIte, i3_add_eq, i3_sub_eq, Int.add_sub_cancel, Int.add_neg_cancel_right, h22, hT ha hs, sL_s, hRl']) | (simp only [r174_10, r174_21, r174_32, r174_51, r174_69, r174_73, r174_94, i6_lt0, i6_0lt, i6_0le, i6_le0, i6_eq0, b10_0, ite_not, Int.reduceLT, Int.reduceLE, Int.reduceEq, Int.reduceNeg, if_true, if_false, ite_true, ite_false, reduceIte, eq_self, not_true, not_false_eq_true]; try refine tc_ite (fun _ => ?_) (fun _ => ?_) <;> try (exfalso; omega)))
      all_goals first
        | exact hlp
        | omega
    · intro k hk ih
      have e : mtc (c 95) p (c a) (k + 1) = if mtc (c 95) p (c a) k = 1 ∧ c 95 (p + k) = c a k then 1 else 0 := rfl
      have h01 := mtc_01 (c 95) p (c a) k
      simp only [r174_63]
      rcases h01 with h0 | h0
      · have hz := mtc_0 h0 (l - k)
        rw [show k + (l - k) = l by omega] at hz
        rw [if_neg (fun h => by omega)] at hq
        rw [h0]
        repeat' (first | (simp (disch := first | omega | exact Nat.le_of_ble_eq_true rfl | exact rfl | assumption | (simp only [fr_at, Nat.reduceEqDiff, if_false, if_true, reduceIte]; first | assumption | omega)) only [r174_0, r174_1, r174_4r, r174_6, r174_7, r174_13, r174_14, r174_17, r174_18, r174_19, r174_24, r174_25, r174_28, r174_29, r174_30, r174_35r, r174_38, r174_41, r174_42, r174_43, r174_46, r174_47, r174_48, r174_54, r174_55, r174_58, r174_59i, r174_60, r174_61i, r174_65, r174_66, r174_72, r174_76, r174_77, r174_80, r174_81, r174_84, r174_86, r174_87, r174_88, r174_89, r174_91, r174_97, r174_98, r174_101, r174_102i, r174_103i, r174_106, r174_109, r174_110h, r174_110f, r174_110t, g11_174_11, g11_149_11, g11_71_11, mo_len, ms75 hS, mt75 hS, mo_g22, mo_g21, mo_g31, ms95 hS, mt95 hS, il_s, bl_s, bl_z, ll_s, is_s, bs_s, bs_z, ls_s, al_s, al_b, al_l, fr_at, fr_fr, Nat.reduceEqDiff, tc_gf3_s, tc_ql2_s, tc_ws_0, tc_ws_i, tc_ws_l, tc_ws_r, Nat.reduceLeDiff, Nat.reduceAdd, Nat.reduceLT, true_and, and_true, if_true, if_false, tc_K, Option.toList_some, Option.toList_none, List.nil_append, List.cons_append, ite_true, ite_false, Int.cast_ofNat_Int, reduceIte, i3_add_eq, i3_sub_eq, Int.add_sub_cancel, Int.add_neg_cancel_right, hT ha hs, sL_s]) | (simp only [r174_10, r174_21, r174_32, r174_51, r174_69, r174_73, r174_94, i6_lt0, i6_0lt, i6_0le, i6_le0, i6_eq0, b10_0, ite_not, Int.reduceLT, Int.reduceLE, Int.reduceEq, Int.reduceNeg, if_true, if_false, ite_true, ite_false, reduceIte, eq_self, not_true, not_false_eq_true]; try refine tc_ite (fun _ => ?_) (fun _ => ?_) <;> try (exfalso; omega)))
        all_goals first
          | exact hq
          | omega
      · rw [h0] at e ⊢
        rw [show ((k + 1 : Nat) : Int) = (k : Int) + 1 by omega] at ih
        by_cases hc : c 95 (p + k) = c a k
        · rw [if_pos ⟨rfl, hc⟩] at e
          rw [e] at ih
          repeat' (first | (simp (disch := first | omega | exact Nat.le_of_ble_eq_true rfl | exact rfl | assumption | (simp only [fr_at, Nat.reduceEqDiff, if_false, if_true, reduceIte]; first | assumption | omega)) only [r174_0, r174_1, r174_4r, r174_6, r174_7, r174_13, r174_14, r174_17, r174_18, r174_19, r174_24, r174_25, r174_28, r174_29, r174_30, r174_35r, r174_38, r174_41, r174_42, r174_43, r174_46, r174_47, r174_48, r174_54, r174_55, r174_58, r174_59i, r174_60, r174_61i, r174_65, r174_66, r174_72, r174_76, r174_77, r174_80, r174_81, r174_84, r174_86, r174_87, r174_88, r174_89, r174_91, r174_97, r174_98, r174_101, r174_102i, r174_103i, r174_106, r174_109, r174_110h, r174_110f, r174_110t, g11_174_11, g11_149_11, g11_71_11, mo_len, ms75 hS, mt75 hS, mo_g22, mo_g21, mo_g31, ms95 hS, mt95 hS, il_s, bl_s, bl_z, ll_s, is_s, bs_s, bs_z, ls_s, al_s, al_b, al_l, fr_at, fr_fr, Nat.reduceEqDiff, tc_gf3_s, tc_ql2_s, tc_ws_0, tc_ws_i, tc_ws_l, tc_ws_r, Nat.reduceLeDiff, Nat.reduceAdd, Nat.reduceLT, true_and, and_true, if_true, if_false, tc_K, Option.toList_some, Option.toList_none, List.nil_append, List.cons_append, ite_true, ite_false, Int.cast_ofNat_Int, reduceIte, i3_add_eq, i3_sub_eq, Int.add_sub_cancel, Int.add_neg_cancel_right, h22, hT ha hs, sL_s, sC_s, hc]) | (simp only [r174_10, r174_21, r174_32, r174_51, r174_69, r174_73, r174_94, i6_lt0, i6_0lt, i6_0le, i6_le0, i6_eq0, b10_0, ite_not, Int.reduceLT, Int.reduceLE, Int.reduceEq, Int.reduceNeg, if_true, if_false, ite_true, ite_false, reduceIte, eq_self, not_true, not_false_eq_true]; try refine tc_ite (fun _ => ?_) (fun _ => ?_) <;> try (exfalso; omega)))
          all_goals first
            | exact ih
            | omega
        · rw [if_neg (fun h => hc h.2)] at e
          rw [e] at ih
          repeat' (first | (simp (disch := first | omega | exact Nat.le_of_ble_eq_true rfl | exact rfl | assumption | (simp only [fr_at, Nat.reduceEqDiff, if_false, if_true, reduceIte]; first | assumption | omega)) only [r174_0, r174_1, r174_4r, r174_6, r174_7, r174_13, r174_14, r174_17, r174_18, r174_19, r174_24, r174_25, r174_28, r174_29, r174_30, r174_35r, r174_38, r174_41, r174_42, r174_43, r174_46, r174_47, r174_48, r174_54, r174_55, r174_58, r174_59i, r174_60, r174_61i, r174_65, r174_66, r174_72, r174_76, r174_77, r174_80, r174_81, r174_84, r174_86, r174_87, r174_88, r174_89, r174_91, r174_97, r174_98, r174_101, r174_102i, r174_103i, r174_106, r174_109, r174_110h, r174_110f, r174_110t, g11_174_11, g11_149_11, g11_71_11, mo_len, ms75 hS, mt75 hS, mo_g22, mo_g21, mo_g31, ms95 hS, mt95 hS, il_s, bl_s, bl_z, ll_s, is_s, bs_s, bs_z, ls_s, al_s, al_b, al_l, fr_at, fr_fr, Nat.reduceEqDiff, tc_gf3_s, tc_ql2_s, tc_ws_0, tc_ws_i, tc_ws_l, tc_ws_r, Nat.reduceLeDiff, Nat.reduceAdd, Nat.reduceLT, true_and, and_true, if_true, if_false, tc_K, Option.toList_some, Option.toList_none, List.nil_append, List.cons_append, ite_true, ite_false, Int.cast_ofNat_Int, reduceIte, i3_add_eq, i3_sub_eq, Int.add_sub_cancel, Int.add_neg_cancel_right, h22, hT ha hs, sL_s, sC_s]) | (simp only [r174_10, r174_21, r174_32, r174_51, r174_69, r174_73, r174_94, i6_lt0, i6_0lt, i6_0le, i6_le0, i6_eq0, b10_0, ite_not, Int.reduceLT, Int.reduceLE, Int.reduceEq, Int.reduceNeg, if_true, if_false, ite_true, ite_false, reduceIte, eq_self, not_true, not_false_eq_true]; try refine tc_ite (fun _ => ?_) (fun _ => ?_) <;> try (exfalso; omega)))
          all_goals first
            | exact ih
            | omega
    · simp only [r174_63]
      rcases mtc_01 (c 95) p (c a) l with h0 | h0
      · rw [if_neg (fun h => by omega)] at hq
        rw [h0]
        repeat' (first | (simp (disch := first | omega | exact Nat.le_of_ble_eq_true rfl | exact rfl | assumption | (simp only [fr_at, Nat.reduceEqDiff, if_false, if_true, reduceIte]; first | assumption | omega)) only [r174_0, r174_1, r174_4r, r174_6, r174_7, r174_13, r174_14, r174_17, r174_18, r174_19, r174_24, r174_25, r174_28, r174_29, r174_30, r174_35r, r174_38, r174_41, r174_42, r174_43, r174_46, r174_47, r174_48, r174_54, r174_55, r174_58, r174_59i, r174_60, r174_61i, r174_65, r174_66, r174_72, r174_76, r174_77, r174_80, r174_81, r174_84, r174_86, r174_87, r174_88, r174_89, r174_91, r174_97, r174_98, r174_101, r174_102i, r174_103i, r174_106, r174_109, r174_110h, r174_110f, r174_110t, g11_174_11, g11_149_11, g11_71_11, mo_len, ms75 hS, mt75 hS, mo_g22, mo_g21, mo_g31, ms95 hS, mt95 hS, il_s, bl_s, bl_z, ll_s, is_s, bs_s, bs_z, ls_s, al_s, al_b, al_l, fr_at, fr_fr, Nat.reduceEqDiff, tc_gf3_s, tc_ql2_s, tc_ws_0, tc_ws_i, tc_ws_l, tc_ws_r, Nat.reduceLeDiff, Nat.reduceAdd, Nat.reduceLT, true_and, and_true, if_true, if_false, tc_K, Option.toList_some, Option.toList_none, List.nil_append, List.cons_append, ite_true, ite_false, Int.cast_ofNat_Int, reduceIte, i3_add_eq, i3_sub_eq, Int.add_sub_cancel, Int.add_neg_cancel_right, hT ha hs, sL_s]) | (simp only [r174_10, r174_21, r174_32, r174_51, r174_69, r174_73, r174_94, i6_lt0, i6_0lt, i6_0le, i6_le0, i6_eq0, b10_0, ite_not, Int.reduceLT, Int.reduceLE, Int.reduceEq, Int.reduceNeg, if_true, if_false, ite_true, ite_false, reduceIte, eq_self, not_true, not_false_eq_true]; try refine tc_ite (fun _ => ?_) (fun _ => ?_) <;> try (exfalso; omega)))
        all_goals first
          | exact hq
          | omega
      · rw [if_pos ⟨hRl, h0⟩] at hq
        rw [h0]
        repeat' (first | (simp (disch := first | omega | exact Nat.le_of_ble_eq_true rfl | exact rfl | assumption | (simp only [fr_at, Nat.reduceEqDiff, if_false, if_true, reduceIte]; first | assumption | omega)) only [r174_0, r174_1, r174_4r, r174_6, r174_7, r174_13, r174_14, r174_17, r174_18, r174_19, r174_24, r174_25, r174_28, r174_29, r174_30, r174_35r, r174_38, r174_41, r174_42, r174_43, r174_46, r174_47, r174_48, r174_54, r174_55, r174_58, r174_59i, r174_60, r174_61i, r174_65, r174_66, r174_72, r174_76, r174_77, r174_80, r174_81, r174_84, r174_86, r174_87, r174_88, r174_89, r174_91, r174_97, r174_98, r174_101, r174_102i, r174_103i, r174_106, r174_109, r174_110h, r174_110f, r174_110t, g11_174_11, g11_149_11, g11_71_11, mo_len, ms75 hS, mt75 hS, mo_g22, mo_g21, mo_g31, ms95 hS, mt95 hS, il_s, bl_s, bl_z, ll_s, is_s, bs_s, bs_z, ls_s, al_s, al_b, al_l, fr_at, fr_fr, Nat.reduceEqDiff, tc_gf3_s, tc_ql2_s, tc_ws_0, tc_ws_i, tc_ws_l, tc_ws_r, Nat.reduceLeDiff, Nat.reduceAdd, Nat.reduceLT, true_and, and_true, if_true, if_false, tc_K, Option.toList_some, Option.toList_none, List.nil_append, List.cons_append, ite_true, ite_false, Int.cast_ofNat_Int, reduceIte, i3_add_eq, i3_sub_eq, Int.add_sub_cancel, Int.add_neg_cancel_right, hT ha hs, sL_s]) | (simp only [r174_10, r174_21, r174_32, r174_51, r174_69, r174_73, r174_94, i6_lt0, i6_0lt, i6_0le, i6_le0, i6_eq0, b10_0, ite_not, Int.reduceLT, Int.reduceLE, Int.reduceEq, Int.reduceNeg, if_true, if_false, ite_true, ite_false, reduceIte, eq_self, not_true, not_false_eq_true]; try refine tc_ite (fun _ => ?_) (fun _ => ?_) <;> try (exfalso; omega)))
        all_goals first
          | exact hq
          | omega
  · rw [if_neg (fun h => hRl h.1)] at hq
    repeat' (first | (simp (disch := first | omega | exact Nat.le_of_ble_eq_true rfl | exact rfl | assumption | (simp only [fr_at, Nat.reduceEqDiff, if_false, if_true, reduceIte]; first | assumption | omega)) only [r174_0, r174_1, r174_4r, r174_6, r174_7, r174_13, r174_14, r174_17, r174_18, r174_19, r174_24, r174_25, r174_28, r174_29, r174_30, r174_35r, r174_38, r174_41, r174_42, r174_43, r174_46, r174_47, r174_48, r174_54, r174_55, r174_58, r174_59i, r174_60, r174_61i, r174_65, r174_66, r174_72, r174_76, r174_77, r174_80, r174_81, r174_84, r174_86, r174_87, r174_88, r174_89, r174_91, r174_97, r174_98, r174_101, r174_102i, r174_103i, r174_106, r174_109, r174_110h, r174_110f, r174_110t, g11_174_11, g11_149_11, g11_71_11, mo_len, ms75 hS, mt75 hS, mo_g22, mo_g21, mo_g31, ms95 hS, mt95 hS, il_s, bl_s, bl_z, ll_s, is_s, bs_s, bs_z, ls_s, al_s, al_b, al_l, fr_at, fr_fr, Nat.reduceEqDiff, tc_gf3_s, tc_ql2_s, tc_ws_0, tc_ws_i, tc_ws_l, tc_ws_r, Nat.reduceLeDiff, Nat.reduceAdd, Nat.reduceLT, true_and, and_true, if_true, if_false, tc_K, Option.toList_some, Option.toList_none, List.nil_append, List.cons_append, ite_true, ite_false, Int.cast_ofNat_Int, reduceIte, i3_add_eq, i3_sub_eq, Int.add_sub_cancel, Int.add_neg_cancel_right, h22, hT ha hs, sL_s]) | (simp only [r174_10, r174_21, r174_32, r174_51, r174_69, r174_73, r174_94, i6_lt0, i6_0lt, i6_0le, i6_le0, i6_eq0, b10_0, ite_not, Int.reduceLT, Int.reduceLE, Int.reduceEq, Int.reduceNeg, if_true, if_false, ite_true, ite_false, reduceIte, eq_self, not_true, not_false_eq_true]; try refine tc_ite (fun _ => ?_) (fun _ => ?_) <;> try (exfalso; omega)))
    all_goals try omega
    simp only [r174_63]
    repeat' (first | (simp (disch := first | omega | exact Nat.le_of_ble_eq_true rfl | exact rfl | assumption | (simp only [fr_at, Nat.reduceEqDiff, if_false, if_true, reduceIte]; first | assumption | omega)) only [r174_0, r174_1, r174_4r, r174_6, r174_7, r174_13, r174_14, r174_17, r174_18, r174_19, r174_24, r174_25, r174_28, r174_29, r174_30, r174_35r, r174_38, r174_41, r174_42, r174_43, r174_46, r174_47, r174_48, r174_54, r174_55, r174_58, r174_59i, r174_60, r174_61i, r174_65, r174_66, r174_72, r174_76, r174_77, r174_80, r174_81, r174_84, r174_86, r174_87, r174_88, r174_89, r174_91, r174_97, r174_98, r174_101, r174_102i, r174_103i, r174_106, r174_109, r174_110h, r174_110f, r174_110t, g11_174_11, g11_149_11, g11_71_11, mo_len, ms75 hS, mt75 hS, mo_g22, mo_g21, mo_g31, ms95 hS, mt95 hS, il_s, bl_s, bl_z, ll_s, is_s, bs_s, bs_z, ls_s, al_s, al_b, al_l, fr_at, fr_fr, Nat.reduceEqDiff, tc_gf3_s, tc_ql2_s, tc_ws_0, tc_ws_i, tc_ws_l, tc_ws_r, Nat.reduceLeDiff, Nat.reduceAdd, Nat.reduceLT, true_and, and_true, if_true, if_false, tc_K, Option.toList_some, Option.toList_none, List.nil_append, List.cons_append, ite_true, ite_false, Int.cast_ofNat_Int, reduceIte, i3_add_eq, i3_sub_eq, Int.add_sub_cancel, Int.add_neg_cancel_right, hT ha hs, sL_s]) | (simp only [r174_10, r174_21, r174_32, r174_51, r174_69, r174_73, r174_94, i6_lt0, i6_0lt, i6_0le, i6_le0, i6_eq0, b10_0, ite_not, Int.reduceLT, Int.reduceLE, Int.reduceEq, Int.reduceNeg, if_true, if_false, ite_true, ite_false, reduceIte, eq_self, not_true, not_false_eq_true]; try refine tc_ite (fun _ => ?_) (fun _ => ?_) <;> try (exfalso; omega)))
    all_goals first
      | exact hq
      | omega
end WORDS

/-! the reference: tests -/
def wts (W : Int) : List Int := (if W % 2 = 1 then [10] else []) ++ (if 2 ≤ W then [11] else [])
def sto : List Int → Int → List Int
  | [], W => wts W
  | x :: O, W => if x = -1 then 9 :: sto O W else wts W ++ 12 :: sto O x
def MTQ (c e : Nat → Int → Int) (Z : Int) : Prop := (∀ a, ¬ a = 75 → ¬ a = 96 → ¬ a = 97 → ¬ a = 102 → e a = c a) ∧ (∀ i, i < Z → e 96 i = c 96 i ∧ e 97 i = c 97 i) ∧ ∀ i, ¬ i = 22 → ¬ i = 23 → ¬ i = 26 → ¬ i = 27 → ¬ i = 28 → ¬ i = 29 → e 75 i = c 75 i
/-- a stack in row 102 -/
def SR (c : Nat → Int → Int) (S : List Int) : Prop := SK (c 102) S ∧ c 75 29 = S.length
/-- what reading behind a fault leaves as it was -/
def MFQ (c e : Nat → Int → Int) : Prop := (∀ a, ¬ a = 75 → e a = c a) ∧ ∀ i, ¬ i = 22 → ¬ i = 28 → e 75 i = c 75 i
section TESTM
variable {L : Nat} {sh : Nat → SH} {c : Nat → Int → Int} {n : Nat} {Q : Option AV → List SC → Nat → Prop} {g : Int → Int} {N p m s z f p' m' F W : Int} {T T' : List Tk} {O O' S : List Int}
theorem MTQ.refl {Z : Int} : MTQ c c Z := ⟨fun _ _ _ _ _ => rfl, fun _ _ => ⟨rfl, rfl⟩, fun _ _ _ _ _ _ _ => rfl⟩
theorem MTQ.trans {d e : Nat → Int → Int} {Z Z' : Int} (h : MTQ c d Z) (k : MTQ d e Z') (hZ : Z ≤ Z') : MTQ c e Z := ⟨fun a a1 a2 a3 a4 => (k.1 a a1 a2 a3 a4).trans (h.1 a a1 a2 a3 a4), fun i i1 => ⟨((k.2.1 i (by omega)).1).trans (h.2.1 i i1).1, ((k.2.1 i (by omega)).2).trans (h.2.1 i i1).2⟩, fun i i1 i2 i3 i4 i5 i6 => (k.2.2 i i1 i2 i3 i4 i5 i6).trans (h.2.2 i i1 i2 i3 i4 i5 i6)⟩
theorem MLQ.t {e : Nat → Int → Int} {Z : Int} (h : MLQ c e Z) : MTQ c e Z := ⟨fun a a1 a2 a3 _ => h.1 a a1 a2 a3, h.2.1, fun i i1 i2 i3 _ i5 _ => h.2.2 i i1 i2 i3 i5⟩
theorem MFQ.t {e : Nat → Int → Int} {Z : Int} (h : MFQ c e) : MTQ c e Z := ⟨fun a a1 _ _ _ => h.1 a a1, fun i _ => ⟨by rw [h.1 96 (by omega)], by rw [h.1 97 (by omega)]⟩, fun i i1 _ _ _ i5 _ => h.2 i i1 i5⟩
theorem MFQ.trans {d e : Nat → Int → Int} (h : MFQ c d) (k : MFQ d e) : MFQ c e := ⟨fun a a1 => (k.1 a a1).trans (h.1 a a1), fun i i1 i2 => (k.2 i i1 i2).trans (h.2 i i1 i2)⟩
theorem MLQ.sr {e : Nat → Int → Int} {Z : Int} (h : MLQ c e Z) (hS : SR c S) : SR e S ∧ e 75 27 = c 75 27 := ⟨⟨by rw [h.1 102 (by omega) (by omega) (by omega)]; exact hS.1, by rw [h.2.2 29 (by omega) (by omega) (by omega) (by omega)]; exact hS.2⟩, h.2.2 27 (by omega) (by omega) (by omega) (by omega)⟩
theorem STRS.mt (hST : STRS sh c) {d : Nat → Int → Int} {Z : Int} (h : MTQ c d Z) : STRS sh d := fun a ha => ⟨(hST a ha).1, by rw [h.1 a (by omega) (by omega) (by omega) (by omega)]; exact (hST a ha).2⟩
theorem m202 (hS : MS L sh) (hR : SR c S) (hl : S.length ≤ 400) : tc_C 202 [rf 75] (hp L sh c) n Q = Q (some (.inl (S.headD (-1)))) (hp L sh c) n := tc_det fun Q hq => by
  show tc_W 202 0 [rf 75] [] _ _ Q
  cases S with
  | nil =>
    have h29 : c 75 29 = 0 := hR.2
    repeat' (first | (simp (disch := first | omega | exact Nat.le_of_ble_eq_true rfl | exact rfl | assumption | (simp only [fr_at, Nat.reduceEqDiff, if_false, if_true, reduceIte]; first | assumption | omega)) only [r202_0, r202_1, r202_7, r202_8, r202_11, r202_12, r202_15, r202_16, r202_19, r202_20, r202_21, r202_22, g11_241_11, g11_93_11, mo_len, ms75 hS, mt75 hS, mo_g29, mo_g38, ms102 hS, mt102 hS, il_s, bl_s, bl_z, ll_s, is_s, bs_s, bs_z, ls_s, al_s, al_b, al_l, fr_at, fr_fr, Nat.reduceEqDiff, tc_gf3_s, tc_ql2_s, tc_ws_0, tc_ws_i, tc_ws_l, tc_ws_r, Nat.reduceLeDiff, Nat.reduceAdd, Nat.reduceLT, true_and, and_true, if_true, if_false, tc_K, Option.toList_some, Option.toList_none, List.nil_append, List.cons_append, ite_true, ite_false, Int.cast_ofNat_Int, reduceIte, i3_add_eq, i3_sub_eq, Int.add_sub_cancel, Int.add_neg_cancel_right, h29]) | (simp only [r202_4, i6_lt0, i6_0lt, i6_0le, i6_le0, i6_eq0, b10_0, ite_not, Int.reduceLT, Int.reduceLE, Int.reduceEq, Int.reduceNeg, if_true, if_false, ite_true, ite_false, reduceIte, eq_self, not_true, not_false_eq_true]; try refine tc_ite (fun _ => ?_) (fun _ => ?_) <;> try (exfalso; omega)))
    all_goals first
      | exact hq
      | omega
  | cons a r =>
    have h29 : c 75 29 = (r.length : Int) + 1 := by
      rw [hR.2]
      show ((r.length + 1 : Nat) : Int) = _
      omega
    have h1 : c 102 (r.length : Int) = a := hR.1.1
    have hl2 : (a :: r).length = r.length + 1 := rfl
    generalize hM : ((r.length : Nat) : Int) = M at h29 h1
    have hM0 : 0 ≤ M ∧ M < 400 := by omega
    have hq : Q (some (.inl a)) (hp L sh c) n := hq
    repeat' (first | (simp (disch := first | omega | exact Nat.le_of_ble_eq_true rfl | exact rfl | assumption | (simp only [fr_at, Nat.reduceEqDiff, if_false, if_true, reduceIte]; first | assumption | omega)) only [r202_0, r202_1, r202_7, r202_8, r202_11, r202_12, r202_15, r202_16, r202_19, r202_20, r202_21, r202_22, g11_241_11, g11_93_11, mo_len, ms75 hS, mt75 hS, mo_g29, mo_g38, ms102 hS, mt102 hS, il_s, bl_s, bl_z, ll_s, is_s, bs_s, bs_z, ls_s, al_s, al_b, al_l, fr_at, fr_fr, Nat.reduceEqDiff, tc_gf3_s, tc_ql2_s, tc_ws_0, tc_ws_i, tc_ws_l, tc_ws_r, Nat.reduceLeDiff, Nat.reduceAdd, Nat.reduceLT, true_and, and_true, if_true, if_false, tc_K, Option.toList_some, Option.toList_none, List.nil_append, List.cons_append, ite_true, ite_false, Int.cast_ofNat_Int, reduceIte, i3_add_eq, i3_sub_eq, Int.add_sub_cancel, Int.add_neg_cancel_right, h29, h1]) | (simp only [r202_4, i6_lt0, i6_0lt, i6_0le, i6_le0, i6_eq0, b10_0, ite_not, Int.reduceLT, Int.reduceLE, Int.reduceEq, Int.reduceNeg, if_true, if_false, ite_true, ite_false, reduceIte, eq_self, not_true, not_false_eq_true]; try refine tc_ite (fun _ => ?_) (fun _ => ?_) <;> try (exfalso; omega)))
    all_goals first
      | exact hq
      | omega
/-- a sign is put on the stack -/
theorem m199 (hS : MS L sh) (hR : SR c S) (hl : S.length ≤ 400) {k D : Int} (hD : c 75 27 = D) (hD0 : 0 ≤ D ∧ D ≤ 20) (h22 : c 75 22 = p) (hp0 : 0 ≤ p ∧ p ≤ 1000) (h23 : c 75 23 = 0) {b : Int} (hb : b = if k = 9 ∨ k = 12 then 1 else 0) : ∃ e, (∀ n Q, tc_C 199 [rf 75, .inl k] (hp L sh c) n Q = Q none (hp L sh e) n) ∧ SR e (k :: S) ∧ e 75 27 = D + b ∧ e 75 23 = (if b = 1 ∧ D = 10 then 1 + 8 * p + 2 else 0) ∧ (∀ a, ¬ a = 75 → ¬ a = 102 → e a = c a) ∧ (∀ i, ¬ i = 23 → ¬ i = 27 → ¬ i = 29 → e 75 i = c 75 i) := by
  have h29 := hR.2
  generalize hM : ((S.length : Nat) : Int) = M at h29
  have hM0 : 0 ≤ M ∧ M ≤ 400 := by omega
  have h175 := fun n Q => c175 (c := c) (n := n) (Q := Q) (k := 2) (p := p) hS (by omega) (by omega)
  rw [if_pos h23] at h175
  have hSR : ∀ F : Int → Int, F 29 = M + 1 → SR (fr (fr c 102 (fu (c 102) M k)) 75 F) (k :: S) := fun F h9 => by
    refine ⟨?_, ?_⟩
    · rw [fr_ne (by omega), fr_same]
      exact ⟨by rw [hM, fu_same], SK_ex S (fun j j1 j2 => fu_ne (by omega)) hR.1⟩
    · rw [fr_same, h9]
      show M + 1 = ((S.length + 1 : Nat) : Int)
      omega
  by_cases hk : k = 9 ∨ k = 12
  · rw [if_pos hk] at hb
    subst hb
    by_cases h10 : D = 10
    · refine ⟨fr (fr c 102 (fu (c 102) M k)) 75 (fu (fu (fu (c 75) 23 (1 + 8 * p + 2)) 27 (D + 1)) 29 (M + 1)), fun n Q => tc_det (fun Q hq => ?_), hSR _ (fu_same _ _ _), ?_, ?_, fun a a1 a2 => by rw [fr_ne a1, fr_ne a2], fun i i1 i2 i3 => by rw [fr_same, fu_ne i3, fu_ne i2, fu_ne i1]⟩
      · have hcm : fr (fr c 75 (fu (fu (c 75) 23 (1 + 8 * p + 2)) 27 (D + 1))) 102 (fu (c 102) M k) = fr (fr c 102 (fu (c 102) M k)) 75 (fu (fu (c 75) 23 (1 + 8 * p + 2)) 27 (D + 1)) := fr_cm (by omega)
        show tc_W 199 0 [rf 75, .inl k] [] _ _ Q
        rcases hk with rfl | rfl
        · repeat' (first | (simp (disch := first | omega | exact Nat.le_of_ble_eq_true rfl | exact rfl | assumption | (simp (disch := omega) only [fr_ne, fr_same]; first | assumption | omega)) only [r199_0, r199_1, r199_6, r199_7, r199_12, r199_13, r199_16, r199_21, r199_22, r199_23, r199_24, r199_27, v199_27_11, r199_30, r199_31, r199_31A, r199_32, r199_35, r199_36, r199_37, r199_40, r199_41, r199_44, r199_45, r199_48, r199_49, r199_50, r199_51, r199_51A, r199_52, r199_55, r199_56, r199_57, r199_60, g11_244_11, g11_174_11, p11_244_11, g11_93_11, g11_241_11, p11_241_11, mo_len, ms75 hS, mt75 hS, mo_g27, mo_g22, mo_s27, mo_g38, ms102 hS, mt102 hS, mo_g29, mo_s29, il_s, bl_s, bl_z, ll_s, is_s, bs_s, bs_z, ls_s, al_s, al_b, al_l, fr_ne, fr_same, fr_fr, Nat.reduceEqDiff, tc_gf3_s, tc_ql2_s, tc_ws_0, tc_ws_i, tc_ws_l, tc_ws_r, Nat.reduceLeDiff, Nat.reduceAdd, Nat.reduceLT, true_and, and_true, if_true, if_false, tc_K, Option.toList_some, Option.toList_none, List.nil_append, List.cons_append, ite_true, ite_false, Int.cast_ofNat_Int, reduceIte, i3_add_eq, i3_sub_eq, Int.add_sub_cancel, Int.add_neg_cancel_right, ms75 hS, mt75 hS, ms102 hS, mt102 hS, h22, hD, h29, h175, fu_ne, fu_same, hcm]) | (simp only [r199_3, r199_9, r199_18, i6_lt0, i6_0lt, i6_0le, i6_le0, i6_eq0, b10_0, ite_not, Int.reduceLT, Int.reduceLE, Int.reduceEq, Int.reduceNeg, if_true, if_false, ite_true, ite_false, reduceIte, eq_self, not_true, not_false_eq_true]; try refine tc_ite (fun _ => ?_) (fun _ => ?_) <;> try (exfalso; omega)))
          all_goals first
            | exact hq
            | omega
        · repeat' (first | (simp (disch := first | omega | exact Nat.le_of_ble_eq_true rfl | exact rfl | assumption | (simp (disch := omega) only [fr_ne, fr_same]; first | assumption | omega)) only [r199_0, r199_1, r199_6, r199_7, r199_12, r199_13, r199_16, r199_21, r199_22, r199_23, r199_24, r199_27, v199_27_11, r199_30, r199_31, r199_31A, r199_32, r199_35, r199_36, r199_37, r199_40, r199_41, r199_44, r199_45, r199_48, r199_49, r199_50, r199_51, r199_51A, r199_52, r199_55, r199_56, r199_57, r199_60, g11_244_11, g11_174_11, p11_244_11, g11_93_11, g11_241_11, p11_241_11, mo_len, ms75 hS, mt75 hS, mo_g27, mo_g22, mo_s27, mo_g38, ms102 hS, mt102 hS, mo_g29, mo_s29, il_s, bl_s, bl_z, ll_s, is_s, bs_s, bs_z, ls_s, al_s, al_b, al_l, fr_ne, fr_same, fr_fr, Nat.reduceEqDiff, tc_gf3_s, tc_ql2_s, tc_ws_0, tc_ws_i, tc_ws_l, tc_ws_r, Nat.reduceLeDiff, Nat.reduceAdd, Nat.reduceLT, true_and, and_true, if_true, if_false, tc_K, Option.toList_some, Option.toList_none, List.nil_append, List.cons_append, ite_true, ite_false, Int.cast_ofNat_Int, reduceIte, i3_add_eq, i3_sub_eq, Int.add_sub_cancel, Int.add_neg_cancel_right, ms75 hS, mt75 hS, ms102 hS, mt102 hS, h22, hD, h29, h175, fu_ne, fu_same, hcm]) | (simp only [r199_3, r199_9, r199_18, i6_lt0, i6_0lt, i6_0le, i6_le0, i6_eq0, b10_0, ite_not, Int.reduceLT, Int.reduceLE, Int.reduceEq, Int.reduceNeg, if_true, if_false, ite_true, ite_false, reduceIte, eq_self, not_true, not_false_eq_true]; try refine tc_ite (fun _ => ?_) (fun _ => ?_) <;> try (exfalso; omega)))
          all_goals first
            | exact hq
            | omega
      · rw [fr_same, fu_ne (by omega), fu_same]
      · rw [fr_same, fu_ne (by omega), fu_ne (by omega), fu_same, if_pos ⟨rfl, h10⟩]
    · refine ⟨fr (fr c 102 (fu (c 102) M k)) 75 (fu (fu (c 75) 27 (D + 1)) 29 (M + 1)), fun n Q => tc_det (fun Q hq => ?_), hSR _ (fu_same _ _ _), ?_, ?_, fun a a1 a2 => by rw [fr_ne a1, fr_ne a2], fun i i1 i2 i3 => by rw [fr_same, fu_ne i3, fu_ne i2]⟩
      · have hcm : fr (fr c 75 (fu (c 75) 27 (D + 1))) 102 (fu (c 102) M k) = fr (fr c 102 (fu (c 102) M k)) 75 (fu (c 75) 27 (D + 1)) := fr_cm (by omega)
        show tc_W 199 0 [rf 75, .inl k] [] _ _ Q
        rcases hk with rfl | rfl
        · repeat' (first | (simp (disch := first | omega | exact Nat.le_of_ble_eq_true rfl | exact rfl | assumption | (simp (disch := omega) only [fr_ne, fr_same]; first | assumption | omega)) only [r199_0, r199_1, r199_6, r199_7, r199_12, r199_13, r199_16, r199_21, r199_22, r199_23, r199_24, r199_27, v199_27_11, r199_30, r199_31, r199_31A, r199_32, r199_35, r199_36, r199_37, r199_40, r199_41, r199_44, r199_45, r199_48, r199_49, r199_50, r199_51, r199_51A, r199_52, r199_55, r199_56, r199_57, r199_60, g11_244_11, g11_174_11, p11_244_11, g11_93_11, g11_241_11, p11_241_11, mo_len, ms75 hS, mt75 hS, mo_g27, mo_g22, mo_s27, mo_g38, ms102 hS, mt102 hS, mo_g29, mo_s29, il_s, bl_s, bl_z, ll_s, is_s, bs_s, bs_z, ls_s, al_s, al_b, al_l, fr_ne, fr_same, fr_fr, Nat.reduceEqDiff, tc_gf3_s, tc_ql2_s, tc_ws_0, tc_ws_i, tc_ws_l, tc_ws_r, Nat.reduceLeDiff, Nat.reduceAdd, Nat.reduceLT, true_and, and_true, if_true, if_false, tc_K, Option.toList_some, Option.toList_none, List.nil_append, List.cons_append, ite_true, ite_false, Int.cast_ofNat_Int, reduceIte, i3_add_eq, i3_sub_eq, Int.add_sub_cancel, Int.add_neg_cancel_right, ms75 hS, mt75 hS, ms102 hS, mt102 hS, hD, h29, fu_ne, fu_same, hcm]) | (simp only [r199_3, r199_9, r199_18, i6_lt0, i6_0lt, i6_0le, i6_le0, i6_eq0, b10_0, ite_not, Int.reduceLT, Int.reduceLE, Int.reduceEq, Int.reduceNeg, if_true, if_false, ite_true, ite_false, reduceIte, eq_self, not_true, not_false_eq_true]; try refine tc_ite (fun _ => ?_) (fun _ => ?_) <;> try (exfalso; omega)))
          all_goals first
            | exact hq
            | omega
        · repeat' (first | (simp (disch := first | omega | exact Nat.le_of_ble_eq_true rfl | exact rfl | assumption | (simp (disch := omega) only [fr_ne, fr_same]; first | assumption | omega)) only [r199_0, r199_1, r199_6, r199_7, r199_12, r199_13, r199_16, r199_21, r199_22, r199_23, r199_24, r199_27, v199_27_11, r199_30, r199_31, r199_31A, r199_32, r199_35, r199_36, r199_37, r199_40, r199_41, r199_44, r199_45, r199_48, r199_49, r199_50, r199_51, r199_51A, r199_52, r199_55, r199_56, r199_57, r199_60, g11_244_11, g11_174_11, p11_244_11, g11_93_11, g11_241_11, p11_241_11, mo_len, ms75 hS, mt75 hS, mo_g27, mo_g22, mo_s27, mo_g38, ms102 hS, mt102 hS, mo_g29, mo_s29, il_s, bl_s, bl_z, ll_s, is_s, bs_s, bs_z, ls_s, al_s, al_b, al_l, fr_ne, fr_same, fr_fr, Nat.reduceEqDiff, tc_gf3_s, tc_ql2_s, tc_ws_0, tc_ws_i, tc_ws_l, tc_ws_r, Nat.reduceLeDiff, Nat.reduceAdd, Nat.reduceLT, true_and, and_true, if_true, if_false, tc_K, Option.toList_some, Option.toList_none, List.nil_append, List.cons_append, ite_true, ite_false, Int.cast_ofNat_Int, reduceIte, i3_add_eq, i3_sub_eq, Int.add_sub_cancel, Int.add_neg_cancel_right, ms75 hS, mt75 hS, ms102 hS, mt102 hS, hD, h29, fu_ne, fu_same, hcm]) | (simp only [r199_3, r199_9, r199_18, i6_lt0, i6_0lt, i6_0le, i6_le0, i6_eq0, b10_0, ite_not, Int.reduceLT, Int.reduceLE, Int.reduceEq, Int.reduceNeg, if_true, if_false, ite_true, ite_false, reduceIte, eq_self, not_true, not_false_eq_true]; try refine tc_ite (fun _ => ?_) (fun _ => ?_) <;> try (exfalso; omega)))
          all_goals first
            | exact hq
            | omega
      · rw [fr_same, fu_ne (by omega), fu_same]
      · rw [fr_same, fu_ne (by omega), fu_ne (by omega), h23, if_neg (fun x => h10 x.2)]
  · rw [if_neg hk] at hb
    subst hb
    refine ⟨fr (fr c 102 (fu (c 102) M k)) 75 (fu (c 75) 29 (M + 1)), fun n Q => tc_det (fun Q hq => ?_), hSR _ (fu_same _ _ _), ?_, ?_, fun a a1 a2 => by rw [fr_ne a1, fr_ne a2], fun i i1 i2 i3 => by rw [fr_same, fu_ne i3]⟩
    · show tc_W 199 0 [rf 75, .inl k] [] _ _ Q
      repeat' (first | (simp (disch := first | omega | exact Nat.le_of_ble_eq_true rfl | exact rfl | assumption | (simp (disch := omega) only [fr_ne, fr_same]; first | assumption | omega)) only [r199_0, r199_1, r199_6, r199_7, r199_12, r199_13, r199_16, r199_21, r199_22, r199_23, r199_24, r199_27, v199_27_11, r199_30, r199_31, r199_31A, r199_32, r199_35, r199_36, r199_37, r199_40, r199_41, r199_44, r199_45, r199_48, r199_49, r199_50, r199_51, r199_51A, r199_52, r199_55, r199_56, r199_57, r199_60, g11_244_11, g11_174_11, p11_244_11, g11_93_11, g11_241_11, p11_241_11, mo_len, ms75 hS, mt75 hS, mo_g27, mo_g22, mo_s27, mo_g38, ms102 hS, mt102 hS, mo_g29, mo_s29, il_s, bl_s, bl_z, ll_s, is_s, bs_s, bs_z, ls_s, al_s, al_b, al_l, fr_ne, fr_same, fr_fr, Nat.reduceEqDiff, tc_gf3_s, tc_ql2_s, tc_ws_0, tc_ws_i, tc_ws_l, tc_ws_r, Nat.reduceLeDiff, Nat.reduceAdd, Nat.reduceLT, true_and, and_true, if_true, if_false, tc_K, Option.toList_some, Option.toList_none, List.nil_append, List.cons_append, ite_true, ite_false, Int.cast_ofNat_Int, reduceIte, i3_add_eq, i3_sub_eq, Int.add_sub_cancel, Int.add_neg_cancel_right, ms75 hS, mt75 hS, ms102 hS, mt102 hS, h29]) | (simp only [r199_3, r199_9, r199_18, i6_lt0, i6_0lt, i6_0le, i6_le0, i6_eq0, b10_0, ite_not, Int.reduceLT, Int.reduceLE, Int.reduceEq, Int.reduceNeg, if_true, if_false, ite_true, ite_false, reduceIte, eq_self, not_true, not_false_eq_true]; try refine tc_ite (fun _ => ?_) (fun _ => ?_) <;> try (exfalso; omega)))
      all_goals first
        | exact hq
        | omega
    · rw [fr_same, fu_ne (by omega), hD]
      omega
    · rw [fr_same, fu_ne (by omega), h23, if_neg (fun x => by omega)]
/-- signs are answered -/
theorem m201_l (hS : MS L sh) {k : Int} (hk : k = 9 ∨ k = 10 ∨ k = 11) (hs : 0 ≤ s ∧ s ≤ 5) (hz0 : 0 ≤ z) {Z : Int} {R : List Int} (hR : ¬ R.headD (-1) = k) : ∀ (j : Nat) (T : List Tk) (d : Nat → Int → Int) (D : Int), ME d g N p m s z T → d 75 23 = 0 → SR d (List.replicate j k ++ R) → (List.replicate j k ++ R).length ≤ 400 → d 75 27 = D → (j : Int) - 1000 ≤ D → D ≤ 20 → MTQ c d Z → Z ≤ 300 * s + (z + T.length) → z + T.length + j < 300 → (∀ e, MTQ c e Z → ME e g N p m s z (T ++ List.replicate j (k, 0)) → e 75 23 = 0 → SR e R → e 75 27 = D - (if k = 9 then (j : Int) else 0) → Q none (hp L sh e) n) → tc_W 201 0 [rf 75, .inl k] [] (hp L sh d) n Q := by
  intro j
  induction j with
  | zero =>
    intro T d D hE h23 hSR hl hD hD0 hD2 hM hZ hz hq
    have hSR : SR d R := hSR
    have h202 := fun n Q => m202 (c := d) (n := n) (Q := Q) hS hSR hl
    have hq' := hq d hM (by rw [List.replicate_zero, List.append_nil]; exact hE) h23 hSR (by
      rw [hD]
      split <;> omega)
    generalize R.headD (-1) = t at hR h202
    simp only [r201_0]
    repeat' (first | (simp (disch := first | omega | exact Nat.le_of_ble_eq_true rfl | exact rfl | assumption | (simp only [fr_at, Nat.reduceEqDiff, if_false, if_true, reduceIte]; first | assumption | omega)) only [r201_1, v201_1_11, r201_4, r201_8, r201_9, r201_15, r201_16, r201_17, r201_18, v201_18_11, r201_21, r201_22, r201_22A, r201_23, r201_26, r201_27, r201_28, r201_31, r201_32, r201_32A, r201_33, r201_36, r201_37, r201_42, r201_43, r201_46, r201_47, r201_48, r201_51, r201_54, g11_171_11, g11_241_11, p11_241_11, g11_244_11, p11_244_11, mo_len, ms75 hS, mt75 hS, mo_g23, mo_g29, mo_s29, mo_g27, mo_s27, il_s, bl_s, bl_z, ll_s, is_s, bs_s, bs_z, ls_s, al_s, al_b, al_l, fr_at, fr_fr, Nat.reduceEqDiff, tc_gf3_s, tc_ql2_s, tc_ws_0, tc_ws_i, tc_ws_l, tc_ws_r, Nat.reduceLeDiff, Nat.reduceAdd, Nat.reduceLT, true_and, and_true, if_true, if_false, tc_K, Option.toList_some, Option.toList_none, List.nil_append, List.cons_append, ite_true, ite_false, Int.cast_ofNat_Int, reduceIte, i3_add_eq, i3_sub_eq, Int.add_sub_cancel, Int.add_neg_cancel_right, h202]) | (simp only [r201_5, r201_12, r201_39, i6_lt0, i6_0lt, i6_0le, i6_le0, i6_eq0, b10_0, ite_not, Int.reduceLT, Int.reduceLE, Int.reduceEq, Int.reduceNeg, if_true, if_false, ite_true, ite_false, reduceIte, eq_self, not_true, not_false_eq_true]; try refine tc_ite (fun _ => ?_) (fun _ => ?_) <;> try (exfalso; omega)))
    all_goals first
      | exact hq'
      | omega
  | succ j ih =>
    intro T d D hE h23 hSR hl hD hD0 hD2 hM hZ hz hq
    have hrep : List.replicate (j + 1) k ++ R = k :: (List.replicate j k ++ R) := by rw [List.replicate_succ]; rfl
    rw [hrep] at hSR hl
    have h202 := fun n Q => m202 (c := d) (n := n) (Q := Q) hS hSR hl
    have hhd : (k :: (List.replicate j k ++ R)).headD (-1) = k := rfl
    rw [hhd] at h202
    have hl2 : (k :: (List.replicate j k ++ R)).length = (List.replicate j k ++ R).length + 1 := rfl
    have h29 := hSR.2
    rw [hl2] at h29
    have hpu := (hE.md h23).push (k := k) (v := 0) hz0
    have h194 := fun n Q => m194 (c := d) (n := n) (Q := Q) (k := k) (v := 0) hS h23 hE.2.2.2.1 hE.2.2.2.2.1 hs (by omega)
    generalize he1 : fr (fr (fr d 96 (fu (d 96) (300 * s + (z + T.length)) k)) 97 (fu (d 97) (300 * s + (z + T.length)) 0)) 75 (fu (d 75) 26 (z + T.length + 1)) = e1 at h194 hpu
    have x75 : ∀ i, ¬ i = 26 → e1 75 i = d 75 i := fun i hi => by rw [← he1, fr_same, fu_ne hi]
    have x102 : e1 102 = d 102 := by rw [← he1, fr_ne (by omega), fr_ne (by omega), fr_ne (by omega)]
    have y29 : e1 75 29 = (((List.replicate j k ++ R).length : Nat) : Int) + 1 := by
      rw [x75 29 (by omega), h29]
      omega
    have y27 : e1 75 27 = D := by rw [x75 27 (by omega)]; exact hD
    have hlen := len_app (t := (k, 0)) (T := T)
    generalize hM1 : (((List.replicate j k ++ R).length : Nat) : Int) = M1 at y29
    have hM0 : 0 ≤ M1 ∧ M1 < 400 := by omega
    have hE1 : ME e1 g N p m s z (T ++ [(k, 0)]) := hpu.1.me (by rw [x75 30 (by omega)]; exact hE.2.2.2.2.2.2.1)
    have go : ∀ D2, D2 = D - (if k = 9 then 1 else 0) → tc_W 201 0 [rf 75, .inl k] [] (hp L sh (fr e1 75 (fu (fu (e1 75) 29 M1) 27 D2))) n Q := fun D2 hD2' => by
      obtain ⟨h1, h2, h3, h4, h5, h6, h7, h8⟩ := hE1
      refine ih (T ++ [(k, 0)]) _ D2 ⟨h1, ?_, ?_, ?_, ?_, ?_, ?_, h8⟩ ?_ ⟨?_, ?_⟩ (by omega) (by rw [fr_same, fu_same]) (by rw [hD2']; split <;> omega) (by rw [hD2']; split <;> omega) ((hM.trans hpu.2.t hZ).trans ⟨fun a a1 _ _ _ => fr_ne a1, fun i _ => ⟨rfl, rfl⟩, fun i i1 i2 i3 i4 i5 i6 => by rw [fr_same, fu_ne i4, fu_ne i6]⟩ (Int.le_refl _)) (by omega) (by omega) ?_
      · rw [fr_same, fu_ne (by omega), fu_ne (by omega)]; exact h2
      · rw [fr_same, fu_ne (by omega), fu_ne (by omega)]; exact h3
      · rw [fr_same, fu_ne (by omega), fu_ne (by omega)]; exact h4
      · rw [fr_same, fu_ne (by omega), fu_ne (by omega)]; exact h5
      · rw [fr_same, fu_ne (by omega), fu_ne (by omega)]; exact h6
      · rw [fr_same, fu_ne (by omega), fu_ne (by omega)]; exact h7
      · rw [fr_same, fu_ne (by omega), fu_ne (by omega), x75 23 (by omega)]; exact h23
      · rw [fr_ne (by omega), x102]; exact hSR.1.2
      · rw [fr_same, fu_ne (by omega), fu_same]; omega
      · intro e2 k1 k2 k3 k4 k5
        refine hq e2 k1 ?_ k3 k4 ?_
        · rw [List.replicate_succ, show T ++ (k, 0) :: List.replicate j (k, 0) = T ++ [(k, 0)] ++ List.replicate j (k, 0) by rw [List.append_assoc]; rfl]
          exact k2
        · rw [k5, hD2']
          by_cases h9 : k = 9
          · rw [if_pos h9, if_pos h9, if_pos h9]
            omega
          · rw [if_neg h9, if_neg h9, if_neg h9]
            omega
    simp only [r201_0]
    by_cases h9 : k = 9
    · have hg := go (D - 1) (by rw [if_pos h9])
      repeat' (first | (simp (disch := first | omega | exact Nat.le_of_ble_eq_true rfl | exact rfl | assumption | (simp (disch := omega) only [fr_ne, fr_same]; first | assumption | omega)) only [r201_1, v201_1_11, r201_4, r201_8, r201_9, r201_15, r201_16, r201_17, r201_18, v201_18_11, r201_21, r201_22, r201_22A, r201_23, r201_26, r201_27, r201_28, r201_31, r201_32, r201_32A, r201_33, r201_36, r201_37, r201_42, r201_43, r201_46, r201_47, r201_48, r201_51, r201_54, g11_171_11, g11_241_11, p11_241_11, g11_244_11, p11_244_11, mo_len, ms75 hS, mt75 hS, mo_g23, mo_g29, mo_s29, mo_g27, mo_s27, il_s, bl_s, bl_z, ll_s, is_s, bs_s, bs_z, ls_s, al_s, al_b, al_l, fr_ne, fr_same, fr_fr, Nat.reduceEqDiff, tc_gf3_s, tc_ql2_s, tc_ws_0, tc_ws_i, tc_ws_l, tc_ws_r, Nat.reduceLeDiff, Nat.reduceAdd, Nat.reduceLT, true_and, and_true, if_true, if_false, tc_K, Option.toList_some, Option.toList_none, List.nil_append, List.cons_append, ite_true, ite_false, Int.cast_ofNat_Int, reduceIte, i3_add_eq, i3_sub_eq, Int.add_sub_cancel, Int.add_neg_cancel_right, ms75 hS, mt75 hS, h202, h23, h194, y29, y27, fu_ne, fu_same]) | (simp only [r201_5, r201_12, r201_39, i6_lt0, i6_0lt, i6_0le, i6_le0, i6_eq0, b10_0, ite_not, Int.reduceLT, Int.reduceLE, Int.reduceEq, Int.reduceNeg, if_true, if_false, ite_true, ite_false, reduceIte, eq_self, not_true, not_false_eq_true]; try refine tc_ite (fun _ => ?_) (fun _ => ?_) <;> try (exfalso; omega)))
      all_goals first
        | exact hg
        | omega
    · have hg := go (D - 0) (by rw [if_neg h9])
      rw [Int.sub_zero] at hg
      repeat' (first | (simp (disch := first | omega | exact Nat.le_of_ble_eq_true rfl | exact rfl | assumption | (simp (disch := omega) only [fr_ne, fr_same]; first | assumption | omega)) only [r201_1, v201_1_11, r201_4, r201_8, r201_9, r201_15, r201_16, r201_17, r201_18, v201_18_11, r201_21, r201_22, r201_22A, r201_23, r201_26, r201_27, r201_28, r201_31, r201_32, r201_32A, r201_33, r201_36, r201_37, r201_42, r201_43, r201_46, r201_47, r201_48, r201_51, r201_54, g11_171_11, g11_241_11, p11_241_11, g11_244_11, p11_244_11, mo_len, ms75 hS, mt75 hS, mo_g23, mo_g29, mo_s29, mo_g27, mo_s27, il_s, bl_s, bl_z, ll_s, is_s, bs_s, bs_z, ls_s, al_s, al_b, al_l, fr_ne, fr_same, fr_fr, Nat.reduceEqDiff, tc_gf3_s, tc_ql2_s, tc_ws_0, tc_ws_i, tc_ws_l, tc_ws_r, Nat.reduceLeDiff, Nat.reduceAdd, Nat.reduceLT, true_and, and_true, if_true, if_false, tc_K, Option.toList_some, Option.toList_none, List.nil_append, List.cons_append, ite_true, ite_false, Int.cast_ofNat_Int, reduceIte, i3_add_eq, i3_sub_eq, Int.add_sub_cancel, Int.add_neg_cancel_right, ms75 hS, mt75 hS, h202, h23, h194, y29, y27, fu_ne, fu_same, Int.sub_zero]) | (simp only [r201_5, r201_12, r201_39, i6_lt0, i6_0lt, i6_0le, i6_le0, i6_eq0, b10_0, ite_not, Int.reduceLT, Int.reduceLE, Int.reduceEq, Int.reduceNeg, if_true, if_false, ite_true, ite_false, reduceIte, eq_self, not_true, not_false_eq_true]; try refine tc_ite (fun _ => ?_) (fun _ => ?_) <;> try (exfalso; omega)))
      all_goals first
        | exact hg
        | omega
/-- behind a fault: a value -/
theorem m192f (hS : MS L sh) (hST : STRS sh c) (hTP : TP g N) (h95 : c 95 = g) (h21 : c 75 21 = N) (h22 : c 75 22 = p) (hp0 : 0 ≤ p ∧ p ≤ N) (h23 : c 75 23 = F) (hF : ¬ F = 0) (h28 : c 75 28 = m) (hm : 0 ≤ m ∧ m ≤ 90) (h30 : c 75 30 = 9)
    (hq : ∀ e, MFQ c e → RN e N (m + 1) → Q none (hp L sh e) n) : tc_C 192 [rf 75] (hp L sh c) n Q := by
  have hN := hTP.1
  have hL := hS.1
  have hsr := nm_rng (g := g) hp0
  have h171 := fun Q => c171q (c := c) (n := n) (Q := Q) (N := N) (p := p) hS (by rw [h95]; exact hTP) h21 h22 (by omega)
  rw [h95] at h171
  generalize hq0 : sk g N p = q at hsr h171
  generalize hc1 : fr c 75 (fu (c 75) 22 q) = c1 at h171
  have x75 : ∀ i, c1 75 i = fu (c 75) 22 q i := fun i => by rw [← hc1, fr_same]
  have xo : ∀ a, ¬ a = 75 → c1 a = c a := fun a ha => by rw [← hc1, fr_ne ha]
  have a95 : c1 95 = g := by rw [xo 95 (by omega)]; exact h95
  have a21 : c1 75 21 = N := by rw [x75, fu_ne (by omega)]; exact h21
  have a22 : c1 75 22 = q := by rw [x75, fu_same]
  have a23 : c1 75 23 = F := by rw [x75, fu_ne (by omega)]; exact h23
  have a28 : c1 75 28 = m := by rw [x75, fu_ne (by omega)]; exact h28
  have a30 : c1 75 30 = 9 := by rw [x75, fu_ne (by omega)]; exact h30
  -- a row 75 that differs at the place and at the count only
  have fin : ∀ (R : Int → Int), (∀ i, ¬ i = 22 → ¬ i = 28 → R i = c 75 i) → (0 ≤ R 22 ∧ R 22 ≤ N) → (0 ≤ R 28 ∧ R 28 ≤ m + 1) → Q none (hp L sh (fr c1 75 R)) n := fun R r1 r2 r3 => hq _ ⟨fun a ha => by rw [fr_ne ha, xo a ha], fun i i1 i2 => by rw [fr_same]; exact r1 i i1 i2⟩ ⟨by rw [fr_same]; exact r2, by rw [fr_same]; exact r3⟩
  -- a part counted behind a fault
  have cnt : ∀ (R : Int → Int), R 23 = F → R 28 = m → ∀ n Q, tc_C 193 [rf 75, .inl q] (hp L sh (fr c1 75 R)) n Q = Q none (hp L sh (fr c1 75 (fu R 28 (m + 1)))) n := fun R r1 r2 n Q => by
    rw [m193 (m := m) hS (by omega) (by rw [fr_same]; exact r2) (by omega)]
    by_cases h60 : m = 60
    · rw [if_pos h60, fr_same, r1, if_neg hF, fr_fr, show fu R 23 F = R by rw [← r1, fu_id]]
    · rw [if_neg h60, fr_same, fr_fr]
  have h180 := fun Q => c180 (c := c1) (n := n) (Q := Q) (N := N) (p := q) hS (by rw [a95]; exact hTP) a21 a22 (by omega)
  rw [a95] at h180
  show tc_W 192 0 [rf 75, tc_nil, tc_nil] [] _ _ Q
  by_cases hdg : isdg g N q = 1
  · have hdr := dgt_1 hdg
    have h179 := fun Q => c179 (c := c1) (n := n) (Q := Q) (N := N) (p := q) (most := 99999) hS (by rw [a95]; exact hTP) a21 a22 (by omega)
    rw [a95, a23, fl_n hF] at h179
    generalize hp2 : (dgt g N q).1 = p2 at h179 hdr
    have h193 := cnt (fu (fu (c1 75) 22 p2) 23 F) (by rw [fu_same]) (by rw [fu_ne (by omega), fu_ne (by omega)]; exact a28)
    have h194 := fun k v Q => m194f (c := fr c1 75 (fu (fu (fu (c1 75) 22 p2) 23 F) 28 (m + 1))) (n := n) (Q := Q) (k := k) (v := v) (F := F) hS (by rw [fr_same, fu_ne (by omega), fu_same]) hF
    have hq' := fin (fu (fu (fu (c1 75) 22 p2) 23 F) 28 (m + 1)) (fun i i1 i2 => by
      rw [fu_ne i2]
      by_cases i3 : i = 23
      · rw [i3, fu_same, h23]
      · rw [fu_ne i3, fu_ne i1, x75, fu_ne i1]) (by rw [fu_ne (by omega), fu_ne (by omega), fu_same]; omega) (by rw [fu_same]; omega)
    repeat' (first | (simp (disch := first | omega | exact Nat.le_of_ble_eq_true rfl | exact rfl | assumption | (simp only [fr_at, Nat.reduceEqDiff, if_false, if_true, reduceIte]; first | assumption | omega)) only [r192_0, r192_1, v192_1_11, r192_4, r192_5, r192_8r, r192_9, r192_10, v192_10_11, r192_16, r192_17, r192_19, v192_19_11, r192_22i, r192_23, r192_24, r192_25, v192_25_11, r192_28, r192_29, r192_30, r192_31, v192_31_11, r192_34, r192_35, r192_36i, r192_38, r192_39, r192_45, r192_46, r192_47, r192_50, v192_50_11, r192_56i, r192_59, r192_62, r192_63, r192_64, r192_70, r192_71, r192_72, r192_73, v192_73_11, r192_76, r192_77, r192_78, r192_79, v192_79_11, r192_82, r192_83, r192_83A, r192_84, r192_87, r192_88, r192_91, r192_94, r192_95, r192_98, r192_99, r192_100, r192_101, v192_101_11, r192_104, g11_174_11, g11_67_11, p11_174_11, mo_len, ms75 hS, mt75 hS, mo_g22, mo_g30, mo_s22, il_s, bl_s, bl_z, ll_s, is_s, bs_s, bs_z, ls_s, al_s, al_b, al_l, fr_at, fr_fr, Nat.reduceEqDiff, tc_gf3_s, tc_ql2_s, tc_ws_0, tc_ws_i, tc_ws_l, tc_ws_r, Nat.reduceLeDiff, Nat.reduceAdd, Nat.reduceLT, true_and, and_true, if_true, if_false, tc_K, Option.toList_some, Option.toList_none, List.nil_append, List.cons_append, ite_true, ite_false, Int.cast_ofNat_Int, reduceIte, i3_add_eq, i3_sub_eq, Int.add_sub_cancel, Int.add_neg_cancel_right, h171, a22, h180, hdg, h179, h193, h194]) | (simp only [r192_13, r192_42, r192_53, r192_67, i6_lt0, i6_0lt, i6_0le, i6_le0, i6_eq0, b10_0, ite_not, Int.reduceLT, Int.reduceLE, Int.reduceEq, Int.reduceNeg, if_true, if_false, ite_true, ite_false, reduceIte, eq_self, not_true, not_false_eq_true]; try refine tc_ite (fun _ => ?_) (fun _ => ?_) <;> try (exfalso; omega)))
    all_goals first
      | exact hq'
      | omega
  · have hdg0 : isdg g N q = 0 := by
      rcases isdg_01 g N q with x | x
      · exact x
      · exact absurd x hdg
    have hST1 : ∀ a, a < 25 → sh a = (9, (tc_chs.getD a []).length, []) ∧ c1 a = chs a := fun a ha => ⟨(hST a ha).1, by rw [xo a (by omega)]; exact (hST a ha).2⟩
    have e1 : fr c1 75 (c1 75) = c1 := fr_id _ _
    have h193 := cnt (c1 75) a23 a28
    rw [e1] at h193
    repeat' (first | (simp (disch := first | omega | exact Nat.le_of_ble_eq_true rfl | exact rfl | assumption | (simp only [fr_at, Nat.reduceEqDiff, if_false, if_true, reduceIte]; first | assumption | omega)) only [r192_0, r192_1, v192_1_11, r192_4, r192_5, r192_8r, r192_9, r192_10, v192_10_11, r192_16, r192_17, r192_19, v192_19_11, r192_22i, r192_23, r192_24, r192_25, v192_25_11, r192_28, r192_29, r192_30, r192_31, v192_31_11, r192_34, r192_35, r192_36i, r192_38, r192_39, r192_45, r192_46, r192_47, r192_50, v192_50_11, r192_56i, r192_59, r192_62, r192_63, r192_64, r192_70, r192_71, r192_72, r192_73, v192_73_11, r192_76, r192_77, r192_78, r192_79, v192_79_11, r192_82, r192_83, r192_83A, r192_84, r192_87, r192_88, r192_91, r192_94, r192_95, r192_98, r192_99, r192_100, r192_101, v192_101_11, r192_104, g11_174_11, g11_67_11, p11_174_11, mo_len, ms75 hS, mt75 hS, mo_g22, mo_g30, mo_s22, il_s, bl_s, bl_z, ll_s, is_s, bs_s, bs_z, ls_s, al_s, al_b, al_l, fr_at, fr_fr, Nat.reduceEqDiff, tc_gf3_s, tc_ql2_s, tc_ws_0, tc_ws_i, tc_ws_l, tc_ws_r, Nat.reduceLeDiff, Nat.reduceAdd, Nat.reduceLT, true_and, and_true, if_true, if_false, tc_K, Option.toList_some, Option.toList_none, List.nil_append, List.cons_append, ite_true, ite_false, Int.cast_ofNat_Int, reduceIte, i3_add_eq, i3_sub_eq, Int.add_sub_cancel, Int.add_neg_cancel_right, h171, a22, h180, hdg0]) | (simp only [r192_13, r192_42, r192_53, r192_67, i6_lt0, i6_0lt, i6_0le, i6_le0, i6_eq0, b10_0, ite_not, Int.reduceLT, Int.reduceLE, Int.reduceEq, Int.reduceNeg, if_true, if_false, ite_true, ite_false, reduceIte, eq_self, not_true, not_false_eq_true]; try refine tc_ite (fun _ => ?_) (fun _ => ?_) <;> try (exfalso; omega)))
    all_goals try omega
    refine lq_1 (N := 9) (P := fun w (_ : Unit) => tc_W 192 37 [rf 75, .inl q, .inl w] [] (hp L sh c1) n Q) (I := fun w _ => True) ?_ ?_ 0 () (by omega) (by omega) trivial
    · intro w _ hw hw2 hI' ih
      have hwl := wcl_len (w := w) (by omega)
      have hst := hST1 (wcl w) hwl.1
      have h195 := fun (h : List SC) n Q => m195 (h := h) (n := n) (Q := Q) (w := w) (by omega)
      have hwl8 : wl9 w ≤ 8 := by
        unfold wl9
        repeat' split
        all_goals omega
      have hwl3 := wl9_pos w
      have hal : wcl w < L := by omega
      have hlw := hwl.2
      have h174 : ∀ n Q, tc_C 174 [rf 75, rf (wcl w)] (hp L sh c1) n Q = Q (some (.inl (stq g N q (chs (wcl w)) (tc_chs.getD (wcl w) []).length))) (hp L sh c1) n := fun n Q => by
        rw [c174 hS (by rw [a95]; exact hTP) a21 a22 (by omega) hal hst.1 (by omega), a95, hst.2]
      simp only [r192_37]
      by_cases h1 : stq g N q (chs (wcl w)) (tc_chs.getD (wcl w) []).length = 1
      · have hrn := stq_rn h1
        have hr2 := rn_rng (g := g) (n := N) (p := q)
        rw [h1] at h174
        have h194 := fun k v Q => m194f (c := fr c1 75 (fu (fu (c1 75) 28 (m + 1)) 22 (q + wl9 w))) (n := n) (Q := Q) (k := k) (v := v) (F := F) hS (by rw [fr_same, fu_ne (by omega), fu_ne (by omega)]; exact a23) hF
        have hq' := fin (fu (fu (c1 75) 28 (m + 1)) 22 (q + wl9 w)) (fun i i1 i2 => by rw [fu_ne i1, fu_ne i2, x75, fu_ne i1]) (by rw [fu_same]; omega) (by rw [fu_ne (by omega), fu_same]; omega)
        generalize hWL : wl9 w = WL at hlw h194 hq'
        repeat' (first | (simp (disch := first | omega | exact Nat.le_of_ble_eq_true rfl | exact rfl | assumption | (simp (disch := omega) only [fr_ne, fr_same]; first | assumption | omega)) only [r192_0, r192_1, v192_1_11, r192_4, r192_5, r192_8r, r192_9, r192_10, v192_10_11, r192_16, r192_17, r192_19, v192_19_11, r192_22i, r192_23, r192_24, r192_25, v192_25_11, r192_28, r192_29, r192_30, r192_31, v192_31_11, r192_34, r192_35, r192_36i, r192_38, r192_39, r192_45, r192_46, r192_47, r192_50, v192_50_11, r192_56i, r192_59, r192_62, r192_63, r192_64, r192_70, r192_71, r192_72, r192_73, v192_73_11, r192_76, r192_77, r192_78, r192_79, v192_79_11, r192_82, r192_83, r192_83A, r192_84, r192_87, r192_88, r192_91, r192_94, r192_95, r192_98, r192_99, r192_100, r192_101, v192_101_11, r192_104, g11_174_11, g11_67_11, p11_174_11, mo_len, ms75 hS, mt75 hS, mo_g22, mo_g30, mo_s22, il_s, bl_s, bl_z, ll_s, is_s, bs_s, bs_z, ls_s, al_s, al_b, al_l, fr_ne, fr_same, fr_fr, Nat.reduceEqDiff, tc_gf3_s, tc_ql2_s, tc_ws_0, tc_ws_i, tc_ws_l, tc_ws_r, Nat.reduceLeDiff, Nat.reduceAdd, Nat.reduceLT, true_and, and_true, if_true, if_false, tc_K, Option.toList_some, Option.toList_none, List.nil_append, List.cons_append, ite_true, ite_false, Int.cast_ofNat_Int, reduceIte, i3_add_eq, i3_sub_eq, Int.add_sub_cancel, Int.add_neg_cancel_right, ms75 hS, mt75 hS, a30, h195, h174, h193, hT hal hst.1, sL_s, hlw, fu_ne, a22, h194]) | (simp only [r192_13, r192_42, r192_53, r192_67, i6_lt0, i6_0lt, i6_0le, i6_le0, i6_eq0, b10_0, ite_not, Int.reduceLT, Int.reduceLE, Int.reduceEq, Int.reduceNeg, if_true, if_false, ite_true, ite_false, reduceIte, eq_self, not_true, not_false_eq_true]; try refine tc_ite (fun _ => ?_) (fun _ => ?_) <;> try (exfalso; omega)))
        all_goals first
          | exact hq'
          | omega
      · have h0 : stq g N q (chs (wcl w)) (tc_chs.getD (wcl w) []).length = 0 := by
          rcases stq_01 g N q (chs (wcl w)) (tc_chs.getD (wcl w) []).length with x | x
          · exact x
          · exact absurd x h1
        rw [h0] at h174
        repeat' (first | (simp (disch := first | omega | exact Nat.le_of_ble_eq_true rfl | exact rfl | assumption | (simp (disch := omega) only [fr_ne, fr_same]; first | assumption | omega)) only [r192_0, r192_1, v192_1_11, r192_4, r192_5, r192_8r, r192_9, r192_10, v192_10_11, r192_16, r192_17, r192_19, v192_19_11, r192_22i, r192_23, r192_24, r192_25, v192_25_11, r192_28, r192_29, r192_30, r192_31, v192_31_11, r192_34, r192_35, r192_36i, r192_38, r192_39, r192_45, r192_46, r192_47, r192_50, v192_50_11, r192_56i, r192_59, r192_62, r192_63, r192_64, r192_70, r192_71, r192_72, r192_73, v192_73_11, r192_76, r192_77, r192_78, r192_79, v192_79_11, r192_82, r192_83, r192_83A, r192_84, r192_87, r192_88, r192_91, r192_94, r192_95, r192_98, r192_99, r192_100, r192_101, v192_101_11, r192_104, g11_174_11, g11_67_11, p11_174_11, mo_len, ms75 hS, mt75 hS, mo_g22, mo_g30, mo_s22, il_s, bl_s, bl_z, ll_s, is_s, bs_s, bs_z, ls_s, al_s, al_b, al_l, fr_ne, fr_same, fr_fr, Nat.reduceEqDiff, tc_gf3_s, tc_ql2_s, tc_ws_0, tc_ws_i, tc_ws_l, tc_ws_r, Nat.reduceLeDiff, Nat.reduceAdd, Nat.reduceLT, true_and, and_true, if_true, if_false, tc_K, Option.toList_some, Option.toList_none, List.nil_append, List.cons_append, ite_true, ite_false, Int.cast_ofNat_Int, reduceIte, i3_add_eq, i3_sub_eq, Int.add_sub_cancel, Int.add_neg_cancel_right, ms75 hS, mt75 hS, a30, h195, h174]) | (simp only [r192_13, r192_42, r192_53, r192_67, i6_lt0, i6_0lt, i6_0le, i6_le0, i6_eq0, b10_0, ite_not, Int.reduceLT, Int.reduceLE, Int.reduceEq, Int.reduceNeg, if_true, if_false, ite_true, ite_false, reduceIte, eq_self, not_true, not_false_eq_true]; try refine tc_ite (fun _ => ?_) (fun _ => ?_) <;> try (exfalso; omega)))
        all_goals first
          | exact ih () trivial
          | omega
    · intro _ hI'
      have h175 := fun Q => c175 (c := c1) (n := n) (Q := Q) (k := 0) (p := q) hS (by omega) (by omega)
      rw [a23, if_neg hF] at h175
      have hq' := fin (fu (c1 75) 23 F) (fun i i1 i2 => by
        by_cases i3 : i = 23
        · rw [i3, fu_same, h23]
        · rw [fu_ne i3, x75, fu_ne i1]) (by rw [fu_ne (by omega), a22]; omega) (by rw [fu_ne (by omega), a28]; omega)
      simp only [r192_37]
      repeat' (first | (simp (disch := first | omega | exact Nat.le_of_ble_eq_true rfl | exact rfl | assumption | (simp only [fr_at, Nat.reduceEqDiff, if_false, if_true, reduceIte]; first | assumption | omega)) only [r192_0, r192_1, v192_1_11, r192_4, r192_5, r192_8r, r192_9, r192_10, v192_10_11, r192_16, r192_17, r192_19, v192_19_11, r192_22i, r192_23, r192_24, r192_25, v192_25_11, r192_28, r192_29, r192_30, r192_31, v192_31_11, r192_34, r192_35, r192_36i, r192_38, r192_39, r192_45, r192_46, r192_47, r192_50, v192_50_11, r192_56i, r192_59, r192_62, r192_63, r192_64, r192_70, r192_71, r192_72, r192_73, v192_73_11, r192_76, r192_77, r192_78, r192_79, v192_79_11, r192_82, r192_83, r192_83A, r192_84, r192_87, r192_88, r192_91, r192_94, r192_95, r192_98, r192_99, r192_100, r192_101, v192_101_11, r192_104, g11_174_11, g11_67_11, p11_174_11, mo_len, ms75 hS, mt75 hS, mo_g22, mo_g30, mo_s22, il_s, bl_s, bl_z, ll_s, is_s, bs_s, bs_z, ls_s, al_s, al_b, al_l, fr_at, fr_fr, Nat.reduceEqDiff, tc_gf3_s, tc_ql2_s, tc_ws_0, tc_ws_i, tc_ws_l, tc_ws_r, Nat.reduceLeDiff, Nat.reduceAdd, Nat.reduceLT, true_and, and_true, if_true, if_false, tc_K, Option.toList_some, Option.toList_none, List.nil_append, List.cons_append, ite_true, ite_false, Int.cast_ofNat_Int, reduceIte, i3_add_eq, i3_sub_eq, Int.add_sub_cancel, Int.add_neg_cancel_right, a30, h175]) | (simp only [r192_13, r192_42, r192_53, r192_67, i6_lt0, i6_0lt, i6_0le, i6_le0, i6_eq0, b10_0, ite_not, Int.reduceLT, Int.reduceLE, Int.reduceEq, Int.reduceNeg, if_true, if_false, ite_true, ite_false, reduceIte, eq_self, not_true, not_false_eq_true]; try refine tc_ite (fun _ => ?_) (fun _ => ?_) <;> try (exfalso; omega)))
      all_goals first
        | exact hq'
        | omega
theorem m191f (hS : MS L sh) (hST : STRS sh c) (hTP : TP g N) (h95 : c 95 = g) (h21 : c 75 21 = N) (h22 : c 75 22 = p) (hp0 : 0 ≤ p ∧ p ≤ N) (h23 : c 75 23 = F) (hF : ¬ F = 0) (h28 : c 75 28 = m) (hm : 0 ≤ m ∧ m ≤ 90) (h30 : c 75 30 = 9)
    (hq : ∀ e, MFQ c e → RN e N (m + 1) → Q none (hp L sh e) n) : tc_C 191 [rf 75] (hp L sh c) n Q := by
  have hN := hTP.1
  show tc_W 191 0 [rf 75, tc_nil] [] _ _ Q
  repeat' (first | (simp (disch := first | omega | exact Nat.le_of_ble_eq_true rfl | exact rfl | assumption | (simp only [fr_at, Nat.reduceEqDiff, if_false, if_true, reduceIte]; first | assumption | omega)) only [r191_0, r191_1, v191_1_11, r191_4, r191_5, v191_5_11, r191_9, r191_15, r191_16, v191_16_11, r191_19, r191_24, r191_25, v191_25_11, r191_28, r191_33, r191_34, v191_34_11, r191_37, r191_42, r191_43, v191_43_11, r191_46, r191_51, r191_53, r191_56, r191_57, v191_57_11, r191_60, r191_65, r191_67, r191_70, r191_72r, r191_73, r191_74, r191_74A, r191_75, r191_78, r191_79, r191_80, r191_83, r191_84, v191_84_11, r191_87, r191_88, r191_89, r191_90, v191_90_11, r191_93, r191_94, v191_94_11, r191_97, r191_100, g11_171_11, g11_174_11, p11_174_11, mo_len, ms75 hS, mt75 hS, mo_g23, mo_g22, mo_s22, il_s, bl_s, bl_z, ll_s, is_s, bs_s, bs_z, ls_s, al_s, al_b, al_l, fr_at, fr_fr, Nat.reduceEqDiff, tc_gf3_s, tc_ql2_s, tc_ws_0, tc_ws_i, tc_ws_l, tc_ws_r, Nat.reduceLeDiff, Nat.reduceAdd, Nat.reduceLT, true_and, and_true, if_true, if_false, tc_K, Option.toList_some, Option.toList_none, List.nil_append, List.cons_append, ite_true, ite_false, Int.cast_ofNat_Int, reduceIte, i3_add_eq, i3_sub_eq, Int.add_sub_cancel, Int.add_neg_cancel_right]) | (simp only [r191_12, r191_21, r191_30, r191_39, r191_48, r191_62, i6_lt0, i6_0lt, i6_0le, i6_le0, i6_eq0, b10_0, ite_not, Int.reduceLT, Int.reduceLE, Int.reduceEq, Int.reduceNeg, if_true, if_false, ite_true, ite_false, reduceIte, eq_self, not_true, not_false_eq_true]; try refine tc_ite (fun _ => ?_) (fun _ => ?_) <;> try (exfalso; omega)))
  refine m192f hS hST hTP h95 h21 h22 hp0 h23 hF h28 hm h30 ?_
  intro e j1 j2
  have h171 := fun Q => c171q (c := e) (n := n) (Q := Q) (N := N) (p := e 75 22) hS (by rw [j1.1 95 (by omega), h95]; exact hTP) (by rw [j1.2 21 (by omega) (by omega)]; exact h21) rfl (by have := j2.1; omega)
  rw [j1.1 95 (by omega), h95] at h171
  have hsr := nm_rng (g := g) (p := e 75 22) (N := N) j2.1
  repeat' (first | (simp (disch := first | omega | exact Nat.le_of_ble_eq_true rfl | exact rfl | assumption | (simp only [fr_at, Nat.reduceEqDiff, if_false, if_true, reduceIte]; first | assumption | omega)) only [r191_0, r191_1, v191_1_11, r191_4, r191_5, v191_5_11, r191_9, r191_15, r191_16, v191_16_11, r191_19, r191_24, r191_25, v191_25_11, r191_28, r191_33, r191_34, v191_34_11, r191_37, r191_42, r191_43, v191_43_11, r191_46, r191_51, r191_53, r191_56, r191_57, v191_57_11, r191_60, r191_65, r191_67, r191_70, r191_72r, r191_73, r191_74, r191_74A, r191_75, r191_78, r191_79, r191_80, r191_83, r191_84, v191_84_11, r191_87, r191_88, r191_89, r191_90, v191_90_11, r191_93, r191_94, v191_94_11, r191_97, r191_100, g11_171_11, g11_174_11, p11_174_11, mo_len, ms75 hS, mt75 hS, mo_g23, mo_g22, mo_s22, il_s, bl_s, bl_z, ll_s, is_s, bs_s, bs_z, ls_s, al_s, al_b, al_l, fr_at, fr_fr, Nat.reduceEqDiff, tc_gf3_s, tc_ql2_s, tc_ws_0, tc_ws_i, tc_ws_l, tc_ws_r, Nat.reduceLeDiff, Nat.reduceAdd, Nat.reduceLT, true_and, and_true, if_true, if_false, tc_K, Option.toList_some, Option.toList_none, List.nil_append, List.cons_append, ite_true, ite_false, Int.cast_ofNat_Int, reduceIte, i3_add_eq, i3_sub_eq, Int.add_sub_cancel, Int.add_neg_cancel_right, h171]) | (simp only [r191_12, r191_21, r191_30, r191_39, r191_48, r191_62, i6_lt0, i6_0lt, i6_0le, i6_le0, i6_eq0, b10_0, ite_not, Int.reduceLT, Int.reduceLE, Int.reduceEq, Int.reduceNeg, if_true, if_false, ite_true, ite_false, reduceIte, eq_self, not_true, not_false_eq_true]; try refine tc_ite (fun _ => ?_) (fun _ => ?_) <;> try (exfalso; omega)))
  refine m191_x hS (by rw [fr_same, fu_ne (by omega), j1.2 23 (by omega) (by omega), h23]; exact hF) (hq _ (j1.trans ⟨fun a ha => fr_ne ha, fun i i1 i2 => by rw [fr_same, fu_ne i1]⟩) ⟨by rw [fr_same, fu_same]; exact ⟨hsr.2.2.1, hsr.2.2.2⟩, by rw [fr_same, fu_ne (by omega)]; exact j2.2⟩)
theorem m190f (hS : MS L sh) (hST : STRS sh c) (hTP : TP g N) (h95 : c 95 = g) (h21 : c 75 21 = N) (h22 : c 75 22 = p) (hp0 : 0 ≤ p ∧ p ≤ N) (h23 : c 75 23 = F) (hF : ¬ F = 0) (h28 : c 75 28 = m) (hm : 0 ≤ m ∧ m ≤ 90) (h30 : c 75 30 = 9)
    (hq : ∀ e, MFQ c e → RN e N (m + 1) → Q none (hp L sh e) n) : tc_C 190 [rf 75] (hp L sh c) n Q := by
  show tc_W 190 0 [rf 75, tc_nil] [] _ _ Q
  repeat' (first | (simp (disch := first | omega | exact Nat.le_of_ble_eq_true rfl | exact rfl | assumption | (simp only [fr_at, Nat.reduceEqDiff, if_false, if_true, reduceIte]; first | assumption | omega)) only [r190_0, r190_1, v190_1_11, r190_5, r190_11, r190_12, v190_12_11, r190_15, r190_20, r190_21, v190_21_11, r190_24, r190_29, r190_30, v190_30_11, r190_33, r190_38, r190_39, r190_42, r190_43r, r190_44, r190_45, r190_45A, r190_46, r190_49, r190_50, r190_51, r190_54, r190_55, v190_55_11, r190_58, r190_59, r190_60, r190_61, v190_61_11, r190_64, r190_67, g11_171_11, g11_174_11, p11_174_11, mo_len, ms75 hS, mt75 hS, mo_g23, mo_g22, mo_s22, il_s, bl_s, bl_z, ll_s, is_s, bs_s, bs_z, ls_s, al_s, al_b, al_l, fr_at, fr_fr, Nat.reduceEqDiff, tc_gf3_s, tc_ql2_s, tc_ws_0, tc_ws_i, tc_ws_l, tc_ws_r, Nat.reduceLeDiff, Nat.reduceAdd, Nat.reduceLT, true_and, and_true, if_true, if_false, tc_K, Option.toList_some, Option.toList_none, List.nil_append, List.cons_append, ite_true, ite_false, Int.cast_ofNat_Int, reduceIte, i3_add_eq, i3_sub_eq, Int.add_sub_cancel, Int.add_neg_cancel_right]) | (simp only [r190_8, r190_17, r190_26, r190_35, i6_lt0, i6_0lt, i6_0le, i6_le0, i6_eq0, b10_0, ite_not, Int.reduceLT, Int.reduceLE, Int.reduceEq, Int.reduceNeg, if_true, if_false, ite_true, ite_false, reduceIte, eq_self, not_true, not_false_eq_true]; try refine tc_ite (fun _ => ?_) (fun _ => ?_) <;> try (exfalso; omega)))
  refine m191f hS hST hTP h95 h21 h22 hp0 h23 hF h28 hm h30 ?_
  intro e j1 j2
  repeat' (first | (simp (disch := first | omega | exact Nat.le_of_ble_eq_true rfl | exact rfl | assumption | (simp only [fr_at, Nat.reduceEqDiff, if_false, if_true, reduceIte]; first | assumption | omega)) only [r190_0, r190_1, v190_1_11, r190_5, r190_11, r190_12, v190_12_11, r190_15, r190_20, r190_21, v190_21_11, r190_24, r190_29, r190_30, v190_30_11, r190_33, r190_38, r190_39, r190_42, r190_43r, r190_44, r190_45, r190_45A, r190_46, r190_49, r190_50, r190_51, r190_54, r190_55, v190_55_11, r190_58, r190_59, r190_60, r190_61, v190_61_11, r190_64, r190_67, g11_171_11, g11_174_11, p11_174_11, mo_len, ms75 hS, mt75 hS, mo_g23, mo_g22, mo_s22, il_s, bl_s, bl_z, ll_s, is_s, bs_s, bs_z, ls_s, al_s, al_b, al_l, fr_at, fr_fr, Nat.reduceEqDiff, tc_gf3_s, tc_ql2_s, tc_ws_0, tc_ws_i, tc_ws_l, tc_ws_r, Nat.reduceLeDiff, Nat.reduceAdd, Nat.reduceLT, true_and, and_true, if_true, if_false, tc_K, Option.toList_some, Option.toList_none, List.nil_append, List.cons_append, ite_true, ite_false, Int.cast_ofNat_Int, reduceIte, i3_add_eq, i3_sub_eq, Int.add_sub_cancel, Int.add_neg_cancel_right]) | (simp only [r190_8, r190_17, r190_26, r190_35, i6_lt0, i6_0lt, i6_0le, i6_le0, i6_eq0, b10_0, ite_not, Int.reduceLT, Int.reduceLE, Int.reduceEq, Int.reduceNeg, if_true, if_false, ite_true, ite_false, reduceIte, eq_self, not_true, not_false_eq_true]; try refine tc_ite (fun _ => ?_) (fun _ => ?_) <;> try (exfalso; omega)))
  exact m190_x hS (by rw [j1.2 23 (by omega) (by omega), h23]; exact hF) (hq e j1 j2)
end TESTM

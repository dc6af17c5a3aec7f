/-! the WAY a WAVE comes, as numbers -/
theorem int_least {P : Int → Prop} (h0 : ∀ k, P k → 0 ≤ k) : ∀ (m : Nat) (k : Int), P k → k < m → ∃ j, P j ∧ ∀ i, P i → j ≤ i := by
  intro m
  induction m with
  | zero => intro k hk h; have := h0 k hk; omega
  | succ m ih =>
    intro k hk h
    by_cases hex : ∃ i, P i ∧ i < k
    · obtain ⟨i, hi, hi2⟩ := hex
      exact ih i hi (by omega)
    · refine ⟨k, hk, fun i hi => ?_⟩
      by_cases hlt : i < k
      · exact absurd ⟨i, hi, hlt⟩ hex
      · omega
theorem St_ex {W D F : Int} {ht : Int → Int} (hW : 2 ≤ W ∧ W ≤ 5) (hh : HT (W * D) ht) (hF : 0 ≤ F) : St W (W * D) ht F (stg W (W * D) ht F) := by
  have hc := Cl.const (W := W) hh hF
  have hm : ∀ x, ∃ j, (0 ≤ x → x < W * D → (∃ t, Cl W (W * D) ht F t ∧ t x = j) ∧ ∀ t, Cl W (W * D) ht F t → j ≤ t x) := by
    intro x
    by_cases hx : 0 ≤ x ∧ x < W * D
    · obtain ⟨j, ⟨t, h1, h2⟩, h3⟩ := int_least (P := fun j => ∃ t, Cl W (W * D) ht F t ∧ t x = j) (by
        rintro k ⟨t, h1, h2⟩
        have := (h1 x hx.1 hx.2).1
        omega) (F.toNat + 1) F ⟨_, hc, rfl⟩ (by omega)
      exact ⟨j, fun _ _ => ⟨⟨t, h1, h2⟩, fun t' ht' => h3 _ ⟨t', ht', rfl⟩⟩⟩
    · exact ⟨0, fun h1 h2 => absurd ⟨h1, h2⟩ hx⟩
  have hs : St W (W * D) ht F (fun x => Classical.choose (hm x)) := by
    have sp := fun x => Classical.choose_spec (hm x)
    refine ⟨fun x x1 x2 => ?_, fun t h1 x x1 x2 => (sp x x1 x2).2 t h1⟩
    obtain ⟨⟨t, h1, h2⟩, h3⟩ := sp x x1 x2
    have h4 := h1 x x1 x2
    rw [h2] at h4
    refine ⟨h4.1, fun d d1 d2 hn => ?_⟩
    have hr := bes_rng hW x1 x2 d1 d2
    have h5 := h4.2 d d1 d2 hn
    have h6 := (sp (bes W (W * D) x d) (by omega) (by omega)).2 t h1
    generalize bes W (W * D) x d = y at h5 h6
    unfold fce at h5 ⊢
    by_cases h7 : Classical.choose (hm y) < 1
    · rw [if_pos h7]
      exact h4.1.1
    · rw [if_neg h7]
      rw [if_neg (by omega)] at h5
      show Classical.choose (hm y) - 1 - (if ht y < ht x then ht x - ht y else 0) ≤ Classical.choose (hm x)
      omega
  exact Classical.epsilon_spec (⟨_, hs⟩ : ∃ s, St W (W * D) ht F s)
theorem stg_rng {W D F : Int} {ht : Int → Int} (hW : 2 ≤ W ∧ W ≤ 5) (hh : HT (W * D) ht) (hF : 0 ≤ F) {x : Int} (hx : 0 ≤ x) (hx2 : x < W * D) : 0 ≤ stg W (W * D) ht F x ∧ stg W (W * D) ht F x ≤ F := by
  have h := St_ex hW hh hF
  exact ⟨((h.1 x hx hx2).1).1, h.2.le hh hF hx hx2⟩
def wh1 (W N : Int) (ht g : Int → Int) (x : Int) : Nat → Int
  | 0 => -1
  | d + 1 => if ¬ bes W N x d = -1 ∧ fce ht g x (bes W N x d) = g x ∧ (wh1 W N ht g x d = -1 ∨ bes W N x d < wh1 W N ht g x d) then bes W N x d else wh1 W N ht g x d
def whn (W N : Int) (ht : Int → Int) (F : Int) (g : Int → Int) (x : Int) : Int := if fse W N ht F x = g x then -1 else wh1 W N ht g x 4
theorem wh1_rng {W D : Int} {ht g : Int → Int} (hW : 2 ≤ W ∧ W ≤ 5) {x : Int} (hx : 0 ≤ x) (hx2 : x < W * D) (hg : 1 ≤ g x) : ∀ d : Nat, d ≤ 4 → wh1 W (W * D) ht g x d = -1 ∨ (0 ≤ wh1 W (W * D) ht g x d ∧ wh1 W (W * D) ht g x d < W * D ∧ g x + 1 ≤ g (wh1 W (W * D) ht g x d)) := by
  intro d
  induction d with
  | zero => intro _; exact Or.inl rfl
  | succ d ih =>
    intro hd
    have hr := bes_rng (d := (d : Int)) hW hx hx2 (by omega) (by omega)
    unfold wh1
    by_cases h : ¬ bes W (W * D) x d = -1 ∧ fce ht g x (bes W (W * D) x d) = g x ∧ (wh1 W (W * D) ht g x d = -1 ∨ bes W (W * D) x d < wh1 W (W * D) ht g x d)
    · rw [if_pos h]
      have h2 := h.2.1
      refine Or.inr ⟨by omega, by omega, ?_⟩
      unfold fce at h2
      split at h2
      · omega
      · split at h2 <;> omega
    · rw [if_neg h]
      exact ih (by omega)
theorem whn_rng {W D F : Int} {ht g : Int → Int} (hW : 2 ≤ W ∧ W ≤ 5) {x : Int} (hx : 0 ≤ x) (hx2 : x < W * D) (hg : 1 ≤ g x) : whn W (W * D) ht F g x = -1 ∨ (0 ≤ whn W (W * D) ht F g x ∧ whn W (W * D) ht F g x < W * D ∧ g x + 1 ≤ g (whn W (W * D) ht F g x)) := by
  unfold whn
  split
  · exact Or.inl rfl
  · exact wh1_rng hW hx hx2 hg 4 (by omega)
def pxs (wh : Int → Int) (x : Int) : Nat → Int
  | 0 => x
  | i + 1 => wh (pxs wh x i)
/-- a way has so many cells -/
def WYS (p : Nat → Int) (m : Nat) : Prop := (∀ i, i < m → ¬ p i = -1) ∧ p m = -1
theorem WYS.uq {p : Nat → Int} {m k : Nat} (h : WYS p m) (h' : WYS p k) : m = k := by
  rcases Nat.lt_trichotomy m k with q | q | q
  · exact absurd h.2 (h'.1 m q)
  · exact q
  · exact absurd h'.2 (h.1 k q)
section MOD17
variable {L : Nat} {sh : Nat → SH} {c : Nat → Int → Int} {n : Nat} {Q : Option AV → List SC → Nat → Prop}
theorem c239 (hS : MS L sh) (hd : DM (c 76)) (hbd : BD (c 76)) (hh : HT (c 76 0 * c 76 1) (c 77)) {g : Int → Int} (hg : ∀ y, 0 ≤ y → y < c 76 0 * c 76 1 → c 105 y = g y ∧ 0 ≤ g y ∧ g y ≤ 100) {x F : Int} (hx : 0 ≤ x) (hx2 : x < c 76 0 * c 76 1) (hF : 0 ≤ F ∧ F ≤ 100) : tc_C 239 [rf 75, .inl x, .inl F] (hp L sh c) n Q = Q (some (.inl (whn (c 76 0) (c 76 0 * c 76 1) (c 77) F g x))) (hp L sh c) n := tc_det fun Q hq => by
  show tc_W 239 0 [rf 75, .inl x, .inl F, tc_nil, tc_nil, tc_nil] [] _ _ Q
  have hN := hd.m.1
  have hW : 2 ≤ c 76 0 ∧ c 76 0 ≤ 5 := ⟨hbd.1, hbd.2.1⟩
  have hgx := hg x hx hx2
  have e105 := hgx.1
  have h210 := fun Q => c210 (c := c) (n := n) (Q := Q) hS hd hh hx hx2 hF
  repeat' (first | (simp (disch := first | omega | exact Nat.le_of_ble_eq_true rfl | exact rfl | assumption | (simp only [fr_at, Nat.reduceEqDiff, if_false, if_true, reduceIte]; first | assumption | omega)) only [r239_0, r239_1i, r239_2, r239_3i, r239_7, r239_11, r239_12, r239_13, r239_14, v239_14_11, r239_17, r239_18, r239_21, r239_22, r239_26, r239_27, r239_28, r239_30, v239_30_11, r239_33i, r239_35, r239_37, r239_41, r239_42, r239_43, r239_45, v239_45_11, r239_48, r239_49, r239_52, r239_53, r239_57, r239_58, r239_62, r239_64, r239_68, r239_70i, r239_71i, r239_74, r239_77, r239_78, g11_103_11, mo_len, ms75 hS, mt75 hS, mo_g41, ms105 hS, mt105 hS, il_s, bl_s, bl_z, ll_s, is_s, bs_s, bs_z, ls_s, al_s, al_b, al_l, fr_at, fr_fr, Nat.reduceEqDiff, tc_gf3_s, tc_ql2_s, tc_ws_0, tc_ws_i, tc_ws_l, tc_ws_r, Nat.reduceLeDiff, Nat.reduceAdd, Nat.reduceLT, true_and, and_true, if_true, if_false, tc_K, Option.toList_some, Option.toList_none, List.nil_append, List.cons_append, ite_true, ite_false, Int.cast_ofNat_Int, reduceIte, i3_add_eq, i3_sub_eq, Int.add_sub_cancel, Int.add_neg_cancel_right]) | (simp only [r239_8, r239_23, r239_38, r239_54, r239_59, r239_65, i6_lt0, i6_0lt, i6_0le, i6_le0, i6_eq0, b10_0, ite_not, Int.reduceLT, Int.reduceLE, Int.reduceEq, Int.reduceNeg, if_true, if_false, ite_true, ite_false, reduceIte, eq_self, not_true, not_false_eq_true]; try refine tc_ite (fun _ => ?_) (fun _ => ?_) <;> try (exfalso; omega)))
  by_cases hs : fse (c 76 0) (c 76 0 * c 76 1) (c 77) F x = g x
  · have e : whn (c 76 0) (c 76 0 * c 76 1) (c 77) F g x = -1 := if_pos hs
    rw [e] at hq
    simp only [r239_5]
    simp only [hs] at h210
    repeat' (first | (simp (disch := first | omega | exact Nat.le_of_ble_eq_true rfl | exact rfl | assumption | (simp only [fr_at, Nat.reduceEqDiff, if_false, if_true, reduceIte]; first | assumption | omega)) only [r239_0, r239_1i, r239_2, r239_3i, r239_7, r239_11, r239_12, r239_13, r239_14, v239_14_11, r239_17, r239_18, r239_21, r239_22, r239_26, r239_27, r239_28, r239_30, v239_30_11, r239_33i, r239_35, r239_37, r239_41, r239_42, r239_43, r239_45, v239_45_11, r239_48, r239_49, r239_52, r239_53, r239_57, r239_58, r239_62, r239_64, r239_68, r239_70i, r239_71i, r239_74, r239_77, r239_78, g11_103_11, mo_len, ms75 hS, mt75 hS, mo_g41, ms105 hS, mt105 hS, il_s, bl_s, bl_z, ll_s, is_s, bs_s, bs_z, ls_s, al_s, al_b, al_l, fr_at, fr_fr, Nat.reduceEqDiff, tc_gf3_s, tc_ql2_s, tc_ws_0, tc_ws_i, tc_ws_l, tc_ws_r, Nat.reduceLeDiff, Nat.reduceAdd, Nat.reduceLT, true_and, and_true, if_true, if_false, tc_K, Option.toList_some, Option.toList_none, List.nil_append, List.cons_append, ite_true, ite_false, Int.cast_ofNat_Int, reduceIte, i3_add_eq, i3_sub_eq, Int.add_sub_cancel, Int.add_neg_cancel_right, h210, e105]) | (simp only [r239_8, r239_23, r239_38, r239_54, r239_59, r239_65, i6_lt0, i6_0lt, i6_0le, i6_le0, i6_eq0, b10_0, ite_not, Int.reduceLT, Int.reduceLE, Int.reduceEq, Int.reduceNeg, if_true, if_false, ite_true, ite_false, reduceIte, eq_self, not_true, not_false_eq_true]; try refine tc_ite (fun _ => ?_) (fun _ => ?_) <;> try (exfalso; omega)))
    exact hq
  · have e : whn (c 76 0) (c 76 0 * c 76 1) (c 77) F g x = wh1 (c 76 0) (c 76 0 * c 76 1) (c 77) g x 4 := if_neg hs
    rw [e] at hq
    refine up (N := 4) (P := fun d => ∀ a5 : AV, tc_W 239 5 [rf 75, .inl x, .inl F, .inl (wh1 (c 76 0) (c 76 0 * c 76 1) (c 77) g x d), .inl (d : Int), a5] [] (hp L sh c) n Q) ?_ ?_ tc_nil
    · intro d hd4 ih a5
      have hr := bes_rng (d := (d : Int)) hW hx hx2 (by omega) (by omega)
      have e1 : wh1 (c 76 0) (c 76 0 * c 76 1) (c 77) g x (d + 1) = if ¬ bes (c 76 0) (c 76 0 * c 76 1) x d = -1 ∧ fce (c 77) g x (bes (c 76 0) (c 76 0 * c 76 1) x d) = g x ∧ (wh1 (c 76 0) (c 76 0 * c 76 1) (c 77) g x d = -1 ∨ bes (c 76 0) (c 76 0 * c 76 1) x d < wh1 (c 76 0) (c 76 0 * c 76 1) (c 77) g x d) then bes (c 76 0) (c 76 0 * c 76 1) x d else wh1 (c 76 0) (c 76 0 * c 76 1) (c 77) g x d := rfl
      have ih' := fun a5 => ih a5
      rw [e1] at ih'
      have h212 := fun Q => c212 (c := c) (n := n) (Q := Q) hS hd (by omega) hx (by omega) (s := (d : Int)) (by omega)
      simp only [r239_5]
      generalize wh1 (c 76 0) (c 76 0 * c 76 1) (c 77) g x d = R at ih'
      by_cases hn : bes (c 76 0) (c 76 0 * c 76 1) x d = -1
      · rw [if_neg (fun h => h.1 hn)] at ih'
        simp only [hn] at h212
        repeat' (first | (simp (disch := first | omega | exact Nat.le_of_ble_eq_true rfl | exact rfl | assumption | (simp only [fr_at, Nat.reduceEqDiff, if_false, if_true, reduceIte]; first | assumption | omega)) only [r239_0, r239_1i, r239_2, r239_3i, r239_7, r239_11, r239_12, r239_13, r239_14, v239_14_11, r239_17, r239_18, r239_21, r239_22, r239_26, r239_27, r239_28, r239_30, v239_30_11, r239_33i, r239_35, r239_37, r239_41, r239_42, r239_43, r239_45, v239_45_11, r239_48, r239_49, r239_52, r239_53, r239_57, r239_58, r239_62, r239_64, r239_68, r239_70i, r239_71i, r239_74, r239_77, r239_78, g11_103_11, mo_len, ms75 hS, mt75 hS, mo_g41, ms105 hS, mt105 hS, il_s, bl_s, bl_z, ll_s, is_s, bs_s, bs_z, ls_s, al_s, al_b, al_l, fr_at, fr_fr, Nat.reduceEqDiff, tc_gf3_s, tc_ql2_s, tc_ws_0, tc_ws_i, tc_ws_l, tc_ws_r, Nat.reduceLeDiff, Nat.reduceAdd, Nat.reduceLT, true_and, and_true, if_true, if_false, tc_K, Option.toList_some, Option.toList_none, List.nil_append, List.cons_append, ite_true, ite_false, Int.cast_ofNat_Int, reduceIte, i3_add_eq, i3_sub_eq, Int.add_sub_cancel, Int.add_neg_cancel_right, h210, h212, e105]) | (simp only [r239_8, r239_23, r239_38, r239_54, r239_59, r239_65, i6_lt0, i6_0lt, i6_0le, i6_le0, i6_eq0, b10_0, ite_not, Int.reduceLT, Int.reduceLE, Int.reduceEq, Int.reduceNeg, if_true, if_false, ite_true, ite_false, reduceIte, eq_self, not_true, not_false_eq_true]; try refine tc_ite (fun _ => ?_) (fun _ => ?_) <;> try (exfalso; omega)))
        exact ih' _
      · have hgy := hg (bes (c 76 0) (c 76 0 * c 76 1) x d) (by omega) (by omega)
        have h213 := fun Q => c213 (c := c) (n := n) (Q := Q) hS hd hh hx hx2 (y := bes (c 76 0) (c 76 0 * c 76 1) x d) (by omega) (by omega) (by rw [hgy.1]; omega)
        have efc : fce (c 77) (c 105) x (bes (c 76 0) (c 76 0 * c 76 1) x d) = fce (c 77) g x (bes (c 76 0) (c 76 0 * c 76 1) x d) := fce_ext rfl rfl hgy.1
        simp only [efc] at h213
        generalize bes (c 76 0) (c 76 0 * c 76 1) x d = y at ih' hn h212 h213 hr
        generalize fce (c 77) g x y = v at ih' h213
        repeat' (first | (simp (disch := first | omega | exact Nat.le_of_ble_eq_true rfl | exact rfl | assumption | (simp only [fr_at, Nat.reduceEqDiff, if_false, if_true, reduceIte]; first | assumption | omega)) only [r239_0, r239_1i, r239_2, r239_3i, r239_7, r239_11, r239_12, r239_13, r239_14, v239_14_11, r239_17, r239_18, r239_21, r239_22, r239_26, r239_27, r239_28, r239_30, v239_30_11, r239_33i, r239_35, r239_37, r239_41, r239_42, r239_43, r239_45, v239_45_11, r239_48, r239_49, r239_52, r239_53, r239_57, r239_58, r239_62, r239_64, r239_68, r239_70i, r239_71i, r239_74, r239_77, r239_78, g11_103_11, mo_len, ms75 hS, mt75 hS, mo_g41, ms105 hS, mt105 hS, il_s, bl_s, bl_z, ll_s, is_s, bs_s, bs_z, ls_s, al_s, al_b, al_l, fr_at, fr_fr, Nat.reduceEqDiff, tc_gf3_s, tc_ql2_s, tc_ws_0, tc_ws_i, tc_ws_l, tc_ws_r, Nat.reduceLeDiff, Nat.reduceAdd, Nat.reduceLT, true_and, and_true, if_true, if_false, tc_K, Option.toList_some, Option.toList_none, List.nil_append, List.cons_append, ite_true, ite_false, Int.cast_ofNat_Int, reduceIte, i3_add_eq, i3_sub_eq, Int.add_sub_cancel, Int.add_neg_cancel_right, h210, h212, h213, e105]) | (simp only [r239_8, r239_23, r239_38, r239_54, r239_59, r239_65, i6_lt0, i6_0lt, i6_0le, i6_le0, i6_eq0, b10_0, ite_not, Int.reduceLT, Int.reduceLE, Int.reduceEq, Int.reduceNeg, if_true, if_false, ite_true, ite_false, reduceIte, eq_self, not_true, not_false_eq_true]; try refine tc_ite (fun _ => ?_) (fun _ => ?_) <;> try (exfalso; omega)))
        all_goals
          simp (disch := omega) only [if_pos, if_neg] at ih'
          exact ih' _
    · intro a5
      simp only [r239_5]
      repeat' (first | (simp (disch := first | omega | exact Nat.le_of_ble_eq_true rfl | exact rfl | assumption | (simp only [fr_at, Nat.reduceEqDiff, if_false, if_true, reduceIte]; first | assumption | omega)) only [r239_0, r239_1i, r239_2, r239_3i, r239_7, r239_11, r239_12, r239_13, r239_14, v239_14_11, r239_17, r239_18, r239_21, r239_22, r239_26, r239_27, r239_28, r239_30, v239_30_11, r239_33i, r239_35, r239_37, r239_41, r239_42, r239_43, r239_45, v239_45_11, r239_48, r239_49, r239_52, r239_53, r239_57, r239_58, r239_62, r239_64, r239_68, r239_70i, r239_71i, r239_74, r239_77, r239_78, g11_103_11, mo_len, ms75 hS, mt75 hS, mo_g41, ms105 hS, mt105 hS, il_s, bl_s, bl_z, ll_s, is_s, bs_s, bs_z, ls_s, al_s, al_b, al_l, fr_at, fr_fr, Nat.reduceEqDiff, tc_gf3_s, tc_ql2_s, tc_ws_0, tc_ws_i, tc_ws_l, tc_ws_r, Nat.reduceLeDiff, Nat.reduceAdd, Nat.reduceLT, true_and, and_true, if_true, if_false, tc_K, Option.toList_some, Option.toList_none, List.nil_append, List.cons_append, ite_true, ite_false, Int.cast_ofNat_Int, reduceIte, i3_add_eq, i3_sub_eq, Int.add_sub_cancel, Int.add_neg_cancel_right]) | (simp only [r239_8, r239_23, r239_38, r239_54, r239_59, r239_65, i6_lt0, i6_0lt, i6_0le, i6_le0, i6_eq0, b10_0, ite_not, Int.reduceLT, Int.reduceLE, Int.reduceEq, Int.reduceNeg, if_true, if_false, ite_true, ite_false, reduceIte, eq_self, not_true, not_false_eq_true]; try refine tc_ite (fun _ => ?_) (fun _ => ?_) <;> try (exfalso; omega)))
      exact hq
theorem c238_l (hS : MS L sh) (hb : WB (bm c)) (hh : HT (c 76 0 * c 76 1) (c 77)) (h8 : 0 ≤ c 76 8 ∧ c 76 8 ≤ 900) {T : Int} (hT : tof (bm c) (c 76 8) = T) (hT2 : 0 ≤ T ∧ T ≤ 20) {g : Int → Int} (hgr : ∀ y, 0 ≤ y → y < c 76 0 * c 76 1 → 0 ≤ g y ∧ g y ≤ T) {x k x0 : Int} (hk : 0 ≤ k) : ∀ (m i : Nat) (d : Nat → Int → Int), i + m = 25 → QX c d → (∀ y, 0 ≤ y → y < c 76 0 * c 76 1 → d 105 y = g y) → (∀ j : Nat, j < i → d 109 j = pxs (whn (c 76 0) (c 76 0 * c 76 1) (c 77) T g) x0 j ∧ ¬ pxs (whn (c 76 0) (c 76 0 * c 76 1) (c 77) T g) x0 j = -1) → (pxs (whn (c 76 0) (c 76 0 * c 76 1) (c 77) T g) x0 i = -1 ∨ (0 ≤ pxs (whn (c 76 0) (c 76 0 * c 76 1) (c 77) T g) x0 i ∧ pxs (whn (c 76 0) (c 76 0 * c 76 1) (c 77) T g) x0 i < c 76 0 * c 76 1 ∧ i + 1 ≤ g (pxs (whn (c 76 0) (c 76 0 * c 76 1) (c 77) T g) x0 i))) → (∀ (j : Nat) e, QX c e → WYS (pxs (whn (c 76 0) (c 76 0 * c 76 1) (c 77) T g) x0) j → Q (some (.inl (if k < j then pxs (whn (c 76 0) (c 76 0 * c 76 1) (c 77) T g) x0 (j - 1 - k.toNat) else -2))) (hp L sh e) n) → tc_W 238 40 [rf 75, .inl x, .inl k, .inl (i : Int), .inl (pxs (whn (c 76 0) (c 76 0 * c 76 1) (c 77) T g) x0 i)] [] (hp L sh d) n Q := by
  obtain ⟨hd, hbd⟩ := hb.dm
  have hN := hd.m.1
  have hW : 2 ≤ c 76 0 ∧ c 76 0 ≤ 5 := ⟨hbd.1, hbd.2.1⟩
  intro m
  induction m with
  | zero =>
    intro i d him hx h105 h109 hcur hq
    rcases hcur with hc | hc
    · have hq' := hq i d hx ⟨fun j hj => (h109 j hj).2, hc⟩
      simp only [r238_40]
      rw [hc]
      by_cases hki : k < i
      · rw [if_pos hki, ← (h109 (i - 1 - k.toNat) (by omega)).1, show ((i - 1 - k.toNat : Nat) : Int) = (i : Int) - 1 - k by omega] at hq'
        repeat' (first | (simp (disch := first | omega | exact Nat.le_of_ble_eq_true rfl | exact rfl | assumption | (simp only [fr_at, Nat.reduceEqDiff, if_false, if_true, reduceIte]; first | assumption | omega)) only [r238_0, r238_1, r238_2, v238_2_11, r238_8, r238_12, r238_13, r238_14, r238_15, r238_16, v238_16_11, r238_19, v238_19_11, r238_22, r238_23i, r238_24, r238_25, r238_28, r238_29, r238_33, r238_34, r238_37, r238_38i, r238_42, r238_46, r238_47, r238_50, r238_51, r238_53, r238_54i, r238_57, r238_58, r238_60, r238_61, v238_61_11, r238_64, v238_64_11, r238_67i, r238_69, r238_72, r238_73, r238_77, r238_78, r238_81, r238_82, r238_83, r238_84, r238_85, r238_86, r238_87, r238_90, r238_92, g11_103_11, g11_115_11, mo_len, ms75 hS, mt75 hS, mo_g41, ms105 hS, mt105 hS, mo_g48, ms109 hS, mt109 hS, il_s, bl_s, bl_z, ll_s, is_s, bs_s, bs_z, ls_s, al_s, al_b, al_l, fr_at, fr_fr, Nat.reduceEqDiff, tc_gf3_s, tc_ql2_s, tc_ws_0, tc_ws_i, tc_ws_l, tc_ws_r, Nat.reduceLeDiff, Nat.reduceAdd, Nat.reduceLT, true_and, and_true, if_true, if_false, tc_K, Option.toList_some, Option.toList_none, List.nil_append, List.cons_append, ite_true, ite_false, Int.cast_ofNat_Int, reduceIte, i3_add_eq, i3_sub_eq, Int.add_sub_cancel, Int.add_neg_cancel_right]) | (simp only [r238_5, r238_9, r238_30, r238_43, r238_74, i6_lt0, i6_0lt, i6_0le, i6_le0, i6_eq0, b10_0, ite_not, Int.reduceLT, Int.reduceLE, Int.reduceEq, Int.reduceNeg, if_true, if_false, ite_true, ite_false, reduceIte, eq_self, not_true, not_false_eq_true]; try refine tc_ite (fun _ => ?_) (fun _ => ?_) <;> try (exfalso; omega)))
        exact hq'
      · rw [if_neg hki] at hq'
        repeat' (first | (simp (disch := first | omega | exact Nat.le_of_ble_eq_true rfl | exact rfl | assumption | (simp only [fr_at, Nat.reduceEqDiff, if_false, if_true, reduceIte]; first | assumption | omega)) only [r238_0, r238_1, r238_2, v238_2_11, r238_8, r238_12, r238_13, r238_14, r238_15, r238_16, v238_16_11, r238_19, v238_19_11, r238_22, r238_23i, r238_24, r238_25, r238_28, r238_29, r238_33, r238_34, r238_37, r238_38i, r238_42, r238_46, r238_47, r238_50, r238_51, r238_53, r238_54i, r238_57, r238_58, r238_60, r238_61, v238_61_11, r238_64, v238_64_11, r238_67i, r238_69, r238_72, r238_73, r238_77, r238_78, r238_81, r238_82, r238_83, r238_84, r238_85, r238_86, r238_87, r238_90, r238_92, g11_103_11, g11_115_11, mo_len, ms75 hS, mt75 hS, mo_g41, ms105 hS, mt105 hS, mo_g48, ms109 hS, mt109 hS, il_s, bl_s, bl_z, ll_s, is_s, bs_s, bs_z, ls_s, al_s, al_b, al_l, fr_at, fr_fr, Nat.reduceEqDiff, tc_gf3_s, tc_ql2_s, tc_ws_0, tc_ws_i, tc_ws_l, tc_ws_r, Nat.reduceLeDiff, Nat.reduceAdd, Nat.reduceLT, true_and, and_true, if_true, if_false, tc_K, Option.toList_some, Option.toList_none, List.nil_append, List.cons_append, ite_true, ite_false, Int.cast_ofNat_Int, reduceIte, i3_add_eq, i3_sub_eq, Int.add_sub_cancel, Int.add_neg_cancel_right]) | (simp only [r238_5, r238_9, r238_30, r238_43, r238_74, i6_lt0, i6_0lt, i6_0le, i6_le0, i6_eq0, b10_0, ite_not, Int.reduceLT, Int.reduceLE, Int.reduceEq, Int.reduceNeg, if_true, if_false, ite_true, ite_false, reduceIte, eq_self, not_true, not_false_eq_true]; try refine tc_ite (fun _ => ?_) (fun _ => ?_) <;> try (exfalso; omega)))
        exact hq'
    · exfalso
      have := hgr _ hc.1 hc.2.1
      omega
  | succ m ih =>
    intro i d him hx h105 h109 hcur hq
    rcases hcur with hc | hc
    · have hq' := hq i d hx ⟨fun j hj => (h109 j hj).2, hc⟩
      simp only [r238_40]
      rw [hc]
      by_cases hki : k < i
      · rw [if_pos hki, ← (h109 (i - 1 - k.toNat) (by omega)).1, show ((i - 1 - k.toNat : Nat) : Int) = (i : Int) - 1 - k by omega] at hq'
        repeat' (first | (simp (disch := first | omega | exact Nat.le_of_ble_eq_true rfl | exact rfl | assumption | (simp only [fr_at, Nat.reduceEqDiff, if_false, if_true, reduceIte]; first | assumption | omega)) only [r238_0, r238_1, r238_2, v238_2_11, r238_8, r238_12, r238_13, r238_14, r238_15, r238_16, v238_16_11, r238_19, v238_19_11, r238_22, r238_23i, r238_24, r238_25, r238_28, r238_29, r238_33, r238_34, r238_37, r238_38i, r238_42, r238_46, r238_47, r238_50, r238_51, r238_53, r238_54i, r238_57, r238_58, r238_60, r238_61, v238_61_11, r238_64, v238_64_11, r238_67i, r238_69, r238_72, r238_73, r238_77, r238_78, r238_81, r238_82, r238_83, r238_84, r238_85, r238_86, r238_87, r238_90, r238_92, g11_103_11, g11_115_11, mo_len, ms75 hS, mt75 hS, mo_g41, ms105 hS, mt105 hS, mo_g48, ms109 hS, mt109 hS, il_s, bl_s, bl_z, ll_s, is_s, bs_s, bs_z, ls_s, al_s, al_b, al_l, fr_at, fr_fr, Nat.reduceEqDiff, tc_gf3_s, tc_ql2_s, tc_ws_0, tc_ws_i, tc_ws_l, tc_ws_r, Nat.reduceLeDiff, Nat.reduceAdd, Nat.reduceLT, true_and, and_true, if_true, if_false, tc_K, Option.toList_some, Option.toList_none, List.nil_append, List.cons_append, ite_true, ite_false, Int.cast_ofNat_Int, reduceIte, i3_add_eq, i3_sub_eq, Int.add_sub_cancel, Int.add_neg_cancel_right]) | (simp only [r238_5, r238_9, r238_30, r238_43, r238_74, i6_lt0, i6_0lt, i6_0le, i6_le0, i6_eq0, b10_0, ite_not, Int.reduceLT, Int.reduceLE, Int.reduceEq, Int.reduceNeg, if_true, if_false, ite_true, ite_false, reduceIte, eq_self, not_true, not_false_eq_true]; try refine tc_ite (fun _ => ?_) (fun _ => ?_) <;> try (exfalso; omega)))
        exact hq'
      · rw [if_neg hki] at hq'
        repeat' (first | (simp (disch := first | omega | exact Nat.le_of_ble_eq_true rfl | exact rfl | assumption | (simp only [fr_at, Nat.reduceEqDiff, if_false, if_true, reduceIte]; first | assumption | omega)) only [r238_0, r238_1, r238_2, v238_2_11, r238_8, r238_12, r238_13, r238_14, r238_15, r238_16, v238_16_11, r238_19, v238_19_11, r238_22, r238_23i, r238_24, r238_25, r238_28, r238_29, r238_33, r238_34, r238_37, r238_38i, r238_42, r238_46, r238_47, r238_50, r238_51, r238_53, r238_54i, r238_57, r238_58, r238_60, r238_61, v238_61_11, r238_64, v238_64_11, r238_67i, r238_69, r238_72, r238_73, r238_77, r238_78, r238_81, r238_82, r238_83, r238_84, r238_85, r238_86, r238_87, r238_90, r238_92, g11_103_11, g11_115_11, mo_len, ms75 hS, mt75 hS, mo_g41, ms105 hS, mt105 hS, mo_g48, ms109 hS, mt109 hS, il_s, bl_s, bl_z, ll_s, is_s, bs_s, bs_z, ls_s, al_s, al_b, al_l, fr_at, fr_fr, Nat.reduceEqDiff, tc_gf3_s, tc_ql2_s, tc_ws_0, tc_ws_i, tc_ws_l, tc_ws_r, Nat.reduceLeDiff, Nat.reduceAdd, Nat.reduceLT, true_and, and_true, if_true, if_false, tc_K, Option.toList_some, Option.toList_none, List.nil_append, List.cons_append, ite_true, ite_false, Int.cast_ofNat_Int, reduceIte, i3_add_eq, i3_sub_eq, Int.add_sub_cancel, Int.add_neg_cancel_right]) | (simp only [r238_5, r238_9, r238_30, r238_43, r238_74, i6_lt0, i6_0lt, i6_0le, i6_le0, i6_eq0, b10_0, ite_not, Int.reduceLT, Int.reduceLE, Int.reduceEq, Int.reduceNeg, if_true, if_false, ite_true, ite_false, reduceIte, eq_self, not_true, not_false_eq_true]; try refine tc_ite (fun _ => ?_) (fun _ => ?_) <;> try (exfalso; omega)))
        exact hq'
    · have e1 : pxs (whn (c 76 0) (c 76 0 * c 76 1) (c 77) T g) x0 (i + 1) = whn (c 76 0) (c 76 0 * c 76 1) (c 77) T g (pxs (whn (c 76 0) (c 76 0 * c 76 1) (c 77) T g) x0 i) := rfl
      have hgc := hgr _ hc.1 hc.2.1
      have hnx := whn_rng (F := T) (ht := c 77) hW hc.1 hc.2.1 (by omega : 1 ≤ g (pxs (whn (c 76 0) (c 76 0 * c 76 1) (c 77) T g) x0 i))
      rw [← e1] at hnx
      have ih' := ih (i + 1) (fr d 109 (fu (d 109) i (pxs (whn (c 76 0) (c 76 0 * c 76 1) (c 77) T g) x0 i))) (by omega) ?_ ?_ ?_ ?_ hq
      · rw [e1] at ih'
        rw [show ((i + 1 : Nat) : Int) = (i : Int) + 1 by omega] at ih'
        generalize pxs (whn (c 76 0) (c 76 0 * c 76 1) (c 77) T g) x0 i = y at ih' hc
        have xd := hx.1
        have r76 : fr d 109 (fu (d 109) i y) 76 = c 76 := by rw [fr_ne (by omega), xd 76 (by omega) (by omega)]
        have r77 : fr d 109 (fu (d 109) i y) 77 = c 77 := by rw [fr_ne (by omega), xd 77 (by omega) (by omega)]
        have r83 : fr d 109 (fu (d 109) i y) 83 = c 83 := by rw [fr_ne (by omega), xd 83 (by omega) (by omega)]
        have hbm : bm (fr d 109 (fu (d 109) i y)) = bm c := bm_ext r76 (by rw [fr_ne (by omega), xd _ (by omega) (by omega)]) (by rw [fr_ne (by omega), xd _ (by omega) (by omega)]) r83 (by rw [fr_ne (by omega), xd _ (by omega) (by omega)]) (by rw [fr_ne (by omega), xd _ (by omega) (by omega)])
        have h207 := fun Q => c207n (c := fr d 109 (fu (d 109) i y)) (d := fr d 109 (fu (d 109) i y)) (n := n) (Q := Q) hS (by rw [hbm]; exact hb) (GF.refl _) (w := c 76 8) (by rw [r76]) (by omega)
        simp only [hbm, hT] at h207
        have h239 := fun Q => c239 (c := fr d 109 (fu (d 109) i y)) (n := n) (Q := Q) (g := g) (x := y) (F := T) hS (by rw [r76]; exact hd) (by rw [r76]; exact hbd) (by rw [r76, r77]; exact hh) (by
          rw [r76]
          intro z z1 z2
          have := hgr z z1 z2
          exact ⟨by rw [fr_ne (by omega)]; exact h105 z z1 z2, by omega, by omega⟩) hc.1 (by rw [r76]; exact hc.2.1) (by omega)
        simp only [r76, r77] at h239
        simp only [r238_40]
        repeat' (first | (simp (disch := first | omega | exact Nat.le_of_ble_eq_true rfl | exact rfl | assumption | (simp only [fr_at, Nat.reduceEqDiff, if_false, if_true, reduceIte]; first | assumption | omega)) only [r238_0, r238_1, r238_2, v238_2_11, r238_8, r238_12, r238_13, r238_14, r238_15, r238_16, v238_16_11, r238_19, v238_19_11, r238_22, r238_23i, r238_24, r238_25, r238_28, r238_29, r238_33, r238_34, r238_37, r238_38i, r238_42, r238_46, r238_47, r238_50, r238_51, r238_53, r238_54i, r238_57, r238_58, r238_60, r238_61, v238_61_11, r238_64, v238_64_11, r238_67i, r238_69, r238_72, r238_73, r238_77, r238_78, r238_81, r238_82, r238_83, r238_84, r238_85, r238_86, r238_87, r238_90, r238_92, g11_103_11, g11_115_11, mo_len, ms75 hS, mt75 hS, mo_g41, ms105 hS, mt105 hS, mo_g48, ms109 hS, mt109 hS, il_s, bl_s, bl_z, ll_s, is_s, bs_s, bs_z, ls_s, al_s, al_b, al_l, fr_at, fr_fr, Nat.reduceEqDiff, tc_gf3_s, tc_ql2_s, tc_ws_0, tc_ws_i, tc_ws_l, tc_ws_r, Nat.reduceLeDiff, Nat.reduceAdd, Nat.reduceLT, true_and, and_true, if_true, if_false, tc_K, Option.toList_some, Option.toList_none, List.nil_append, List.cons_append, ite_true, ite_false, Int.cast_ofNat_Int, reduceIte, i3_add_eq, i3_sub_eq, Int.add_sub_cancel, Int.add_neg_cancel_right, h207, h239]) | (simp only [r238_5, r238_9, r238_30, r238_43, r238_74, i6_lt0, i6_0lt, i6_0le, i6_le0, i6_eq0, b10_0, ite_not, Int.reduceLT, Int.reduceLE, Int.reduceEq, Int.reduceNeg, if_true, if_false, ite_true, ite_false, reduceIte, eq_self, not_true, not_false_eq_true]; try refine tc_ite (fun _ => ?_) (fun _ => ?_) <;> try (exfalso; omega)))
        exact ih'
      · refine ⟨fun a a1 a2 => ?_, fun j j1 j2 j3 j4 => ?_, fun j j1 => ?_⟩
        · rw [fr_ne (by omega)]
          exact hx.1 a a1 a2
        · rw [fr_ne (by omega)]
          exact hx.2.1 j j1 j2 j3 j4
        · rw [fr_ne (by omega)]
          exact hx.2.2 j j1
      · intro y y1 y2
        rw [fr_ne (by omega)]
        exact h105 y y1 y2
      · intro j hj
        rw [fr_same]
        by_cases hji : j = i
        · rw [hji, fu_same]
          exact ⟨rfl, by omega⟩
        · rw [fu_ne (by omega)]
          exact h109 j (by omega)
      · omega
theorem c238 (hS : MS L sh) (hb : WB (bm c)) (hh : HT (c 76 0 * c 76 1) (c 77)) (h8 : 0 ≤ c 76 8 ∧ c 76 8 ≤ 900) {T : Int} (hT : tof (bm c) (c 76 8) = T) {g : Int → Int} (hg : g = stg (c 76 0) (c 76 0 * c 76 1) (c 77) T) {x k : Int} (hx : 0 ≤ x) (hx2 : x < c 76 0 * c 76 1) (hk : 0 ≤ k) (hk2 : k < 2147483648)
    (hq : ∀ (j : Nat) e, QX c e → WYS (pxs (whn (c 76 0) (c 76 0 * c 76 1) (c 77) T g) (if 0 < g x then x else -1)) j → Q (some (.inl (if k < j then pxs (whn (c 76 0) (c 76 0 * c 76 1) (c 77) T g) (if 0 < g x then x else -1) (j - 1 - k.toNat) else -2))) (hp L sh e) n) : tc_C 238 [rf 75, .inl x, .inl k] (hp L sh c) n Q := by
  show tc_W 238 0 [rf 75, .inl x, .inl k, tc_nil, tc_nil] [] _ _ Q
  obtain ⟨hd, hbd⟩ := hb.dm
  have hN := hd.m.1
  have hW : 2 ≤ c 76 0 ∧ c 76 0 ≤ 5 := ⟨hbd.1, hbd.2.1⟩
  have hT2 : 0 ≤ T ∧ T ≤ 20 := hT ▸ tof_rng hb (c 76 8)
  have hgr : ∀ y, 0 ≤ y → y < c 76 0 * c 76 1 → 0 ≤ g y ∧ g y ≤ T := fun y y1 y2 => by
    rw [hg]
    exact stg_rng hW hh hT2.1 y1 y2
  have h207 := fun Q => c207n (c := c) (d := c) (n := n) (Q := Q) hS hb (GF.refl c) (w := c 76 8) rfl (by omega)
  have h209 := fun Q => c209 (c := c) (n := n) (Q := Q) hS hd hbd hh (F := T) (by omega)
  simp only [hT] at h207
  simp only [← hg] at h209
  have egx : lay (c 76 0 * c 76 1) g (c 105) x = g x := lay_in ⟨hx, hx2⟩
  have hgx := hgr x hx hx2
  have hqx : QX c (fr c 105 (lay (c 76 0 * c 76 1) g (c 105))) := ⟨fun a a1 a2 => fr_ne (by omega), fun j j1 j2 j3 j4 => by rw [fr_ne (by omega)], fun j j1 => by rw [fr_ne (by omega)]⟩
  have h105 : ∀ y, 0 ≤ y → y < c 76 0 * c 76 1 → fr c 105 (lay (c 76 0 * c 76 1) g (c 105)) 105 y = g y := fun y y1 y2 => by
    rw [fr_same]
    exact lay_in ⟨y1, y2⟩
  have fin := fun x0 h1 h2 => c238_l (c := c) (n := n) (Q := Q) (x := x) (x0 := x0) hS hb hh h8 hT hT2 hgr hk 25 0 (fr c 105 (lay (c 76 0 * c 76 1) g (c 105))) (by omega) hqx h105 (fun j hj => by omega) h1 h2
  by_cases h0 : 0 < g x
  · rw [if_pos h0] at hq
    repeat' (first | (simp (disch := first | omega | exact Nat.le_of_ble_eq_true rfl | exact rfl | assumption | (simp only [fr_at, Nat.reduceEqDiff, if_false, if_true, reduceIte]; first | assumption | omega)) only [r238_0, r238_1, r238_2, v238_2_11, r238_8, r238_12, r238_13, r238_14, r238_15, r238_16, v238_16_11, r238_19, v238_19_11, r238_22, r238_23i, r238_24, r238_25, r238_28, r238_29, r238_33, r238_34, r238_37, r238_38i, r238_42, r238_46, r238_47, r238_50, r238_51, r238_53, r238_54i, r238_57, r238_58, r238_60, r238_61, v238_61_11, r238_64, v238_64_11, r238_67i, r238_69, r238_72, r238_73, r238_77, r238_78, r238_81, r238_82, r238_83, r238_84, r238_85, r238_86, r238_87, r238_90, r238_92, g11_103_11, g11_115_11, mo_len, ms75 hS, mt75 hS, mo_g41, ms105 hS, mt105 hS, mo_g48, ms109 hS, mt109 hS, il_s, bl_s, bl_z, ll_s, is_s, bs_s, bs_z, ls_s, al_s, al_b, al_l, fr_at, fr_fr, Nat.reduceEqDiff, tc_gf3_s, tc_ql2_s, tc_ws_0, tc_ws_i, tc_ws_l, tc_ws_r, Nat.reduceLeDiff, Nat.reduceAdd, Nat.reduceLT, true_and, and_true, if_true, if_false, tc_K, Option.toList_some, Option.toList_none, List.nil_append, List.cons_append, ite_true, ite_false, Int.cast_ofNat_Int, reduceIte, i3_add_eq, i3_sub_eq, Int.add_sub_cancel, Int.add_neg_cancel_right, c205 hS hd, h207, h209, egx]) | (simp only [r238_5, r238_9, r238_30, r238_43, r238_74, i6_lt0, i6_0lt, i6_0le, i6_le0, i6_eq0, b10_0, ite_not, Int.reduceLT, Int.reduceLE, Int.reduceEq, Int.reduceNeg, if_true, if_false, ite_true, ite_false, reduceIte, eq_self, not_true, not_false_eq_true]; try refine tc_ite (fun _ => ?_) (fun _ => ?_) <;> try (exfalso; omega)))
    exact fin x (Or.inr ⟨hx, hx2, by show (((0 : Nat) : Int) + 1 ≤ g x); omega⟩) hq
  · rw [if_neg h0] at hq
    repeat' (first | (simp (disch := first | omega | exact Nat.le_of_ble_eq_true rfl | exact rfl | assumption | (simp only [fr_at, Nat.reduceEqDiff, if_false, if_true, reduceIte]; first | assumption | omega)) only [r238_0, r238_1, r238_2, v238_2_11, r238_8, r238_12, r238_13, r238_14, r238_15, r238_16, v238_16_11, r238_19, v238_19_11, r238_22, r238_23i, r238_24, r238_25, r238_28, r238_29, r238_33, r238_34, r238_37, r238_38i, r238_42, r238_46, r238_47, r238_50, r238_51, r238_53, r238_54i, r238_57, r238_58, r238_60, r238_61, v238_61_11, r238_64, v238_64_11, r238_67i, r238_69, r238_72, r238_73, r238_77, r238_78, r238_81, r238_82, r238_83, r238_84, r238_85, r238_86, r238_87, r238_90, r238_92, g11_103_11, g11_115_11, mo_len, ms75 hS, mt75 hS, mo_g41, ms105 hS, mt105 hS, mo_g48, ms109 hS, mt109 hS, il_s, bl_s, bl_z, ll_s, is_s, bs_s, bs_z, ls_s, al_s, al_b, al_l, fr_at, fr_fr, Nat.reduceEqDiff, tc_gf3_s, tc_ql2_s, tc_ws_0, tc_ws_i, tc_ws_l, tc_ws_r, Nat.reduceLeDiff, Nat.reduceAdd, Nat.reduceLT, true_and, and_true, if_true, if_false, tc_K, Option.toList_some, Option.toList_none, List.nil_append, List.cons_append, ite_true, ite_false, Int.cast_ofNat_Int, reduceIte, i3_add_eq, i3_sub_eq, Int.add_sub_cancel, Int.add_neg_cancel_right, c205 hS hd, h207, h209, egx]) | (simp only [r238_5, r238_9, r238_30, r238_43, r238_74, i6_lt0, i6_0lt, i6_0le, i6_le0, i6_eq0, b10_0, ite_not, Int.reduceLT, Int.reduceLE, Int.reduceEq, Int.reduceNeg, if_true, if_false, ite_true, ite_false, reduceIte, eq_self, not_true, not_false_eq_true]; try refine tc_ite (fun _ => ?_) (fun _ => ?_) <;> try (exfalso; omega)))
    exact fin (-1) (Or.inl rfl) hq
end MOD17

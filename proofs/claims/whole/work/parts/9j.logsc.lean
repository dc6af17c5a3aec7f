/-! the class: HEIGHTS that were told -/
def lsw (lw : Int → Int) : Nat → Int
  | 0 => -1
  | k + 1 => if lsw lw k < lw k then lw k else lsw lw k
theorem lsw_le {lw : Int → Int} : ∀ {m : Nat}, -1 ≤ lsw lw m ∧ ∀ k : Int, 0 ≤ k → k < m → lw k ≤ lsw lw m := by
  intro m
  induction m with
  | zero => exact ⟨Int.le_refl _, fun k k1 k2 => by omega⟩
  | succ m ih =>
    unfold lsw
    by_cases h : lsw lw m < lw m
    · rw [if_pos h]
      refine ⟨by omega, fun k k1 k2 => ?_⟩
      by_cases hk : k = m
      · rw [hk]
        exact Int.le_refl _
      · have := ih.2 k k1 (by omega)
        omega
    · rw [if_neg h]
      refine ⟨ih.1, fun k k1 k2 => ?_⟩
      by_cases hk : k = m
      · rw [hk]
        omega
      · exact ih.2 k k1 (by omega)
theorem lsw_rng {lw : Int → Int} {B : Int} : ∀ {m : Nat}, (∀ k : Int, 0 ≤ k → k < m → 0 ≤ lw k ∧ lw k ≤ B) → -1 ≤ B → lsw lw m ≤ B := by
  intro m
  induction m with
  | zero => intro _ h; exact h
  | succ m ih =>
    intro h hB
    have h1 := ih (fun k k1 k2 => h k k1 (by omega)) hB
    have h2 := h m (by omega) (by omega)
    unfold lsw
    split <;> omega
theorem lgo_hi {lw lc lh ht : Int → Int} {w : Int} : ∀ {m : Nat}, (∀ k : Int, 0 ≤ k → k < m → lw k < w) → lgo lw lc lh ht w m = 1 := by
  intro m
  induction m with
  | zero => intro _; rfl
  | succ m ih =>
    intro h
    have h1 := ih fun k k1 k2 => h k k1 (by omega)
    have h2 := h m (by omega) (by omega)
    unfold lgo
    rw [if_pos ⟨h1, Or.inl (by omega)⟩]
theorem crn_0 {b : Nat → Int → Int} {la : Option Law} {lw lc lh : Int → Int} {m : Nat} {j : Nat} (h : crn b la lw lc lh m j = 0) : ∀ d : Nat, crn b la lw lc lh m (j + d) = 0 := by
  intro d
  induction d with
  | zero => exact h
  | succ d ih =>
    show (if crn b la lw lc lh m (j + d) = 1 ∧ lgo lw lc lh (gos b la (bgn b) (j + d) 0) ((j + d : Nat) : Int) m = 1 then (1 : Int) else 0) = 0
    rw [ih, if_neg (by omega)]
theorem crn_1 {b : Nat → Int → Int} {la : Option Law} {lw lc lh : Int → Int} {m : Nat} {j : Nat} (h : crn b la lw lc lh m j = 1) (hl : ∀ k : Int, 0 ≤ k → k < m → lw k < j) : ∀ d : Nat, crn b la lw lc lh m (j + d) = 1 := by
  intro d
  induction d with
  | zero => exact h
  | succ d ih =>
    show (if crn b la lw lc lh m (j + d) = 1 ∧ lgo lw lc lh (gos b la (bgn b) (j + d) 0) ((j + d : Nat) : Int) m = 1 then (1 : Int) else 0) = 1
    rw [if_pos ⟨ih, lgo_hi fun k k1 k2 => by have := hl k k1 k2; omega⟩]
section LOGSC
variable {L : Nat} {sh : Nat → SH} {c : Nat → Int → Int} {n : Nat} {Q : Option AV → List SC → Nat → Prop} {r s lg : Nat} {lo : Option Nat} {b σ : Nat → Int → Int} {la : Option Law} {k : Prop}
theorem c89 (hE : SeaS L sh (some s) lo) (hSh : ShoS L sh s) (hs : s = 30 ∨ 115 ≤ s) (hR : SanS L sh r) (hr : AP r s) (hb : WB b) (hw : WS b σ) (hl : LA L sh c lo la) (hal : ∀ lr, lo = some lr → 115 ≤ lr) (hB : SHO b s c) (hσ : SAN k b r c σ) (h9 : σ 4 0 < 900)
    (hq : ∀ e, (∀ a, ¬ a = 50 → ¬ a = 52 → ¬ a = 53 → ¬ a = 54 → ¬ a = 55 → ¬ a = r → ¬ a = r + 1 → ¬ a = r + 3 → e a = c a) → SAN k b r e (stp b σ la (tof b (σ 4 0))) → Q (some (.inl (sm (nws (sgb b σ (tof b (σ 4 0)))) (b 0 0 * b 0 1).toNat))) (hp L sh e) n) : tc_C 89 [rf 49, rf r] (hp L sh c) n Q := by
  have h0 := hw.2.2.2.1
  have e6 := hσ.2.2.2.2.2
  have h76 := fun Q => c76b (c := c) (n := n) (Q := Q) (w := σ 4 0) hSh hb hB (by omega)
  have htf := tof_rng hb (σ 4 0)
  show tc_W 89 0 [rf 49, rf r] [] _ _ Q
  repeat' (simp (disch := first | omega | exact Nat.le_of_ble_eq_true rfl | exact rfl | assumption | (simp (disch := omega) only [fr_ne, fr_same]; first | assumption | omega)) only [r89_0, r89_1, r89_2, r89_3, r89_6, r89_7, r89_10, v89_10_8, r89_13, v89_13_7, r89_16, g7_9_7, g7_66_5, o7_len, o7_g0, o5_len, o5_g6, il_s, bl_s, bl_z, ll_s, is_s, bs_s, bs_z, ls_s, al_s, al_b, al_l, fr_ne, fr_same, fr_fr, Nat.reduceEqDiff, tc_gf3_s, tc_ql2_s, tc_ws_0, tc_ws_i, tc_ws_l, tc_ws_r, Nat.reduceLeDiff, Nat.reduceAdd, Nat.reduceLT, true_and, and_true, if_true, if_false, tc_K, Option.toList_some, Option.toList_none, List.nil_append, List.cons_append, ite_true, ite_false, Int.cast_ofNat_Int, reduceIte, i3_add_eq, i3_sub_eq, Int.add_sub_cancel, Int.add_neg_cancel_right, SeaS_g0 hE, SeaS_s0 hE, SeaS_g1 hE, SeaS_s1 hE, SeaS_g2 hE, SeaS_s2 hE, SeaS_g3 hE, SeaS_s3 hE, SeaS_g4 hE, SeaS_s4 hE, SeaS_g5 hE, SeaS_s5 hE, SeaS_g6 hE, SeaS_s6 hE, ShoS_g0 hSh, ShoS_s0 hSh, ShoS_g1 hSh, ShoS_s1 hSh, ShoS_g2 hSh, ShoS_s2 hSh, ShoS_g3 hSh, ShoS_s3 hSh, ShoS_g4 hSh, ShoS_s4 hSh, ShoS_g5 hSh, ShoS_s5 hSh, ShoS_g6 hSh, ShoS_s6 hSh, ShoS_g7 hSh, ShoS_s7 hSh, SanS_g0 hR, SanS_s0 hR, SanS_g1 hR, SanS_s1 hR, SanS_g2 hR, SanS_s2 hR, SanS_g3 hR, SanS_s3 hR, e6, h76])
  refine c90 (F := tof b (σ 4 0)) hE hSh hs hR hr hb hw hl hal hB hσ (by omega) h9 ?_
  intro e h1 h2
  repeat' (simp (disch := first | omega | exact Nat.le_of_ble_eq_true rfl | exact rfl | assumption | (simp (disch := omega) only [fr_ne, fr_same]; first | assumption | omega)) only [r89_0, r89_1, r89_2, r89_3, r89_6, r89_7, r89_10, v89_10_8, r89_13, v89_13_7, r89_16, g7_9_7, g7_66_5, o7_len, o7_g0, o5_len, o5_g6, il_s, bl_s, bl_z, ll_s, is_s, bs_s, bs_z, ls_s, al_s, al_b, al_l, fr_ne, fr_same, fr_fr, Nat.reduceEqDiff, tc_gf3_s, tc_ql2_s, tc_ws_0, tc_ws_i, tc_ws_l, tc_ws_r, Nat.reduceLeDiff, Nat.reduceAdd, Nat.reduceLT, true_and, and_true, if_true, if_false, tc_K, Option.toList_some, Option.toList_none, List.nil_append, List.cons_append, ite_true, ite_false, Int.cast_ofNat_Int, reduceIte, i3_add_eq, i3_sub_eq, Int.add_sub_cancel, Int.add_neg_cancel_right])
  exact hq e h1 h2
theorem c146 (hG : LogS L sh lg) {m : Int} (hm : 0 ≤ m ∧ m ≤ 10) (h3 : c lg 3 = m) : tc_C 146 [rf lg] (hp L sh c) n Q = Q (some (.inl (lsw (c (lg + 1)) m.toNat))) (hp L sh c) n := tc_det fun Q hq => by
  show tc_W 146 0 [rf lg, tc_nil, tc_nil] [] _ _ Q
  repeat' (first | (simp (disch := first | omega | exact Nat.le_of_ble_eq_true rfl | exact rfl | assumption | (simp (disch := omega) only [fr_ne, fr_same]; first | assumption | omega)) only [r146_0, r146_1r, r146_2, r146_3i, r146_5, r146_6, r146_12, r146_13, r146_14, r146_17, r146_18, r146_19, r146_22r, r146_23i, r146_26, r146_29, r146_30, g3_21_3, g3_9_3, o3_len, o3_g3, o3_g0, il_s, bl_s, bl_z, ll_s, is_s, bs_s, bs_z, ls_s, al_s, al_b, al_l, fr_ne, fr_same, fr_fr, Nat.reduceEqDiff, tc_gf3_s, tc_ql2_s, tc_ws_0, tc_ws_i, tc_ws_l, tc_ws_r, Nat.reduceLeDiff, Nat.reduceAdd, Nat.reduceLT, true_and, and_true, if_true, if_false, tc_K, Option.toList_some, Option.toList_none, List.nil_append, List.cons_append, ite_true, ite_false, Int.cast_ofNat_Int, reduceIte, i3_add_eq, i3_sub_eq, Int.add_sub_cancel, Int.add_neg_cancel_right]) | (simp only [r146_9, i6_lt0, i6_0lt, i6_0le, i6_le0, i6_eq0, b10_0, ite_not, Int.reduceLT, Int.reduceLE, Int.reduceEq, Int.reduceNeg, if_true, if_false, ite_true, ite_false, reduceIte, eq_self, not_true, not_false_eq_true]; try refine tc_ite (fun _ => ?_) (fun _ => ?_) <;> try (exfalso; omega)))
  refine upI (N := m) (P := fun i => tc_W 146 4 [rf lg, .inl (lsw (c (lg + 1)) i.toNat), .inl i] [] (hp L sh c) n Q) hm.1 ?_ ?_
  · intro i hi hi2 ih
    have e : lsw (c (lg + 1)) (i + 1).toNat = if lsw (c (lg + 1)) i.toNat < c (lg + 1) i then c (lg + 1) i else lsw (c (lg + 1)) i.toNat := by
      rw [show (i + 1).toNat = i.toNat + 1 by omega]
      show (if lsw (c (lg + 1)) i.toNat < c (lg + 1) (i.toNat : Int) then c (lg + 1) (i.toNat : Int) else lsw (c (lg + 1)) i.toNat) = _
      rw [Int.toNat_of_nonneg hi]
    rw [e] at ih
    simp only [r146_4]
    repeat' (first | (simp (disch := first | omega | exact Nat.le_of_ble_eq_true rfl | exact rfl | assumption | (simp (disch := omega) only [fr_ne, fr_same]; first | assumption | omega)) only [r146_0, r146_1r, r146_2, r146_3i, r146_5, r146_6, r146_12, r146_13, r146_14, r146_17, r146_18, r146_19, r146_22r, r146_23i, r146_26, r146_29, r146_30, g3_21_3, g3_9_3, o3_len, o3_g3, o3_g0, il_s, bl_s, bl_z, ll_s, is_s, bs_s, bs_z, ls_s, al_s, al_b, al_l, fr_ne, fr_same, fr_fr, Nat.reduceEqDiff, tc_gf3_s, tc_ql2_s, tc_ws_0, tc_ws_i, tc_ws_l, tc_ws_r, Nat.reduceLeDiff, Nat.reduceAdd, Nat.reduceLT, true_and, and_true, if_true, if_false, tc_K, Option.toList_some, Option.toList_none, List.nil_append, List.cons_append, ite_true, ite_false, Int.cast_ofNat_Int, reduceIte, i3_add_eq, i3_sub_eq, Int.add_sub_cancel, Int.add_neg_cancel_right, LogS_g0 hG, LogS_s0 hG, LogS_g1 hG, LogS_s1 hG, LogS_g2 hG, LogS_s2 hG, LogS_g3 hG, LogS_s3 hG, h3]) | (simp only [r146_9, i6_lt0, i6_0lt, i6_0le, i6_le0, i6_eq0, b10_0, ite_not, Int.reduceLT, Int.reduceLE, Int.reduceEq, Int.reduceNeg, if_true, if_false, ite_true, ite_false, reduceIte, eq_self, not_true, not_false_eq_true]; try refine tc_ite (fun _ => ?_) (fun _ => ?_) <;> try (exfalso; omega)))
    exact ih
  · simp only [r146_4]
    repeat' (first | (simp (disch := first | omega | exact Nat.le_of_ble_eq_true rfl | exact rfl | assumption | (simp (disch := omega) only [fr_ne, fr_same]; first | assumption | omega)) only [r146_0, r146_1r, r146_2, r146_3i, r146_5, r146_6, r146_12, r146_13, r146_14, r146_17, r146_18, r146_19, r146_22r, r146_23i, r146_26, r146_29, r146_30, g3_21_3, g3_9_3, o3_len, o3_g3, o3_g0, il_s, bl_s, bl_z, ll_s, is_s, bs_s, bs_z, ls_s, al_s, al_b, al_l, fr_ne, fr_same, fr_fr, Nat.reduceEqDiff, tc_gf3_s, tc_ql2_s, tc_ws_0, tc_ws_i, tc_ws_l, tc_ws_r, Nat.reduceLeDiff, Nat.reduceAdd, Nat.reduceLT, true_and, and_true, if_true, if_false, tc_K, Option.toList_some, Option.toList_none, List.nil_append, List.cons_append, ite_true, ite_false, Int.cast_ofNat_Int, reduceIte, i3_add_eq, i3_sub_eq, Int.add_sub_cancel, Int.add_neg_cancel_right, LogS_g0 hG, LogS_s0 hG, LogS_g1 hG, LogS_s1 hG, LogS_g2 hG, LogS_s2 hG, LogS_g3 hG, LogS_s3 hG, h3]) | (simp only [r146_9, i6_lt0, i6_0lt, i6_0le, i6_le0, i6_eq0, b10_0, ite_not, Int.reduceLT, Int.reduceLE, Int.reduceEq, Int.reduceNeg, if_true, if_false, ite_true, ite_false, reduceIte, eq_self, not_true, not_false_eq_true]; try refine tc_ite (fun _ => ?_) (fun _ => ?_) <;> try (exfalso; omega)))
    exact hq
theorem c147 (hG : LogS L sh lg) {hr : Nat} (hH : sh hr = (0, 25, [])) (hrL : hr < L) {m w : Int} (hm : 0 ≤ m ∧ m ≤ 10) (h3 : c lg 3 = m) (hcl : ∀ k : Int, 0 ≤ k → k < m → 0 ≤ c (lg + 2) k ∧ c (lg + 2) k < 25) : tc_C 147 [rf lg, .inl w, rf hr] (hp L sh c) n Q = Q (some (.inl (lgo (c (lg + 1)) (c (lg + 2)) (c (lg + 3)) (c hr) w m.toNat))) (hp L sh c) n := tc_det fun Q hq => by
  show tc_W 147 0 [rf lg, .inl w, rf hr, tc_nil] [] _ _ Q
  repeat' (first | (simp (disch := first | omega | exact Nat.le_of_ble_eq_true rfl | exact rfl | assumption | (simp (disch := omega) only [fr_ne, fr_same]; first | assumption | omega)) only [r147_0, r147_1r, r147_3, r147_4, r147_10, r147_11, r147_14, r147_15, r147_16, r147_20, r147_21, r147_22, r147_25, r147_26, r147_27, r147_28, r147_29, r147_32, r147_33, r147_37, r147_38h, r147_38f, r147_38t, r147_39r, r147_42, r147_45, r147_46h, r147_46f, r147_46t, g3_21_3, g3_9_3, g3_15_3, g3_18_3, o3_len, o3_g3, o3_g0, o3_g1, o3_g2, il_s, bl_s, bl_z, ll_s, is_s, bs_s, bs_z, ls_s, al_s, al_b, al_l, fr_ne, fr_same, fr_fr, Nat.reduceEqDiff, tc_gf3_s, tc_ql2_s, tc_ws_0, tc_ws_i, tc_ws_l, tc_ws_r, Nat.reduceLeDiff, Nat.reduceAdd, Nat.reduceLT, true_and, and_true, if_true, if_false, tc_K, Option.toList_some, Option.toList_none, List.nil_append, List.cons_append, ite_true, ite_false, Int.cast_ofNat_Int, reduceIte, i3_add_eq, i3_sub_eq, Int.add_sub_cancel, Int.add_neg_cancel_right]) | (simp only [r147_7, r147_17, r147_34, i6_lt0, i6_0lt, i6_0le, i6_le0, i6_eq0, b10_0, ite_not, Int.reduceLT, Int.reduceLE, Int.reduceEq, Int.reduceNeg, if_true, if_false, ite_true, ite_false, reduceIte, eq_self, not_true, not_false_eq_true]; try refine tc_ite (fun _ => ?_) (fun _ => ?_) <;> try (exfalso; omega)))
  have stay0 : ∀ i d : Nat, lgo (c (lg + 1)) (c (lg + 2)) (c (lg + 3)) (c hr) w i = 0 → lgo (c (lg + 1)) (c (lg + 2)) (c (lg + 3)) (c hr) w (i + d) = 0 := by
    intro i d h
    induction d with
    | zero => exact h
    | succ d ih =>
      show (if lgo (c (lg + 1)) (c (lg + 2)) (c (lg + 3)) (c hr) w (i + d) = 1 ∧ _ then (1 : Int) else 0) = 0
      exact if_neg fun h => by
        have := h.1
        omega
  refine lq_1 (N := m) (P := fun i (_ : Unit) => tc_W 147 2 [rf lg, .inl w, rf hr, .inl i] [] (hp L sh c) n Q) (I := fun i _ => lgo (c (lg + 1)) (c (lg + 2)) (c (lg + 3)) (c hr) w i.toNat = 1) ?_ ?_ 0 () (by omega) hm.1 rfl
  · intro i _ hi hi2 hJ ih
    have hc := hcl i hi hi2
    have e : lgo (c (lg + 1)) (c (lg + 2)) (c (lg + 3)) (c hr) w (i + 1).toNat = if lgo (c (lg + 1)) (c (lg + 2)) (c (lg + 3)) (c hr) w i.toNat = 1 ∧ (¬ c (lg + 1) i = w ∨ c hr (c (lg + 2) i) = c (lg + 3) i) then 1 else 0 := by
      rw [show (i + 1).toNat = i.toNat + 1 by omega]
      show (if lgo (c (lg + 1)) (c (lg + 2)) (c (lg + 3)) (c hr) w i.toNat = 1 ∧ (¬ c (lg + 1) (i.toNat : Int) = w ∨ c hr (c (lg + 2) (i.toNat : Int)) = c (lg + 3) (i.toNat : Int)) then 1 else 0) = _
      rw [Int.toNat_of_nonneg hi]
    simp only [r147_2]
    by_cases hok : ¬ c (lg + 1) i = w ∨ c hr (c (lg + 2) i) = c (lg + 3) i
    · rw [if_pos ⟨hJ, hok⟩] at e
      repeat' (first | (simp (disch := first | omega | exact Nat.le_of_ble_eq_true rfl | exact rfl | assumption | (simp (disch := omega) only [fr_ne, fr_same]; first | assumption | omega)) only [r147_0, r147_1r, r147_3, r147_4, r147_10, r147_11, r147_14, r147_15, r147_16, r147_20, r147_21, r147_22, r147_25, r147_26, r147_27, r147_28, r147_29, r147_32, r147_33, r147_37, r147_38h, r147_38f, r147_38t, r147_39r, r147_42, r147_45, r147_46h, r147_46f, r147_46t, g3_21_3, g3_9_3, g3_15_3, g3_18_3, o3_len, o3_g3, o3_g0, o3_g1, o3_g2, il_s, bl_s, bl_z, ll_s, is_s, bs_s, bs_z, ls_s, al_s, al_b, al_l, fr_ne, fr_same, fr_fr, Nat.reduceEqDiff, tc_gf3_s, tc_ql2_s, tc_ws_0, tc_ws_i, tc_ws_l, tc_ws_r, Nat.reduceLeDiff, Nat.reduceAdd, Nat.reduceLT, true_and, and_true, if_true, if_false, tc_K, Option.toList_some, Option.toList_none, List.nil_append, List.cons_append, ite_true, ite_false, Int.cast_ofNat_Int, reduceIte, i3_add_eq, i3_sub_eq, Int.add_sub_cancel, Int.add_neg_cancel_right, LogS_g0 hG, LogS_s0 hG, LogS_g1 hG, LogS_s1 hG, LogS_g2 hG, LogS_s2 hG, LogS_g3 hG, LogS_s3 hG, hI hrL hH, h3]) | (simp only [r147_7, r147_17, r147_34, i6_lt0, i6_0lt, i6_0le, i6_le0, i6_eq0, b10_0, ite_not, Int.reduceLT, Int.reduceLE, Int.reduceEq, Int.reduceNeg, if_true, if_false, ite_true, ite_false, reduceIte, eq_self, not_true, not_false_eq_true]; try refine tc_ite (fun _ => ?_) (fun _ => ?_) <;> try (exfalso; omega)))
      all_goals first
        | exact ih () e
        | omega
    · rw [if_neg (fun h => hok h.2)] at e
      have hz := stay0 (i + 1).toNat (m.toNat - (i + 1).toNat) e
      rw [show (i + 1).toNat + (m.toNat - (i + 1).toNat) = m.toNat by omega] at hz
      rw [hz] at hq
      repeat' (first | (simp (disch := first | omega | exact Nat.le_of_ble_eq_true rfl | exact rfl | assumption | (simp (disch := omega) only [fr_ne, fr_same]; first | assumption | omega)) only [r147_0, r147_1r, r147_3, r147_4, r147_10, r147_11, r147_14, r147_15, r147_16, r147_20, r147_21, r147_22, r147_25, r147_26, r147_27, r147_28, r147_29, r147_32, r147_33, r147_37, r147_38h, r147_38f, r147_38t, r147_39r, r147_42, r147_45, r147_46h, r147_46f, r147_46t, g3_21_3, g3_9_3, g3_15_3, g3_18_3, o3_len, o3_g3, o3_g0, o3_g1, o3_g2, il_s, bl_s, bl_z, ll_s, is_s, bs_s, bs_z, ls_s, al_s, al_b, al_l, fr_ne, fr_same, fr_fr, Nat.reduceEqDiff, tc_gf3_s, tc_ql2_s, tc_ws_0, tc_ws_i, tc_ws_l, tc_ws_r, Nat.reduceLeDiff, Nat.reduceAdd, Nat.reduceLT, true_and, and_true, if_true, if_false, tc_K, Option.toList_some, Option.toList_none, List.nil_append, List.cons_append, ite_true, ite_false, Int.cast_ofNat_Int, reduceIte, i3_add_eq, i3_sub_eq, Int.add_sub_cancel, Int.add_neg_cancel_right, LogS_g0 hG, LogS_s0 hG, LogS_g1 hG, LogS_s1 hG, LogS_g2 hG, LogS_s2 hG, LogS_g3 hG, LogS_s3 hG, hI hrL hH, h3]) | (simp only [r147_7, r147_17, r147_34, i6_lt0, i6_0lt, i6_0le, i6_le0, i6_eq0, b10_0, ite_not, Int.reduceLT, Int.reduceLE, Int.reduceEq, Int.reduceNeg, if_true, if_false, ite_true, ite_false, reduceIte, eq_self, not_true, not_false_eq_true]; try refine tc_ite (fun _ => ?_) (fun _ => ?_) <;> try (exfalso; omega)))
      all_goals first
        | exact hq
        | omega
  · intro _ hJ
    rw [hJ] at hq
    simp only [r147_2]
    repeat' (first | (simp (disch := first | omega | exact Nat.le_of_ble_eq_true rfl | exact rfl | assumption | (simp (disch := omega) only [fr_ne, fr_same]; first | assumption | omega)) only [r147_0, r147_1r, r147_3, r147_4, r147_10, r147_11, r147_14, r147_15, r147_16, r147_20, r147_21, r147_22, r147_25, r147_26, r147_27, r147_28, r147_29, r147_32, r147_33, r147_37, r147_38h, r147_38f, r147_38t, r147_39r, r147_42, r147_45, r147_46h, r147_46f, r147_46t, g3_21_3, g3_9_3, g3_15_3, g3_18_3, o3_len, o3_g3, o3_g0, o3_g1, o3_g2, il_s, bl_s, bl_z, ll_s, is_s, bs_s, bs_z, ls_s, al_s, al_b, al_l, fr_ne, fr_same, fr_fr, Nat.reduceEqDiff, tc_gf3_s, tc_ql2_s, tc_ws_0, tc_ws_i, tc_ws_l, tc_ws_r, Nat.reduceLeDiff, Nat.reduceAdd, Nat.reduceLT, true_and, and_true, if_true, if_false, tc_K, Option.toList_some, Option.toList_none, List.nil_append, List.cons_append, ite_true, ite_false, Int.cast_ofNat_Int, reduceIte, i3_add_eq, i3_sub_eq, Int.add_sub_cancel, Int.add_neg_cancel_right, LogS_g0 hG, LogS_s0 hG, LogS_g1 hG, LogS_s1 hG, LogS_g2 hG, LogS_s2 hG, LogS_g3 hG, LogS_s3 hG, h3]) | (simp only [r147_7, r147_17, r147_34, i6_lt0, i6_0lt, i6_0le, i6_le0, i6_eq0, b10_0, ite_not, Int.reduceLT, Int.reduceLE, Int.reduceEq, Int.reduceNeg, if_true, if_false, ite_true, ite_false, reduceIte, eq_self, not_true, not_false_eq_true]; try refine tc_ite (fun _ => ?_) (fun _ => ?_) <;> try (exfalso; omega)))
    exact hq
theorem c145 (hE : SeaS L sh (some s) lo) (hSh : ShoS L sh s) (hs : s = 30 ∨ 115 ≤ s) (hR : SanS L sh r) (hr : AP r s) (hG : LogS L sh lg) (hrg : lg + 3 < r ∨ r + 3 < lg) (hlg5 : lg + 3 < 49 ∨ 55 < lg) (hb : WB b) (hl : LA L sh c lo la) (hal : ∀ lr, lo = some lr → 115 ≤ lr ∧ (r + 3 < lr ∨ lr + 2 < r)) (hB : SHO b s c) {m : Int} (hm : 0 ≤ m ∧ m ≤ 10) (h3 : c lg 3 = m) (hlo : ∀ k : Int, 0 ≤ k → k < m → (0 ≤ c (lg + 2) k ∧ c (lg + 2) k < b 0 0 * b 0 1) ∧ (0 ≤ c (lg + 1) k ∧ c (lg + 1) k ≤ 60))
    (hq : ∀ e, (∀ a, ¬ a = 50 → ¬ a = 52 → ¬ a = 53 → ¬ a = 54 → ¬ a = 55 → (a < r ∨ r + 3 < a) → e a = c a) → Q (some (.inl (crn b la (c (lg + 1)) (c (lg + 2)) (c (lg + 3)) m.toNat 61))) (hp L sh e) n) : tc_C 145 [rf lg, rf 49, rf r] (hp L sh c) n Q := by
  obtain ⟨hr1, hr2⟩ := id hr
  have hN := hb.n25
  have hwb := bgn_ws hb
  have hll := lsw_le (lw := c (lg + 1)) (m := m.toNat)
  have hlr := lsw_rng (lw := c (lg + 1)) (B := 60) (m := m.toNat) (fun k k1 k2 => (hlo k k1 (by omega)).2) (by omega)
  have hap := hr2
  show tc_W 145 0 [rf lg, rf 49, rf r, tc_nil, tc_nil] [] _ _ Q
  repeat' (first | (simp (disch := first | omega | exact Nat.le_of_ble_eq_true rfl | exact rfl | assumption | (simp (disch := omega) only [fr_ne, fr_same]; first | assumption | omega)) only [r145_0, r145_1, r145_2, r145_5, v145_5_5, r145_8, r145_9, v145_9_3, r145_12r, r145_13, r145_14i, r145_18, r145_22, r145_23, r145_25, r145_26, r145_29, v145_29_3, r145_35, r145_36h, r145_36f, r145_36t, r145_37, r145_39, r145_43, r145_44, r145_45, v145_45_7, r145_48, r145_48A, r145_49i, r145_52, r145_55, r145_56h, r145_56f, r145_56t, g3_31_7, g3_47_5, o7_len, o7_g0, o5_len, o5_g0, il_s, bl_s, bl_z, ll_s, is_s, bs_s, bs_z, ls_s, al_s, al_b, al_l, fr_ne, fr_same, fr_fr, Nat.reduceEqDiff, tc_gf3_s, tc_ql2_s, tc_ws_0, tc_ws_i, tc_ws_l, tc_ws_r, Nat.reduceLeDiff, Nat.reduceAdd, Nat.reduceLT, true_and, and_true, if_true, if_false, tc_K, Option.toList_some, Option.toList_none, List.nil_append, List.cons_append, ite_true, ite_false, Int.cast_ofNat_Int, reduceIte, i3_add_eq, i3_sub_eq, Int.add_sub_cancel, Int.add_neg_cancel_right, SeaS_g0 hE, SeaS_s0 hE, SeaS_g1 hE, SeaS_s1 hE, SeaS_g2 hE, SeaS_s2 hE, SeaS_g3 hE, SeaS_s3 hE, SeaS_g4 hE, SeaS_s4 hE, SeaS_g5 hE, SeaS_s5 hE, SeaS_g6 hE, SeaS_s6 hE, SanS_g0 hR, SanS_s0 hR, SanS_g1 hR, SanS_s1 hR, SanS_g2 hR, SanS_s2 hR, SanS_g3 hR, SanS_s3 hR]) | (simp only [r145_19, r145_32, r145_40, i6_lt0, i6_0lt, i6_0le, i6_le0, i6_eq0, b10_0, ite_not, Int.reduceLT, Int.reduceLE, Int.reduceEq, Int.reduceNeg, if_true, if_false, ite_true, ite_false, reduceIte, eq_self, not_true, not_false_eq_true]; try refine tc_ite (fun _ => ?_) (fun _ => ?_) <;> try (exfalso; omega)))
  refine c48 hR hSh hap hb hB ?_
  intro e1 g1 g2
  have h146 := fun Q => c146 (c := e1) (n := n) (Q := Q) (m := m) hG hm (by rw [g1 lg (by omega)]; exact h3)
  rw [g1 (lg + 1) (by omega)] at h146
  generalize hlast : lsw (c (lg + 1)) m.toNat = last at h146 hll hlr
  repeat' (first | (simp (disch := first | omega | exact Nat.le_of_ble_eq_true rfl | exact rfl | assumption | (simp (disch := omega) only [fr_ne, fr_same]; first | assumption | omega)) only [r145_0, r145_1, r145_2, r145_5, v145_5_5, r145_8, r145_9, v145_9_3, r145_12r, r145_13, r145_14i, r145_18, r145_22, r145_23, r145_25, r145_26, r145_29, v145_29_3, r145_35, r145_36h, r145_36f, r145_36t, r145_37, r145_39, r145_43, r145_44, r145_45, v145_45_7, r145_48, r145_48A, r145_49i, r145_52, r145_55, r145_56h, r145_56f, r145_56t, g3_31_7, g3_47_5, o7_len, o7_g0, o5_len, o5_g0, il_s, bl_s, bl_z, ll_s, is_s, bs_s, bs_z, ls_s, al_s, al_b, al_l, fr_ne, fr_same, fr_fr, Nat.reduceEqDiff, tc_gf3_s, tc_ql2_s, tc_ws_0, tc_ws_i, tc_ws_l, tc_ws_r, Nat.reduceLeDiff, Nat.reduceAdd, Nat.reduceLT, true_and, and_true, if_true, if_false, tc_K, Option.toList_some, Option.toList_none, List.nil_append, List.cons_append, ite_true, ite_false, Int.cast_ofNat_Int, reduceIte, i3_add_eq, i3_sub_eq, Int.add_sub_cancel, Int.add_neg_cancel_right, LogS_g0 hG, LogS_s0 hG, LogS_g1 hG, LogS_s1 hG, LogS_g2 hG, LogS_s2 hG, LogS_g3 hG, LogS_s3 hG, h146]) | (simp only [r145_19, r145_32, r145_40, i6_lt0, i6_0lt, i6_0le, i6_le0, i6_eq0, b10_0, ite_not, Int.reduceLT, Int.reduceLE, Int.reduceEq, Int.reduceNeg, if_true, if_false, ite_true, ite_false, reduceIte, eq_self, not_true, not_false_eq_true]; try refine tc_ite (fun _ => ?_) (fun _ => ?_) <;> try (exfalso; omega)))
  -- the waves up to the last that is told
  refine lq_1 (N := last + 1) (P := fun w (d : Nat → Int → Int) => tc_W 145 16 [rf lg, rf 49, rf r, .inl last, .inl w] [] (hp L sh d) n Q) (I := fun w d => (∀ a, ¬ a = 50 → ¬ a = 52 → ¬ a = 53 → ¬ a = 54 → ¬ a = 55 → (a < r ∨ r + 3 < a) → d a = c a) ∧ (w ≤ last → SAN True b r d (gos b la (bgn b) w.toNat)) ∧ crn b la (c (lg + 1)) (c (lg + 2)) (c (lg + 3)) m.toNat w.toNat = 1) ?_ ?_ 0 e1 (by omega) (by omega) ⟨fun a _ _ _ _ _ ha => g1 a ha, fun _ => g2, rfl⟩
  · intro w d hw hw2 ⟨hf, hσ, hcr⟩ ih
    have hσd := hσ (by omega)
    have dl : ∀ a, lg ≤ a → a ≤ lg + 3 → d a = c a := fun a a1 a2 => hf a (by omega) (by omega) (by omega) (by omega) (by omega) (by omega)
    have d3 : d lg 3 = m := by rw [dl lg (by omega) (by omega)]; exact h3
    have h147 := fun Q => c147 (c := d) (n := n) (Q := Q) (hr := r + 1) (w := w) (m := m) hG hR.2.2.1 (by have := hR.1; omega) hm d3 (fun k k1 k2 => by
      rw [dl (lg + 2) (by omega) (by omega)]
      have := (hlo k k1 k2).1
      omega)
    rw [dl (lg + 1) (by omega) (by omega), dl (lg + 2) (by omega) (by omega), dl (lg + 3) (by omega) (by omega)] at h147
    have elg : lgo (c (lg + 1)) (c (lg + 2)) (c (lg + 3)) (d (r + 1)) w m.toNat = lgo (c (lg + 1)) (c (lg + 2)) (c (lg + 3)) (gos b la (bgn b) w.toNat 0) w m.toNat := lgo_ext fun k k1 k2 => by
      have h := (hlo k k1 (by omega)).1
      exact hσd.1 _ h.1 h.2
    rw [elg] at h147
    have ecr : crn b la (c (lg + 1)) (c (lg + 2)) (c (lg + 3)) m.toNat (w + 1).toNat = if crn b la (c (lg + 1)) (c (lg + 2)) (c (lg + 3)) m.toNat w.toNat = 1 ∧ lgo (c (lg + 1)) (c (lg + 2)) (c (lg + 3)) (gos b la (bgn b) w.toNat 0) w m.toNat = 1 then 1 else 0 := by
      rw [show (w + 1).toNat = w.toNat + 1 by omega]
      show (if crn b la (c (lg + 1)) (c (lg + 2)) (c (lg + 3)) m.toNat w.toNat = 1 ∧ lgo (c (lg + 1)) (c (lg + 2)) (c (lg + 3)) (gos b la (bgn b) w.toNat 0) (w.toNat : Int) m.toNat = 1 then 1 else 0) = _
      rw [Int.toNat_of_nonneg hw]
    simp only [r145_16]
    rcases lgo_01 (c (lg + 1)) (c (lg + 2)) (c (lg + 3)) (gos b la (bgn b) w.toNat 0) w m.toNat with h0 | h0
    · rw [if_neg (by omega)] at ecr
      have hz := crn_0 ecr (61 - (w + 1).toNat)
      rw [show (w + 1).toNat + (61 - (w + 1).toNat) = 61 by omega] at hz
      rw [hz] at hq
      simp only [h0] at h147
      repeat' (first | (simp (disch := first | omega | exact Nat.le_of_ble_eq_true rfl | exact rfl | assumption | (simp (disch := omega) only [fr_ne, fr_same]; first | assumption | omega)) only [r145_0, r145_1, r145_2, r145_5, v145_5_5, r145_8, r145_9, v145_9_3, r145_12r, r145_13, r145_14i, r145_18, r145_22, r145_23, r145_25, r145_26, r145_29, v145_29_3, r145_35, r145_36h, r145_36f, r145_36t, r145_37, r145_39, r145_43, r145_44, r145_45, v145_45_7, r145_48, r145_48A, r145_49i, r145_52, r145_55, r145_56h, r145_56f, r145_56t, g3_31_7, g3_47_5, o7_len, o7_g0, o5_len, o5_g0, il_s, bl_s, bl_z, ll_s, is_s, bs_s, bs_z, ls_s, al_s, al_b, al_l, fr_ne, fr_same, fr_fr, Nat.reduceEqDiff, tc_gf3_s, tc_ql2_s, tc_ws_0, tc_ws_i, tc_ws_l, tc_ws_r, Nat.reduceLeDiff, Nat.reduceAdd, Nat.reduceLT, true_and, and_true, if_true, if_false, tc_K, Option.toList_some, Option.toList_none, List.nil_append, List.cons_append, ite_true, ite_false, Int.cast_ofNat_Int, reduceIte, i3_add_eq, i3_sub_eq, Int.add_sub_cancel, Int.add_neg_cancel_right, SanS_g0 hR, SanS_s0 hR, SanS_g1 hR, SanS_s1 hR, SanS_g2 hR, SanS_s2 hR, SanS_g3 hR, SanS_s3 hR, LogS_g0 hG, LogS_s0 hG, LogS_g1 hG, LogS_s1 hG, LogS_g2 hG, LogS_s2 hG, LogS_g3 hG, LogS_s3 hG, h147]) | (simp only [r145_19, r145_32, r145_40, i6_lt0, i6_0lt, i6_0le, i6_le0, i6_eq0, b10_0, ite_not, Int.reduceLT, Int.reduceLE, Int.reduceEq, Int.reduceNeg, if_true, if_false, ite_true, ite_false, reduceIte, eq_self, not_true, not_false_eq_true]; try refine tc_ite (fun _ => ?_) (fun _ => ?_) <;> try (exfalso; omega)))
      exact hq d hf
    · rw [if_pos ⟨hcr, h0⟩] at ecr
      simp only [h0] at h147
      by_cases hwl : w = last
      · repeat' (first | (simp (disch := first | omega | exact Nat.le_of_ble_eq_true rfl | exact rfl | assumption | (simp (disch := omega) only [fr_ne, fr_same]; first | assumption | omega)) only [r145_0, r145_1, r145_2, r145_5, v145_5_5, r145_8, r145_9, v145_9_3, r145_12r, r145_13, r145_14i, r145_18, r145_22, r145_23, r145_25, r145_26, r145_29, v145_29_3, r145_35, r145_36h, r145_36f, r145_36t, r145_37, r145_39, r145_43, r145_44, r145_45, v145_45_7, r145_48, r145_48A, r145_49i, r145_52, r145_55, r145_56h, r145_56f, r145_56t, g3_31_7, g3_47_5, o7_len, o7_g0, o5_len, o5_g0, il_s, bl_s, bl_z, ll_s, is_s, bs_s, bs_z, ls_s, al_s, al_b, al_l, fr_ne, fr_same, fr_fr, Nat.reduceEqDiff, tc_gf3_s, tc_ql2_s, tc_ws_0, tc_ws_i, tc_ws_l, tc_ws_r, Nat.reduceLeDiff, Nat.reduceAdd, Nat.reduceLT, true_and, and_true, if_true, if_false, tc_K, Option.toList_some, Option.toList_none, List.nil_append, List.cons_append, ite_true, ite_false, Int.cast_ofNat_Int, reduceIte, i3_add_eq, i3_sub_eq, Int.add_sub_cancel, Int.add_neg_cancel_right, SanS_g0 hR, SanS_s0 hR, SanS_g1 hR, SanS_s1 hR, SanS_g2 hR, SanS_s2 hR, SanS_g3 hR, SanS_s3 hR, LogS_g0 hG, LogS_s0 hG, LogS_g1 hG, LogS_s1 hG, LogS_g2 hG, LogS_s2 hG, LogS_g3 hG, LogS_s3 hG, h147]) | (simp only [r145_19, r145_32, r145_40, i6_lt0, i6_0lt, i6_0le, i6_le0, i6_eq0, b10_0, ite_not, Int.reduceLT, Int.reduceLE, Int.reduceEq, Int.reduceNeg, if_true, if_false, ite_true, ite_false, reduceIte, eq_self, not_true, not_false_eq_true]; try refine tc_ite (fun _ => ?_) (fun _ => ?_) <;> try (exfalso; omega)))
        exact ih d ⟨hf, fun h => by omega, ecr⟩
      · have hgw := gos_w (b := b) (s := bgn b) (la := la) w.toNat
        have hb0 : bgn b 4 0 = 0 := rfl
        rw [hb0] at hgw
        repeat' (first | (simp (disch := first | omega | exact Nat.le_of_ble_eq_true rfl | exact rfl | assumption | (simp (disch := omega) only [fr_ne, fr_same]; first | assumption | omega)) only [r145_0, r145_1, r145_2, r145_5, v145_5_5, r145_8, r145_9, v145_9_3, r145_12r, r145_13, r145_14i, r145_18, r145_22, r145_23, r145_25, r145_26, r145_29, v145_29_3, r145_35, r145_36h, r145_36f, r145_36t, r145_37, r145_39, r145_43, r145_44, r145_45, v145_45_7, r145_48, r145_48A, r145_49i, r145_52, r145_55, r145_56h, r145_56f, r145_56t, g3_31_7, g3_47_5, o7_len, o7_g0, o5_len, o5_g0, il_s, bl_s, bl_z, ll_s, is_s, bs_s, bs_z, ls_s, al_s, al_b, al_l, fr_ne, fr_same, fr_fr, Nat.reduceEqDiff, tc_gf3_s, tc_ql2_s, tc_ws_0, tc_ws_i, tc_ws_l, tc_ws_r, Nat.reduceLeDiff, Nat.reduceAdd, Nat.reduceLT, true_and, and_true, if_true, if_false, tc_K, Option.toList_some, Option.toList_none, List.nil_append, List.cons_append, ite_true, ite_false, Int.cast_ofNat_Int, reduceIte, i3_add_eq, i3_sub_eq, Int.add_sub_cancel, Int.add_neg_cancel_right, SanS_g0 hR, SanS_s0 hR, SanS_g1 hR, SanS_s1 hR, SanS_g2 hR, SanS_s2 hR, SanS_g3 hR, SanS_s3 hR, SeaS_g0 hE, SeaS_s0 hE, SeaS_g1 hE, SeaS_s1 hE, SeaS_g2 hE, SeaS_s2 hE, SeaS_g3 hE, SeaS_s3 hE, SeaS_g4 hE, SeaS_s4 hE, SeaS_g5 hE, SeaS_s5 hE, SeaS_g6 hE, SeaS_s6 hE, LogS_g0 hG, LogS_s0 hG, LogS_g1 hG, LogS_s1 hG, LogS_g2 hG, LogS_s2 hG, LogS_g3 hG, LogS_s3 hG, h147]) | (simp only [r145_19, r145_32, r145_40, i6_lt0, i6_0lt, i6_0le, i6_le0, i6_eq0, b10_0, ite_not, Int.reduceLT, Int.reduceLE, Int.reduceEq, Int.reduceNeg, if_true, if_false, ite_true, ite_false, reduceIte, eq_self, not_true, not_false_eq_true]; try refine tc_ite (fun _ => ?_) (fun _ => ?_) <;> try (exfalso; omega)))
        refine c89 (c := d) (σ := gos b la (bgn b) w.toNat) (k := True) hE hSh hs hR hr hb (gos_ws hb hwb w.toNat (by rw [hb0]; omega)) (hl.of (Nat.le_refl L) (fun _ _ => rfl) (fun lr a l1 l2 l3 => ?_)) (fun lr h => (hal lr h).1) (hB.fr fun a a1 a2 => ?_) hσd (by omega) ?_
        · have := hal lr l1
          exact hf a (by omega) (by omega) (by omega) (by omega) (by omega) (by omega)
        · exact hf a (by omega) (by omega) (by omega) (by omega) (by omega) (by omega)
        intro e2 q1 q2
        repeat' (first | (simp (disch := first | omega | exact Nat.le_of_ble_eq_true rfl | exact rfl | assumption | (simp (disch := omega) only [fr_ne, fr_same]; first | assumption | omega)) only [r145_0, r145_1, r145_2, r145_5, v145_5_5, r145_8, r145_9, v145_9_3, r145_12r, r145_13, r145_14i, r145_18, r145_22, r145_23, r145_25, r145_26, r145_29, v145_29_3, r145_35, r145_36h, r145_36f, r145_36t, r145_37, r145_39, r145_43, r145_44, r145_45, v145_45_7, r145_48, r145_48A, r145_49i, r145_52, r145_55, r145_56h, r145_56f, r145_56t, g3_31_7, g3_47_5, o7_len, o7_g0, o5_len, o5_g0, il_s, bl_s, bl_z, ll_s, is_s, bs_s, bs_z, ls_s, al_s, al_b, al_l, fr_ne, fr_same, fr_fr, Nat.reduceEqDiff, tc_gf3_s, tc_ql2_s, tc_ws_0, tc_ws_i, tc_ws_l, tc_ws_r, Nat.reduceLeDiff, Nat.reduceAdd, Nat.reduceLT, true_and, and_true, if_true, if_false, tc_K, Option.toList_some, Option.toList_none, List.nil_append, List.cons_append, ite_true, ite_false, Int.cast_ofNat_Int, reduceIte, i3_add_eq, i3_sub_eq, Int.add_sub_cancel, Int.add_neg_cancel_right]) | (simp only [r145_19, r145_32, r145_40, i6_lt0, i6_0lt, i6_0le, i6_le0, i6_eq0, b10_0, ite_not, Int.reduceLT, Int.reduceLE, Int.reduceEq, Int.reduceNeg, if_true, if_false, ite_true, ite_false, reduceIte, eq_self, not_true, not_false_eq_true]; try refine tc_ite (fun _ => ?_) (fun _ => ?_) <;> try (exfalso; omega)))
        refine ih e2 ⟨fun a a1 a2 a3 a4 a5 a6 => ?_, fun _ => ?_, ecr⟩
        · rw [q1 a a1 a2 a3 a4 a5 (by omega) (by omega) (by omega)]
          exact hf a a1 a2 a3 a4 a5 a6
        · rw [show (w + 1).toNat = w.toNat + 1 by omega]
          exact q2
  · intro d ⟨hf, _, hcr⟩
    have h1 := crn_1 hcr (fun k k1 k2 => by have := hll.2 k k1 k2; omega) (61 - (last + 1).toNat)
    rw [show (last + 1).toNat + (61 - (last + 1).toNat) = 61 by omega] at h1
    rw [h1] at hq
    simp only [r145_16]
    repeat' (first | (simp (disch := first | omega | exact Nat.le_of_ble_eq_true rfl | exact rfl | assumption | (simp (disch := omega) only [fr_ne, fr_same]; first | assumption | omega)) only [r145_0, r145_1, r145_2, r145_5, v145_5_5, r145_8, r145_9, v145_9_3, r145_12r, r145_13, r145_14i, r145_18, r145_22, r145_23, r145_25, r145_26, r145_29, v145_29_3, r145_35, r145_36h, r145_36f, r145_36t, r145_37, r145_39, r145_43, r145_44, r145_45, v145_45_7, r145_48, r145_48A, r145_49i, r145_52, r145_55, r145_56h, r145_56f, r145_56t, g3_31_7, g3_47_5, o7_len, o7_g0, o5_len, o5_g0, il_s, bl_s, bl_z, ll_s, is_s, bs_s, bs_z, ls_s, al_s, al_b, al_l, fr_ne, fr_same, fr_fr, Nat.reduceEqDiff, tc_gf3_s, tc_ql2_s, tc_ws_0, tc_ws_i, tc_ws_l, tc_ws_r, Nat.reduceLeDiff, Nat.reduceAdd, Nat.reduceLT, true_and, and_true, if_true, if_false, tc_K, Option.toList_some, Option.toList_none, List.nil_append, List.cons_append, ite_true, ite_false, Int.cast_ofNat_Int, reduceIte, i3_add_eq, i3_sub_eq, Int.add_sub_cancel, Int.add_neg_cancel_right]) | (simp only [r145_19, r145_32, r145_40, i6_lt0, i6_0lt, i6_0le, i6_le0, i6_eq0, b10_0, ite_not, Int.reduceLT, Int.reduceLE, Int.reduceEq, Int.reduceNeg, if_true, if_false, ite_true, ite_false, reduceIte, eq_self, not_true, not_false_eq_true]; try refine tc_ite (fun _ => ?_) (fun _ => ?_) <;> try (exfalso; omega)))
    exact hq d hf
end LOGSC

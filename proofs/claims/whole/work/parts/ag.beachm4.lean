/-! the reference: beach, all of it -/
theorem trl_go {g : Int → Int} {N w f p : Int} (h : ¬ trl g N w f p = 0) (hf : f = 0) : trl g N w f p = 1 + 8 * p ∧ sk g N p = p ∧ gof g N p = 1 + 8 * p := by
  unfold trl at h ⊢
  by_cases h1 : w = 1 ∧ f = 0 ∧ isdg g N p = 1
  · have h2 := isdg_1 h1.2.2
    rw [if_pos h1]
    refine ⟨rfl, ?_, ?_⟩
    · rw [sk_e, if_neg (by omega)]
    · unfold gof
      rw [if_pos (by omega)]
  · rw [if_neg h1] at h
    exact absurd hf h
/-- what reading leaves as it was -/
def MG (c e : Nat → Int → Int) : Prop := (∀ a, ¬ a = 75 → (a < 89 ∨ 94 < a) → e a = c a) ∧ ∀ i, ¬ i = 20 → ¬ i = 21 → ¬ i = 22 → ¬ i = 23 → ¬ i = 26 → ¬ i = 27 → ¬ i = 28 → e 75 i = c 75 i
section BEACHP
variable {L : Nat} {sh : Nat → SH} {c : Nat → Int → Int} {n : Nat} {Q : Option AV → List SC → Nat → Prop} {g : Int → Int} {N p R f p' R' k : Int} {B B' : Nat → Int → Int}
theorem MG.of {d e : Nat → Int → Int} (h : MG c d) (k : MF d e) : MG c e := ⟨fun a a1 a2 => (k.1 a a1 a2).trans (h.1 a a1 a2), fun i i1 i2 i3 i4 i5 i6 i7 => (k.2 i i1 i3 i4).trans (h.2 i i1 i2 i3 i4 i5 i6 i7)⟩
theorem m173_0 {h : List SC} : tc_C 173 [.inl 0] h n Q = Q (some (rf 7)) h n := tc_det fun Q hq => by
  show tc_W 173 0 [.inl 0] [] _ _ Q
  repeat' (simp (disch := first | omega | exact Nat.le_of_ble_eq_true rfl | exact rfl | assumption | (simp only [fr_at, Nat.reduceEqDiff, if_false, if_true, reduceIte]; first | assumption | omega)) only [r173_0, r173_1_0, r173_1_1, r173_1_2, r173_1_3, r173_1_d, r173_32, r173_35, r173_36, r173_39, r173_40, r173_43, r173_44, r173_46, r173_47, r173_50, il_s, bl_s, bl_z, ll_s, is_s, bs_s, bs_z, ls_s, al_s, al_b, al_l, fr_at, fr_fr, Nat.reduceEqDiff, tc_gf3_s, tc_ql2_s, tc_ws_0, tc_ws_i, tc_ws_l, tc_ws_r, Nat.reduceLeDiff, Nat.reduceAdd, Nat.reduceLT, true_and, and_true, if_true, if_false, tc_K, Option.toList_some, Option.toList_none, List.nil_append, List.cons_append, ite_true, ite_false, Int.cast_ofNat_Int, reduceIte, i3_add_eq, i3_sub_eq, Int.add_sub_cancel, Int.add_neg_cancel_right])
  exact hq
theorem m173_1 {h : List SC} : tc_C 173 [.inl 1] h n Q = Q (some (rf 8)) h n := tc_det fun Q hq => by
  show tc_W 173 0 [.inl 1] [] _ _ Q
  repeat' (simp (disch := first | omega | exact Nat.le_of_ble_eq_true rfl | exact rfl | assumption | (simp only [fr_at, Nat.reduceEqDiff, if_false, if_true, reduceIte]; first | assumption | omega)) only [r173_0, r173_1_0, r173_1_1, r173_1_2, r173_1_3, r173_1_d, r173_32, r173_35, r173_36, r173_39, r173_40, r173_43, r173_44, r173_46, r173_47, r173_50, il_s, bl_s, bl_z, ll_s, is_s, bs_s, bs_z, ls_s, al_s, al_b, al_l, fr_at, fr_fr, Nat.reduceEqDiff, tc_gf3_s, tc_ql2_s, tc_ws_0, tc_ws_i, tc_ws_l, tc_ws_r, Nat.reduceLeDiff, Nat.reduceAdd, Nat.reduceLT, true_and, and_true, if_true, if_false, tc_K, Option.toList_some, Option.toList_none, List.nil_append, List.cons_append, ite_true, ite_false, Int.cast_ofNat_Int, reduceIte, i3_add_eq, i3_sub_eq, Int.add_sub_cancel, Int.add_neg_cancel_right])
  exact hq
theorem m173_2 {h : List SC} : tc_C 173 [.inl 2] h n Q = Q (some (rf 9)) h n := tc_det fun Q hq => by
  show tc_W 173 0 [.inl 2] [] _ _ Q
  repeat' (simp (disch := first | omega | exact Nat.le_of_ble_eq_true rfl | exact rfl | assumption | (simp only [fr_at, Nat.reduceEqDiff, if_false, if_true, reduceIte]; first | assumption | omega)) only [r173_0, r173_1_0, r173_1_1, r173_1_2, r173_1_3, r173_1_d, r173_32, r173_35, r173_36, r173_39, r173_40, r173_43, r173_44, r173_46, r173_47, r173_50, il_s, bl_s, bl_z, ll_s, is_s, bs_s, bs_z, ls_s, al_s, al_b, al_l, fr_at, fr_fr, Nat.reduceEqDiff, tc_gf3_s, tc_ql2_s, tc_ws_0, tc_ws_i, tc_ws_l, tc_ws_r, Nat.reduceLeDiff, Nat.reduceAdd, Nat.reduceLT, true_and, and_true, if_true, if_false, tc_K, Option.toList_some, Option.toList_none, List.nil_append, List.cons_append, ite_true, ite_false, Int.cast_ofNat_Int, reduceIte, i3_add_eq, i3_sub_eq, Int.add_sub_cancel, Int.add_neg_cancel_right])
  exact hq
theorem m173_3 {h : List SC} : tc_C 173 [.inl 3] h n Q = Q (some (rf 10)) h n := tc_det fun Q hq => by
  show tc_W 173 0 [.inl 3] [] _ _ Q
  repeat' (simp (disch := first | omega | exact Nat.le_of_ble_eq_true rfl | exact rfl | assumption | (simp only [fr_at, Nat.reduceEqDiff, if_false, if_true, reduceIte]; first | assumption | omega)) only [r173_0, r173_1_0, r173_1_1, r173_1_2, r173_1_3, r173_1_d, r173_32, r173_35, r173_36, r173_39, r173_40, r173_43, r173_44, r173_46, r173_47, r173_50, il_s, bl_s, bl_z, ll_s, is_s, bs_s, bs_z, ls_s, al_s, al_b, al_l, fr_at, fr_fr, Nat.reduceEqDiff, tc_gf3_s, tc_ql2_s, tc_ws_0, tc_ws_i, tc_ws_l, tc_ws_r, Nat.reduceLeDiff, Nat.reduceAdd, Nat.reduceLT, true_and, and_true, if_true, if_false, tc_K, Option.toList_some, Option.toList_none, List.nil_append, List.cons_append, ite_true, ite_false, Int.cast_ofNat_Int, reduceIte, i3_add_eq, i3_sub_eq, Int.add_sub_cancel, Int.add_neg_cancel_right])
  exact hq
theorem m173_4 {h : List SC} : tc_C 173 [.inl 4] h n Q = Q (some (rf 11)) h n := tc_det fun Q hq => by
  show tc_W 173 0 [.inl 4] [] _ _ Q
  repeat' (simp (disch := first | omega | exact Nat.le_of_ble_eq_true rfl | exact rfl | assumption | (simp only [fr_at, Nat.reduceEqDiff, if_false, if_true, reduceIte]; first | assumption | omega)) only [r173_0, r173_1_0, r173_1_1, r173_1_2, r173_1_3, r173_1_d, r173_32, r173_35, r173_36, r173_39, r173_40, r173_43, r173_44, r173_46, r173_47, r173_50, il_s, bl_s, bl_z, ll_s, is_s, bs_s, bs_z, ls_s, al_s, al_b, al_l, fr_at, fr_fr, Nat.reduceEqDiff, tc_gf3_s, tc_ql2_s, tc_ws_0, tc_ws_i, tc_ws_l, tc_ws_r, Nat.reduceLeDiff, Nat.reduceAdd, Nat.reduceLT, true_and, and_true, if_true, if_false, tc_K, Option.toList_some, Option.toList_none, List.nil_append, List.cons_append, ite_true, ite_false, Int.cast_ofNat_Int, reduceIte, i3_add_eq, i3_sub_eq, Int.add_sub_cancel, Int.add_neg_cancel_right])
  exact hq
theorem m173 {h : List SC} {w : Int} (hw : 0 ≤ w ∧ w ≤ 4) : tc_C 173 [.inl w] h n Q = Q (some (rf (7 + w.toNat))) h n := by
  rcases (by omega : w = 0 ∨ w = 1 ∨ w = 2 ∨ w = 3 ∨ w = 4) with rfl | rfl | rfl | rfl | rfl
  · exact m173_0
  · exact m173_1
  · exact m173_2
  · exact m173_3
  · exact m173_4
theorem m170_t (hS : MS L sh) (hST : STRS sh c) (hTP : TP g N) {q w : Int} (hR : RM c g N q) (hq0 : 0 ≤ q ∧ q ≤ N) (hRR : RRM c B R) (hW : WP B R k) (hw : 0 ≤ w ∧ w ≤ 4) (hpl : 0 ≤ q + wl5 w ∧ q + wl5 w ≤ N)
    (hb : (if ¬ tmy k w R B = 0 then (1 + 8 * q + 4, 0, 0, B) else bpt g N w (q + wl5 w) R B) = (f, p', R', B'))
    (hq : ∀ e, MF c e → (0 ≤ e 75 22 ∧ e 75 22 ≤ N) → e 75 23 = trl g N w f p' → (trl g N w f p' = 0 → e 75 22 = p' ∧ RRM e B' R') → Q none (hp L sh e) n) : tc_W 170 33 [rf 75, .inl k, .inl q, .inl w] [] (hp L sh c) n Q := by
  have hN := hTP.1
  have hL := hS.1
  obtain ⟨r95, r21, r22, r23⟩ := hR
  have h176 := fun Q => m176 (c := c) (n := n) (Q := Q) hS hRR hW hw
  have hst := hST (7 + w.toNat) (by omega)
  have hlen : (((tc_chs.getD (7 + w.toNat) []).length : Nat) : Int) = wl5 w := by
    rcases (by omega : w = 0 ∨ w = 1 ∨ w = 2 ∨ w = 3 ∨ w = 4) with rfl | rfl | rfl | rfl | rfl <;> rfl
  have hal : 7 + w.toNat < L := by omega
  have h173 := fun (h : List SC) n Q => m173 (h := h) (n := n) (Q := Q) hw
  by_cases h2 : tmy k w R B = 0
  · rw [if_neg (fun z => z h2)] at hb
    rw [h2] at h176
    generalize hWL : wl5 w = WL at hb hpl hlen
    repeat' (first | (simp (disch := first | omega | exact Nat.le_of_ble_eq_true rfl | exact rfl | assumption | (simp (disch := omega) only [fr_ne, fr_same]; first | assumption | omega)) only [r170_0, r170_1, v170_1_11, r170_4, r170_5, r170_8i, r170_9, r170_10i, r170_12, r170_16, r170_17, r170_18, r170_21, v170_21_11, r170_27i, r170_30, r170_33, r170_34, r170_38, r170_39, r170_40, r170_41, v170_41_11, r170_44, r170_45, r170_46, r170_47, r170_48, v170_48_11, r170_54, r170_55, r170_56, r170_57, v170_57_11, r170_60, r170_61, r170_62, r170_62A, r170_63, r170_66, r170_67, r170_70, r170_73, r170_74, r170_77, r170_78, r170_79, v170_79_11, r170_82, g11_174_11, p11_174_11, mo_len, ms75 hS, mt75 hS, mo_g22, mo_s22, il_s, bl_s, bl_z, ll_s, is_s, bs_s, bs_z, ls_s, al_s, al_b, al_l, fr_ne, fr_same, fr_fr, Nat.reduceEqDiff, tc_gf3_s, tc_ql2_s, tc_ws_0, tc_ws_i, tc_ws_l, tc_ws_r, Nat.reduceLeDiff, Nat.reduceAdd, Nat.reduceLT, true_and, and_true, if_true, if_false, tc_K, Option.toList_some, Option.toList_none, List.nil_append, List.cons_append, ite_true, ite_false, Int.cast_ofNat_Int, reduceIte, i3_add_eq, i3_sub_eq, Int.add_sub_cancel, Int.add_neg_cancel_right, h176, h173, hT hal hst.1, sL_s, hlen, r22]) | (simp only [r170_13, r170_24, r170_35, r170_51, i6_lt0, i6_0lt, i6_0le, i6_le0, i6_eq0, b10_0, ite_not, Int.reduceLT, Int.reduceLE, Int.reduceEq, Int.reduceNeg, if_true, if_false, ite_true, ite_false, reduceIte, eq_self, not_true, not_false_eq_true]; try refine tc_ite (fun _ => ?_) (fun _ => ?_) <;> try (exfalso; omega)))
    all_goals try omega
    refine m177 (c := fr c 75 (fu (c 75) 22 (q + WL))) hS hTP ⟨by rw [fr_ne (by omega)]; exact r95, by rw [fr_same, fu_ne (by omega)]; exact r21, by rw [fr_same, fu_same], by rw [fr_same, fu_ne (by omega)]; exact r23⟩ hpl ?_ hW h2 hw hb ?_
    · obtain ⟨w1, w2, w3, w4, w5⟩ := hRR
      exact ⟨w1, w2, w3, w4, by rw [fr_same, fu_ne (by omega)]; exact w5⟩
    · intro e k1 k0 k2 k3
      repeat' (first | (simp (disch := first | omega | exact Nat.le_of_ble_eq_true rfl | exact rfl | assumption | (simp (disch := omega) only [fr_ne, fr_same]; first | assumption | omega)) only [r170_0, r170_1, v170_1_11, r170_4, r170_5, r170_8i, r170_9, r170_10i, r170_12, r170_16, r170_17, r170_18, r170_21, v170_21_11, r170_27i, r170_30, r170_33, r170_34, r170_38, r170_39, r170_40, r170_41, v170_41_11, r170_44, r170_45, r170_46, r170_47, r170_48, v170_48_11, r170_54, r170_55, r170_56, r170_57, v170_57_11, r170_60, r170_61, r170_62, r170_62A, r170_63, r170_66, r170_67, r170_70, r170_73, r170_74, r170_77, r170_78, r170_79, v170_79_11, r170_82, g11_174_11, p11_174_11, mo_len, ms75 hS, mt75 hS, mo_g22, mo_s22, il_s, bl_s, bl_z, ll_s, is_s, bs_s, bs_z, ls_s, al_s, al_b, al_l, fr_ne, fr_same, fr_fr, Nat.reduceEqDiff, tc_gf3_s, tc_ql2_s, tc_ws_0, tc_ws_i, tc_ws_l, tc_ws_r, Nat.reduceLeDiff, Nat.reduceAdd, Nat.reduceLT, true_and, and_true, if_true, if_false, tc_K, Option.toList_some, Option.toList_none, List.nil_append, List.cons_append, ite_true, ite_false, Int.cast_ofNat_Int, reduceIte, i3_add_eq, i3_sub_eq, Int.add_sub_cancel, Int.add_neg_cancel_right]) | (simp only [r170_13, r170_24, r170_35, r170_51, i6_lt0, i6_0lt, i6_0le, i6_le0, i6_eq0, b10_0, ite_not, Int.reduceLT, Int.reduceLE, Int.reduceEq, Int.reduceNeg, if_true, if_false, ite_true, ite_false, reduceIte, eq_self, not_true, not_false_eq_true]; try refine tc_ite (fun _ => ?_) (fun _ => ?_) <;> try (exfalso; omega)))
      exact hq e ((MF.of75 (fun a ha => fr_ne ha) fun i i1 i2 => by rw [fr_same, fu_ne i1]).trans k1) k0 k2 k3
  · rw [if_pos h2] at hb
    obtain ⟨h1, _⟩ := pr4 hb
    have hf : ¬ f = 0 := by omega
    have htr : trl g N w f p' = f := if_neg fun z => hf z.2.1
    rw [htr] at hq
    have h175 := fun Q => c175 (c := c) (n := n) (Q := Q) (k := 4) (p := q) hS (by omega) (by omega)
    rw [if_pos r23] at h175
    have hq' := hq (fr c 75 (fu (c 75) 23 (1 + 8 * q + 4))) (MF.of75 (fun a ha => fr_ne ha) fun i i1 i2 => by rw [fr_same, fu_ne i2]) (by rw [fr_same, fu_ne (by omega), r22]; exact hq0) (by rw [fr_same, fu_same]; exact h1) (fun z => absurd z hf)
    generalize tmy k w R B = tm at h2 h176
    repeat' (first | (simp (disch := first | omega | exact Nat.le_of_ble_eq_true rfl | exact rfl | assumption | (simp (disch := omega) only [fr_ne, fr_same]; first | assumption | omega)) only [r170_0, r170_1, v170_1_11, r170_4, r170_5, r170_8i, r170_9, r170_10i, r170_12, r170_16, r170_17, r170_18, r170_21, v170_21_11, r170_27i, r170_30, r170_33, r170_34, r170_38, r170_39, r170_40, r170_41, v170_41_11, r170_44, r170_45, r170_46, r170_47, r170_48, v170_48_11, r170_54, r170_55, r170_56, r170_57, v170_57_11, r170_60, r170_61, r170_62, r170_62A, r170_63, r170_66, r170_67, r170_70, r170_73, r170_74, r170_77, r170_78, r170_79, v170_79_11, r170_82, g11_174_11, p11_174_11, mo_len, ms75 hS, mt75 hS, mo_g22, mo_s22, il_s, bl_s, bl_z, ll_s, is_s, bs_s, bs_z, ls_s, al_s, al_b, al_l, fr_ne, fr_same, fr_fr, Nat.reduceEqDiff, tc_gf3_s, tc_ql2_s, tc_ws_0, tc_ws_i, tc_ws_l, tc_ws_r, Nat.reduceLeDiff, Nat.reduceAdd, Nat.reduceLT, true_and, and_true, if_true, if_false, tc_K, Option.toList_some, Option.toList_none, List.nil_append, List.cons_append, ite_true, ite_false, Int.cast_ofNat_Int, reduceIte, i3_add_eq, i3_sub_eq, Int.add_sub_cancel, Int.add_neg_cancel_right, h176, h175]) | (simp only [r170_13, r170_24, r170_35, r170_51, i6_lt0, i6_0lt, i6_0le, i6_le0, i6_eq0, b10_0, ite_not, Int.reduceLT, Int.reduceLE, Int.reduceEq, Int.reduceNeg, if_true, if_false, ite_true, ite_false, reduceIte, eq_self, not_true, not_false_eq_true]; try refine tc_ite (fun _ => ?_) (fun _ => ?_) <;> try (exfalso; omega)))
    all_goals first
      | exact hq'
      | omega
theorem m170 (hS : MS L sh) (hST : STRS sh c) (hT : TP g N) (hR : RM c g N p) (hp0 : 0 ≤ p ∧ p ≤ N) (hRR : RRM c B R) (hW : WP B R k) (hb : bcl g N k p R B = (f, p', R', B'))
    (hq : ∀ e, MF c e → (0 ≤ e 75 22 ∧ e 75 22 ≤ N) → e 75 23 = trl g N (bw g N (sk g N p)) f p' → (trl g N (bw g N (sk g N p)) f p' = 0 → e 75 22 = p' ∧ RRM e B' R') → Q none (hp L sh e) n) : tc_C 170 [rf 75, .inl k] (hp L sh c) n Q := by
  have hN := hT.1
  have hL := hS.1
  have hr := nm_rng (g := g) hp0
  obtain ⟨r95, r21, r22, r23⟩ := id hR
  have h171 := fun Q => c171q (c := c) (n := n) (Q := Q) (N := N) (p := p) hS (by rw [r95]; exact hT) r21 r22 (by omega)
  rw [r95] at h171
  unfold bcl at hb
  generalize hq0 : sk g N p = q at hb hr h171 hq
  generalize hc1 : fr c 75 (fu (c 75) 22 q) = c1 at h171
  have a95 : c1 95 = g := by rw [← hc1, fr_ne (by omega)]; exact r95
  have a21 : c1 75 21 = N := by rw [← hc1, fr_same, fu_ne (by omega)]; exact r21
  have a22 : c1 75 22 = q := by rw [← hc1, fr_same, fu_same]
  have a23 : c1 75 23 = 0 := by rw [← hc1, fr_same, fu_ne (by omega)]; exact r23
  have hST1 : STRS sh c1 := fun a ha => ⟨(hST a ha).1, by rw [← hc1, fr_ne (by omega)]; exact (hST a ha).2⟩
  have hRR1 : RRM c1 B R := by
    rw [← hc1]
    obtain ⟨w1, w2, w3, w4, w5⟩ := hRR
    exact ⟨w1, w2, w3, w4, by rw [fr_same, fu_ne (by omega)]; exact w5⟩
  have hMF1 : MF c c1 := by
    rw [← hc1]
    exact MF.of75 (fun a ha => fr_ne ha) fun i i1 i2 => by rw [fr_same, fu_ne i1]
  have h174 : ∀ (a l : Nat), a < 25 → (tc_chs.getD a []).length = l → l ≤ 100 → ∀ n Q, tc_C 174 [rf 75, rf a] (hp L sh c1) n Q = Q (some (.inl (stq g N q (chs a) l))) (hp L sh c1) n := fun a l ha hl hl2 n Q => by
    have hs := hST1 a ha
    rw [hl] at hs
    rw [c174 hS (by rw [a95]; exact hT) a21 a22 (by omega) (by omega) hs.1 hl2, a95, hs.2]
  have g7 := h174 7 5 (by omega) rfl (by omega)
  have g8 := h174 8 3 (by omega) rfl (by omega)
  have g9 := h174 9 4 (by omega) rfl (by omega)
  have g10 := h174 10 4 (by omega) rfl (by omega)
  have g11 := h174 11 5 (by omega) rfl (by omega)
  have hbs := bw_stq g N q
  have go : ∀ w, bw g N q = w → 0 ≤ w ∧ w ≤ 4 → tc_W 170 33 [rf 75, .inl k, .inl q, .inl w] [] (hp L sh c1) n Q := fun w hw hw4 => by
    have hne : ¬ bw g N q = -1 := by omega
    rw [if_neg hne] at hb
    have hpl := bw_place hne (N := N) (q := q) ⟨hr.2.2.1, hr.2.2.2⟩
    rw [hw] at hb hpl hq
    exact m170_t (c := c1) hS hST1 hT ⟨a95, a21, a22, a23⟩ ⟨hr.2.2.1, hr.2.2.2⟩ hRR1 hW hw4 hpl hb fun e k1 k0 k2 k3 => hq e (hMF1.trans k1) k0 k2 k3
  have s01 : ∀ f l, ¬ stq g N q f l = 1 → stq g N q f l = 0 := fun f l h => by
    unfold stq at h ⊢
    split
    · next z => rw [if_pos z] at h; exact absurd rfl h
    · rfl
  show tc_W 170 0 [rf 75, .inl k, tc_nil, tc_nil] [] _ _ Q
  repeat' (first | (simp (disch := first | omega | exact Nat.le_of_ble_eq_true rfl | exact rfl | assumption | (simp (disch := omega) only [fr_ne, fr_same]; first | assumption | omega)) only [r170_0, r170_1, v170_1_11, r170_4, r170_5, r170_8i, r170_9, r170_10i, r170_12, r170_16, r170_17, r170_18, r170_21, v170_21_11, r170_27i, r170_30, r170_34, r170_38, r170_39, r170_40, r170_41, v170_41_11, r170_44, r170_45, r170_46, r170_47, r170_48, v170_48_11, r170_54, r170_55, r170_56, r170_57, v170_57_11, r170_60, r170_61, r170_62, r170_62A, r170_63, r170_66, r170_67, r170_70, r170_73, r170_74, r170_77, r170_78, r170_79, v170_79_11, r170_82, g11_174_11, p11_174_11, mo_len, ms75 hS, mt75 hS, mo_g22, mo_s22, il_s, bl_s, bl_z, ll_s, is_s, bs_s, bs_z, ls_s, al_s, al_b, al_l, fr_ne, fr_same, fr_fr, Nat.reduceEqDiff, tc_gf3_s, tc_ql2_s, tc_ws_0, tc_ws_i, tc_ws_l, tc_ws_r, Nat.reduceLeDiff, Nat.reduceAdd, Nat.reduceLT, true_and, and_true, if_true, if_false, tc_K, Option.toList_some, Option.toList_none, List.nil_append, List.cons_append, ite_true, ite_false, Int.cast_ofNat_Int, reduceIte, i3_add_eq, i3_sub_eq, Int.add_sub_cancel, Int.add_neg_cancel_right, h171, a22]) | (simp only [r170_13, r170_24, r170_35, r170_51, i6_lt0, i6_0lt, i6_0le, i6_le0, i6_eq0, b10_0, ite_not, Int.reduceLT, Int.reduceLE, Int.reduceEq, Int.reduceNeg, if_true, if_false, ite_true, ite_false, reduceIte, eq_self, not_true, not_false_eq_true]; try refine tc_ite (fun _ => ?_) (fun _ => ?_) <;> try (exfalso; omega)))
  simp only [r170_11]
  by_cases h0 : stq g N q (chs 7) 5 = 1
  · rw [if_pos h0] at hbs
    repeat' (first | (simp (disch := first | omega | exact Nat.le_of_ble_eq_true rfl | exact rfl | assumption | (simp (disch := omega) only [fr_ne, fr_same]; first | assumption | omega)) only [r170_0, r170_1, v170_1_11, r170_4, r170_5, r170_8i, r170_9, r170_10i, r170_12, r170_16, r170_17, r170_18, r170_21, v170_21_11, r170_27i, r170_30, r170_34, r170_38, r170_39, r170_40, r170_41, v170_41_11, r170_44, r170_45, r170_46, r170_47, r170_48, v170_48_11, r170_54, r170_55, r170_56, r170_57, v170_57_11, r170_60, r170_61, r170_62, r170_62A, r170_63, r170_66, r170_67, r170_70, r170_73, r170_74, r170_77, r170_78, r170_79, v170_79_11, r170_82, g11_174_11, p11_174_11, mo_len, ms75 hS, mt75 hS, mo_g22, mo_s22, il_s, bl_s, bl_z, ll_s, is_s, bs_s, bs_z, ls_s, al_s, al_b, al_l, fr_ne, fr_same, fr_fr, Nat.reduceEqDiff, tc_gf3_s, tc_ql2_s, tc_ws_0, tc_ws_i, tc_ws_l, tc_ws_r, Nat.reduceLeDiff, Nat.reduceAdd, Nat.reduceLT, true_and, and_true, if_true, if_false, tc_K, Option.toList_some, Option.toList_none, List.nil_append, List.cons_append, ite_true, ite_false, Int.cast_ofNat_Int, reduceIte, i3_add_eq, i3_sub_eq, Int.add_sub_cancel, Int.add_neg_cancel_right, m173_0, g7, h0]) | (simp only [r170_13, r170_24, r170_35, r170_51, i6_lt0, i6_0lt, i6_0le, i6_le0, i6_eq0, b10_0, ite_not, Int.reduceLT, Int.reduceLE, Int.reduceEq, Int.reduceNeg, if_true, if_false, ite_true, ite_false, reduceIte, eq_self, not_true, not_false_eq_true]; try refine tc_ite (fun _ => ?_) (fun _ => ?_) <;> try (exfalso; omega)))
    all_goals first
      | exact go 0 hbs (by omega)
      | omega
  rw [if_neg h0] at hbs
  have h0' := s01 _ _ h0
  repeat' (first | (simp (disch := first | omega | exact Nat.le_of_ble_eq_true rfl | exact rfl | assumption | (simp (disch := omega) only [fr_ne, fr_same]; first | assumption | omega)) only [r170_0, r170_1, v170_1_11, r170_4, r170_5, r170_8i, r170_9, r170_10i, r170_12, r170_16, r170_17, r170_18, r170_21, v170_21_11, r170_27i, r170_30, r170_34, r170_38, r170_39, r170_40, r170_41, v170_41_11, r170_44, r170_45, r170_46, r170_47, r170_48, v170_48_11, r170_54, r170_55, r170_56, r170_57, v170_57_11, r170_60, r170_61, r170_62, r170_62A, r170_63, r170_66, r170_67, r170_70, r170_73, r170_74, r170_77, r170_78, r170_79, v170_79_11, r170_82, g11_174_11, p11_174_11, mo_len, ms75 hS, mt75 hS, mo_g22, mo_s22, il_s, bl_s, bl_z, ll_s, is_s, bs_s, bs_z, ls_s, al_s, al_b, al_l, fr_ne, fr_same, fr_fr, Nat.reduceEqDiff, tc_gf3_s, tc_ql2_s, tc_ws_0, tc_ws_i, tc_ws_l, tc_ws_r, Nat.reduceLeDiff, Nat.reduceAdd, Nat.reduceLT, true_and, and_true, if_true, if_false, tc_K, Option.toList_some, Option.toList_none, List.nil_append, List.cons_append, ite_true, ite_false, Int.cast_ofNat_Int, reduceIte, i3_add_eq, i3_sub_eq, Int.add_sub_cancel, Int.add_neg_cancel_right, m173_0, g7, h0']) | (simp only [r170_13, r170_24, r170_35, r170_51, i6_lt0, i6_0lt, i6_0le, i6_le0, i6_eq0, b10_0, ite_not, Int.reduceLT, Int.reduceLE, Int.reduceEq, Int.reduceNeg, if_true, if_false, ite_true, ite_false, reduceIte, eq_self, not_true, not_false_eq_true]; try refine tc_ite (fun _ => ?_) (fun _ => ?_) <;> try (exfalso; omega)))
  simp only [r170_11]
  by_cases h1 : stq g N q (chs 8) 3 = 1
  · rw [if_pos h1] at hbs
    repeat' (first | (simp (disch := first | omega | exact Nat.le_of_ble_eq_true rfl | exact rfl | assumption | (simp (disch := omega) only [fr_ne, fr_same]; first | assumption | omega)) only [r170_0, r170_1, v170_1_11, r170_4, r170_5, r170_8i, r170_9, r170_10i, r170_12, r170_16, r170_17, r170_18, r170_21, v170_21_11, r170_27i, r170_30, r170_34, r170_38, r170_39, r170_40, r170_41, v170_41_11, r170_44, r170_45, r170_46, r170_47, r170_48, v170_48_11, r170_54, r170_55, r170_56, r170_57, v170_57_11, r170_60, r170_61, r170_62, r170_62A, r170_63, r170_66, r170_67, r170_70, r170_73, r170_74, r170_77, r170_78, r170_79, v170_79_11, r170_82, g11_174_11, p11_174_11, mo_len, ms75 hS, mt75 hS, mo_g22, mo_s22, il_s, bl_s, bl_z, ll_s, is_s, bs_s, bs_z, ls_s, al_s, al_b, al_l, fr_ne, fr_same, fr_fr, Nat.reduceEqDiff, tc_gf3_s, tc_ql2_s, tc_ws_0, tc_ws_i, tc_ws_l, tc_ws_r, Nat.reduceLeDiff, Nat.reduceAdd, Nat.reduceLT, true_and, and_true, if_true, if_false, tc_K, Option.toList_some, Option.toList_none, List.nil_append, List.cons_append, ite_true, ite_false, Int.cast_ofNat_Int, reduceIte, i3_add_eq, i3_sub_eq, Int.add_sub_cancel, Int.add_neg_cancel_right, m173_1, g8, h1, Int.zero_add]) | (simp only [r170_13, r170_24, r170_35, r170_51, i6_lt0, i6_0lt, i6_0le, i6_le0, i6_eq0, b10_0, ite_not, Int.reduceLT, Int.reduceLE, Int.reduceEq, Int.reduceNeg, if_true, if_false, ite_true, ite_false, reduceIte, eq_self, not_true, not_false_eq_true]; try refine tc_ite (fun _ => ?_) (fun _ => ?_) <;> try (exfalso; omega)))
    all_goals first
      | exact go 1 hbs (by omega)
      | omega
  rw [if_neg h1] at hbs
  have h1' := s01 _ _ h1
  repeat' (first | (simp (disch := first | omega | exact Nat.le_of_ble_eq_true rfl | exact rfl | assumption | (simp (disch := omega) only [fr_ne, fr_same]; first | assumption | omega)) only [r170_0, r170_1, v170_1_11, r170_4, r170_5, r170_8i, r170_9, r170_10i, r170_12, r170_16, r170_17, r170_18, r170_21, v170_21_11, r170_27i, r170_30, r170_34, r170_38, r170_39, r170_40, r170_41, v170_41_11, r170_44, r170_45, r170_46, r170_47, r170_48, v170_48_11, r170_54, r170_55, r170_56, r170_57, v170_57_11, r170_60, r170_61, r170_62, r170_62A, r170_63, r170_66, r170_67, r170_70, r170_73, r170_74, r170_77, r170_78, r170_79, v170_79_11, r170_82, g11_174_11, p11_174_11, mo_len, ms75 hS, mt75 hS, mo_g22, mo_s22, il_s, bl_s, bl_z, ll_s, is_s, bs_s, bs_z, ls_s, al_s, al_b, al_l, fr_ne, fr_same, fr_fr, Nat.reduceEqDiff, tc_gf3_s, tc_ql2_s, tc_ws_0, tc_ws_i, tc_ws_l, tc_ws_r, Nat.reduceLeDiff, Nat.reduceAdd, Nat.reduceLT, true_and, and_true, if_true, if_false, tc_K, Option.toList_some, Option.toList_none, List.nil_append, List.cons_append, ite_true, ite_false, Int.cast_ofNat_Int, reduceIte, i3_add_eq, i3_sub_eq, Int.add_sub_cancel, Int.add_neg_cancel_right, m173_1, g8, h1', Int.zero_add, Int.reduceAdd]) | (simp only [r170_13, r170_24, r170_35, r170_51, i6_lt0, i6_0lt, i6_0le, i6_le0, i6_eq0, b10_0, ite_not, Int.reduceLT, Int.reduceLE, Int.reduceEq, Int.reduceNeg, if_true, if_false, ite_true, ite_false, reduceIte, eq_self, not_true, not_false_eq_true]; try refine tc_ite (fun _ => ?_) (fun _ => ?_) <;> try (exfalso; omega)))
  simp only [r170_11]
  by_cases h2 : stq g N q (chs 9) 4 = 1
  · rw [if_pos h2] at hbs
    repeat' (first | (simp (disch := first | omega | exact Nat.le_of_ble_eq_true rfl | exact rfl | assumption | (simp (disch := omega) only [fr_ne, fr_same]; first | assumption | omega)) only [r170_0, r170_1, v170_1_11, r170_4, r170_5, r170_8i, r170_9, r170_10i, r170_12, r170_16, r170_17, r170_18, r170_21, v170_21_11, r170_27i, r170_30, r170_34, r170_38, r170_39, r170_40, r170_41, v170_41_11, r170_44, r170_45, r170_46, r170_47, r170_48, v170_48_11, r170_54, r170_55, r170_56, r170_57, v170_57_11, r170_60, r170_61, r170_62, r170_62A, r170_63, r170_66, r170_67, r170_70, r170_73, r170_74, r170_77, r170_78, r170_79, v170_79_11, r170_82, g11_174_11, p11_174_11, mo_len, ms75 hS, mt75 hS, mo_g22, mo_s22, il_s, bl_s, bl_z, ll_s, is_s, bs_s, bs_z, ls_s, al_s, al_b, al_l, fr_ne, fr_same, fr_fr, Nat.reduceEqDiff, tc_gf3_s, tc_ql2_s, tc_ws_0, tc_ws_i, tc_ws_l, tc_ws_r, Nat.reduceLeDiff, Nat.reduceAdd, Nat.reduceLT, true_and, and_true, if_true, if_false, tc_K, Option.toList_some, Option.toList_none, List.nil_append, List.cons_append, ite_true, ite_false, Int.cast_ofNat_Int, reduceIte, i3_add_eq, i3_sub_eq, Int.add_sub_cancel, Int.add_neg_cancel_right, m173_2, g9, h2, Int.reduceAdd]) | (simp only [r170_13, r170_24, r170_35, r170_51, i6_lt0, i6_0lt, i6_0le, i6_le0, i6_eq0, b10_0, ite_not, Int.reduceLT, Int.reduceLE, Int.reduceEq, Int.reduceNeg, if_true, if_false, ite_true, ite_false, reduceIte, eq_self, not_true, not_false_eq_true]; try refine tc_ite (fun _ => ?_) (fun _ => ?_) <;> try (exfalso; omega)))
    all_goals first
      | exact go 2 hbs (by omega)
      | omega
  rw [if_neg h2] at hbs
  have h2' := s01 _ _ h2
  repeat' (first | (simp (disch := first | omega | exact Nat.le_of_ble_eq_true rfl | exact rfl | assumption | (simp (disch := omega) only [fr_ne, fr_same]; first | assumption | omega)) only [r170_0, r170_1, v170_1_11, r170_4, r170_5, r170_8i, r170_9, r170_10i, r170_12, r170_16, r170_17, r170_18, r170_21, v170_21_11, r170_27i, r170_30, r170_34, r170_38, r170_39, r170_40, r170_41, v170_41_11, r170_44, r170_45, r170_46, r170_47, r170_48, v170_48_11, r170_54, r170_55, r170_56, r170_57, v170_57_11, r170_60, r170_61, r170_62, r170_62A, r170_63, r170_66, r170_67, r170_70, r170_73, r170_74, r170_77, r170_78, r170_79, v170_79_11, r170_82, g11_174_11, p11_174_11, mo_len, ms75 hS, mt75 hS, mo_g22, mo_s22, il_s, bl_s, bl_z, ll_s, is_s, bs_s, bs_z, ls_s, al_s, al_b, al_l, fr_ne, fr_same, fr_fr, Nat.reduceEqDiff, tc_gf3_s, tc_ql2_s, tc_ws_0, tc_ws_i, tc_ws_l, tc_ws_r, Nat.reduceLeDiff, Nat.reduceAdd, Nat.reduceLT, true_and, and_true, if_true, if_false, tc_K, Option.toList_some, Option.toList_none, List.nil_append, List.cons_append, ite_true, ite_false, Int.cast_ofNat_Int, reduceIte, i3_add_eq, i3_sub_eq, Int.add_sub_cancel, Int.add_neg_cancel_right, m173_2, g9, h2', Int.reduceAdd]) | (simp only [r170_13, r170_24, r170_35, r170_51, i6_lt0, i6_0lt, i6_0le, i6_le0, i6_eq0, b10_0, ite_not, Int.reduceLT, Int.reduceLE, Int.reduceEq, Int.reduceNeg, if_true, if_false, ite_true, ite_false, reduceIte, eq_self, not_true, not_false_eq_true]; try refine tc_ite (fun _ => ?_) (fun _ => ?_) <;> try (exfalso; omega)))
  simp only [r170_11]
  by_cases h3 : stq g N q (chs 10) 4 = 1
  · rw [if_pos h3] at hbs
    repeat' (first | (simp (disch := first | omega | exact Nat.le_of_ble_eq_true rfl | exact rfl | assumption | (simp (disch := omega) only [fr_ne, fr_same]; first | assumption | omega)) only [r170_0, r170_1, v170_1_11, r170_4, r170_5, r170_8i, r170_9, r170_10i, r170_12, r170_16, r170_17, r170_18, r170_21, v170_21_11, r170_27i, r170_30, r170_34, r170_38, r170_39, r170_40, r170_41, v170_41_11, r170_44, r170_45, r170_46, r170_47, r170_48, v170_48_11, r170_54, r170_55, r170_56, r170_57, v170_57_11, r170_60, r170_61, r170_62, r170_62A, r170_63, r170_66, r170_67, r170_70, r170_73, r170_74, r170_77, r170_78, r170_79, v170_79_11, r170_82, g11_174_11, p11_174_11, mo_len, ms75 hS, mt75 hS, mo_g22, mo_s22, il_s, bl_s, bl_z, ll_s, is_s, bs_s, bs_z, ls_s, al_s, al_b, al_l, fr_ne, fr_same, fr_fr, Nat.reduceEqDiff, tc_gf3_s, tc_ql2_s, tc_ws_0, tc_ws_i, tc_ws_l, tc_ws_r, Nat.reduceLeDiff, Nat.reduceAdd, Nat.reduceLT, true_and, and_true, if_true, if_false, tc_K, Option.toList_some, Option.toList_none, List.nil_append, List.cons_append, ite_true, ite_false, Int.cast_ofNat_Int, reduceIte, i3_add_eq, i3_sub_eq, Int.add_sub_cancel, Int.add_neg_cancel_right, m173_3, g10, h3, Int.reduceAdd]) | (simp only [r170_13, r170_24, r170_35, r170_51, i6_lt0, i6_0lt, i6_0le, i6_le0, i6_eq0, b10_0, ite_not, Int.reduceLT, Int.reduceLE, Int.reduceEq, Int.reduceNeg, if_true, if_false, ite_true, ite_false, reduceIte, eq_self, not_true, not_false_eq_true]; try refine tc_ite (fun _ => ?_) (fun _ => ?_) <;> try (exfalso; omega)))
    all_goals first
      | exact go 3 hbs (by omega)
      | omega
  rw [if_neg h3] at hbs
  have h3' := s01 _ _ h3
  repeat' (first | (simp (disch := first | omega | exact Nat.le_of_ble_eq_true rfl | exact rfl | assumption | (simp (disch := omega) only [fr_ne, fr_same]; first | assumption | omega)) only [r170_0, r170_1, v170_1_11, r170_4, r170_5, r170_8i, r170_9, r170_10i, r170_12, r170_16, r170_17, r170_18, r170_21, v170_21_11, r170_27i, r170_30, r170_34, r170_38, r170_39, r170_40, r170_41, v170_41_11, r170_44, r170_45, r170_46, r170_47, r170_48, v170_48_11, r170_54, r170_55, r170_56, r170_57, v170_57_11, r170_60, r170_61, r170_62, r170_62A, r170_63, r170_66, r170_67, r170_70, r170_73, r170_74, r170_77, r170_78, r170_79, v170_79_11, r170_82, g11_174_11, p11_174_11, mo_len, ms75 hS, mt75 hS, mo_g22, mo_s22, il_s, bl_s, bl_z, ll_s, is_s, bs_s, bs_z, ls_s, al_s, al_b, al_l, fr_ne, fr_same, fr_fr, Nat.reduceEqDiff, tc_gf3_s, tc_ql2_s, tc_ws_0, tc_ws_i, tc_ws_l, tc_ws_r, Nat.reduceLeDiff, Nat.reduceAdd, Nat.reduceLT, true_and, and_true, if_true, if_false, tc_K, Option.toList_some, Option.toList_none, List.nil_append, List.cons_append, ite_true, ite_false, Int.cast_ofNat_Int, reduceIte, i3_add_eq, i3_sub_eq, Int.add_sub_cancel, Int.add_neg_cancel_right, m173_3, g10, h3', Int.reduceAdd]) | (simp only [r170_13, r170_24, r170_35, r170_51, i6_lt0, i6_0lt, i6_0le, i6_le0, i6_eq0, b10_0, ite_not, Int.reduceLT, Int.reduceLE, Int.reduceEq, Int.reduceNeg, if_true, if_false, ite_true, ite_false, reduceIte, eq_self, not_true, not_false_eq_true]; try refine tc_ite (fun _ => ?_) (fun _ => ?_) <;> try (exfalso; omega)))
  simp only [r170_11]
  by_cases h4 : stq g N q (chs 11) 5 = 1
  · rw [if_pos h4] at hbs
    repeat' (first | (simp (disch := first | omega | exact Nat.le_of_ble_eq_true rfl | exact rfl | assumption | (simp (disch := omega) only [fr_ne, fr_same]; first | assumption | omega)) only [r170_0, r170_1, v170_1_11, r170_4, r170_5, r170_8i, r170_9, r170_10i, r170_12, r170_16, r170_17, r170_18, r170_21, v170_21_11, r170_27i, r170_30, r170_34, r170_38, r170_39, r170_40, r170_41, v170_41_11, r170_44, r170_45, r170_46, r170_47, r170_48, v170_48_11, r170_54, r170_55, r170_56, r170_57, v170_57_11, r170_60, r170_61, r170_62, r170_62A, r170_63, r170_66, r170_67, r170_70, r170_73, r170_74, r170_77, r170_78, r170_79, v170_79_11, r170_82, g11_174_11, p11_174_11, mo_len, ms75 hS, mt75 hS, mo_g22, mo_s22, il_s, bl_s, bl_z, ll_s, is_s, bs_s, bs_z, ls_s, al_s, al_b, al_l, fr_ne, fr_same, fr_fr, Nat.reduceEqDiff, tc_gf3_s, tc_ql2_s, tc_ws_0, tc_ws_i, tc_ws_l, tc_ws_r, Nat.reduceLeDiff, Nat.reduceAdd, Nat.reduceLT, true_and, and_true, if_true, if_false, tc_K, Option.toList_some, Option.toList_none, List.nil_append, List.cons_append, ite_true, ite_false, Int.cast_ofNat_Int, reduceIte, i3_add_eq, i3_sub_eq, Int.add_sub_cancel, Int.add_neg_cancel_right, m173_4, g11, h4, Int.reduceAdd]) | (simp only [r170_13, r170_24, r170_35, r170_51, i6_lt0, i6_0lt, i6_0le, i6_le0, i6_eq0, b10_0, ite_not, Int.reduceLT, Int.reduceLE, Int.reduceEq, Int.reduceNeg, if_true, if_false, ite_true, ite_false, reduceIte, eq_self, not_true, not_false_eq_true]; try refine tc_ite (fun _ => ?_) (fun _ => ?_) <;> try (exfalso; omega)))
    all_goals first
      | exact go 4 hbs (by omega)
      | omega
  rw [if_neg h4] at hbs
  have h4' := s01 _ _ h4
  repeat' (first | (simp (disch := first | omega | exact Nat.le_of_ble_eq_true rfl | exact rfl | assumption | (simp (disch := omega) only [fr_ne, fr_same]; first | assumption | omega)) only [r170_0, r170_1, v170_1_11, r170_4, r170_5, r170_8i, r170_9, r170_10i, r170_12, r170_16, r170_17, r170_18, r170_21, v170_21_11, r170_27i, r170_30, r170_34, r170_38, r170_39, r170_40, r170_41, v170_41_11, r170_44, r170_45, r170_46, r170_47, r170_48, v170_48_11, r170_54, r170_55, r170_56, r170_57, v170_57_11, r170_60, r170_61, r170_62, r170_62A, r170_63, r170_66, r170_67, r170_70, r170_73, r170_74, r170_77, r170_78, r170_79, v170_79_11, r170_82, g11_174_11, p11_174_11, mo_len, ms75 hS, mt75 hS, mo_g22, mo_s22, il_s, bl_s, bl_z, ll_s, is_s, bs_s, bs_z, ls_s, al_s, al_b, al_l, fr_ne, fr_same, fr_fr, Nat.reduceEqDiff, tc_gf3_s, tc_ql2_s, tc_ws_0, tc_ws_i, tc_ws_l, tc_ws_r, Nat.reduceLeDiff, Nat.reduceAdd, Nat.reduceLT, true_and, and_true, if_true, if_false, tc_K, Option.toList_some, Option.toList_none, List.nil_append, List.cons_append, ite_true, ite_false, Int.cast_ofNat_Int, reduceIte, i3_add_eq, i3_sub_eq, Int.add_sub_cancel, Int.add_neg_cancel_right, m173_4, g11, h4', Int.reduceAdd]) | (simp only [r170_13, r170_24, r170_35, r170_51, i6_lt0, i6_0lt, i6_0le, i6_le0, i6_eq0, b10_0, ite_not, Int.reduceLT, Int.reduceLE, Int.reduceEq, Int.reduceNeg, if_true, if_false, ite_true, ite_false, reduceIte, eq_self, not_true, not_false_eq_true]; try refine tc_ite (fun _ => ?_) (fun _ => ?_) <;> try (exfalso; omega)))
  simp only [r170_11]
  rw [if_pos hbs] at hb
  obtain ⟨hf, _⟩ := pr4 hb
  have hf0 : ¬ f = 0 := by omega
  have htr : trl g N (bw g N q) f p' = f := if_neg fun z => hf0 z.2.1
  rw [htr] at hq
  have h175 := fun Q => c175 (c := c1) (n := n) (Q := Q) (k := 0) (p := q) hS (by omega) (by omega)
  rw [if_pos a23] at h175
  have hq' := hq (fr c1 75 (fu (c1 75) 23 (1 + 8 * q + 0))) (hMF1.trans (MF.of75 (fun a ha => fr_ne ha) fun i i1 i2 => by rw [fr_same, fu_ne i2])) (by rw [fr_same, fu_ne (by omega), a22]; omega) (by rw [fr_same, fu_same]; omega) (fun z => absurd z hf0)
  repeat' (first | (simp (disch := first | omega | exact Nat.le_of_ble_eq_true rfl | exact rfl | assumption | (simp (disch := omega) only [fr_ne, fr_same]; first | assumption | omega)) only [r170_0, r170_1, v170_1_11, r170_4, r170_5, r170_8i, r170_9, r170_10i, r170_12, r170_16, r170_17, r170_18, r170_21, v170_21_11, r170_27i, r170_30, r170_33, r170_34, r170_38, r170_39, r170_40, r170_41, v170_41_11, r170_44, r170_45, r170_46, r170_47, r170_48, v170_48_11, r170_54, r170_55, r170_56, r170_57, v170_57_11, r170_60, r170_61, r170_62, r170_62A, r170_63, r170_66, r170_67, r170_70, r170_73, r170_74, r170_77, r170_78, r170_79, v170_79_11, r170_82, g11_174_11, p11_174_11, mo_len, ms75 hS, mt75 hS, mo_g22, mo_s22, il_s, bl_s, bl_z, ll_s, is_s, bs_s, bs_z, ls_s, al_s, al_b, al_l, fr_ne, fr_same, fr_fr, Nat.reduceEqDiff, tc_gf3_s, tc_ql2_s, tc_ws_0, tc_ws_i, tc_ws_l, tc_ws_r, Nat.reduceLeDiff, Nat.reduceAdd, Nat.reduceLT, true_and, and_true, if_true, if_false, tc_K, Option.toList_some, Option.toList_none, List.nil_append, List.cons_append, ite_true, ite_false, Int.cast_ofNat_Int, reduceIte, i3_add_eq, i3_sub_eq, Int.add_sub_cancel, Int.add_neg_cancel_right, h175]) | (simp only [r170_13, r170_24, r170_35, r170_51, i6_lt0, i6_0lt, i6_0le, i6_le0, i6_eq0, b10_0, ite_not, Int.reduceLT, Int.reduceLE, Int.reduceEq, Int.reduceNeg, if_true, if_false, ite_true, ite_false, reduceIte, eq_self, not_true, not_false_eq_true]; try refine tc_ite (fun _ => ?_) (fun _ => ?_) <;> try (exfalso; omega)))
  all_goals first
    | exact hq'
    | omega
theorem m168_l (hS : MS L sh) (hT : TP g N) (hq : ∀ e, MG c e → e 75 21 = 0 → e 75 23 = f → (f = 0 → (∃ R', RRM e B' R') ∧ WB B') → Q none (hp L sh e) n) : ∀ (m : Nat) (k p R : Int) (B d : Nat → Int → Int), k + m = 41 → WP B R k → 0 ≤ p → p ≤ N → bpr g N m k p R B = (f, B') → RM d g N p → RRM d B R → STRS sh d → MG c d → tc_W 168 65 [rf 75, .inl k, .inl 1] [] (hp L sh d) n Q := by
  have hN := hT.1
  intro m
  induction m with
  | zero =>
    intro k p R B d hk hW
    have := hW.1
    omega
  | succ m ih =>
    intro k p R B d hk hW hp1 hp2 hb hR hRR hST hMG
    have hk0 := hW.1
    unfold bpr at hb
    rcases hbc : bcl g N k p R B with ⟨f1, p1, R1, B1⟩
    rw [hbc] at hb
    simp only at hb
    simp only [r168_65]
    repeat' (first | (simp (disch := first | omega | exact Nat.le_of_ble_eq_true rfl | exact rfl | assumption | (simp (disch := omega) only [fr_ne, fr_same]; first | assumption | omega)) only [r168_0, r168_1, v168_1_11, r168_4, r168_5r, r168_7, r168_12, r168_13, r168_16, r168_17, r168_18, r168_23, r168_24, r168_27, r168_28, r168_29r, r168_32, r168_35, r168_36r, r168_38, r168_43, r168_44, r168_47, r168_48, r168_49, r168_50r, r168_53, r168_56, r168_57, r168_58, r168_61, r168_62r, r168_63, r168_64i, r168_69, r168_70, r168_71, v168_71_11, r168_74r, r168_77, r168_78, v168_78_11, r168_81i, r168_82, r168_85, r168_86, r168_87, r168_90, g11_49_11, g11_52_11, p11_276_11, p11_149_11, mo_len, ms75 hS, mt75 hS, mo_g14, ms89 hS, mt89 hS, mo_g15, ms90 hS, mt90 hS, mo_s20, mo_s21, il_s, bl_s, bl_z, ll_s, is_s, bs_s, bs_z, ls_s, al_s, al_b, al_l, fr_ne, fr_same, fr_fr, Nat.reduceEqDiff, tc_gf3_s, tc_ql2_s, tc_ws_0, tc_ws_i, tc_ws_l, tc_ws_r, Nat.reduceLeDiff, Nat.reduceAdd, Nat.reduceLT, true_and, and_true, if_true, if_false, tc_K, Option.toList_some, Option.toList_none, List.nil_append, List.cons_append, ite_true, ite_false, Int.cast_ofNat_Int, reduceIte, i3_add_eq, i3_sub_eq, Int.add_sub_cancel, Int.add_neg_cancel_right]) | (simp only [r168_9, r168_20, r168_40, r168_66, i6_lt0, i6_0lt, i6_0le, i6_le0, i6_eq0, b10_0, ite_not, Int.reduceLT, Int.reduceLE, Int.reduceEq, Int.reduceNeg, if_true, if_false, ite_true, ite_false, reduceIte, eq_self, not_true, not_false_eq_true]; try refine tc_ite (fun _ => ?_) (fun _ => ?_) <;> try (exfalso; omega)))
    all_goals try omega
    refine m170 hS hST hT hR ⟨hp1, hp2⟩ hRR hW hbc ?_
    intro e k1 k0 k3 k4
    have hMe := hMG.of k1
    have e95 : e 95 = g := by rw [k1.1 95 (by omega) (by omega)]; exact hR.1
    have e21 : e 75 21 = N := by rw [k1.2 21 (by omega) (by omega) (by omega)]; exact hR.2.1
    -- the end, whatever the fault
    have fin : ∀ (k2 : Int) (e2 : Nat → Int → Int), MG c e2 → e2 75 23 = f → (f = 0 → (∃ R', RRM e2 B' R') ∧ WB B') → tc_W 168 65 [rf 75, .inl k2, .inl 0] [] (hp L sh e2) n Q := fun k2 e2 q1 q2 q3 => by
      have hq' := hq (fr e2 75 (fu (e2 75) 21 0)) ⟨fun a a1 a2 => by rw [fr_ne a1]; exact q1.1 a a1 a2, fun i i1 i2 i3 i4 i5 i6 i7 => by rw [fr_same, fu_ne i2]; exact q1.2 i i1 i2 i3 i4 i5 i6 i7⟩ (by rw [fr_same, fu_same]) (by rw [fr_same, fu_ne (by omega)]; exact q2) (fun z => by
        obtain ⟨⟨R2, w1, w2, w3, w4, w5⟩, hwb⟩ := q3 z
        exact ⟨⟨R2, w1, w2, w3, w4, by rw [fr_same, fu_ne (by omega)]; exact w5⟩, hwb⟩)
      simp only [r168_65]
      repeat' (first | (simp (disch := first | omega | exact Nat.le_of_ble_eq_true rfl | exact rfl | assumption | (simp (disch := omega) only [fr_ne, fr_same]; first | assumption | omega)) only [r168_0, r168_1, v168_1_11, r168_4, r168_5r, r168_7, r168_12, r168_13, r168_16, r168_17, r168_18, r168_23, r168_24, r168_27, r168_28, r168_29r, r168_32, r168_35, r168_36r, r168_38, r168_43, r168_44, r168_47, r168_48, r168_49, r168_50r, r168_53, r168_56, r168_57, r168_58, r168_61, r168_62r, r168_63, r168_64i, r168_69, r168_70, r168_71, v168_71_11, r168_74r, r168_77, r168_78, v168_78_11, r168_81i, r168_82, r168_85, r168_86, r168_87, r168_90, g11_49_11, g11_52_11, p11_276_11, p11_149_11, mo_len, ms75 hS, mt75 hS, mo_g14, ms89 hS, mt89 hS, mo_g15, ms90 hS, mt90 hS, mo_s20, mo_s21, il_s, bl_s, bl_z, ll_s, is_s, bs_s, bs_z, ls_s, al_s, al_b, al_l, fr_ne, fr_same, fr_fr, Nat.reduceEqDiff, tc_gf3_s, tc_ql2_s, tc_ws_0, tc_ws_i, tc_ws_l, tc_ws_r, Nat.reduceLeDiff, Nat.reduceAdd, Nat.reduceLT, true_and, and_true, if_true, if_false, tc_K, Option.toList_some, Option.toList_none, List.nil_append, List.cons_append, ite_true, ite_false, Int.cast_ofNat_Int, reduceIte, i3_add_eq, i3_sub_eq, Int.add_sub_cancel, Int.add_neg_cancel_right]) | (simp only [r168_9, r168_20, r168_40, r168_66, i6_lt0, i6_0lt, i6_0le, i6_le0, i6_eq0, b10_0, ite_not, Int.reduceLT, Int.reduceLE, Int.reduceEq, Int.reduceNeg, if_true, if_false, ite_true, ite_false, reduceIte, eq_self, not_true, not_false_eq_true]; try refine tc_ite (fun _ => ?_) (fun _ => ?_) <;> try (exfalso; omega)))
      exact hq'
    by_cases htr : trl g N (bw g N (sk g N p)) f1 p1 = 0
    · have hf1 : f1 = 0 := by
        unfold trl at htr
        split at htr
        · next z => exact z.2.1
        · exact htr
      subst hf1
      rw [htr] at k3
      obtain ⟨k5, k6⟩ := k4 htr
      have hwp := bcl_wp hbc hW ⟨hp1, hp2⟩
      rw [if_neg (fun z => z rfl)] at hb
      have h184 := fun Q => c184 (c := e) (n := n) (Q := Q) (N := N) (p := p1) hS (by rw [e95]; exact hT) e21 k5 (by omega) k3
      rw [e95] at h184
      have hr := nm_rng (g := g) (p := p1) (N := N) hwp.2
      generalize hq0 : sk g N p1 = q at hb h184 hr
      have hM2 : ∀ F1 F2, MG c (fr e 75 (fu (fu (e 75) 23 F1) 22 F2)) := fun F1 F2 => hMe.of (MF.of75 (fun a ha => fr_ne ha) fun i i1 i2 => by rw [fr_same, fu_ne i1, fu_ne i2])
      have hRR2 : ∀ F1 F2, RRM (fr e 75 (fu (fu (e 75) 23 F1) 22 F2)) B1 R1 := fun F1 F2 => by
        obtain ⟨w1, w2, w3, w4, w5⟩ := k6
        exact ⟨w1, w2, w3, w4, by rw [fr_same, fu_ne (by omega), fu_ne (by omega)]; exact w5⟩
      by_cases hgf : gof g N q = 0
      · rw [if_neg (fun z => z hgf)] at hb
        rw [hgf] at h184
        rcases gon_01 g N q with hgn | hgn
        · rw [if_neg (by omega)] at hb
          rw [hgn] at h184
          injection hb with hb1 hb2
          subst hb1 hb2
          repeat' (first | (simp (disch := first | omega | exact Nat.le_of_ble_eq_true rfl | exact rfl | assumption | (simp (disch := omega) only [fr_ne, fr_same]; first | assumption | omega)) only [r168_0, r168_1, v168_1_11, r168_4, r168_5r, r168_7, r168_12, r168_13, r168_16, r168_17, r168_18, r168_23, r168_24, r168_27, r168_28, r168_29r, r168_32, r168_35, r168_36r, r168_38, r168_43, r168_44, r168_47, r168_48, r168_49, r168_50r, r168_53, r168_56, r168_57, r168_58, r168_61, r168_62r, r168_63, r168_64i, r168_69, r168_70, r168_71, v168_71_11, r168_74r, r168_77, r168_78, v168_78_11, r168_81i, r168_82, r168_85, r168_86, r168_87, r168_90, g11_49_11, g11_52_11, p11_276_11, p11_149_11, mo_len, ms75 hS, mt75 hS, mo_g14, ms89 hS, mt89 hS, mo_g15, ms90 hS, mt90 hS, mo_s20, mo_s21, il_s, bl_s, bl_z, ll_s, is_s, bs_s, bs_z, ls_s, al_s, al_b, al_l, fr_ne, fr_same, fr_fr, Nat.reduceEqDiff, tc_gf3_s, tc_ql2_s, tc_ws_0, tc_ws_i, tc_ws_l, tc_ws_r, Nat.reduceLeDiff, Nat.reduceAdd, Nat.reduceLT, true_and, and_true, if_true, if_false, tc_K, Option.toList_some, Option.toList_none, List.nil_append, List.cons_append, ite_true, ite_false, Int.cast_ofNat_Int, reduceIte, i3_add_eq, i3_sub_eq, Int.add_sub_cancel, Int.add_neg_cancel_right, h184]) | (simp only [r168_9, r168_20, r168_40, r168_66, i6_lt0, i6_0lt, i6_0le, i6_le0, i6_eq0, b10_0, ite_not, Int.reduceLT, Int.reduceLE, Int.reduceEq, Int.reduceNeg, if_true, if_false, ite_true, ite_false, reduceIte, eq_self, not_true, not_false_eq_true]; try refine tc_ite (fun _ => ?_) (fun _ => ?_) <;> try (exfalso; omega)))
          exact fin _ _ (hM2 _ _) (by rw [fr_same, fu_ne (by omega), fu_same]) fun _ => ⟨⟨R1, hRR2 _ _⟩, hwp.1.wb (by omega)⟩
        · rw [if_pos hgn] at hb
          rw [hgn] at h184
          have hg1 := gon_1 hgn
          repeat' (first | (simp (disch := first | omega | exact Nat.le_of_ble_eq_true rfl | exact rfl | assumption | (simp (disch := omega) only [fr_ne, fr_same]; first | assumption | omega)) only [r168_0, r168_1, v168_1_11, r168_4, r168_5r, r168_7, r168_12, r168_13, r168_16, r168_17, r168_18, r168_23, r168_24, r168_27, r168_28, r168_29r, r168_32, r168_35, r168_36r, r168_38, r168_43, r168_44, r168_47, r168_48, r168_49, r168_50r, r168_53, r168_56, r168_57, r168_58, r168_61, r168_62r, r168_63, r168_64i, r168_69, r168_70, r168_71, v168_71_11, r168_74r, r168_77, r168_78, v168_78_11, r168_81i, r168_82, r168_85, r168_86, r168_87, r168_90, g11_49_11, g11_52_11, p11_276_11, p11_149_11, mo_len, ms75 hS, mt75 hS, mo_g14, ms89 hS, mt89 hS, mo_g15, ms90 hS, mt90 hS, mo_s20, mo_s21, il_s, bl_s, bl_z, ll_s, is_s, bs_s, bs_z, ls_s, al_s, al_b, al_l, fr_ne, fr_same, fr_fr, Nat.reduceEqDiff, tc_gf3_s, tc_ql2_s, tc_ws_0, tc_ws_i, tc_ws_l, tc_ws_r, Nat.reduceLeDiff, Nat.reduceAdd, Nat.reduceLT, true_and, and_true, if_true, if_false, tc_K, Option.toList_some, Option.toList_none, List.nil_append, List.cons_append, ite_true, ite_false, Int.cast_ofNat_Int, reduceIte, i3_add_eq, i3_sub_eq, Int.add_sub_cancel, Int.add_neg_cancel_right, h184]) | (simp only [r168_9, r168_20, r168_40, r168_66, i6_lt0, i6_0lt, i6_0le, i6_le0, i6_eq0, b10_0, ite_not, Int.reduceLT, Int.reduceLE, Int.reduceEq, Int.reduceNeg, if_true, if_false, ite_true, ite_false, reduceIte, eq_self, not_true, not_false_eq_true]; try refine tc_ite (fun _ => ?_) (fun _ => ?_) <;> try (exfalso; omega)))
          refine ih (k + 1) (q + 1) R1 B1 _ (by omega) hwp.1 (by omega) (by omega) hb ⟨?_, ?_, ?_, ?_⟩ (hRR2 _ _) ?_ (hM2 _ _)
          · rw [fr_ne (by omega)]
            exact e95
          · rw [fr_same, fu_ne (by omega), fu_ne (by omega)]
            exact e21
          · rw [fr_same, fu_same]
          · rw [fr_same, fu_ne (by omega), fu_same]
          · intro a ha
            refine ⟨(hST a ha).1, ?_⟩
            rw [fr_ne (by omega), k1.1 a (by omega) (by omega)]
            exact (hST a ha).2
      · rw [if_pos hgf] at hb
        rw [gof_gon hgf] at h184
        injection hb with hb1 hb2
        rw [hb1] at h184 hgf
        repeat' (first | (simp (disch := first | omega | exact Nat.le_of_ble_eq_true rfl | exact rfl | assumption | (simp (disch := omega) only [fr_ne, fr_same]; first | assumption | omega)) only [r168_0, r168_1, v168_1_11, r168_4, r168_5r, r168_7, r168_12, r168_13, r168_16, r168_17, r168_18, r168_23, r168_24, r168_27, r168_28, r168_29r, r168_32, r168_35, r168_36r, r168_38, r168_43, r168_44, r168_47, r168_48, r168_49, r168_50r, r168_53, r168_56, r168_57, r168_58, r168_61, r168_62r, r168_63, r168_64i, r168_69, r168_70, r168_71, v168_71_11, r168_74r, r168_77, r168_78, v168_78_11, r168_81i, r168_82, r168_85, r168_86, r168_87, r168_90, g11_49_11, g11_52_11, p11_276_11, p11_149_11, mo_len, ms75 hS, mt75 hS, mo_g14, ms89 hS, mt89 hS, mo_g15, ms90 hS, mt90 hS, mo_s20, mo_s21, il_s, bl_s, bl_z, ll_s, is_s, bs_s, bs_z, ls_s, al_s, al_b, al_l, fr_ne, fr_same, fr_fr, Nat.reduceEqDiff, tc_gf3_s, tc_ql2_s, tc_ws_0, tc_ws_i, tc_ws_l, tc_ws_r, Nat.reduceLeDiff, Nat.reduceAdd, Nat.reduceLT, true_and, and_true, if_true, if_false, tc_K, Option.toList_some, Option.toList_none, List.nil_append, List.cons_append, ite_true, ite_false, Int.cast_ofNat_Int, reduceIte, i3_add_eq, i3_sub_eq, Int.add_sub_cancel, Int.add_neg_cancel_right, h184]) | (simp only [r168_9, r168_20, r168_40, r168_66, i6_lt0, i6_0lt, i6_0le, i6_le0, i6_eq0, b10_0, ite_not, Int.reduceLT, Int.reduceLE, Int.reduceEq, Int.reduceNeg, if_true, if_false, ite_true, ite_false, reduceIte, eq_self, not_true, not_false_eq_true]; try refine tc_ite (fun _ => ?_) (fun _ => ?_) <;> try (exfalso; omega)))
        exact fin _ _ (hM2 _ _) (by rw [fr_same, fu_ne (by omega), fu_same]) fun z => absurd z hgf
    · have hff : trl g N (bw g N (sk g N p)) f1 p1 = f := by
        by_cases hf1 : f1 = 0
        · have h3 := trl_go htr hf1
          rw [if_neg (fun z => z hf1)] at hb
          rw [h3.2.1, h3.2.2] at hb
          rw [h3.1]
          have hp3 := (bcl_wp (hf1 ▸ hbc) hW ⟨hp1, hp2⟩).2
          rw [if_pos (by omega)] at hb
          injection hb with hb1 hb2
        · rw [if_pos hf1] at hb
          injection hb with hb1 hb2
          rw [← hb1]
          exact if_neg fun z => hf1 z.2.1
      rw [hff] at k3 htr
      have h184 := fun Q => c184f (c := e) (n := n) (Q := Q) (N := N) (p := e 75 22) hS (by rw [e95]; exact hT) e21 rfl (by omega) (by rw [k3]; exact htr)
      repeat' (first | (simp (disch := first | omega | exact Nat.le_of_ble_eq_true rfl | exact rfl | assumption | (simp (disch := omega) only [fr_ne, fr_same]; first | assumption | omega)) only [r168_0, r168_1, v168_1_11, r168_4, r168_5r, r168_7, r168_12, r168_13, r168_16, r168_17, r168_18, r168_23, r168_24, r168_27, r168_28, r168_29r, r168_32, r168_35, r168_36r, r168_38, r168_43, r168_44, r168_47, r168_48, r168_49, r168_50r, r168_53, r168_56, r168_57, r168_58, r168_61, r168_62r, r168_63, r168_64i, r168_69, r168_70, r168_71, v168_71_11, r168_74r, r168_77, r168_78, v168_78_11, r168_81i, r168_82, r168_85, r168_86, r168_87, r168_90, g11_49_11, g11_52_11, p11_276_11, p11_149_11, mo_len, ms75 hS, mt75 hS, mo_g14, ms89 hS, mt89 hS, mo_g15, ms90 hS, mt90 hS, mo_s20, mo_s21, il_s, bl_s, bl_z, ll_s, is_s, bs_s, bs_z, ls_s, al_s, al_b, al_l, fr_ne, fr_same, fr_fr, Nat.reduceEqDiff, tc_gf3_s, tc_ql2_s, tc_ws_0, tc_ws_i, tc_ws_l, tc_ws_r, Nat.reduceLeDiff, Nat.reduceAdd, Nat.reduceLT, true_and, and_true, if_true, if_false, tc_K, Option.toList_some, Option.toList_none, List.nil_append, List.cons_append, ite_true, ite_false, Int.cast_ofNat_Int, reduceIte, i3_add_eq, i3_sub_eq, Int.add_sub_cancel, Int.add_neg_cancel_right, h184]) | (simp only [r168_9, r168_20, r168_40, r168_66, i6_lt0, i6_0lt, i6_0le, i6_le0, i6_eq0, b10_0, ite_not, Int.reduceLT, Int.reduceLE, Int.reduceEq, Int.reduceNeg, if_true, if_false, ite_true, ite_false, reduceIte, eq_self, not_true, not_false_eq_true]; try refine tc_ite (fun _ => ?_) (fun _ => ?_) <;> try (exfalso; omega)))
      exact fin _ _ (hMe.of (MF.of75 (fun a ha => fr_ne ha) fun i i1 i2 => by rw [fr_same, fu_ne i1])) (by rw [fr_same, fu_ne (by omega)]; exact k3) fun z => absurd z htr
end BEACHP

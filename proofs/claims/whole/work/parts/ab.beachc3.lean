/-! the class: a beach read, all of it -/
theorem hIr {L m a : Nat} {sh : Nat → SH} {c : Nat → Int → Int} {f : Int → Int} : (hp L sh c).set a (.inl (0, al m f)) = hp L (fs sh a (0, m, [])) (fr c a f) := hp_setS (s := (0, m, []))
theorem sk_sk {g : Int → Int} {N : Int} : ∀ (k : Nat) (p : Int), (N - p).toNat ≤ k → sk g N (sk g N p) = sk g N p := by
  intro k
  induction k with
  | zero =>
    intro p hk
    rw [sk_e (p := p), if_neg (by omega), sk_e (p := p), if_neg (by omega)]
  | succ k ih =>
    intro p hk
    by_cases h : p < N ∧ g p = 32
    · rw [sk_e (p := p), if_pos h]
      exact ih (p + 1) (by omega)
    · rw [sk_e (p := p), if_neg h, sk_e (p := p), if_neg h]
theorem sk_2 (g : Int → Int) (N p : Int) : sk g N (sk g N p) = sk g N p := sk_sk _ p (Nat.le_refl _)
theorem fin_rng {l : Nat} {f : Int → Int} (h : ∀ j : Fin l, 97 ≤ f (j.val : Int) ∧ f (j.val : Int) ≤ 122) : ∀ j : Int, 0 ≤ j → j < l → 97 ≤ f j ∧ f j ≤ 122 := fun j j1 j2 => by
  have := h ⟨j.toNat, by omega⟩
  simp only [Int.toNat_of_nonneg j1] at this
  exact this
theorem wls_0 : WLS (chs 0) 0 [5, 3, 4, 4, 5] := ⟨fin_rng (l := 5) (f := fun j => chs 0 (0 + j)) (by decide +kernel), by decide +kernel, by decide, fin_rng (l := 3) (f := fun j => chs 0 (0 + ((5 : Nat) : Int) + 1 + j)) (by decide +kernel), by decide +kernel, by decide, fin_rng (l := 4) (f := fun j => chs 0 (0 + ((5 : Nat) : Int) + 1 + ((3 : Nat) : Int) + 1 + j)) (by decide +kernel), by decide +kernel, by decide, fin_rng (l := 4) (f := fun j => chs 0 (0 + ((5 : Nat) : Int) + 1 + ((3 : Nat) : Int) + 1 + ((4 : Nat) : Int) + 1 + j)) (by decide +kernel), by decide +kernel, by decide, fin_rng (l := 5) (f := fun j => chs 0 (0 + ((5 : Nat) : Int) + 1 + ((3 : Nat) : Int) + 1 + ((4 : Nat) : Int) + 1 + ((4 : Nat) : Int) + 1 + j)) (by decide +kernel), by decide +kernel, by decide, trivial⟩
section BEACHE
variable {L : Nat} {sh : Nat → SH} {c : Nat → Int → Int} {n : Nat} {Q : Option AV → List SC → Nat → Prop} {s : Nat} {g : Int → Int} {N p R f p' R' k : Int} {B B' : Nat → Int → Int}
theorem c36 (hB : BRd L sh s) (hT : TP g N) (hR : RD c g N p) (hp0 : 0 ≤ p ∧ p ≤ N) (hRB : RB c s B R) (hW : WP B R k) {w : Int} (ht : tmy k w R B = 0) (hw : 0 ≤ w ∧ w ≤ 4) (hb : bpt g N w p R B = (f, p', R', B'))
    (hq : ∀ e, BF c e s → e 69 1 = N → e 69 4 = f → (f = 0 → e 69 2 = p' ∧ RB e s B' R') → Q none (hp L sh e) n) : tc_C 36 [rf 69, .inl w] (hp L sh c) n Q := by
  obtain ⟨hL, h69, h27, hSh, hs⟩ := id hB
  have hL69 : 69 < L := by omega
  obtain ⟨w1, w2, w3, w4, w5, w6, w7, w8, w9, w10⟩ := hW
  unfold tmy at ht
  have hk40 : k < 40 := by
    by_cases h1 : 40 ≤ k
    · rw [if_pos h1] at ht
      omega
    · omega
  rw [if_neg (by omega)] at ht
  show tc_W 36 0 [rf 69, .inl w] [] _ _ Q
  by_cases q0 : w = 0
  · subst q0
    rw [if_pos rfl] at ht
    have hk0 : k = 0 := by
      by_cases h1 : k = 0
      · exact h1
      · rw [if_neg h1] at ht
        omega
    repeat' (simp (disch := first | omega | exact Nat.le_of_ble_eq_true rfl | exact rfl | assumption | (simp (disch := omega) only [fr_ne, fr_same]; first | assumption | omega)) only [r36_0, r36_1_0, r36_1_1, r36_1_2, r36_1_3, r36_1_d, r36_32, r36_33, v36_33_0, r36_36, r36_39, r36_40, v36_40_0, r36_43, r36_46, r36_47, v36_47_0, r36_50, r36_53, r36_54, v36_54_0, r36_57, r36_60, r36_61, v36_61_0, r36_64, il_s, bl_s, bl_z, ll_s, is_s, bs_s, bs_z, ls_s, al_s, al_b, al_l, fr_ne, fr_same, fr_fr, Nat.reduceEqDiff, tc_gf3_s, tc_ql2_s, tc_ws_0, tc_ws_i, tc_ws_l, tc_ws_r, Nat.reduceLeDiff, Nat.reduceAdd, Nat.reduceLT, true_and, and_true, if_true, if_false, tc_K, Option.toList_some, Option.toList_none, List.nil_append, List.cons_append, ite_true, ite_false, Int.cast_ofNat_Int, reduceIte, i3_add_eq, i3_sub_eq, Int.add_sub_cancel, Int.add_neg_cancel_right, hO hL69 h69])
    refine c37 hB hT hR hp0 hRB (by omega) (w10 hk0) hb ?_
    intro e h1 h2 h3 h4
    repeat' (simp (disch := first | omega | exact Nat.le_of_ble_eq_true rfl | exact rfl | assumption | (simp (disch := omega) only [fr_ne, fr_same]; first | assumption | omega)) only [r36_0, r36_1_0, r36_1_1, r36_1_2, r36_1_3, r36_1_d, r36_32, r36_33, v36_33_0, r36_36, r36_39, r36_40, v36_40_0, r36_43, r36_46, r36_47, v36_47_0, r36_50, r36_53, r36_54, v36_54_0, r36_57, r36_60, r36_61, v36_61_0, r36_64, il_s, bl_s, bl_z, ll_s, is_s, bs_s, bs_z, ls_s, al_s, al_b, al_l, fr_ne, fr_same, fr_fr, Nat.reduceEqDiff, tc_gf3_s, tc_ql2_s, tc_ws_0, tc_ws_i, tc_ws_l, tc_ws_r, Nat.reduceLeDiff, Nat.reduceAdd, Nat.reduceLT, true_and, and_true, if_true, if_false, tc_K, Option.toList_some, Option.toList_none, List.nil_append, List.cons_append, ite_true, ite_false, Int.cast_ofNat_Int, reduceIte, i3_add_eq, i3_sub_eq, Int.add_sub_cancel, Int.add_neg_cancel_right])
    exact hq e h1 h2 h3 h4
  rw [if_neg q0] at ht
  have hk0 : ¬ k = 0 := fun q => by
    rw [if_pos q] at ht
    omega
  rw [if_neg hk0] at ht
  have hN25 : 0 ≤ B 0 0 * B 0 1 ∧ B 0 0 * B 0 1 ≤ 25 := by
    have hd : 2 ≤ B 0 0 ∧ B 0 0 ≤ 5 ∧ 2 ≤ B 0 1 ∧ B 0 1 ≤ 5 := by omega
    have q1 := Int.mul_le_mul hd.2.1 hd.2.2.2 (by omega) (by omega)
    have q2 := Int.mul_nonneg (show 0 ≤ B 0 0 by omega) (show 0 ≤ B 0 1 by omega)
    omega
  by_cases q1 : w = 1
  · subst q1
    rw [if_pos rfl] at ht
    have hRH : R < B 0 1 := by
      by_cases h1 : R < B 0 1
      · exact h1
      · rw [if_neg h1] at ht
        omega
    repeat' (simp (disch := first | omega | exact Nat.le_of_ble_eq_true rfl | exact rfl | assumption | (simp (disch := omega) only [fr_ne, fr_same]; first | assumption | omega)) only [r36_0, r36_1_0, r36_1_1, r36_1_2, r36_1_3, r36_1_d, r36_32, r36_33, v36_33_0, r36_36, r36_39, r36_40, v36_40_0, r36_43, r36_46, r36_47, v36_47_0, r36_50, r36_53, r36_54, v36_54_0, r36_57, r36_60, r36_61, v36_61_0, r36_64, il_s, bl_s, bl_z, ll_s, is_s, bs_s, bs_z, ls_s, al_s, al_b, al_l, fr_ne, fr_same, fr_fr, Nat.reduceEqDiff, tc_gf3_s, tc_ql2_s, tc_ws_0, tc_ws_i, tc_ws_l, tc_ws_r, Nat.reduceLeDiff, Nat.reduceAdd, Nat.reduceLT, true_and, and_true, if_true, if_false, tc_K, Option.toList_some, Option.toList_none, List.nil_append, List.cons_append, ite_true, ite_false, Int.cast_ofNat_Int, reduceIte, i3_add_eq, i3_sub_eq, Int.add_sub_cancel, Int.add_neg_cancel_right, hO hL69 h69])
    refine c40 hB hT hR hp0 hRB (by omega) (by omega) hb ?_
    intro e h1 h2 h3 h4
    repeat' (simp (disch := first | omega | exact Nat.le_of_ble_eq_true rfl | exact rfl | assumption | (simp (disch := omega) only [fr_ne, fr_same]; first | assumption | omega)) only [r36_0, r36_1_0, r36_1_1, r36_1_2, r36_1_3, r36_1_d, r36_32, r36_33, v36_33_0, r36_36, r36_39, r36_40, v36_40_0, r36_43, r36_46, r36_47, v36_47_0, r36_50, r36_53, r36_54, v36_54_0, r36_57, r36_60, r36_61, v36_61_0, r36_64, il_s, bl_s, bl_z, ll_s, is_s, bs_s, bs_z, ls_s, al_s, al_b, al_l, fr_ne, fr_same, fr_fr, Nat.reduceEqDiff, tc_gf3_s, tc_ql2_s, tc_ws_0, tc_ws_i, tc_ws_l, tc_ws_r, Nat.reduceLeDiff, Nat.reduceAdd, Nat.reduceLT, true_and, and_true, if_true, if_false, tc_K, Option.toList_some, Option.toList_none, List.nil_append, List.cons_append, ite_true, ite_false, Int.cast_ofNat_Int, reduceIte, i3_add_eq, i3_sub_eq, Int.add_sub_cancel, Int.add_neg_cancel_right])
    exact hq e h1 h2 h3 h4
  rw [if_neg q1] at ht
  by_cases q2 : w = 2
  · subst q2
    rw [if_pos rfl] at ht
    have hF : B 0 2 < 6 := by
      by_cases h1 : B 0 2 < 6
      · exact h1
      · rw [if_neg h1] at ht
        omega
    repeat' (simp (disch := first | omega | exact Nat.le_of_ble_eq_true rfl | exact rfl | assumption | (simp (disch := omega) only [fr_ne, fr_same]; first | assumption | omega)) only [r36_0, r36_1_0, r36_1_1, r36_1_2, r36_1_3, r36_1_d, r36_32, r36_33, v36_33_0, r36_36, r36_39, r36_40, v36_40_0, r36_43, r36_46, r36_47, v36_47_0, r36_50, r36_53, r36_54, v36_54_0, r36_57, r36_60, r36_61, v36_61_0, r36_64, il_s, bl_s, bl_z, ll_s, is_s, bs_s, bs_z, ls_s, al_s, al_b, al_l, fr_ne, fr_same, fr_fr, Nat.reduceEqDiff, tc_gf3_s, tc_ql2_s, tc_ws_0, tc_ws_i, tc_ws_l, tc_ws_r, Nat.reduceLeDiff, Nat.reduceAdd, Nat.reduceLT, true_and, and_true, if_true, if_false, tc_K, Option.toList_some, Option.toList_none, List.nil_append, List.cons_append, ite_true, ite_false, Int.cast_ofNat_Int, reduceIte, i3_add_eq, i3_sub_eq, Int.add_sub_cancel, Int.add_neg_cancel_right, hO hL69 h69])
    refine c42 hB hT hR hp0 hRB (by omega) hN25 hb ?_
    intro e h1 h2 h3 h4
    repeat' (simp (disch := first | omega | exact Nat.le_of_ble_eq_true rfl | exact rfl | assumption | (simp (disch := omega) only [fr_ne, fr_same]; first | assumption | omega)) only [r36_0, r36_1_0, r36_1_1, r36_1_2, r36_1_3, r36_1_d, r36_32, r36_33, v36_33_0, r36_36, r36_39, r36_40, v36_40_0, r36_43, r36_46, r36_47, v36_47_0, r36_50, r36_53, r36_54, v36_54_0, r36_57, r36_60, r36_61, v36_61_0, r36_64, il_s, bl_s, bl_z, ll_s, is_s, bs_s, bs_z, ls_s, al_s, al_b, al_l, fr_ne, fr_same, fr_fr, Nat.reduceEqDiff, tc_gf3_s, tc_ql2_s, tc_ws_0, tc_ws_i, tc_ws_l, tc_ws_r, Nat.reduceLeDiff, Nat.reduceAdd, Nat.reduceLT, true_and, and_true, if_true, if_false, tc_K, Option.toList_some, Option.toList_none, List.nil_append, List.cons_append, ite_true, ite_false, Int.cast_ofNat_Int, reduceIte, i3_add_eq, i3_sub_eq, Int.add_sub_cancel, Int.add_neg_cancel_right])
    exact hq e h1 h2 h3 h4
  rw [if_neg q2] at ht
  by_cases q3 : w = 3
  · subst q3
    rw [if_pos rfl] at ht
    have hF : B 0 3 < 12 := by
      by_cases h1 : B 0 3 < 12
      · exact h1
      · rw [if_neg h1] at ht
        omega
    repeat' (simp (disch := first | omega | exact Nat.le_of_ble_eq_true rfl | exact rfl | assumption | (simp (disch := omega) only [fr_ne, fr_same]; first | assumption | omega)) only [r36_0, r36_1_0, r36_1_1, r36_1_2, r36_1_3, r36_1_d, r36_32, r36_33, v36_33_0, r36_36, r36_39, r36_40, v36_40_0, r36_43, r36_46, r36_47, v36_47_0, r36_50, r36_53, r36_54, v36_54_0, r36_57, r36_60, r36_61, v36_61_0, r36_64, il_s, bl_s, bl_z, ll_s, is_s, bs_s, bs_z, ls_s, al_s, al_b, al_l, fr_ne, fr_same, fr_fr, Nat.reduceEqDiff, tc_gf3_s, tc_ql2_s, tc_ws_0, tc_ws_i, tc_ws_l, tc_ws_r, Nat.reduceLeDiff, Nat.reduceAdd, Nat.reduceLT, true_and, and_true, if_true, if_false, tc_K, Option.toList_some, Option.toList_none, List.nil_append, List.cons_append, ite_true, ite_false, Int.cast_ofNat_Int, reduceIte, i3_add_eq, i3_sub_eq, Int.add_sub_cancel, Int.add_neg_cancel_right, hO hL69 h69])
    refine c43 hB hT hR hp0 hRB (by omega) hb ?_
    intro e h1 h2 h3 h4
    repeat' (simp (disch := first | omega | exact Nat.le_of_ble_eq_true rfl | exact rfl | assumption | (simp (disch := omega) only [fr_ne, fr_same]; first | assumption | omega)) only [r36_0, r36_1_0, r36_1_1, r36_1_2, r36_1_3, r36_1_d, r36_32, r36_33, v36_33_0, r36_36, r36_39, r36_40, v36_40_0, r36_43, r36_46, r36_47, v36_47_0, r36_50, r36_53, r36_54, v36_54_0, r36_57, r36_60, r36_61, v36_61_0, r36_64, il_s, bl_s, bl_z, ll_s, is_s, bs_s, bs_z, ls_s, al_s, al_b, al_l, fr_ne, fr_same, fr_fr, Nat.reduceEqDiff, tc_gf3_s, tc_ql2_s, tc_ws_0, tc_ws_i, tc_ws_l, tc_ws_r, Nat.reduceLeDiff, Nat.reduceAdd, Nat.reduceLT, true_and, and_true, if_true, if_false, tc_K, Option.toList_some, Option.toList_none, List.nil_append, List.cons_append, ite_true, ite_false, Int.cast_ofNat_Int, reduceIte, i3_add_eq, i3_sub_eq, Int.add_sub_cancel, Int.add_neg_cancel_right])
    exact hq e h1 h2 h3 h4
  have q4 : w = 4 := by omega
  subst q4
  repeat' (simp (disch := first | omega | exact Nat.le_of_ble_eq_true rfl | exact rfl | assumption | (simp (disch := omega) only [fr_ne, fr_same]; first | assumption | omega)) only [r36_0, r36_1_0, r36_1_1, r36_1_2, r36_1_3, r36_1_d, r36_32, r36_33, v36_33_0, r36_36, r36_39, r36_40, v36_40_0, r36_43, r36_46, r36_47, v36_47_0, r36_50, r36_53, r36_54, v36_54_0, r36_57, r36_60, r36_61, v36_61_0, r36_64, il_s, bl_s, bl_z, ll_s, is_s, bs_s, bs_z, ls_s, al_s, al_b, al_l, fr_ne, fr_same, fr_fr, Nat.reduceEqDiff, tc_gf3_s, tc_ql2_s, tc_ws_0, tc_ws_i, tc_ws_l, tc_ws_r, Nat.reduceLeDiff, Nat.reduceAdd, Nat.reduceLT, true_and, and_true, if_true, if_false, tc_K, Option.toList_some, Option.toList_none, List.nil_append, List.cons_append, ite_true, ite_false, Int.cast_ofNat_Int, reduceIte, i3_add_eq, i3_sub_eq, Int.add_sub_cancel, Int.add_neg_cancel_right, hO hL69 h69])
  refine c44 hB hT hR hp0 hRB hb ?_
  intro e h1 h2 h3 h4
  repeat' (simp (disch := first | omega | exact Nat.le_of_ble_eq_true rfl | exact rfl | assumption | (simp (disch := omega) only [fr_ne, fr_same]; first | assumption | omega)) only [r36_0, r36_1_0, r36_1_1, r36_1_2, r36_1_3, r36_1_d, r36_32, r36_33, v36_33_0, r36_36, r36_39, r36_40, v36_40_0, r36_43, r36_46, r36_47, v36_47_0, r36_50, r36_53, r36_54, v36_54_0, r36_57, r36_60, r36_61, v36_61_0, r36_64, il_s, bl_s, bl_z, ll_s, is_s, bs_s, bs_z, ls_s, al_s, al_b, al_l, fr_ne, fr_same, fr_fr, Nat.reduceEqDiff, tc_gf3_s, tc_ql2_s, tc_ws_0, tc_ws_i, tc_ws_l, tc_ws_r, Nat.reduceLeDiff, Nat.reduceAdd, Nat.reduceLT, true_and, and_true, if_true, if_false, tc_K, Option.toList_some, Option.toList_none, List.nil_append, List.cons_append, ite_true, ite_false, Int.cast_ofNat_Int, reduceIte, i3_add_eq, i3_sub_eq, Int.add_sub_cancel, Int.add_neg_cancel_right])
  exact hq e h1 h2 h3 h4
theorem c19 (hB : BRd L sh s) (hST : STRS sh c) (hT : TP g N) (hR : RD c g N p) (hp0 : 0 ≤ p ∧ p ≤ N) (hRB : RB c s B R) (hW : WP B R k) (hb : bcl g N k p R B = (f, p', R', B'))
    (hq : ∀ e, BF c e s → e 69 1 = N → e 69 4 = f → (f = 0 → e 69 2 = p' ∧ RB e s B' R') → Q none (hp L sh e) n) : tc_C 19 [rf 69, .inl k] (hp L sh c) n Q := by
  obtain ⟨hL, h69, h27, hSh, hs⟩ := id hB
  have hL69 : 69 < L := by omega
  have hN := hT.1
  have hr := nm_rng (g := g) hp0
  obtain ⟨r27, r1, r2, r4⟩ := hR
  have h20 := fun Q => c20_b (c := c) (n := n) (Q := Q) (N := N) (p := p) h69 h27 hL (by rw [r27]; exact hT) r1 r2 (by omega)
  rw [r27] at h20
  unfold bcl at hb
  generalize hq0 : sk g N p = q at hb hr h20
  have hsq : sk g N q = q := by rw [← hq0]; exact sk_2 g N p
  generalize hc1 : fr c 69 (fu (c 69) 2 q) = c1 at h20
  have a27 : c1 27 = g := by rw [← hc1, fr_ne (by omega)]; exact r27
  have a1 : c1 69 1 = N := by rw [← hc1, fr_same, fu_ne (by omega)]; exact r1
  have a2 : c1 69 2 = q := by rw [← hc1, fr_same, fu_same]
  have a0 : c1 0 = chs 0 := by rw [← hc1, fr_ne (by omega)]; exact (hST 0 (by omega)).2
  have h21 := fun Q => c21_b (c := c1) (n := n) (Q := Q) (N := N) (p := q) (w := 0) (tl := 26) (wl := [5, 3, 4, 4, 5]) h69 h27 hL (by rw [a27]; exact hT) a1 a2 (by omega) (by omega) (hST 0 (by omega)).1 (by omega) (by decide) (by rw [a0]; exact wls_0)
  rw [a27, a0, hsq] at h21
  have ebw : rwd g N q (chs 0) 0 0 [5, 3, 4, 4, 5] = bw g N q := rfl
  rw [ebw] at h21
  have hBF1 : BF c c1 s := BF.of69 fun a ha => by rw [← hc1, fr_ne ha]
  have b6 : c1 69 6 = c 69 6 := by rw [← hc1, fr_same, fu_ne (by omega)]
  have b7 : c1 69 7 = c 69 7 := by rw [← hc1, fr_same, fu_ne (by omega)]
  have b4 : c1 69 4 = 0 := by rw [← hc1, fr_same, fu_ne (by omega)]; exact r4
  show tc_W 19 0 [rf 69, .inl k, tc_nil, tc_nil] [] _ _ Q
  by_cases h1 : bw g N q = -1
  · rw [if_pos h1] at hb
    obtain ⟨hf, _⟩ := pr4 hb
    rw [h1, if_pos rfl] at h21
    have e1 : fr c1 69 (fu (c1 69) 2 q) = c1 := by rw [← a2, fu_id, fr_id]
    rw [e1] at h21
    have h34 := fun Q => c34_b (c := c1) (n := n) (Q := Q) (a := q) (k := 0) h69 h27 hL (by omega) (by omega)
    rw [if_pos b4] at h34
    have hq' := hq (fr c1 69 (fu (c1 69) 4 (1 + 8 * q + 0))) (hBF1.trans (BF.of69 fun a ha => fr_ne ha)) (by rw [fr_same, fu_ne (by omega)]; exact a1) (by rw [fr_same, fu_same]; omega) (fun z => by omega)
    repeat' (first | (simp (disch := first | omega | exact Nat.le_of_ble_eq_true rfl | exact rfl | assumption | (simp (disch := omega) only [fr_ne, fr_same]; first | assumption | omega)) only [r19_0, r19_1, v19_1_0, r19_4, r19_5, r19_8i, r19_9, r19_10, r19_12, v19_12_0, r19_15i, r19_16, r19_17, r19_21, r19_22, r19_23, r19_24, v19_24_0, r19_27, r19_30, r19_31, r19_32, r19_33, v19_33_0, r19_39, r19_40, r19_41, r19_42, v19_42_0, r19_45, r19_48, r19_49, r19_50, v19_50_0, r19_53, g0_44_0, g0_44_2, o0_len, o0_g2, o2_len, o2_g2, il_s, bl_s, bl_z, ll_s, is_s, bs_s, bs_z, ls_s, al_s, al_b, al_l, fr_ne, fr_same, fr_fr, Nat.reduceEqDiff, tc_gf3_s, tc_ql2_s, tc_ws_0, tc_ws_i, tc_ws_l, tc_ws_r, Nat.reduceLeDiff, Nat.reduceAdd, Nat.reduceLT, true_and, and_true, if_true, if_false, tc_K, Option.toList_some, Option.toList_none, List.nil_append, List.cons_append, ite_true, ite_false, Int.cast_ofNat_Int, reduceIte, i3_add_eq, i3_sub_eq, Int.add_sub_cancel, Int.add_neg_cancel_right, hO hL69 h69, h20, a2, h21, h34]) | (simp only [r19_18, r19_36, i6_lt0, i6_0lt, i6_0le, i6_le0, i6_eq0, b10_0, ite_not, Int.reduceLT, Int.reduceLE, Int.reduceEq, Int.reduceNeg, if_true, if_false, ite_true, ite_false, reduceIte, eq_self, not_true, not_false_eq_true]; try refine tc_ite (fun _ => ?_) (fun _ => ?_) <;> try (exfalso; omega)))
    all_goals first
      | exact hq'
      | omega
  rw [if_neg h1] at hb h21
  have hbr := bw_rn h1
  have hpl := bw_place h1 (N := N) (q := q) ⟨hr.2.2.1, hr.2.2.2⟩
  rw [hbr.2] at h21
  generalize hp2 : q + wl5 (bw g N q) = p2 at hb h21 hpl
  generalize hww : bw g N q = w at hb h21 h1 hbr
  generalize hc2 : fr c1 69 (fu (c1 69) 2 p2) = c2 at h21
  have d27 : c2 27 = g := by rw [← hc2, fr_ne (by omega)]; exact a27
  have d1 : c2 69 1 = N := by rw [← hc2, fr_same, fu_ne (by omega)]; exact a1
  have d2 : c2 69 2 = p2 := by rw [← hc2, fr_same, fu_same]
  have d4 : c2 69 4 = 0 := by rw [← hc2, fr_same, fu_ne (by omega)]; exact b4
  have hBF2 : BF c c2 s := hBF1.trans (BF.of69 fun a ha => by rw [← hc2, fr_ne ha])
  have e69 : ∀ a, ¬ a = 69 → c2 a = c a := fun a ha => by rw [← hc2, fr_ne ha, ← hc1, fr_ne ha]
  have hRB2 : RB c2 s B R := by
    obtain ⟨v1, v2, v3⟩ := hRB
    exact ⟨by rw [← hc2, fr_same, fu_ne (by omega), b6]; exact v1, by rw [← hc2, fr_same, fu_ne (by omega), b7]; exact v2, v3.fr fun a a1 a2 => e69 a (by omega)⟩
  have h35 := fun Q => c35 (c := c2) (n := n) (Q := Q) hB hRB2 hW (w := w) hbr.1
  by_cases h2 : tmy k w R B = 0
  · rw [if_neg (fun z => z h2)] at hb
    rw [h2] at h35
    repeat' (first | (simp (disch := first | omega | exact Nat.le_of_ble_eq_true rfl | exact rfl | assumption | (simp (disch := omega) only [fr_ne, fr_same]; first | assumption | omega)) only [r19_0, r19_1, v19_1_0, r19_4, r19_5, r19_8i, r19_9, r19_10, r19_12, v19_12_0, r19_15i, r19_16, r19_17, r19_21, r19_22, r19_23, r19_24, v19_24_0, r19_27, r19_30, r19_31, r19_32, r19_33, v19_33_0, r19_39, r19_40, r19_41, r19_42, v19_42_0, r19_45, r19_48, r19_49, r19_50, v19_50_0, r19_53, g0_44_0, g0_44_2, o0_len, o0_g2, o2_len, o2_g2, il_s, bl_s, bl_z, ll_s, is_s, bs_s, bs_z, ls_s, al_s, al_b, al_l, fr_ne, fr_same, fr_fr, Nat.reduceEqDiff, tc_gf3_s, tc_ql2_s, tc_ws_0, tc_ws_i, tc_ws_l, tc_ws_r, Nat.reduceLeDiff, Nat.reduceAdd, Nat.reduceLT, true_and, and_true, if_true, if_false, tc_K, Option.toList_some, Option.toList_none, List.nil_append, List.cons_append, ite_true, ite_false, Int.cast_ofNat_Int, reduceIte, i3_add_eq, i3_sub_eq, Int.add_sub_cancel, Int.add_neg_cancel_right, hO hL69 h69, h20, a2, h21, h35]) | (simp only [r19_18, r19_36, i6_lt0, i6_0lt, i6_0le, i6_le0, i6_eq0, b10_0, ite_not, Int.reduceLT, Int.reduceLE, Int.reduceEq, Int.reduceNeg, if_true, if_false, ite_true, ite_false, reduceIte, eq_self, not_true, not_false_eq_true]; try refine tc_ite (fun _ => ?_) (fun _ => ?_) <;> try (exfalso; omega)))
    all_goals try omega
    refine c36 (c := c2) hB hT ⟨d27, d1, d2, d4⟩ hpl hRB2 hW h2 hbr.1 hb ?_
    intro e k1 k2 k3 k4
    repeat' (first | (simp (disch := first | omega | exact Nat.le_of_ble_eq_true rfl | exact rfl | assumption | (simp (disch := omega) only [fr_ne, fr_same]; first | assumption | omega)) only [r19_0, r19_1, v19_1_0, r19_4, r19_5, r19_8i, r19_9, r19_10, r19_12, v19_12_0, r19_15i, r19_16, r19_17, r19_21, r19_22, r19_23, r19_24, v19_24_0, r19_27, r19_30, r19_31, r19_32, r19_33, v19_33_0, r19_39, r19_40, r19_41, r19_42, v19_42_0, r19_45, r19_48, r19_49, r19_50, v19_50_0, r19_53, g0_44_0, g0_44_2, o0_len, o0_g2, o2_len, o2_g2, il_s, bl_s, bl_z, ll_s, is_s, bs_s, bs_z, ls_s, al_s, al_b, al_l, fr_ne, fr_same, fr_fr, Nat.reduceEqDiff, tc_gf3_s, tc_ql2_s, tc_ws_0, tc_ws_i, tc_ws_l, tc_ws_r, Nat.reduceLeDiff, Nat.reduceAdd, Nat.reduceLT, true_and, and_true, if_true, if_false, tc_K, Option.toList_some, Option.toList_none, List.nil_append, List.cons_append, ite_true, ite_false, Int.cast_ofNat_Int, reduceIte, i3_add_eq, i3_sub_eq, Int.add_sub_cancel, Int.add_neg_cancel_right]) | (simp only [r19_18, r19_36, i6_lt0, i6_0lt, i6_0le, i6_le0, i6_eq0, b10_0, ite_not, Int.reduceLT, Int.reduceLE, Int.reduceEq, Int.reduceNeg, if_true, if_false, ite_true, ite_false, reduceIte, eq_self, not_true, not_false_eq_true]; try refine tc_ite (fun _ => ?_) (fun _ => ?_) <;> try (exfalso; omega)))
    exact hq e (hBF2.trans k1) k2 k3 k4
  · rw [if_pos h2] at hb
    obtain ⟨hf, _⟩ := pr4 hb
    have h34 := fun Q => c34_b (c := c2) (n := n) (Q := Q) (a := q) (k := 4) h69 h27 hL (by omega) (by omega)
    rw [if_pos d4] at h34
    have hq' := hq (fr c2 69 (fu (c2 69) 4 (1 + 8 * q + 4))) (hBF2.trans (BF.of69 fun a ha => fr_ne ha)) (by rw [fr_same, fu_ne (by omega)]; exact d1) (by rw [fr_same, fu_same]; exact hf) (fun z => by omega)
    generalize tmy k w R B = tm at h2 h35
    repeat' (first | (simp (disch := first | omega | exact Nat.le_of_ble_eq_true rfl | exact rfl | assumption | (simp (disch := omega) only [fr_ne, fr_same]; first | assumption | omega)) only [r19_0, r19_1, v19_1_0, r19_4, r19_5, r19_8i, r19_9, r19_10, r19_12, v19_12_0, r19_15i, r19_16, r19_17, r19_21, r19_22, r19_23, r19_24, v19_24_0, r19_27, r19_30, r19_31, r19_32, r19_33, v19_33_0, r19_39, r19_40, r19_41, r19_42, v19_42_0, r19_45, r19_48, r19_49, r19_50, v19_50_0, r19_53, g0_44_0, g0_44_2, o0_len, o0_g2, o2_len, o2_g2, il_s, bl_s, bl_z, ll_s, is_s, bs_s, bs_z, ls_s, al_s, al_b, al_l, fr_ne, fr_same, fr_fr, Nat.reduceEqDiff, tc_gf3_s, tc_ql2_s, tc_ws_0, tc_ws_i, tc_ws_l, tc_ws_r, Nat.reduceLeDiff, Nat.reduceAdd, Nat.reduceLT, true_and, and_true, if_true, if_false, tc_K, Option.toList_some, Option.toList_none, List.nil_append, List.cons_append, ite_true, ite_false, Int.cast_ofNat_Int, reduceIte, i3_add_eq, i3_sub_eq, Int.add_sub_cancel, Int.add_neg_cancel_right, hO hL69 h69, h20, a2, h21, h35, h34]) | (simp only [r19_18, r19_36, i6_lt0, i6_0lt, i6_0le, i6_le0, i6_eq0, b10_0, ite_not, Int.reduceLT, Int.reduceLE, Int.reduceEq, Int.reduceNeg, if_true, if_false, ite_true, ite_false, reduceIte, eq_self, not_true, not_false_eq_true]; try refine tc_ite (fun _ => ?_) (fun _ => ?_) <;> try (exfalso; omega)))
    all_goals first
      | exact hq'
      | omega
theorem c2 {r : Nat} (h5 : sh r = (6, 8, [none, none, none, none, none, none, none])) (hq : ∀ sh' c', (∀ a, a < r → sh' a = sh a ∧ c' a = c a) → ShoS (r + 8) sh' r → (c' r 0 = 0 ∧ c' r 1 = 0 ∧ c' r 2 = 0 ∧ c' r 3 = 0 ∧ c' r 4 = 0) → (c' (r + 6) 0 = 0 ∧ c' (r + 6) 1 = 1 ∧ c' (r + 6) 2 = 0) → Q none (hp (r + 8) sh' c') (n + 158)) : tc_C 2 [rf r] (hp (r + 1) sh c) n Q := by
  show tc_W 2 0 [rf r] [] _ _ Q
  repeat' (simp (disch := first | omega | exact Nat.le_of_ble_eq_true rfl | exact rfl | assumption | (simp (disch := omega) only [fr_ne, fr_same]; first | assumption | omega)) only [r2_0, r2_1, r2_4, r2_5, r2_6, r2_9, r2_10, r2_11, r2_14, r2_15, r2_16, r2_19, r2_20, r2_21, r2_24, r2_25, r2_26, r2_29, r2_30, r2_32, r2_34, r2_37, r2_38, r2_40, r2_42, r2_45, r2_46, r2_48, r2_50, r2_53, r2_54, r2_56, r2_58, r2_61, r2_62, r2_64, r2_66, r2_69, r2_70, r2_71, r2_73, r2_73A, r2_74, r2_75, r2_76, r2_77, r2_77A, r2_78, r2_79, r2_80, r2_81, r2_81A, r2_82, r2_83, r2_84, r2_85, r2_88, r2_89, r2_91, r2_93, r2_96, p8_9_8, p8_15_8, p8_18_8, p8_21_8, p8_24_8, p8_27_8, p8_31_8, p8_34_8, p8_37_8, p8_40_8, p8_43_8, p8_46_8, o8_len, o8_s0, o8_s1, o8_s2, o8_s3, o8_s4, o8_s5, o8_s6, o8_s7, o8_s8, o8_s9, o8_s10, o8_s11, il_s, bl_s, bl_z, ll_s, is_s, bs_s, bs_z, ls_s, al_s, al_b, al_l, fr_ne, fr_same, fr_fr, Nat.reduceEqDiff, tc_gf3_s, tc_ql2_s, tc_ws_0, tc_ws_i, tc_ws_l, tc_ws_r, Nat.reduceLeDiff, Nat.reduceAdd, Nat.reduceLT, true_and, and_true, if_true, if_false, tc_K, Option.toList_some, Option.toList_none, List.nil_append, List.cons_append, ite_true, ite_false, Int.cast_ofNat_Int, reduceIte, i3_add_eq, i3_sub_eq, Int.add_sub_cancel, Int.add_neg_cancel_right, hp_get, hp_len, h5, fs_same, fs_ne, px_o, px_i, hOr, hIr, nap_i, Int.reduceToNat])
  refine hq _ _ (fun a ha => ⟨?_, ?_⟩) ⟨by omega, ?_, ?_, ?_, ?_, ?_, ?_, ?_, ?_⟩ ⟨?_, ?_, ?_, ?_, ?_⟩ ⟨?_, ?_, ?_⟩
  all_goals simp (disch := omega) only [fs_same, fs_ne, fr_same, fr_ne, fu_same, fu_ne]
end BEACHE

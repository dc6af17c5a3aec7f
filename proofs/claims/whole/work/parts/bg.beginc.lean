/-! the class: beach and rule -/
def rk (N : Nat) (D : Nat → Option Nat) : List (Option Nat) := (List.range N).map D
section RKS
variable {N : Nat} {D : Nat → Option Nat} {i : Nat} {v : Option Nat}
theorem rk_len : (rk N D).length = N := by unfold rk; rw [List.length_map, List.length_range]
theorem rk_get (h : i < N) : (rk N D)[i]? = some (D i) := by unfold rk; rw [List.getElem?_map, List.getElem?_range h]; rfl
theorem rk_set : (rk N D).set i v = rk N (fun j => if j = i then v else D j) := by
  apply List.ext_getElem?
  intro j
  by_cases hj : j < N
  · rw [rk_get hj]
    by_cases hk : j = i
    · subst hk
      rw [List.getElem?_set_self (by rw [rk_len]; exact hj), if_pos rfl]
    · rw [List.getElem?_set_ne (Ne.symm hk), rk_get hj, if_neg hk]
  · rw [List.getElem?_eq_none (by rw [List.length_set, rk_len]; omega), List.getElem?_eq_none (by rw [rk_len]; omega)]
theorem rk_getD (h : i < N) : (rk N D).getD i none = D i := by rw [List.getD_eq_getElem?_getD, rk_get h]; rfl
end RKS
section RKR
variable {K pc n k a v N : Nat} {ls st : List AV} {h : List SC} {Q : Option AV → List SC → Nat → Prop} {z : Int} {D : Nat → Option Nat} {fs : List AV}
theorem ql_k (h0 : 0 ≤ z) (h1 : z < N) : tc_ql K pc ls st h n Q z (some (.inr (.inr (.inl (k, rk N D))))) = tc_W K pc ls (.inr (.inr (.inl (D z.toNat))) :: st) h n Q := by
  rw [tc_ql_s h0, rk_get (by omega)]
  rfl
theorem qs_k (h0 : 0 ≤ z) (h1 : z < N) : tc_qst K pc ls st h n Q a v z (some (.inr (.inr (.inl (k, rk N D))))) (some (.inr (.inr (.inr (k, fs))))) = tc_W K pc ls st (h.set a (.inr (.inr (.inl (k, rk N (fun j => if j = z.toNat then some v else D j)))))) n Q := by
  rw [← rk_set]
  exact if_pos ⟨rfl, h0, by rw [rk_len]; omega⟩
end RKR
theorem CL.at {L L2 : Nat} {sh sh2 : Nat → SH} {c d : Nat → Int → Int} {r : Nat} {l : Law} (h : CL L sh c r l) (hL : L ≤ L2) (hs : ∀ a, r ≤ a → a ≤ r + 2 → sh2 a = sh a ∧ d a = c a) : CL L2 sh2 d r l := by
  obtain ⟨hr, m1, k, ⟨g1, g2, g3, g4⟩, h2, h3, h4, h5, h6⟩ := h
  have q0 := hs r (by omega) (by omega)
  have q1 := hs (r + 1) (by omega) (by omega)
  have q2 := hs (r + 2) (by omega) (by omega)
  refine ⟨hr, m1, k, ⟨by omega, by rw [q0.1]; exact g2, by rw [q1.1]; exact g3, by rw [q2.1]; exact g4⟩, h2, h3, by rw [cla_ext q1.2 q2.2]; exact h4, ?_, ?_⟩
  · rw [q2.2]; exact h5
  · rw [q0.2]; exact h6
section BEGINC
variable {L : Nat} {sh : Nat → SH} {c : Nat → Int → Int} {n : Nat} {Q : Option AV → List SC → Nat → Prop} {s : Nat} {f N : Int} {B' : Nat → Int → Int} {l' : Law}
theorem c47 {t : Nat} (hL : 115 ≤ L) (h29 : sh 29 = (6, 6, [some s, some 38, some 42, some 44])) (h38 : SanS L sh 38) (h42 : sh 42 = (6, 4, [some 43])) (h44 : LogS L sh 44) (hSh : ShoS L sh t) (ht : 115 ≤ t) (hb : WB B') (hB : SHO B' t c)
    (hq : ∀ e, (∀ a, (a < 38 ∨ 44 < a ∨ a = 43) → e a = c a) → SAN True B' 38 e (bgn B') → e 42 = fu (c 42) 1 0 → e 44 = fu (c 44) 3 0 → Q none (hp L (fs sh 29 (6, 6, [some t, some 38, some 42, some 44])) e) n) : tc_C 47 [rf 29, rf t] (hp L sh c) n Q := by
  have hL29 : 29 < L := by omega
  have hL42 : 42 < L := by omega
  have hL44 : 44 < L := by omega
  generalize hS1 : fs sh 29 (6, 6, [some t, some 38, some 42, some 44]) = S1 at hq
  have e29 : S1 29 = (6, 6, [some t, some 38, some 42, some 44]) := by rw [← hS1, fs_same]
  have e38 : SanS L S1 38 := by rw [← hS1]; exact SanS_fs h38 (by omega)
  have e42 : S1 42 = (6, 4, [some 43]) := by rw [← hS1, fs_ne (by omega)]; exact h42
  have e44 : LogS L S1 44 := by rw [← hS1]; exact LogS_fs h44 (by omega)
  have eSh : ShoS L S1 t := by rw [← hS1]; exact ShoS_fs hSh (by omega)
  show tc_W 47 0 [rf 29, rf t] [] _ _ Q
  repeat' (simp (disch := first | omega | exact Nat.le_of_ble_eq_true rfl | exact rfl | assumption | (simp (disch := omega) only [fr_ne, fr_same]; first | assumption | omega)) only [r47_0, r47_1, r47_2, r47_5, r47_6, r47_9, r47_10, v47_10_5, r47_13, r47_14, r47_17, r47_18, r47_21, r47_22, r47_25, r47_26, r47_29, p6_39_6, g6_12_6, g6_21_6, p6_47_4, g6_28_6, p6_50_3, o6_len, o6_s0, o6_g1, o6_g2, o4_len, o4_s1, o6_g3, o3_len, o3_s3, il_s, bl_s, bl_z, ll_s, is_s, bs_s, bs_z, ls_s, al_s, al_b, al_l, fr_ne, fr_same, fr_fr, Nat.reduceEqDiff, tc_gf3_s, tc_ql2_s, tc_ws_0, tc_ws_i, tc_ws_l, tc_ws_r, Nat.reduceLeDiff, Nat.reduceAdd, Nat.reduceLT, true_and, and_true, if_true, if_false, tc_K, Option.toList_some, Option.toList_none, List.nil_append, List.cons_append, ite_true, ite_false, Int.cast_ofNat_Int, reduceIte, i3_add_eq, i3_sub_eq, Int.add_sub_cancel, Int.add_neg_cancel_right, hO hL29 h29, hOr, fr_id, hS1, hO hL29 e29, SanS_g0 e38, SanS_s0 e38, SanS_g1 e38, SanS_s1 e38, SanS_g2 e38, SanS_s2 e38, SanS_g3 e38, SanS_s3 e38])
  refine c48 (b := B') e38 eSh (by omega) hb hB ?_
  intro e g1 g2
  repeat' (simp (disch := first | omega | exact Nat.le_of_ble_eq_true rfl | exact rfl | assumption | (simp (disch := omega) only [fr_ne, fr_same]; first | assumption | omega)) only [r47_0, r47_1, r47_2, r47_5, r47_6, r47_9, r47_10, v47_10_5, r47_13, r47_14, r47_17, r47_18, r47_21, r47_22, r47_25, r47_26, r47_29, p6_39_6, g6_12_6, g6_21_6, p6_47_4, g6_28_6, p6_50_3, o6_len, o6_s0, o6_g1, o6_g2, o4_len, o4_s1, o6_g3, o3_len, o3_s3, il_s, bl_s, bl_z, ll_s, is_s, bs_s, bs_z, ls_s, al_s, al_b, al_l, fr_ne, fr_same, fr_fr, Nat.reduceEqDiff, tc_gf3_s, tc_ql2_s, tc_ws_0, tc_ws_i, tc_ws_l, tc_ws_r, Nat.reduceLeDiff, Nat.reduceAdd, Nat.reduceLT, true_and, and_true, if_true, if_false, tc_K, Option.toList_some, Option.toList_none, List.nil_append, List.cons_append, ite_true, ite_false, Int.cast_ofNat_Int, reduceIte, i3_add_eq, i3_sub_eq, Int.add_sub_cancel, Int.add_neg_cancel_right, hO hL29 e29, hO hL42 e42, hOs e42, LogS_g0 e44, LogS_s0 e44, LogS_g1 e44, LogS_s1 e44, LogS_g2 e44, LogS_s2 e44, LogS_g3 e44, LogS_s3 e44])
  refine hq _ (fun a ha => ?_) (g2.fr ?_ ?_ ?_ ?_) ?_ ?_
  all_goals simp (disch := omega) only [fr_ne, fr_same]
  · exact g1 a (by omega)
  · rw [g1 42 (by omega)]
  · rw [g1 44 (by omega)]
theorem c15 (hL : 115 ≤ L) (hM : MO sh s) (h38 : SanS L sh 38) (h42 : sh 42 = (6, 4, [some 43])) (h44 : LogS L sh 44) {t0 so : Option Nat} (h69 : sh 69 = (6, 0, [t0, so])) (h27 : sh 27 = (1, 400, [])) (hST : STRS sh c) (hT : TP (c 27) N) (h1 : c 26 1 = N) (hb : bpr (c 27) N 41 0 0 0 bsg = (f, B'))
    (hq1 : ¬ f = 0 → ∀ sh' e, (∀ a, a < L → ¬ a = 69 → sh' a = sh a) → sh' 69 = (6, 0, [some 27, some L]) → (∀ a, a < L → ¬ a = 69 → ¬ a = 26 → e a = c a) → e 26 = fu (c 26) 1 0 → Q (some (.inl (-2 - f))) (hp (L + 8) sh' e) (n + 170))
    (hq : f = 0 → ∀ sh' e, (∀ a, a < L → ¬ a = 69 → ¬ a = 29 → sh' a = sh a) → sh' 69 = (6, 0, [some 27, some L]) → sh' 29 = (6, 6, [some L, some 38, some 42, some 44]) → ShoS (L + 8) sh' L → (∀ a, a < L → ¬ a = 69 → ¬ a = 26 → (a < 38 ∨ 44 < a ∨ a = 43) → e a = c a) → e 26 = fu (c 26) 1 0 → SHO B' L e → WB B' → SAN True B' 38 e (bgn B') → e 42 1 = 0 → e 44 3 = 0 → Q (some (.inl (B' 0 0 * B' 0 1))) (hp (L + 8) sh' e) (n + 170)) : tc_C 15 [rf 26] (hp L sh c) n Q := by
  have hL26 : 26 < L := by omega
  have hfr := bpr_rng hT.1.2 41 0 0 0 bsg WP_bsg (by omega) hT.1.1 hb
  have hL69 : 69 < L := by omega
  show tc_W 15 0 [rf 26, tc_nil] [] _ _ Q
  repeat' (simp (disch := first | omega | exact Nat.le_of_ble_eq_true rfl | exact rfl | assumption | (simp (disch := omega) only [fr_ne, fr_same]; first | assumption | omega)) only [r15_0, r15_1, r15_4, r15_5, r15_8, r15_9, r15_12, v15_12_0, r15_15r, r15_16, r15_17, r15_18, r15_21, r15_22, r15_22A, r15_25, r15_27, r15_28, r15_31, r15_34, r15_35, r15_36, r15_37, r15_40, r15_41, v15_41_6, r15_44, r15_45, r15_48, g10_66_10, g10_9_10, g10_13_10, p10_13_10, g10_89_0, g10_89_2, g10_34_10, g10_95_8, o10_len, o10_g9, o10_g0, o10_g1, o10_s1, o0_len, o0_g4, o2_len, o2_g4, o10_g4, o8_len, o8_g2, il_s, bl_s, bl_z, ll_s, is_s, bs_s, bs_z, ls_s, al_s, al_b, al_l, fr_ne, fr_same, fr_fr, Nat.reduceEqDiff, tc_gf3_s, tc_ql2_s, tc_ws_0, tc_ws_i, tc_ws_l, tc_ws_r, Nat.reduceLeDiff, Nat.reduceAdd, Nat.reduceLT, true_and, and_true, if_true, if_false, tc_K, Option.toList_some, Option.toList_none, List.nil_append, List.cons_append, ite_true, ite_false, Int.cast_ofNat_Int, reduceIte, i3_add_eq, i3_sub_eq, Int.add_sub_cancel, Int.add_neg_cancel_right, hO hL26 hM.1, hO hL69 h69, h1])
  refine c16 hL h69 h27 hST hT hb ?_
  intro sh1 e1 k1 k2 k3 k4 k5
  have hL26' : 26 < L + 8 := by omega
  have hL29' : 29 < L + 8 := by omega
  have hL69' : 69 < L + 8 := by omega
  have g26 : sh1 26 = (6, 10, [some 27, some 28, some 29, some 48, some 49, some 56, some 60, some 69, some 70, some 74]) := by rw [(k1 26 hL26 (by omega)).1]; exact hM.1
  have g29 : sh1 29 = (6, 6, [some s, some 38, some 42, some 44]) := by rw [(k1 29 (by omega) (by omega)).1]; exact hM.2
  have f26 : e1 26 = c 26 := (k1 26 hL26 (by omega)).2
  by_cases hf : f = 0
  · have hq' := hq hf
    obtain ⟨hB, hWB⟩ := k5 hf
    rw [if_pos hf]
    repeat' (simp (disch := first | omega | exact Nat.le_of_ble_eq_true rfl | exact rfl | assumption | (simp (disch := omega) only [fr_ne, fr_same]; first | assumption | omega)) only [r15_0, r15_1, r15_4, r15_5, r15_8, r15_9, r15_12, v15_12_0, r15_15r, r15_16, r15_17, r15_18, r15_21, r15_22, r15_22A, r15_25, r15_27, r15_28, r15_31, r15_34, r15_35, r15_36, r15_37, r15_40, r15_41, v15_41_6, r15_44, r15_45, r15_48, g10_66_10, g10_9_10, g10_13_10, p10_13_10, g10_89_0, g10_89_2, g10_34_10, g10_95_8, o10_len, o10_g9, o10_g0, o10_g1, o10_s1, o0_len, o0_g4, o2_len, o2_g4, o10_g4, o8_len, o8_g2, il_s, bl_s, bl_z, ll_s, is_s, bs_s, bs_z, ls_s, al_s, al_b, al_l, fr_ne, fr_same, fr_fr, Nat.reduceEqDiff, tc_gf3_s, tc_ql2_s, tc_ws_0, tc_ws_i, tc_ws_l, tc_ws_r, Nat.reduceLeDiff, Nat.reduceAdd, Nat.reduceLT, true_and, and_true, if_true, if_false, tc_K, Option.toList_some, Option.toList_none, List.nil_append, List.cons_append, ite_true, ite_false, Int.cast_ofNat_Int, reduceIte, i3_add_eq, i3_sub_eq, Int.add_sub_cancel, Int.add_neg_cancel_right, hO hL26' g26, hOs g26, hO hL29' g29])
    refine c47 (t := L) (B' := B') (c := fr e1 26 (fu (e1 26) 1 0)) (by omega) g29 ?_ ?_ ?_ k3 (by omega) hWB (hB.fr fun a a1 a2 => fr_ne (by omega)) ?_
    · obtain ⟨b1, b2, b3, b4, b5⟩ := h38
      exact ⟨by omega, by rw [(k1 38 (by omega) (by omega)).1]; exact b2, by rw [(k1 39 (by omega) (by omega)).1]; exact b3, by rw [(k1 40 (by omega) (by omega)).1]; exact b4, by rw [(k1 41 (by omega) (by omega)).1]; exact b5⟩
    · rw [(k1 42 (by omega) (by omega)).1]; exact h42
    · obtain ⟨b1, b2, b3, b4, b5⟩ := h44
      exact ⟨by omega, by rw [(k1 44 (by omega) (by omega)).1]; exact b2, by rw [(k1 45 (by omega) (by omega)).1]; exact b3, by rw [(k1 46 (by omega) (by omega)).1]; exact b4, by rw [(k1 47 (by omega) (by omega)).1]; exact b5⟩
    · intro e2 m1 m2 m3 m4
      generalize hS2 : fs sh1 29 (6, 6, [some L, some 38, some 42, some 44]) = S2
      have hSh2 : ShoS (L + 8) S2 L := by rw [← hS2]; exact ShoS_fs k3 (by omega)
      have hB2 : SHO B' L e2 := hB.fr fun a a1 a2 => by rw [m1 a (by omega), fr_ne (by omega)]
      have h2 : e2 L 2 = B' 0 0 * B' 0 1 := hB2.1.2.1
      repeat' (simp (disch := first | omega | exact Nat.le_of_ble_eq_true rfl | exact rfl | assumption | (simp (disch := omega) only [fr_ne, fr_same]; first | assumption | omega)) only [r15_0, r15_1, r15_4, r15_5, r15_8, r15_9, r15_12, v15_12_0, r15_15r, r15_16, r15_17, r15_18, r15_21, r15_22, r15_22A, r15_25, r15_27, r15_28, r15_31, r15_34, r15_35, r15_36, r15_37, r15_40, r15_41, v15_41_6, r15_44, r15_45, r15_48, g10_66_10, g10_9_10, g10_13_10, p10_13_10, g10_89_0, g10_89_2, g10_34_10, g10_95_8, o10_len, o10_g9, o10_g0, o10_g1, o10_s1, o0_len, o0_g4, o2_len, o2_g4, o10_g4, o8_len, o8_g2, il_s, bl_s, bl_z, ll_s, is_s, bs_s, bs_z, ls_s, al_s, al_b, al_l, fr_ne, fr_same, fr_fr, Nat.reduceEqDiff, tc_gf3_s, tc_ql2_s, tc_ws_0, tc_ws_i, tc_ws_l, tc_ws_r, Nat.reduceLeDiff, Nat.reduceAdd, Nat.reduceLT, true_and, and_true, if_true, if_false, tc_K, Option.toList_some, Option.toList_none, List.nil_append, List.cons_append, ite_true, ite_false, Int.cast_ofNat_Int, reduceIte, i3_add_eq, i3_sub_eq, Int.add_sub_cancel, Int.add_neg_cancel_right, ShoS_g0 hSh2, ShoS_s0 hSh2, ShoS_g1 hSh2, ShoS_s1 hSh2, ShoS_g2 hSh2, ShoS_s2 hSh2, ShoS_g3 hSh2, ShoS_s3 hSh2, ShoS_g4 hSh2, ShoS_s4 hSh2, ShoS_g5 hSh2, ShoS_s5 hSh2, ShoS_g6 hSh2, ShoS_s6 hSh2, ShoS_g7 hSh2, ShoS_s7 hSh2, h2])
      refine hq' S2 e2 (fun a a1 a2 a3 => ?_) ?_ ?_ hSh2 (fun a a1 a2 a3 a4 => ?_) ?_ hB2 hWB m2 ?_ ?_
      · rw [← hS2, fs_ne a3]; exact (k1 a a1 a2).1
      · rw [← hS2, fs_ne (by omega)]; exact k2
      · rw [← hS2, fs_same]
      · rw [m1 a a4, fr_ne a3]; exact (k1 a a1 a2).2
      · rw [m1 26 (by omega), fr_same, f26]
      · rw [m3, fu_same]
      · rw [m4, fu_same]
  · have hq' := hq1 hf sh1 (fr e1 26 (fu (e1 26) 1 0)) (fun a a1 a2 => (k1 a a1 a2).1) k2 (fun a a1 a2 a3 => by rw [fr_ne a3]; exact (k1 a a1 a2).2) (by rw [fr_same, f26])
    rw [if_neg hf]
    repeat' (simp (disch := first | omega | exact Nat.le_of_ble_eq_true rfl | exact rfl | assumption | (simp (disch := omega) only [fr_ne, fr_same]; first | assumption | omega)) only [r15_0, r15_1, r15_4, r15_5, r15_8, r15_9, r15_12, v15_12_0, r15_15r, r15_16, r15_17, r15_18, r15_21, r15_22, r15_22A, r15_25, r15_27, r15_28, r15_31, r15_34, r15_35, r15_36, r15_37, r15_40, r15_41, v15_41_6, r15_44, r15_45, r15_48, g10_66_10, g10_9_10, g10_13_10, p10_13_10, g10_89_0, g10_89_2, g10_34_10, g10_95_8, o10_len, o10_g9, o10_g0, o10_g1, o10_s1, o0_len, o0_g4, o2_len, o2_g4, o10_g4, o8_len, o8_g2, il_s, bl_s, bl_z, ll_s, is_s, bs_s, bs_z, ls_s, al_s, al_b, al_l, fr_ne, fr_same, fr_fr, Nat.reduceEqDiff, tc_gf3_s, tc_ql2_s, tc_ws_0, tc_ws_i, tc_ws_l, tc_ws_r, Nat.reduceLeDiff, Nat.reduceAdd, Nat.reduceLT, true_and, and_true, if_true, if_false, tc_K, Option.toList_some, Option.toList_none, List.nil_append, List.cons_append, ite_true, ite_false, Int.cast_ofNat_Int, reduceIte, i3_add_eq, i3_sub_eq, Int.add_sub_cancel, Int.add_neg_cancel_right, hO hL26' g26, hOs g26, hO hL69' k2, k4])
    exact hq'
theorem c49_z (h26 : sh 26 = (6, 10, [some 27, some 28, some 29, some 48, some 49, some 56, some 60, some 69, some 70, some 74])) (hL26 : 26 < L) (h3 : 6 ≤ c 26 3) : tc_C 49 [rf 26] (hp L sh c) n Q = Q (some (.inl (-1))) (hp L sh c) n := tc_det fun Q hq => by
  show tc_W 49 0 [rf 26, tc_nil] [] _ _ Q
  repeat' (first | (simp (disch := first | omega | exact Nat.le_of_ble_eq_true rfl | exact rfl | assumption | (simp (disch := omega) only [fr_ne, fr_same]; first | assumption | omega)) only [r49_0, r49_1, r49_4, r49_9, r49_10, r49_11, r49_12, r49_15, r49_16, r49_19, r49_20, r49_23, v49_23_2, r49_26r, r49_27, r49_28, r49_29, r49_32, r49_33, r49_33A, r49_36, r49_38, r49_39, r49_42, r49_45, r49_46, r49_47, r49_48, r49_51, r49_52, r49_55, r49_56, r49_57, r49_58, r49_58A, r49_59, r49_62, r49_63, r49_64, r49_67, r49_68, r49_71, r49_72, r49_73, g10_23_10, g10_73_10, g10_9_10, g10_13_10, p10_13_10, g10_101_0, g10_101_2, g10_19_10, p10_23_10, o10_len, o10_g3, o10_g10, o10_g0, o10_g1, o10_s1, o0_len, o0_g4, o2_len, o2_g4, o10_g2, o10_s3, il_s, bl_s, bl_z, ll_s, is_s, bs_s, bs_z, ls_s, al_s, al_b, al_l, fr_ne, fr_same, fr_fr, Nat.reduceEqDiff, tc_gf3_s, tc_ql2_s, tc_ws_0, tc_ws_i, tc_ws_l, tc_ws_r, Nat.reduceLeDiff, Nat.reduceAdd, Nat.reduceLT, true_and, and_true, if_true, if_false, tc_K, Option.toList_some, Option.toList_none, List.nil_append, List.cons_append, ite_true, ite_false, Int.cast_ofNat_Int, reduceIte, i3_add_eq, i3_sub_eq, Int.add_sub_cancel, Int.add_neg_cancel_right, hO hL26 h26]) | (simp only [r49_6, i6_lt0, i6_0lt, i6_0le, i6_le0, i6_eq0, b10_0, ite_not, Int.reduceLT, Int.reduceLE, Int.reduceEq, Int.reduceNeg, if_true, if_false, ite_true, ite_false, reduceIte, eq_self, not_true, not_false_eq_true]; try refine tc_ite (fun _ => ?_) (fun _ => ?_) <;> try (exfalso; omega)))
  all_goals first
    | exact hq
    | omega
theorem c49 {m : Int} {D : Nat → Option Nat} (hL : 115 ≤ L) (h26 : sh 26 = (6, 10, [some 27, some 28, some 29, some 48, some 49, some 56, some 60, some 69, some 70, some 74])) (h28 : sh 28 = (4, 1, rk 6 D)) (h3 : c 26 3 = m) (hm : 0 ≤ m ∧ m ≤ 5) {t0 : Option Nat} (h70 : sh 70 = (6, 2, [t0, some 71, some 72, some 73])) (h27 : sh 27 = (1, 400, [])) (h71 : sh 71 = (0, 400, [])) (h72 : sh 72 = (0, 25, [])) (h73 : sh 73 = (0, 10, [])) (hST : STRS sh c) (hTP : TP (c 27) N) (h1 : c 26 1 = N) (hb : lpr (c 27) N 400 13 0 0 0 [] = (f, l'))
    (hq1 : ¬ f = 0 → ∀ sh' e, (∀ a, ¬ a = 70 → sh' a = sh a) → sh' 70 = (6, 2, [some 27, some 71, some 72, some 73]) → (∀ a, ¬ a = 26 → ¬ a = 70 → ¬ a = 71 → ¬ a = 72 → ¬ a = 73 → e a = c a) → e 26 = fu (c 26) 1 0 → Q (some (.inl (-2 - f))) (hp L sh' e) n)
    (hq : f = 0 → ∀ sh' e n', n ≤ n' → n' ≤ n + 500 → (∀ a, a < L → ¬ a = 28 → ¬ a = 70 → sh' a = sh a) → sh' 28 = (4, 1, rk 6 (fun j => if j = m.toNat then some L else D j)) → sh' 70 = (6, 2, [some 27, some 71, some 72, some 73]) → (∀ a, a < L → ¬ a = 26 → ¬ a = 28 → ¬ a = 70 → ¬ a = 71 → ¬ a = 72 → ¬ a = 73 → e a = c a) → e 26 = fu (fu (c 26) 1 0) 3 (m + 1) → CL (L + 3) sh' e L l' → Q (some (.inl m)) (hp (L + 3) sh' e) n') : tc_C 49 [rf 26] (hp L sh c) n Q := by
  have hL26 : 26 < L := by omega
  have hr := lpr_r (g := c 27) (N := N) hTP.1.2 (K := 400) hTP.1.2 13 0 0 0 0 [] (by omega) hTP.1.1 (by omega)
  rw [hb] at hr
  have hr : 0 ≤ f ∧ f ≤ 4000 := hr
  have hL70 : 70 < L := by omega
  show tc_W 49 0 [rf 26, tc_nil] [] _ _ Q
  repeat' (first | (simp (disch := first | omega | exact Nat.le_of_ble_eq_true rfl | exact rfl | assumption | (simp (disch := omega) only [fr_ne, fr_same]; first | assumption | omega)) only [r49_0, r49_1, r49_4, r49_9, r49_10, r49_11, r49_12, r49_15, r49_16, r49_19, r49_20, r49_23, v49_23_2, r49_26r, r49_27, r49_28, r49_29, r49_32, r49_33, r49_33A, r49_36, r49_38, r49_39, r49_42, r49_45, r49_46, r49_47, r49_48, r49_51, r49_52, r49_55, r49_56, r49_57, r49_58, r49_58A, r49_59, r49_62, r49_63, r49_64, r49_67, r49_68, r49_71, r49_72, r49_73, g10_23_10, g10_73_10, g10_9_10, g10_13_10, p10_13_10, g10_101_0, g10_101_2, g10_19_10, p10_23_10, o10_len, o10_g3, o10_g10, o10_g0, o10_g1, o10_s1, o0_len, o0_g4, o2_len, o2_g4, o10_g2, o10_s3, il_s, bl_s, bl_z, ll_s, is_s, bs_s, bs_z, ls_s, al_s, al_b, al_l, fr_ne, fr_same, fr_fr, Nat.reduceEqDiff, tc_gf3_s, tc_ql2_s, tc_ws_0, tc_ws_i, tc_ws_l, tc_ws_r, Nat.reduceLeDiff, Nat.reduceAdd, Nat.reduceLT, true_and, and_true, if_true, if_false, tc_K, Option.toList_some, Option.toList_none, List.nil_append, List.cons_append, ite_true, ite_false, Int.cast_ofNat_Int, reduceIte, i3_add_eq, i3_sub_eq, Int.add_sub_cancel, Int.add_neg_cancel_right, hO hL26 h26, hO hL70 h70, h1, h3]) | (simp only [r49_6, i6_lt0, i6_0lt, i6_0le, i6_le0, i6_eq0, b10_0, ite_not, Int.reduceLT, Int.reduceLE, Int.reduceEq, Int.reduceNeg, if_true, if_false, ite_true, ite_false, reduceIte, eq_self, not_true, not_false_eq_true]; try refine tc_ite (fun _ => ?_) (fun _ => ?_) <;> try (exfalso; omega)))
  all_goals try omega
  refine c50 hL h70 h27 h71 h72 h73 hST hTP hb ?_ ?_
  · intro hf sh1 e1 k1 k2 k3 k4
    have g26 := (k1 26 (by omega)).trans h26
    have f26 := k3 26 (by omega) (by omega) (by omega) (by omega)
    have hq' := hq1 hf sh1 (fr e1 26 (fu (e1 26) 1 0)) k1 k2 (fun a a1 a2 a3 a4 a5 => by rw [fr_ne a1]; exact k3 a a2 a3 a4 a5) (by rw [fr_same, f26])
    repeat' (first | (simp (disch := first | omega | exact Nat.le_of_ble_eq_true rfl | exact rfl | assumption | (simp (disch := omega) only [fr_ne, fr_same]; first | assumption | omega)) only [r49_0, r49_1, r49_4, r49_9, r49_10, r49_11, r49_12, r49_15, r49_16, r49_19, r49_20, r49_23, v49_23_2, r49_26r, r49_27, r49_28, r49_29, r49_32, r49_33, r49_33A, r49_36, r49_38, r49_39, r49_42, r49_45, r49_46, r49_47, r49_48, r49_51, r49_52, r49_55, r49_56, r49_57, r49_58, r49_58A, r49_59, r49_62, r49_63, r49_64, r49_67, r49_68, r49_71, r49_72, r49_73, g10_23_10, g10_73_10, g10_9_10, g10_13_10, p10_13_10, g10_101_0, g10_101_2, g10_19_10, p10_23_10, o10_len, o10_g3, o10_g10, o10_g0, o10_g1, o10_s1, o0_len, o0_g4, o2_len, o2_g4, o10_g2, o10_s3, il_s, bl_s, bl_z, ll_s, is_s, bs_s, bs_z, ls_s, al_s, al_b, al_l, fr_ne, fr_same, fr_fr, Nat.reduceEqDiff, tc_gf3_s, tc_ql2_s, tc_ws_0, tc_ws_i, tc_ws_l, tc_ws_r, Nat.reduceLeDiff, Nat.reduceAdd, Nat.reduceLT, true_and, and_true, if_true, if_false, tc_K, Option.toList_some, Option.toList_none, List.nil_append, List.cons_append, ite_true, ite_false, Int.cast_ofNat_Int, reduceIte, i3_add_eq, i3_sub_eq, Int.add_sub_cancel, Int.add_neg_cancel_right, hO hL26 g26, hOs g26, hO hL70 k2, k4]) | (simp only [r49_6, i6_lt0, i6_0lt, i6_0le, i6_le0, i6_eq0, b10_0, ite_not, Int.reduceLT, Int.reduceLE, Int.reduceEq, Int.reduceNeg, if_true, if_false, ite_true, ite_false, reduceIte, eq_self, not_true, not_false_eq_true]; try refine tc_ite (fun _ => ?_) (fun _ => ?_) <;> try (exfalso; omega)))
    exact hq'
  · intro hf sh1 e1 n1 kn1 kn2 k1 k2 k3 k4
    have hL26' : 26 < L + 3 := by omega
    have hL28' : 28 < L + 3 := by omega
    have g26 := (k1 26 hL26 (by omega)).trans h26
    have g28 := (k1 28 (by omega) (by omega)).trans h28
    have f26 := k3 26 hL26 (by omega) (by omega) (by omega) (by omega)
    have f3 : e1 26 3 = m := by rw [f26]; exact h3
    obtain ⟨hl1, m1, k, hlw, hl2⟩ := id k4
    generalize hS2 : fs sh1 28 (4, 1, rk 6 (fun j => if j = m.toNat then some L else D j)) = S2
    have e26 : S2 26 = (6, 10, [some 27, some 28, some 29, some 48, some 49, some 56, some 60, some 69, some 70, some 74]) := by rw [← hS2, fs_ne (by omega)]; exact g26
    repeat' (first | (simp (disch := first | omega | exact Nat.le_of_ble_eq_true rfl | exact rfl | assumption | (simp (disch := omega) only [fr_ne, fr_same]; first | assumption | omega)) only [r49_0, r49_1, r49_4, r49_9, r49_10, r49_11, r49_12, r49_15, r49_16, r49_19, r49_20, r49_23, v49_23_2, r49_26r, r49_27, r49_28, r49_29, r49_32, r49_33, r49_33A, r49_36, r49_38, r49_39, r49_42, r49_45, r49_46, r49_47, r49_48, r49_51, r49_52, r49_55, r49_56, r49_57, r49_58, r49_58A, r49_59, r49_62, r49_63, r49_64, r49_67, r49_68, r49_71, r49_72, r49_73, g10_23_10, g10_73_10, g10_9_10, g10_13_10, p10_13_10, g10_101_0, g10_101_2, g10_19_10, p10_23_10, o10_len, o10_g3, o10_g10, o10_g0, o10_g1, o10_s1, o0_len, o0_g4, o2_len, o2_g4, o10_g2, o10_s3, il_s, bl_s, bl_z, ll_s, is_s, bs_s, bs_z, ls_s, al_s, al_b, al_l, fr_ne, fr_same, fr_fr, Nat.reduceEqDiff, tc_gf3_s, tc_ql2_s, tc_ws_0, tc_ws_i, tc_ws_l, tc_ws_r, Nat.reduceLeDiff, Nat.reduceAdd, Nat.reduceLT, true_and, and_true, if_true, if_false, tc_K, Option.toList_some, Option.toList_none, List.nil_append, List.cons_append, ite_true, ite_false, Int.cast_ofNat_Int, reduceIte, i3_add_eq, i3_sub_eq, Int.add_sub_cancel, Int.add_neg_cancel_right, hO hL26' g26, hOs g26, hQ hL28' g28, LawS_g0 hlw, LawS_s0 hlw, LawS_g1 hlw, LawS_s1 hlw, LawS_g2 hlw, LawS_s2 hlw, qs_k, hQr, fr_id, hS2, hO hL26' e26, hOs e26, fu_ne, fu_same, f3]) | (simp only [r49_6, i6_lt0, i6_0lt, i6_0le, i6_le0, i6_eq0, b10_0, ite_not, Int.reduceLT, Int.reduceLE, Int.reduceEq, Int.reduceNeg, if_true, if_false, ite_true, ite_false, reduceIte, eq_self, not_true, not_false_eq_true]; try refine tc_ite (fun _ => ?_) (fun _ => ?_) <;> try (exfalso; omega)))
    refine hq hf S2 _ n1 kn1 kn2 (fun a a1 a2 a3 => ?_) ?_ ?_ (fun a a1 a2 a3 a4 a5 a6 a7 => ?_) ?_ ?_
    · rw [← hS2, fs_ne a2]; exact k1 a a1 a3
    · rw [← hS2, fs_same]
    · rw [← hS2, fs_ne (by omega)]; exact k2
    · simp (disch := omega) only [fr_ne]
      exact k3 a a1 a4 a5 a6 a7
    · simp (disch := omega) only [fr_same, fr_fr, f26]
    · refine k4.at (Nat.le_refl _) fun a a1 a2 => ⟨?_, ?_⟩
      · rw [← hS2, fs_ne (by omega)]
      · simp (disch := omega) only [fr_ne]
end BEGINC

/-! the class: scenes -/
/-- a block: its head is an object, the rest is not -/
def BK (sh : Nat → SH) (r m : Nat) : Prop := (sh r).1 = 6 ∧ ∀ j, 0 < j → j < m → ¬ (sh (r + j)).1 = 6
theorem BK.sep {sh : Nat → SH} {r m r' m' : Nat} (h : BK sh r m) (k : BK sh r' m') (hn : ¬ r = r') : r + m ≤ r' ∨ r' + m' ≤ r := by
  by_cases h1 : r < r'
  · by_cases h2 : r' < r + m
    · have := h.2 (r' - r) (by omega) (by omega)
      rw [show r + (r' - r) = r' by omega] at this
      exact absurd k.1 this
    · omega
  · by_cases h2 : r < r' + m'
    · have := k.2 (r - r') (by omega) (by omega)
      rw [show r' + (r - r') = r by omega] at this
      exact absurd h.1 this
    · omega
theorem hd_ne {sh : Nat → SH} {r r' ci ci' : Nat} {q q' : List (Option Nat)} (h : sh r = (6, ci, q)) (k : sh r' = (6, ci', q')) (hc : ¬ ci = ci') : ¬ r = r' := fun e => by
  rw [e, k] at h
  have : ci' = ci := congrArg (fun x : SH => x.2.1) h
  omega
section BKS
variable {L r m1 m2 ci : Nat} {sh : Nat → SH} {q : List (Option Nat)} {D : Nat → Option Nat}
theorem BK.one (h : sh r = (6, ci, q)) : BK sh r 1 := ⟨by rw [h], fun j h1 h2 => by omega⟩
theorem SanS.bk (h : SanS L sh r) : BK sh r 4 := by
  obtain ⟨h1, h2, h3, h4, h5⟩ := h
  refine ⟨by rw [h2], fun j j1 j2 => ?_⟩
  rcases (by omega : j = 1 ∨ j = 2 ∨ j = 3) with rfl | rfl | rfl
  · rw [h3]; decide
  · rw [h4]; decide
  · rw [h5]; decide
theorem LogS.bk (h : LogS L sh r) : BK sh r 4 := by
  obtain ⟨h1, h2, h3, h4, h5⟩ := h
  refine ⟨by rw [h2], fun j j1 j2 => ?_⟩
  rcases (by omega : j = 1 ∨ j = 2 ∨ j = 3) with rfl | rfl | rfl
  · rw [h3]; decide
  · rw [h4]; decide
  · rw [h5]; decide
theorem ShoS.bk (h : ShoS L sh r) : BK sh r 8 := by
  obtain ⟨h1, h2, h3, h4, h5, h6, h7, h8, h9⟩ := h
  refine ⟨by rw [h2], fun j j1 j2 => ?_⟩
  rcases (by omega : j = 1 ∨ j = 2 ∨ j = 3 ∨ j = 4 ∨ j = 5 ∨ j = 6 ∨ j = 7) with rfl | rfl | rfl | rfl | rfl | rfl | rfl
  · rw [h3]; decide
  · rw [h4]; decide
  · rw [h5]; decide
  · rw [h6]; decide
  · rw [h7]; decide
  · rw [h8]; decide
  · rw [h9]; decide
theorem LawS.bk (h : LawS L sh r m1 m2) : BK sh r 3 := by
  obtain ⟨h1, h2, h3, h4⟩ := h
  refine ⟨by rw [h2], fun j j1 j2 => ?_⟩
  rcases (by omega : j = 1 ∨ j = 2) with rfl | rfl
  · rw [h3]; exact Nat.zero_ne_add_one 5
  · rw [h4]; exact Nat.zero_ne_add_one 5
theorem PasS.bk (h : PasS L sh r D) : BK sh r 2 := by
  obtain ⟨_, _, h1, h2, _⟩ := h
  refine ⟨by rw [h1], fun j j1 j2 => ?_⟩
  rw [show j = 1 by omega, h2]
  exact (show ¬ (4 : Nat) = 6 by decide)
end BKS
section SCENEC
variable {L : Nat} {sh : Nat → SH} {c : Nat → Int → Int} {n : Nat} {Q : Option AV → List SC → Nat → Prop} {pa po x r : Nat} {D E : Nat → Option Nat}
theorem c161 {lg lo : Nat} (hR : LogS L sh lg) (hW : LogS L sh lo) (hn : ¬ lg = lo) (hq : ∀ e, (∀ a, (a < lg ∨ lg + 3 < a) → e a = c a) → e lg 3 = c lo 3 → e (lg + 1) = c (lo + 1) → e (lg + 2) = c (lo + 2) → e (lg + 3) = c (lo + 3) → Q none (hp L sh e) n) : tc_C 161 [rf lg, rf lo] (hp L sh c) n Q := by
  have hd := hR.bk.sep hW.bk hn
  show tc_W 161 0 [rf lg, rf lo] [] _ _ Q
  repeat' (simp (disch := first | omega | exact Nat.le_of_ble_eq_true rfl | exact rfl | assumption | (simp (disch := omega) only [fr_ne, fr_same]; first | assumption | omega)) only [r161_0, r161_1, r161_4, r161_5, r161_6, r161_9, r161_10, r161_12, r161_15, r161_16, r161_19, r161_20, r161_21, r161_24, r161_25, r161_27, r161_30, r161_31, r161_34, r161_35, r161_36, r161_39, r161_40, r161_42, r161_45, r161_46, r161_47, r161_50, r161_53, g3_9_3, g3_15_3, g3_18_3, g3_21_3, p3_21_3, o3_len, o3_g0, o3_g1, o3_g2, o3_g3, o3_s3, il_s, bl_s, bl_z, ll_s, is_s, bs_s, bs_z, ls_s, al_s, al_b, al_l, fr_ne, fr_same, fr_fr, Nat.reduceEqDiff, tc_gf3_s, tc_ql2_s, tc_ws_0, tc_ws_i, tc_ws_l, tc_ws_r, Nat.reduceLeDiff, Nat.reduceAdd, Nat.reduceLT, true_and, and_true, if_true, if_false, tc_K, Option.toList_some, Option.toList_none, List.nil_append, List.cons_append, ite_true, ite_false, Int.cast_ofNat_Int, reduceIte, i3_add_eq, i3_sub_eq, Int.add_sub_cancel, Int.add_neg_cancel_right, LogS_g0 hR, LogS_s0 hR, LogS_g1 hR, LogS_s1 hR, LogS_g2 hR, LogS_s2 hR, LogS_g3 hR, LogS_s3 hR, LogS_g0 hW, LogS_s0 hW, LogS_g1 hW, LogS_s1 hW, LogS_g2 hW, LogS_s2 hW, LogS_g3 hW, LogS_s3 hW])
  rw [r161_12 (Nat.le_of_ble_eq_true rfl) (LogS_g1 hR) (LogS_g1 hW) ⟨by omega, by omega, by omega, by omega, by rw [al_len]; decide, by rw [al_len]; decide⟩]
  rw [show (10 : Int).toNat = ((10 : Nat) : Int).toNat from rfl, cpy_al 10]
  repeat' (simp (disch := first | omega | exact Nat.le_of_ble_eq_true rfl | exact rfl | assumption | (simp (disch := omega) only [fr_ne, fr_same]; first | assumption | omega)) only [r161_0, r161_1, r161_4, r161_5, r161_6, r161_9, r161_10, r161_12, r161_15, r161_16, r161_19, r161_20, r161_21, r161_24, r161_25, r161_27, r161_30, r161_31, r161_34, r161_35, r161_36, r161_39, r161_40, r161_42, r161_45, r161_46, r161_47, r161_50, r161_53, g3_9_3, g3_15_3, g3_18_3, g3_21_3, p3_21_3, o3_len, o3_g0, o3_g1, o3_g2, o3_g3, o3_s3, il_s, bl_s, bl_z, ll_s, is_s, bs_s, bs_z, ls_s, al_s, al_b, al_l, fr_ne, fr_same, fr_fr, Nat.reduceEqDiff, tc_gf3_s, tc_ql2_s, tc_ws_0, tc_ws_i, tc_ws_l, tc_ws_r, Nat.reduceLeDiff, Nat.reduceAdd, Nat.reduceLT, true_and, and_true, if_true, if_false, tc_K, Option.toList_some, Option.toList_none, List.nil_append, List.cons_append, ite_true, ite_false, Int.cast_ofNat_Int, reduceIte, i3_add_eq, i3_sub_eq, Int.add_sub_cancel, Int.add_neg_cancel_right, LogS_g0 hR, LogS_s0 hR, LogS_g1 hR, LogS_s1 hR, LogS_g2 hR, LogS_s2 hR, LogS_g3 hR, LogS_s3 hR, LogS_g0 hW, LogS_s0 hW, LogS_g1 hW, LogS_s1 hW, LogS_g2 hW, LogS_s2 hW, LogS_g3 hW, LogS_s3 hW])
  rw [r161_27 (Nat.le_of_ble_eq_true rfl) (LogS_g2 hR) (LogS_g2 hW) ⟨by omega, by omega, by omega, by omega, by rw [al_len]; decide, by rw [al_len]; decide⟩]
  rw [show (10 : Int).toNat = ((10 : Nat) : Int).toNat from rfl, cpy_al 10]
  repeat' (simp (disch := first | omega | exact Nat.le_of_ble_eq_true rfl | exact rfl | assumption | (simp (disch := omega) only [fr_ne, fr_same]; first | assumption | omega)) only [r161_0, r161_1, r161_4, r161_5, r161_6, r161_9, r161_10, r161_12, r161_15, r161_16, r161_19, r161_20, r161_21, r161_24, r161_25, r161_27, r161_30, r161_31, r161_34, r161_35, r161_36, r161_39, r161_40, r161_42, r161_45, r161_46, r161_47, r161_50, r161_53, g3_9_3, g3_15_3, g3_18_3, g3_21_3, p3_21_3, o3_len, o3_g0, o3_g1, o3_g2, o3_g3, o3_s3, il_s, bl_s, bl_z, ll_s, is_s, bs_s, bs_z, ls_s, al_s, al_b, al_l, fr_ne, fr_same, fr_fr, Nat.reduceEqDiff, tc_gf3_s, tc_ql2_s, tc_ws_0, tc_ws_i, tc_ws_l, tc_ws_r, Nat.reduceLeDiff, Nat.reduceAdd, Nat.reduceLT, true_and, and_true, if_true, if_false, tc_K, Option.toList_some, Option.toList_none, List.nil_append, List.cons_append, ite_true, ite_false, Int.cast_ofNat_Int, reduceIte, i3_add_eq, i3_sub_eq, Int.add_sub_cancel, Int.add_neg_cancel_right, LogS_g0 hR, LogS_s0 hR, LogS_g1 hR, LogS_s1 hR, LogS_g2 hR, LogS_s2 hR, LogS_g3 hR, LogS_s3 hR, LogS_g0 hW, LogS_s0 hW, LogS_g1 hW, LogS_s1 hW, LogS_g2 hW, LogS_s2 hW, LogS_g3 hW, LogS_s3 hW])
  rw [r161_42 (Nat.le_of_ble_eq_true rfl) (LogS_g3 hR) (LogS_g3 hW) ⟨by omega, by omega, by omega, by omega, by rw [al_len]; decide, by rw [al_len]; decide⟩]
  rw [show (10 : Int).toNat = ((10 : Nat) : Int).toNat from rfl, cpy_al 10]
  repeat' (simp (disch := first | omega | exact Nat.le_of_ble_eq_true rfl | exact rfl | assumption | (simp (disch := omega) only [fr_ne, fr_same]; first | assumption | omega)) only [r161_0, r161_1, r161_4, r161_5, r161_6, r161_9, r161_10, r161_12, r161_15, r161_16, r161_19, r161_20, r161_21, r161_24, r161_25, r161_27, r161_30, r161_31, r161_34, r161_35, r161_36, r161_39, r161_40, r161_42, r161_45, r161_46, r161_47, r161_50, r161_53, g3_9_3, g3_15_3, g3_18_3, g3_21_3, p3_21_3, o3_len, o3_g0, o3_g1, o3_g2, o3_g3, o3_s3, il_s, bl_s, bl_z, ll_s, is_s, bs_s, bs_z, ls_s, al_s, al_b, al_l, fr_ne, fr_same, fr_fr, Nat.reduceEqDiff, tc_gf3_s, tc_ql2_s, tc_ws_0, tc_ws_i, tc_ws_l, tc_ws_r, Nat.reduceLeDiff, Nat.reduceAdd, Nat.reduceLT, true_and, and_true, if_true, if_false, tc_K, Option.toList_some, Option.toList_none, List.nil_append, List.cons_append, ite_true, ite_false, Int.cast_ofNat_Int, reduceIte, i3_add_eq, i3_sub_eq, Int.add_sub_cancel, Int.add_neg_cancel_right, LogS_g0 hR, LogS_s0 hR, LogS_g1 hR, LogS_s1 hR, LogS_g2 hR, LogS_s2 hR, LogS_g3 hR, LogS_s3 hR, LogS_g0 hW, LogS_s0 hW, LogS_g1 hW, LogS_s1 hW, LogS_g2 hW, LogS_s2 hW, LogS_g3 hW, LogS_s3 hW])
  refine hq _ (fun a ha => ?_) ?_ ?_ ?_ ?_
  all_goals simp (disch := omega) only [fr_ne, fr_same, fu_same]
theorem c5 (h5 : sh r = (6, 4, [none])) (hq : ∀ sh' c', (∀ a, a < r → sh' a = sh a ∧ c' a = c a) → sh' r = (6, 4, [some (r + 1)]) → sh' (r + 1) = (4, 5, rol (fun _ => none)) → c' r 1 = 0 → Q none (hp (r + 2) sh' c') (n + 20)) : tc_C 5 [rf r] (hp (r + 1) sh c) n Q := by
  show tc_W 5 0 [rf r] [] _ _ Q
  repeat' (simp (disch := first | omega | exact Nat.le_of_ble_eq_true rfl | exact rfl | assumption | (simp (disch := omega) only [fr_ne, fr_same]; first | assumption | omega)) only [r5_0, r5_1, r5_4, r5_5, r5_7, r5_10, r5_13, r5_14, r5_15, r5_18, p4_11_4, p4_17_4, o4_len, o4_s0, o4_s1, il_s, bl_s, bl_z, ll_s, is_s, bs_s, bs_z, ls_s, al_s, al_b, al_l, fr_ne, fr_same, fr_fr, Nat.reduceEqDiff, tc_gf3_s, tc_ql2_s, tc_ws_0, tc_ws_i, tc_ws_l, tc_ws_r, Nat.reduceLeDiff, Nat.reduceAdd, Nat.reduceLT, true_and, and_true, if_true, if_false, tc_K, Option.toList_some, Option.toList_none, List.nil_append, List.cons_append, ite_true, ite_false, Int.cast_ofNat_Int, reduceIte, i3_add_eq, i3_sub_eq, Int.add_sub_cancel, Int.add_neg_cancel_right, hp_get, hp_len, h5, fs_same, fs_ne, px_o, px_q, hOr, nap_q, Int.reduceToNat])
  refine hq _ _ (fun a ha => ⟨?_, ?_⟩) ?_ ?_ ?_
  all_goals simp (disch := omega) only [fs_same, fs_ne, fr_same, fr_ne, fu_same, fu_ne]
  rfl
theorem c6 (h5 : sh r = (6, 3, [none, none, none])) (hq : ∀ sh' c', (∀ a, a < r → sh' a = sh a ∧ c' a = c a) → LogS (r + 4) sh' r → c' r 3 = 0 → Q none (hp (r + 4) sh' c') (n + 30)) : tc_C 6 [rf r] (hp (r + 1) sh c) n Q := by
  show tc_W 6 0 [rf r] [] _ _ Q
  repeat' (simp (disch := first | omega | exact Nat.le_of_ble_eq_true rfl | exact rfl | assumption | (simp (disch := omega) only [fr_ne, fr_same]; first | assumption | omega)) only [r6_0, r6_1, r6_4, r6_5, r6_7, r6_9, r6_12, r6_13, r6_15, r6_17, r6_20, r6_21, r6_23, r6_25, r6_28, r6_29, r6_30, r6_33, p3_9_3, p3_15_3, p3_18_3, p3_21_3, o3_len, o3_s0, o3_s1, o3_s2, o3_s3, il_s, bl_s, bl_z, ll_s, is_s, bs_s, bs_z, ls_s, al_s, al_b, al_l, fr_ne, fr_same, fr_fr, Nat.reduceEqDiff, tc_gf3_s, tc_ql2_s, tc_ws_0, tc_ws_i, tc_ws_l, tc_ws_r, Nat.reduceLeDiff, Nat.reduceAdd, Nat.reduceLT, true_and, and_true, if_true, if_false, tc_K, Option.toList_some, Option.toList_none, List.nil_append, List.cons_append, ite_true, ite_false, Int.cast_ofNat_Int, reduceIte, i3_add_eq, i3_sub_eq, Int.add_sub_cancel, Int.add_neg_cancel_right, hp_get, hp_len, h5, fs_same, fs_ne, px_o, px_i, hOr, nap_i, Int.reduceToNat])
  refine hq _ _ (fun a ha => ⟨?_, ?_⟩) ⟨by omega, ?_, ?_, ?_, ?_⟩ ?_
  all_goals simp (disch := omega) only [fs_same, fs_ne, fr_same, fr_ne, fu_same, fu_ne]
theorem c3 {s : Nat} (h5 : sh r = (6, 6, [none, none, none, none])) (hq : ∀ sh' c', (∀ a, a < r → sh' a = sh a ∧ c' a = c a) → sh' r = (6, 6, [some s, some (r + 1), some (r + 5), some (r + 7)]) → SanS (r + 11) sh' (r + 1) → sh' (r + 5) = (6, 4, [some (r + 6)]) → sh' (r + 6) = (4, 5, rol (fun _ => none)) → LogS (r + 11) sh' (r + 7) → Q none (hp (r + 11) sh' c') (n + 100)) : tc_C 3 [rf r, rf s] (hp (r + 1) sh c) n Q := by
  show tc_W 3 0 [rf r, rf s] [] _ _ Q
  repeat' (simp (disch := first | omega | exact Nat.le_of_ble_eq_true rfl | exact rfl | assumption | (simp (disch := omega) only [fr_ne, fr_same]; first | assumption | omega)) only [r3_0, r3_1, r3_4, r3_5, r3_8, r3_8A, r3_9, r3_12, r3_15, r3_16, r3_19, r3_19A, r3_20, r3_23, r3_26, r3_27, r3_30, r3_30A, r3_31, r3_34, r3_37, r3_38, r3_39, r3_42, r3_43, r3_44, r3_47, r3_48, r3_49, r3_52, p6_12_6, p6_21_6, p6_28_6, p6_32_6, p6_36_6, p6_39_6, o6_len, o6_s1, o6_s2, o6_s3, o6_s4, o6_s5, o6_s0, il_s, bl_s, bl_z, ll_s, is_s, bs_s, bs_z, ls_s, al_s, al_b, al_l, fr_ne, fr_same, fr_fr, Nat.reduceEqDiff, tc_gf3_s, tc_ql2_s, tc_ws_0, tc_ws_i, tc_ws_l, tc_ws_r, Nat.reduceLeDiff, Nat.reduceAdd, Nat.reduceLT, true_and, and_true, if_true, if_false, tc_K, Option.toList_some, Option.toList_none, List.nil_append, List.cons_append, ite_true, ite_false, Int.cast_ofNat_Int, reduceIte, i3_add_eq, i3_sub_eq, Int.add_sub_cancel, Int.add_neg_cancel_right, hp_len, o5_new, nap_o])
  refine c4 (r := r + 1) (fs_same _ _ _) ?_
  intro sh1 c1 k1 k2 k3
  have e1 : sh1 r = (6, 6, [none, none, none, none]) := by rw [(k1 r (by omega)).1, fs_ne (by omega)]; exact h5
  repeat' (simp (disch := first | omega | exact Nat.le_of_ble_eq_true rfl | exact rfl | assumption | (simp (disch := omega) only [fr_ne, fr_same]; first | assumption | omega)) only [r3_0, r3_1, r3_4, r3_5, r3_8, r3_8A, r3_9, r3_12, r3_15, r3_16, r3_19, r3_19A, r3_20, r3_23, r3_26, r3_27, r3_30, r3_30A, r3_31, r3_34, r3_37, r3_38, r3_39, r3_42, r3_43, r3_44, r3_47, r3_48, r3_49, r3_52, p6_12_6, p6_21_6, p6_28_6, p6_32_6, p6_36_6, p6_39_6, o6_len, o6_s1, o6_s2, o6_s3, o6_s4, o6_s5, o6_s0, il_s, bl_s, bl_z, ll_s, is_s, bs_s, bs_z, ls_s, al_s, al_b, al_l, fr_ne, fr_same, fr_fr, Nat.reduceEqDiff, tc_gf3_s, tc_ql2_s, tc_ws_0, tc_ws_i, tc_ws_l, tc_ws_r, Nat.reduceLeDiff, Nat.reduceAdd, Nat.reduceLT, true_and, and_true, if_true, if_false, tc_K, Option.toList_some, Option.toList_none, List.nil_append, List.cons_append, ite_true, ite_false, Int.cast_ofNat_Int, reduceIte, i3_add_eq, i3_sub_eq, Int.add_sub_cancel, Int.add_neg_cancel_right, hp_get, hp_len, e1, px_o, hOr, o4_new, nap_o])
  generalize hS1 : fs sh1 r (6, 6, [none, some (r + 1), none, none]) = S1
  have e2 : S1 r = (6, 6, [none, some (r + 1), none, none]) := by rw [← hS1, fs_same]
  have f1 : ∀ a, a < r → S1 a = sh a := fun a ha => by rw [← hS1, fs_ne (by omega), (k1 a (by omega)).1, fs_ne (by omega)]
  have k2' : SanS (r + 5) S1 (r + 1) := by rw [← hS1]; exact SanS_fs k2 (by omega)
  refine c5 (r := r + 5) (fs_same _ _ _) ?_
  intro sh2 c2 j1 j2 j3 j4
  have e3 : sh2 r = (6, 6, [none, some (r + 1), none, none]) := by rw [(j1 r (by omega)).1, fs_ne (by omega)]; exact e2
  repeat' (simp (disch := first | omega | exact Nat.le_of_ble_eq_true rfl | exact rfl | assumption | (simp (disch := omega) only [fr_ne, fr_same]; first | assumption | omega)) only [r3_0, r3_1, r3_4, r3_5, r3_8, r3_8A, r3_9, r3_12, r3_15, r3_16, r3_19, r3_19A, r3_20, r3_23, r3_26, r3_27, r3_30, r3_30A, r3_31, r3_34, r3_37, r3_38, r3_39, r3_42, r3_43, r3_44, r3_47, r3_48, r3_49, r3_52, p6_12_6, p6_21_6, p6_28_6, p6_32_6, p6_36_6, p6_39_6, o6_len, o6_s1, o6_s2, o6_s3, o6_s4, o6_s5, o6_s0, il_s, bl_s, bl_z, ll_s, is_s, bs_s, bs_z, ls_s, al_s, al_b, al_l, fr_ne, fr_same, fr_fr, Nat.reduceEqDiff, tc_gf3_s, tc_ql2_s, tc_ws_0, tc_ws_i, tc_ws_l, tc_ws_r, Nat.reduceLeDiff, Nat.reduceAdd, Nat.reduceLT, true_and, and_true, if_true, if_false, tc_K, Option.toList_some, Option.toList_none, List.nil_append, List.cons_append, ite_true, ite_false, Int.cast_ofNat_Int, reduceIte, i3_add_eq, i3_sub_eq, Int.add_sub_cancel, Int.add_neg_cancel_right, hp_get, hp_len, e3, px_o, hOr, o3_new, nap_o])
  generalize hS2 : fs sh2 r (6, 6, [none, some (r + 1), some (r + 5), none]) = S2
  have e4 : S2 r = (6, 6, [none, some (r + 1), some (r + 5), none]) := by rw [← hS2, fs_same]
  have f2 : ∀ a, a < r + 5 → ¬ a = r → S2 a = S1 a := fun a ha hn => by rw [← hS2, fs_ne hn, (j1 a (by omega)).1, fs_ne (by omega)]
  have g5 : S2 (r + 5) = (6, 4, [some (r + 6)]) := by rw [← hS2, fs_ne (by omega)]; exact j2
  have g6 : S2 (r + 6) = (4, 5, rol (fun _ => none)) := by rw [← hS2, fs_ne (by omega)]; exact j3
  refine c6 (r := r + 7) (fs_same _ _ _) ?_
  intro sh3 c3 l1 l2 l3
  have e5 : sh3 r = (6, 6, [none, some (r + 1), some (r + 5), none]) := by rw [(l1 r (by omega)).1, fs_ne (by omega)]; exact e4
  have f3 : ∀ a, a < r + 7 → sh3 a = S2 a := fun a ha => by rw [(l1 a (by omega)).1, fs_ne (by omega)]
  repeat' (simp (disch := first | omega | exact Nat.le_of_ble_eq_true rfl | exact rfl | assumption | (simp (disch := omega) only [fr_ne, fr_same]; first | assumption | omega)) only [r3_0, r3_1, r3_4, r3_5, r3_8, r3_8A, r3_9, r3_12, r3_15, r3_16, r3_19, r3_19A, r3_20, r3_23, r3_26, r3_27, r3_30, r3_30A, r3_31, r3_34, r3_37, r3_38, r3_39, r3_42, r3_43, r3_44, r3_47, r3_48, r3_49, r3_52, p6_12_6, p6_21_6, p6_28_6, p6_32_6, p6_36_6, p6_39_6, o6_len, o6_s1, o6_s2, o6_s3, o6_s4, o6_s5, o6_s0, il_s, bl_s, bl_z, ll_s, is_s, bs_s, bs_z, ls_s, al_s, al_b, al_l, fr_ne, fr_same, fr_fr, Nat.reduceEqDiff, tc_gf3_s, tc_ql2_s, tc_ws_0, tc_ws_i, tc_ws_l, tc_ws_r, Nat.reduceLeDiff, Nat.reduceAdd, Nat.reduceLT, true_and, and_true, if_true, if_false, tc_K, Option.toList_some, Option.toList_none, List.nil_append, List.cons_append, ite_true, ite_false, Int.cast_ofNat_Int, reduceIte, i3_add_eq, i3_sub_eq, Int.add_sub_cancel, Int.add_neg_cancel_right, hp_get, hp_len, e5, fs_same, px_o, hOr, fs_fs])
  refine hq _ _ (fun a ha => ⟨?_, ?_⟩) (fs_same _ _ _) (SanS_fs ⟨by omega, ?_, ?_, ?_, ?_⟩ (by omega)) ?_ ?_ (LogS_fs l2 (by omega))
  · rw [fs_ne (by omega), f3 a (by omega), f2 a (by omega) (by omega), f1 a ha]
  · simp (disch := omega) only [fr_ne]
    rw [(l1 a (by omega)).2]
    simp (disch := omega) only [fr_ne]
    rw [(j1 a (by omega)).2]
    simp (disch := omega) only [fr_ne]
    rw [(k1 a (by omega)).2]
    simp (disch := omega) only [fr_ne]
  · rw [f3 _ (by omega), f2 _ (by omega) (by omega)]
    exact k2'.2.1
  · rw [f3 _ (by omega), f2 _ (by omega) (by omega)]
    exact k2'.2.2.1
  · rw [f3 _ (by omega), f2 _ (by omega) (by omega)]
    exact k2'.2.2.2.1
  · rw [f3 _ (by omega), f2 _ (by omega) (by omega)]
    exact k2'.2.2.2.2
  · rw [fs_ne (by omega), f3 _ (by omega)]
    exact g5
  · rw [fs_ne (by omega), f3 _ (by omega)]
    exact g6
theorem PasS.other {L2 : Nat} {sh2 : Nat → SH} (h : PasS L sh po E) (hL : L ≤ L2) (hs : ∀ a, a < L → ¬ a = pa + 1 → sh2 a = sh a) {q : List (Option Nat)} (hpa : sh (pa + 1) = (4, 5, q)) (hn : ¬ pa = po) : PasS L2 sh2 po E := by
  obtain ⟨h1, h2, h3, h4, h5⟩ := h
  have hne : ¬ po = pa + 1 := fun e => by
    rw [e, hpa] at h3
    exact absurd (congrArg Prod.fst h3) (show ¬ (4 : Nat) = 6 by decide)
  refine ⟨by omega, by omega, by rw [hs po (by omega) hne]; exact h3, by rw [hs (po + 1) h2 (by omega)]; exact h4, fun i y hi hy => ?_⟩
  have hS := h5 i y hi hy
  have hof := SanS_off4 hS.2 hpa
  obtain ⟨a1, a2, a3, a4, a5⟩ := hS.2
  exact ⟨hS.1, by omega, by rw [hs y (by omega) (by omega)]; exact a2, by rw [hs (y + 1) (by omega) (by omega)]; exact a3, by rw [hs (y + 2) (by omega) (by omega)]; exact a4, by rw [hs (y + 3) (by omega) (by omega)]; exact a5⟩
theorem c160 {m : Int} (hP : PasS L sh pa D) (hW : PasS L sh po E) (hne : ¬ pa = po) (hm : c po 1 = m) (hm0 : 0 ≤ m ∧ m ≤ 20) (hE : ∀ i : Nat, (i : Int) < m → ∃ z, E i = some z) (hDE : ∀ i j y, i < 20 → j < 20 → D i = some y → ¬ E j = some y) (hI : INJ D)
    (hq : ∀ L' sh' c' n' D', L ≤ L' → L' ≤ L + 80 → n ≤ n' → n' ≤ n + 880 → (∀ a, a < L → ¬ a = pa + 1 → sh' a = sh a) → PasS L' sh' pa D' → INJ D' → (∀ i z, i < 20 → D' i = some z → D i = some z ∨ L ≤ z) → c' pa = fu (c pa) 1 m → (∀ i : Nat, (i : Int) < m → ∃ y z, D' i = some y ∧ E i = some z ∧ ∀ k b σ, SAN k b z c σ → SAN k b y c' σ) → (∀ a, a < L → ¬ a = pa → (∀ i y, i < 20 → D i = some y → a < y ∨ y + 3 < a) → c' a = c a) → Q none (hp L' sh' c') n') : tc_C 160 [rf pa, rf po] (hp L sh c) n Q := by
  obtain ⟨hL, hpL, h1, h2, h3⟩ := id hP
  obtain ⟨_, hoL, o1, o2, o3⟩ := id hW
  have hpL0 : pa < L := by omega
  have hoL0 : po < L := by omega
  have hsepP := hP.bk.sep hW.bk hne
  show tc_W 160 0 [rf pa, rf po, tc_nil] [] _ _ Q
  repeat' (first | (simp (disch := first | omega | exact Nat.le_of_ble_eq_true rfl | exact rfl | assumption | (simp (disch := omega) only [fr_ne, fr_same]; first | assumption | omega)) only [r160_0, r160_1, r160_2, r160_5, r160_8, r160_9r, r160_11, r160_12, r160_18, r160_19, r160_20, r160_21, r160_24, r160_25, r160_26, v160_26_4, r160_29r, r160_32, r160_35, g4_17_4, p4_17_4, g4_11_4, o4_len, o4_g1, o4_s1, o4_g0, il_s, bl_s, bl_z, ll_s, is_s, bs_s, bs_z, ls_s, al_s, al_b, al_l, fr_ne, fr_same, fr_fr, Nat.reduceEqDiff, tc_gf3_s, tc_ql2_s, tc_ws_0, tc_ws_i, tc_ws_l, tc_ws_r, Nat.reduceLeDiff, Nat.reduceAdd, Nat.reduceLT, true_and, and_true, if_true, if_false, tc_K, Option.toList_some, Option.toList_none, List.nil_append, List.cons_append, ite_true, ite_false, Int.cast_ofNat_Int, reduceIte, i3_add_eq, i3_sub_eq, Int.add_sub_cancel, Int.add_neg_cancel_right, hO hpL0 h1, hOs h1, hO hoL0 o1, hm]) | (simp only [r160_15, i6_lt0, i6_0lt, i6_0le, i6_le0, i6_eq0, b10_0, ite_not, Int.reduceLT, Int.reduceLE, Int.reduceEq, Int.reduceNeg, if_true, if_false, ite_true, ite_false, reduceIte, eq_self, not_true, not_false_eq_true]; try refine tc_ite (fun _ => ?_) (fun _ => ?_) <;> try (exfalso; omega)))
  have hlp := lq_5 (N := m) (P := fun i (L1 : Nat) (sh1 : Nat → SH) (c1 : Nat → Int → Int) (n1 : Nat) (D1 : Nat → Option Nat) => tc_W 160 10 [rf pa, rf po, .inl i] [] (hp L1 sh1 c1) n1 Q)
    (I := fun i L1 sh1 c1 n1 D1 => (L ≤ L1 ∧ (L1 : Int) ≤ L + 4 * i ∧ n ≤ n1 ∧ (n1 : Int) ≤ n + 44 * i) ∧ (∀ a, a < L → ¬ a = pa + 1 → sh1 a = sh a) ∧ PasS L1 sh1 pa D1 ∧ INJ D1 ∧ (∀ i z, i < 20 → D1 i = some z → D i = some z ∨ L ≤ z) ∧ c1 pa = fu (c pa) 1 m ∧ (∀ j : Nat, (j : Int) < i → ∃ y z, D1 j = some y ∧ E j = some z ∧ ∀ k b σ, SAN k b z c σ → SAN k b y c1 σ) ∧ (∀ a, a < L → ¬ a = pa → (∀ i y, i < 20 → D i = some y → a < y ∨ y + 3 < a) → c1 a = c a)) ?_ ?_ 0 L sh (fr c pa (fu (c pa) 1 m)) n D (by omega) (by omega) ⟨by omega, fun _ _ _ => rfl, hP, hI, fun i z _ h => Or.inl h, fr_same _ _ _, fun j hj => by omega, fun a _ ha _ => fr_ne ha⟩
  · exact hlp
  · intro i L1 sh1 c1 n1 D1 hi hi2 ⟨⟨b1, b2, b3, b4⟩, f1, p1, i1, r1, z1, t1, u1⟩ ih
    obtain ⟨z, hz⟩ := hE i.toNat (by omega)
    have w1 : PasS L1 sh1 po E := hW.other b1 f1 h2 hne
    obtain ⟨_, _, a1, a2, a3⟩ := id p1
    obtain ⟨_, _, d1, d2, d3⟩ := id w1
    have hSz := (d3 i.toNat z (by omega) hz).2
    have hzL := hW.lt (by omega) hz
    have hpL1 : pa < L1 := by omega
    have hoL1 : po < L1 := by omega
    have hoL2 : po + 1 < L1 := by omega
    have e1 : c1 pa 1 = m := by rw [z1, fu_same]
    have hyz : ∀ y, D1 i.toNat = some y → ¬ y = z := fun y hy e => by
      rcases r1 i.toNat y (by omega) hy with q | q
      · exact hDE i.toNat i.toNat y (by omega) (by omega) q (by rw [e]; exact hz)
      · omega
    simp only [r160_10]
    repeat' (first | (simp (disch := first | omega | exact Nat.le_of_ble_eq_true rfl | exact rfl | assumption | (simp (disch := omega) only [fr_ne, fr_same]; first | assumption | omega)) only [r160_0, r160_1, r160_2, r160_5, r160_8, r160_9r, r160_11, r160_12, r160_18, r160_19, r160_20, r160_21, r160_24, r160_25, r160_26, v160_26_4, r160_29r, r160_32, r160_35, g4_17_4, p4_17_4, g4_11_4, o4_len, o4_g1, o4_s1, o4_g0, il_s, bl_s, bl_z, ll_s, is_s, bs_s, bs_z, ls_s, al_s, al_b, al_l, fr_ne, fr_same, fr_fr, Nat.reduceEqDiff, tc_gf3_s, tc_ql2_s, tc_ws_0, tc_ws_i, tc_ws_l, tc_ws_r, Nat.reduceLeDiff, Nat.reduceAdd, Nat.reduceLT, true_and, and_true, if_true, if_false, tc_K, Option.toList_some, Option.toList_none, List.nil_append, List.cons_append, ite_true, ite_false, Int.cast_ofNat_Int, reduceIte, i3_add_eq, i3_sub_eq, Int.add_sub_cancel, Int.add_neg_cancel_right, hO hpL1 a1, hO hoL1 d1, hQ hoL2 d2, e1, ql_r, hz]) | (simp only [r160_15, i6_lt0, i6_0lt, i6_0le, i6_le0, i6_eq0, b10_0, ite_not, Int.reduceLT, Int.reduceLE, Int.reduceEq, Int.reduceNeg, if_true, if_false, ite_true, ite_false, reduceIte, eq_self, not_true, not_false_eq_true]; try refine tc_ite (fun _ => ?_) (fun _ => ?_) <;> try (exfalso; omega)))
    all_goals try omega
    refine c87 (i := i) p1 hSz (by omega) (fun y hy => by
      have hSy := (a3 i.toNat y (by omega) hy).2
      have := hSy.bk.sep hSz.bk (hyz y hy)
      omega) ?_
    intro L2 sh2 c2 n2 y k1 k2 k3 k4 k5 k6 k7 k8 k9
    repeat' (first | (simp (disch := first | omega | exact Nat.le_of_ble_eq_true rfl | exact rfl | assumption | (simp (disch := omega) only [fr_ne, fr_same]; first | assumption | omega)) only [r160_0, r160_1, r160_2, r160_5, r160_8, r160_9r, r160_11, r160_12, r160_18, r160_19, r160_20, r160_21, r160_24, r160_25, r160_26, v160_26_4, r160_29r, r160_32, r160_35, g4_17_4, p4_17_4, g4_11_4, o4_len, o4_g1, o4_s1, o4_g0, il_s, bl_s, bl_z, ll_s, is_s, bs_s, bs_z, ls_s, al_s, al_b, al_l, fr_ne, fr_same, fr_fr, Nat.reduceEqDiff, tc_gf3_s, tc_ql2_s, tc_ws_0, tc_ws_i, tc_ws_l, tc_ws_r, Nat.reduceLeDiff, Nat.reduceAdd, Nat.reduceLT, true_and, and_true, if_true, if_false, tc_K, Option.toList_some, Option.toList_none, List.nil_append, List.cons_append, ite_true, ite_false, Int.cast_ofNat_Int, reduceIte, i3_add_eq, i3_sub_eq, Int.add_sub_cancel, Int.add_neg_cancel_right]) | (simp only [r160_15, i6_lt0, i6_0lt, i6_0le, i6_le0, i6_eq0, b10_0, ite_not, Int.reduceLT, Int.reduceLE, Int.reduceEq, Int.reduceNeg, if_true, if_false, ite_true, ite_false, reduceIte, eq_self, not_true, not_false_eq_true]; try refine tc_ite (fun _ => ?_) (fun _ => ?_) <;> try (exfalso; omega)))
    have hyo : ∀ a, a < L → (∀ i y, i < 20 → D i = some y → a < y ∨ y + 3 < a) → a < y ∨ y + 3 < a := fun a ha hD => by
      rcases k5 with ⟨q, _⟩ | ⟨_, q, _⟩
      · rcases r1 i.toNat y (by omega) q with p | p
        · exact hD i.toNat y (by omega) p
        · omega
      · omega
    have hpy : ∀ i y, i < 20 → D i = some y → pa < y ∨ y + 3 < pa := fun i y hi hy => by
      have := hP.off hi hy
      omega
    have hzo : ∀ a, z ≤ a → a ≤ z + 3 → (¬ a = pa) ∧ ∀ i y, i < 20 → D i = some y → a < y ∨ y + 3 < a := fun a a1 a2 => by
      have hSz0 := (o3 i.toNat z (by omega) hz).2
      refine ⟨?_, fun j y hj hy => ?_⟩
      · have := SanS_off6 hSz0 h1 (by decide)
        omega
      · have hSy := (h3 j y hj hy).2
        have := hSy.bk.sep hSz0.bk (fun e => hDE j i.toNat y hj (by omega) hy (by rw [e]; exact hz))
        omega
    refine ih L2 sh2 c2 n2 _ ⟨by omega, fun a q1 q2 => (k6 a (by omega) q2).trans (f1 a q1 q2), k7, i1.put (by omega) ?_, fun j w hj hw => ?_, ?_, fun j hj => ?_, fun a q1 q2 q3 => (k8 a (by omega) (hyo a q1 q3)).trans (u1 a q1 q2 q3)⟩
    · rcases k5 with ⟨q, _⟩ | ⟨_, q, _⟩
      · exact Or.inl q
      · refine Or.inr fun j hj hjy => ?_
        have := p1.lt hj hjy
        omega
    · by_cases hji : j = i.toNat
      · rw [if_pos hji] at hw
        injection hw with hw
        rcases k5 with ⟨q, _⟩ | ⟨_, q, _⟩
        · rw [hji, ← hw]
          exact r1 i.toNat y (by omega) q
        · exact Or.inr (by omega)
      · rw [if_neg hji] at hw
        exact r1 j w hj hw
    · rw [k8 pa (by omega) (hyo pa hpL0 hpy)]
      exact z1
    · by_cases hji : j = i.toNat
      · refine ⟨y, z, if_pos hji, by rw [hji]; exact hz, fun k b σ hσ => k9 k b σ ?_⟩
        have q : ∀ a, z ≤ a → a ≤ z + 3 → c1 a = c a := fun a a1 a2 => u1 a (by omega) (hzo a a1 a2).1 (hzo a a1 a2).2
        exact hσ.fr (q z (by omega) (by omega)) (q (z + 1) (by omega) (by omega)) (q (z + 2) (by omega) (by omega)) (q (z + 3) (by omega) (by omega))
      · obtain ⟨y', z', hy', hz', ht⟩ := t1 j (by omega)
        refine ⟨y', z', by rw [if_neg hji]; exact hy', hz', fun k b σ hσ => ?_⟩
        have hSy' := (a3 j y' (by omega) hy').2
        have hsp : y' + 3 < y ∨ y + 3 < y' := by
          rcases k5 with ⟨q, _⟩ | ⟨_, q, _⟩
          · have hSy := (a3 i.toNat y (by omega) q).2
            have := hSy'.bk.sep hSy.bk (fun e => hji (i1 j i.toNat y' (by omega) (by omega) hy' (by rw [e]; exact q)))
            omega
          · have := p1.lt (by omega) hy'
            omega
        have hyL := p1.lt (by omega) hy'
        exact (ht k b σ hσ).fr (k8 _ (by omega) (by omega)) (k8 _ (by omega) (by omega)) (k8 _ (by omega) (by omega)) (k8 _ (by omega) (by omega))
  · intro L1 sh1 c1 n1 D1 ⟨⟨b1, b2, b3, b4⟩, f1, p1, i1, r1, z1, t1, u1⟩
    have e1 : c1 pa 1 = m := by rw [z1, fu_same]
    have hpL1 : pa < L1 := by omega
    simp only [r160_10]
    repeat' (first | (simp (disch := first | omega | exact Nat.le_of_ble_eq_true rfl | exact rfl | assumption | (simp (disch := omega) only [fr_ne, fr_same]; first | assumption | omega)) only [r160_0, r160_1, r160_2, r160_5, r160_8, r160_9r, r160_11, r160_12, r160_18, r160_19, r160_20, r160_21, r160_24, r160_25, r160_26, v160_26_4, r160_29r, r160_32, r160_35, g4_17_4, p4_17_4, g4_11_4, o4_len, o4_g1, o4_s1, o4_g0, il_s, bl_s, bl_z, ll_s, is_s, bs_s, bs_z, ls_s, al_s, al_b, al_l, fr_ne, fr_same, fr_fr, Nat.reduceEqDiff, tc_gf3_s, tc_ql2_s, tc_ws_0, tc_ws_i, tc_ws_l, tc_ws_r, Nat.reduceLeDiff, Nat.reduceAdd, Nat.reduceLT, true_and, and_true, if_true, if_false, tc_K, Option.toList_some, Option.toList_none, List.nil_append, List.cons_append, ite_true, ite_false, Int.cast_ofNat_Int, reduceIte, i3_add_eq, i3_sub_eq, Int.add_sub_cancel, Int.add_neg_cancel_right, hO hpL1 p1.2.2.1, e1]) | (simp only [r160_15, i6_lt0, i6_0lt, i6_0le, i6_le0, i6_eq0, b10_0, ite_not, Int.reduceLT, Int.reduceLE, Int.reduceEq, Int.reduceNeg, if_true, if_false, ite_true, ite_false, reduceIte, eq_self, not_true, not_false_eq_true]; try refine tc_ite (fun _ => ?_) (fun _ => ?_) <;> try (exfalso; omega)))
    all_goals try omega
    exact hq L1 sh1 c1 n1 D1 b1 (by omega) b3 (by omega) f1 p1 i1 r1 z1 t1 u1
theorem SanS_ne {L2 p : Nat} {sh2 : Nat → SH} (h : SanS L sh r) (hL : L ≤ L2) (hs : ∀ a, a < L → ¬ a = p → sh2 a = sh a) (hp : p < r ∨ r + 3 < p) : SanS L2 sh2 r := by
  obtain ⟨h1, h2, h3, h4, h5⟩ := h
  exact ⟨by omega, by rw [hs r (by omega) (by omega)]; exact h2, by rw [hs (r + 1) (by omega) (by omega)]; exact h3, by rw [hs (r + 2) (by omega) (by omega)]; exact h4, by rw [hs (r + 3) (by omega) (by omega)]; exact h5⟩
theorem LogS_ne {L2 p : Nat} {sh2 : Nat → SH} (h : LogS L sh r) (hL : L ≤ L2) (hs : ∀ a, a < L → ¬ a = p → sh2 a = sh a) (hp : p < r ∨ r + 3 < p) : LogS L2 sh2 r := by
  obtain ⟨h1, h2, h3, h4, h5⟩ := h
  exact ⟨by omega, by rw [hs r (by omega) (by omega)]; exact h2, by rw [hs (r + 1) (by omega) (by omega)]; exact h3, by rw [hs (r + 2) (by omega) (by omega)]; exact h4, by rw [hs (r + 3) (by omega) (by omega)]; exact h5⟩
theorem ShoS_ne {L2 p : Nat} {sh2 : Nat → SH} (h : ShoS L sh r) (hL : L ≤ L2) (hs : ∀ a, a < L → ¬ a = p → sh2 a = sh a) (hp : p < r ∨ r + 7 < p) : ShoS L2 sh2 r := by
  obtain ⟨h1, h2, h3, h4, h5, h6, h7, h8, h9⟩ := h
  exact ⟨by omega, by rw [hs r (by omega) (by omega)]; exact h2, by rw [hs (r + 1) (by omega) (by omega)]; exact h3, by rw [hs (r + 2) (by omega) (by omega)]; exact h4, by rw [hs (r + 3) (by omega) (by omega)]; exact h5, by rw [hs (r + 4) (by omega) (by omega)]; exact h6, by rw [hs (r + 5) (by omega) (by omega)]; exact h7, by rw [hs (r + 6) (by omega) (by omega)]; exact h8, by rw [hs (r + 7) (by omega) (by omega)]; exact h9⟩
theorem PasS_ne {L2 p ci : Nat} {q : List (Option Nat)} {sh2 : Nat → SH} (h : PasS L sh pa D) (hL : L ≤ L2) (hs : ∀ a, a < L → ¬ a = p → sh2 a = sh a) (hp : sh p = (6, ci, q)) (hc : ¬ ci = 5) (hn : ¬ p = pa) : PasS L2 sh2 pa D := by
  have hs1 := h.bk.sep (BK.one hp) (fun e => hn e.symm)
  obtain ⟨h1, h2, h3, h4, h5⟩ := h
  refine ⟨by omega, by omega, by rw [hs pa (by omega) (by omega)]; exact h3, by rw [hs (pa + 1) h2 (by omega)]; exact h4, fun i y hi hy => ?_⟩
  have hS := h5 i y hi hy
  exact ⟨hS.1, SanS_ne hS.2 hL hs (SanS_off6 hS.2 hp hc)⟩
/-- a scene's cells -/
def SceS (L : Nat) (sh : Nat → SH) (hd nw pa lg s : Nat) (D : Nat → Option Nat) : Prop := hd < L ∧ sh hd = (6, 6, [some s, some nw, some pa, some lg]) ∧ SanS L sh nw ∧ PasS L sh pa D ∧ LogS L sh lg ∧ ShoS L sh s
theorem SceS.face {hd nw pa lg s : Nat} (h : SceS L sh hd nw pa lg s D) {so : Nat} (hso : ShoS L sh so) : SceS L (fs sh hd (6, 6, [some so, some nw, some pa, some lg])) hd nw pa lg so D := by
  obtain ⟨h1, h2, h3, h4, h5, h6⟩ := h
  have hs : ∀ a, a < L → ¬ a = hd → fs sh hd (6, 6, [some so, some nw, some pa, some lg]) a = sh a := fun a _ hn => fs_ne hn
  have q1 := h3.bk.sep (BK.one h2) (hd_ne h3.2.1 h2 (by decide))
  have q2 := h5.bk.sep (BK.one h2) (hd_ne h5.2.1 h2 (by decide))
  have q3 := hso.bk.sep (BK.one h2) (hd_ne hso.2.1 h2 (by decide))
  exact ⟨h1, fs_same _ _ _, SanS_ne h3 (Nat.le_refl _) hs (by omega), PasS_ne h4 (Nat.le_refl _) hs h2 (by decide) (hd_ne h2 h4.2.2.1 (by decide)), LogS_ne h5 (Nat.le_refl _) hs (by omega), ShoS_ne hso (Nat.le_refl _) hs (by omega)⟩
theorem c159 {hd nw pa lg s ho no po lo so : Nat} (hA : SceS L sh hd nw pa lg s D) (hB : SceS L sh ho no po lo so E) (n1 : ¬ hd = ho) (n2 : ¬ nw = no) (n3 : ¬ pa = po) (n4 : ¬ lg = lo) (hI : INJ D) (hDE : ∀ i j y, i < 20 → j < 20 → D i = some y → ¬ E j = some y) (hDn : ∀ i y, i < 20 → D i = some y → ¬ y = nw ∧ ¬ y = no) (hEn : ∀ i y, i < 20 → E i = some y → ¬ y = nw) {m : Int} (hm : c po 1 = m) (hm0 : 0 ≤ m ∧ m ≤ 20) (hE : ∀ i : Nat, (i : Int) < m → ∃ z, E i = some z)
    (hq : ∀ L' sh' c' n' D', L ≤ L' → L' ≤ L + 80 → n ≤ n' → n' ≤ n + 880 → (∀ a, a < L → ¬ a = hd → ¬ a = pa + 1 → sh' a = sh a) → SceS L' sh' hd nw pa lg so D' → INJ D' → (∀ i z, i < 20 → D' i = some z → D i = some z ∨ L ≤ z) → (∀ k b σ, SAN k b no c σ → SAN k b nw c' σ) → (∀ i : Nat, (i : Int) < m → ∃ y z, D' i = some y ∧ E i = some z ∧ ∀ k b σ, SAN k b z c σ → SAN k b y c' σ) → c' pa 1 = m → c' lg 3 = c lo 3 → c' (lg + 1) = c (lo + 1) → c' (lg + 2) = c (lo + 2) → c' (lg + 3) = c (lo + 3) → c' hd 4 = c ho 4 → c' hd 5 = c ho 5 → (∀ a, a < L → ¬ a = hd → (a < nw ∨ nw + 3 < a) → ¬ a = pa → (a < lg ∨ lg + 3 < a) → (∀ i y, i < 20 → D i = some y → a < y ∨ y + 3 < a) → c' a = c a) → Q none (hp L' sh' c') n') : tc_C 159 [rf hd, rf ho] (hp L sh c) n Q := by
  obtain ⟨a1, a2, a3, a4, a5, a6⟩ := id hA
  obtain ⟨b1, b2, b3, b4, b5, b6⟩ := id hB
  -- what lies apart
  have s1 := fun (_ : Unit) => a3.bk.sep (BK.one a2) (hd_ne a3.2.1 a2 (by decide))
  have s2 := fun (_ : Unit) => a5.bk.sep (BK.one a2) (hd_ne a5.2.1 a2 (by decide))
  have s3 := fun (_ : Unit) => a4.bk.sep (BK.one a2) (hd_ne a4.2.2.1 a2 (by decide))
  have s4 := fun (_ : Unit) => a3.bk.sep b3.bk n2
  have s5 := fun (_ : Unit) => a3.bk.sep a4.bk (hd_ne a3.2.1 a4.2.2.1 (by decide))
  have s6 := fun (_ : Unit) => a3.bk.sep a5.bk (hd_ne a3.2.1 a5.2.1 (by decide))
  have s7 := fun (_ : Unit) => a3.bk.sep b4.bk (hd_ne a3.2.1 b4.2.2.1 (by decide))
  have s8 := fun (_ : Unit) => a3.bk.sep b5.bk (hd_ne a3.2.1 b5.2.1 (by decide))
  have s9 := fun (_ : Unit) => a3.bk.sep (BK.one b2) (hd_ne a3.2.1 b2 (by decide))
  have t1 := fun (_ : Unit) => b3.bk.sep (BK.one a2) (hd_ne b3.2.1 a2 (by decide))
  have t2 := fun (_ : Unit) => b5.bk.sep (BK.one a2) (hd_ne b5.2.1 a2 (by decide))
  have t3 := fun (_ : Unit) => b4.bk.sep (BK.one a2) (hd_ne b4.2.2.1 a2 (by decide))
  have t4 := fun (_ : Unit) => a4.bk.sep b4.bk n3
  have t5 := fun (_ : Unit) => a4.bk.sep b5.bk (hd_ne a4.2.2.1 b5.2.1 (by decide))
  have t6 := fun (_ : Unit) => a4.bk.sep a5.bk (hd_ne a4.2.2.1 a5.2.1 (by decide))
  have t7 := fun (_ : Unit) => a4.bk.sep (BK.one b2) (hd_ne a4.2.2.1 b2 (by decide))
  have t8 := fun (_ : Unit) => a4.bk.sep b3.bk (hd_ne a4.2.2.1 b3.2.1 (by decide))
  have u1 := fun (_ : Unit) => a5.bk.sep b5.bk n4
  have u2 := fun (_ : Unit) => a5.bk.sep (BK.one b2) (hd_ne a5.2.1 b2 (by decide))
  have u3 := fun (_ : Unit) => a4.bk.sep b6.bk (hd_ne a4.2.2.1 b6.2.1 (by decide))
  have rowS : ∀ i y, i < 20 → D i = some y → SanS L sh y := fun i y hi hy => (a4.2.2.2.2 i y hi hy).2
  have rowN : ∀ i y, i < 20 → D i = some y → (y + 3 < nw ∨ nw + 3 < y) ∧ (y + 3 < no ∨ no + 3 < y) ∧ (hd < y ∨ y + 3 < hd) ∧ (ho < y ∨ y + 3 < ho) ∧ (y + 3 < lg ∨ lg + 3 < y) ∧ (y + 3 < lo ∨ lo + 3 < y) ∧ (pa + 1 < y ∨ y + 3 < pa) ∧ (po + 1 < y ∨ y + 3 < po) := fun i y hi hy => by
    have hS := rowS i y hi hy
    have q1 := hS.bk.sep a3.bk (hDn i y hi hy).1
    have q2 := hS.bk.sep b3.bk (hDn i y hi hy).2
    have q3 := hS.bk.sep (BK.one a2) (hd_ne hS.2.1 a2 (by decide))
    have q4 := hS.bk.sep (BK.one b2) (hd_ne hS.2.1 b2 (by decide))
    have q5 := hS.bk.sep a5.bk (hd_ne hS.2.1 a5.2.1 (by decide))
    have q6 := hS.bk.sep b5.bk (hd_ne hS.2.1 b5.2.1 (by decide))
    have q7 := hS.bk.sep a4.bk (hd_ne hS.2.1 a4.2.2.1 (by decide))
    have q8 := hS.bk.sep b4.bk (hd_ne hS.2.1 b4.2.2.1 (by decide))
    omega
  have rowE : ∀ i z, i < 20 → E i = some z → SanS L sh z ∧ (z + 3 < nw ∨ nw + 3 < z) ∧ (hd < z ∨ z + 3 < hd) ∧ (pa + 1 < z ∨ z + 3 < pa) ∧ (z + 3 < lg ∨ lg + 3 < z) := fun i z hi hz => by
    have hS := (b4.2.2.2.2 i z hi hz).2
    have q1 := hS.bk.sep a3.bk (hEn i z hi hz)
    have q3 := hS.bk.sep (BK.one a2) (hd_ne hS.2.1 a2 (by decide))
    have q7 := hS.bk.sep a4.bk (hd_ne hS.2.1 a4.2.2.1 (by decide))
    have q8 := hS.bk.sep a5.bk (hd_ne hS.2.1 a5.2.1 (by decide))
    exact ⟨hS, by omega⟩
  have hA1 := hA.face b6
  have hfs : ∀ a, a < L → ¬ a = hd → fs sh hd (6, 6, [some so, some nw, some pa, some lg]) a = sh a := fun a _ hn => fs_ne hn
  generalize hS1 : fs sh hd (6, 6, [some so, some nw, some pa, some lg]) = S1 at hA1 hfs
  obtain ⟨_, c2, c3, c4, c5, c6⟩ := id hA1
  have d2 : S1 ho = (6, 6, [some so, some no, some po, some lo]) := by rw [hfs ho b1 (fun e => n1 e.symm)]; exact b2
  have d3 : SanS L S1 no := SanS_ne b3 (Nat.le_refl _) hfs (by have := t1 (); omega)
  have d4 : PasS L S1 po E := PasS_ne b4 (Nat.le_refl _) hfs a2 (by decide) (hd_ne a2 b4.2.2.1 (by decide))
  have d5 : LogS L S1 lo := LogS_ne b5 (Nat.le_refl _) hfs (by have := t2 (); omega)
  show tc_W 159 0 [rf hd, rf ho] [] _ _ Q
  repeat' (simp (disch := first | omega | exact Nat.le_of_ble_eq_true rfl | exact rfl | assumption | (simp (disch := omega) only [fr_ne, fr_same]; first | assumption | omega)) only [r159_0, r159_1, r159_2, r159_5, r159_8, r159_9, r159_12, r159_13, r159_16, v159_16_5, r159_19, r159_20, r159_23, r159_24, r159_27, v159_27_4, r159_30, r159_31, r159_34, r159_35, r159_38, v159_38_3, r159_41, r159_42, r159_43, r159_46, r159_49, r159_50, r159_51, r159_54, r159_57, g6_39_6, p6_39_6, g6_12_6, g6_21_6, g6_28_6, g6_32_6, p6_32_6, g6_36_6, p6_36_6, o6_len, o6_g0, o6_s0, o6_g1, o6_g2, o6_g3, o6_g4, o6_s4, o6_g5, o6_s5, il_s, bl_s, bl_z, ll_s, is_s, bs_s, bs_z, ls_s, al_s, al_b, al_l, fr_ne, fr_same, fr_fr, Nat.reduceEqDiff, tc_gf3_s, tc_ql2_s, tc_ws_0, tc_ws_i, tc_ws_l, tc_ws_r, Nat.reduceLeDiff, Nat.reduceAdd, Nat.reduceLT, true_and, and_true, if_true, if_false, tc_K, Option.toList_some, Option.toList_none, List.nil_append, List.cons_append, ite_true, ite_false, Int.cast_ofNat_Int, reduceIte, i3_add_eq, i3_sub_eq, Int.add_sub_cancel, Int.add_neg_cancel_right, hO a1 a2, hO b1 b2, hOr, fr_id, hS1, hO a1 c2, hO b1 d2, SanS_g0 c3, SanS_s0 c3, SanS_g1 c3, SanS_s1 c3, SanS_g2 c3, SanS_s2 c3, SanS_g3 c3, SanS_s3 c3])
  refine c88 c3 d3 (by have := s4 (); omega) ?_
  intro e1 g1 g2 g3 g4 g5
  have hpaL : pa < L := by have := c4.2.1; omega
  repeat' (simp (disch := first | omega | exact Nat.le_of_ble_eq_true rfl | exact rfl | assumption | (simp (disch := omega) only [fr_ne, fr_same]; first | assumption | omega)) only [r159_0, r159_1, r159_2, r159_5, r159_8, r159_9, r159_12, r159_13, r159_16, v159_16_5, r159_19, r159_20, r159_23, r159_24, r159_27, v159_27_4, r159_30, r159_31, r159_34, r159_35, r159_38, v159_38_3, r159_41, r159_42, r159_43, r159_46, r159_49, r159_50, r159_51, r159_54, r159_57, g6_39_6, p6_39_6, g6_12_6, g6_21_6, g6_28_6, g6_32_6, p6_32_6, g6_36_6, p6_36_6, o6_len, o6_g0, o6_s0, o6_g1, o6_g2, o6_g3, o6_g4, o6_s4, o6_g5, o6_s5, il_s, bl_s, bl_z, ll_s, is_s, bs_s, bs_z, ls_s, al_s, al_b, al_l, fr_ne, fr_same, fr_fr, Nat.reduceEqDiff, tc_gf3_s, tc_ql2_s, tc_ws_0, tc_ws_i, tc_ws_l, tc_ws_r, Nat.reduceLeDiff, Nat.reduceAdd, Nat.reduceLT, true_and, and_true, if_true, if_false, tc_K, Option.toList_some, Option.toList_none, List.nil_append, List.cons_append, ite_true, ite_false, Int.cast_ofNat_Int, reduceIte, i3_add_eq, i3_sub_eq, Int.add_sub_cancel, Int.add_neg_cancel_right, hO a1 c2, hO b1 d2, hO hpaL c4.2.2.1])
  refine c160 (c := e1) (m := m) c4 d4 n3 (by rw [g1 po (by have := s7 (); omega)]; exact hm) hm0 hE hDE hI ?_
  intro L2 sh2 e2 n2 D2 k1 k2 k3 k4 k5 k6 k7 k8 k9 k10 k11
  have hd1 : hd < L2 := by omega
  have ho1 : ho < L2 := by omega
  have l2 : sh2 hd = (6, 6, [some so, some nw, some pa, some lg]) := by rw [k5 hd a1 (by have := s3 (); omega)]; exact c2
  have l3 : sh2 ho = (6, 6, [some so, some no, some po, some lo]) := by rw [k5 ho b1 (by have := t7 (); omega)]; exact d2
  have l4 : SanS L2 sh2 nw := SanS_ne c3 k1 k5 (by have := s5 (); omega)
  have l5 : LogS L2 sh2 lg := LogS_ne c5 k1 k5 (by have := t6 (); omega)
  have l6 : LogS L2 sh2 lo := LogS_ne d5 k1 k5 (by have := t5 (); omega)
  have l7 : ShoS L2 sh2 so := ShoS_ne c6 k1 k5 (by have := u3 (); omega)
  repeat' (simp (disch := first | omega | exact Nat.le_of_ble_eq_true rfl | exact rfl | assumption | (simp (disch := omega) only [fr_ne, fr_same]; first | assumption | omega)) only [r159_0, r159_1, r159_2, r159_5, r159_8, r159_9, r159_12, r159_13, r159_16, v159_16_5, r159_19, r159_20, r159_23, r159_24, r159_27, v159_27_4, r159_30, r159_31, r159_34, r159_35, r159_38, v159_38_3, r159_41, r159_42, r159_43, r159_46, r159_49, r159_50, r159_51, r159_54, r159_57, g6_39_6, p6_39_6, g6_12_6, g6_21_6, g6_28_6, g6_32_6, p6_32_6, g6_36_6, p6_36_6, o6_len, o6_g0, o6_s0, o6_g1, o6_g2, o6_g3, o6_g4, o6_s4, o6_g5, o6_s5, il_s, bl_s, bl_z, ll_s, is_s, bs_s, bs_z, ls_s, al_s, al_b, al_l, fr_ne, fr_same, fr_fr, Nat.reduceEqDiff, tc_gf3_s, tc_ql2_s, tc_ws_0, tc_ws_i, tc_ws_l, tc_ws_r, Nat.reduceLeDiff, Nat.reduceAdd, Nat.reduceLT, true_and, and_true, if_true, if_false, tc_K, Option.toList_some, Option.toList_none, List.nil_append, List.cons_append, ite_true, ite_false, Int.cast_ofNat_Int, reduceIte, i3_add_eq, i3_sub_eq, Int.add_sub_cancel, Int.add_neg_cancel_right, hO hd1 l2, hO ho1 l3, LogS_g0 l5, LogS_s0 l5, LogS_g1 l5, LogS_s1 l5, LogS_g2 l5, LogS_s2 l5, LogS_g3 l5, LogS_s3 l5])
  refine c161 l5 l6 n4 ?_
  intro e3 m1 m2 m3 m4 m5
  have v1 : e3 ho 4 = c ho 4 := by
    rw [m1 ho (by have := u2 (); omega), k11 ho b1 (by have := t7 (); omega) (fun i y hi hy => (rowN i y hi hy).2.2.2.1), g1 ho (by have := s9 (); omega)]
  have v2 : e3 ho 5 = c ho 5 := by
    rw [m1 ho (by have := u2 (); omega), k11 ho b1 (by have := t7 (); omega) (fun i y hi hy => (rowN i y hi hy).2.2.2.1), g1 ho (by have := s9 (); omega)]
  repeat' (simp (disch := first | omega | exact Nat.le_of_ble_eq_true rfl | exact rfl | assumption | (simp (disch := omega) only [fr_ne, fr_same]; first | assumption | omega)) only [r159_0, r159_1, r159_2, r159_5, r159_8, r159_9, r159_12, r159_13, r159_16, v159_16_5, r159_19, r159_20, r159_23, r159_24, r159_27, v159_27_4, r159_30, r159_31, r159_34, r159_35, r159_38, v159_38_3, r159_41, r159_42, r159_43, r159_46, r159_49, r159_50, r159_51, r159_54, r159_57, g6_39_6, p6_39_6, g6_12_6, g6_21_6, g6_28_6, g6_32_6, p6_32_6, g6_36_6, p6_36_6, o6_len, o6_g0, o6_s0, o6_g1, o6_g2, o6_g3, o6_g4, o6_s4, o6_g5, o6_s5, il_s, bl_s, bl_z, ll_s, is_s, bs_s, bs_z, ls_s, al_s, al_b, al_l, fr_ne, fr_same, fr_fr, Nat.reduceEqDiff, tc_gf3_s, tc_ql2_s, tc_ws_0, tc_ws_i, tc_ws_l, tc_ws_r, Nat.reduceLeDiff, Nat.reduceAdd, Nat.reduceLT, true_and, and_true, if_true, if_false, tc_K, Option.toList_some, Option.toList_none, List.nil_append, List.cons_append, ite_true, ite_false, Int.cast_ofNat_Int, reduceIte, i3_add_eq, i3_sub_eq, Int.add_sub_cancel, Int.add_neg_cancel_right, hO hd1 l2, hO ho1 l3, hOs l2, v1, v2])
  have hlo : ∀ j, j ≤ 3 → e2 (lo + j) = c (lo + j) := fun j hj => by
    rw [k11 (lo + j) (by have := b5.1; omega) (by have := t5 (); omega) (fun i y hi hy => by have := (rowN i y hi hy).2.2.2.2.2.1; omega), g1 (lo + j) (by have := s8 (); omega)]
  have hlo0 : e2 lo = c lo := hlo 0 (by omega)
  refine hq L2 sh2 _ n2 D2 k1 k2 k3 k4 (fun a q1 q2 q3 => (k5 a q1 q3).trans (hfs a q1 q2)) ⟨hd1, l2, l4, k6, l5, l7⟩ k7 k8 (fun k b σ hσ => ?_) (fun i hi => ?_) ?_ ?_ ?_ ?_ ?_ ?_ ?_ (fun a q1 q2 q3 q4 q5 q6 => ?_)
  · have hn : ∀ j, j ≤ 3 → ∀ f, fr e3 hd f (nw + j) = e1 (nw + j) := fun j hj f => by
      rw [fr_ne (by have := s1 (); omega), m1 _ (by have := s6 (); omega), k11 (nw + j) (by have := a3.1; omega) (by have := s5 (); omega) (fun i y hi hy => by have := (rowN i y hi hy).1; omega)]
    exact (hσ.cp g2 g3 g4 g5).fr (hn 0 (by omega) _) (hn 1 (by omega) _) (hn 2 (by omega) _) (hn 3 (by omega) _)
  · obtain ⟨y, z, hy, hz, ht⟩ := k10 i hi
    refine ⟨y, z, hy, hz, fun k b σ hσ => ?_⟩
    have hz4 := rowE i z (by omega) hz
    have hc1 : ∀ j, j ≤ 3 → e1 (z + j) = c (z + j) := fun j hj => g1 _ (by omega)
    have hSy := (k6.2.2.2.2 i y (by omega) hy).2
    have w1 := hSy.bk.sep l5.bk (hd_ne hSy.2.1 l5.2.1 (by decide))
    have w2 := hSy.bk.sep (BK.one l2) (hd_ne hSy.2.1 l2 (by decide))
    have hf : ∀ j, j ≤ 3 → ∀ f, fr e3 hd f (y + j) = e2 (y + j) := fun j hj f => by rw [fr_ne (by omega), m1 _ (by omega)]
    exact (ht k b σ (hσ.fr (hc1 0 (by omega)) (hc1 1 (by omega)) (hc1 2 (by omega)) (hc1 3 (by omega)))).fr (hf 0 (by omega) _) (hf 1 (by omega) _) (hf 2 (by omega) _) (hf 3 (by omega) _)
  · rw [fr_ne (by have := s3 (); omega), m1 pa (by have := t6 (); omega), k9, fu_same]
  · rw [fr_ne (by have := s2 (); omega), m2, hlo0]
  · rw [fr_ne (by have := s2 (); omega), m3, hlo 1 (by omega)]
  · rw [fr_ne (by have := s2 (); omega), m4, hlo 2 (by omega)]
  · rw [fr_ne (by have := s2 (); omega), m5, hlo 3 (by omega)]
  · simp (disch := omega) only [fr_same, fu_same, fu_ne]
  · simp (disch := omega) only [fr_same, fu_same, fu_ne]
  · rw [fr_ne q2, m1 a q5, k11 a q1 q4 q6, g1 a q3]
end SCENEC

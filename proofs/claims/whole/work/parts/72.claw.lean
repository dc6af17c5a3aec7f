/-! the class: a RULE -/
def ctk (z : Int) : Tk := if 0 ≤ z then (0, z) else if -9 ≤ z then (1, -1 - z) else if z = -10 then (2, 0) else if z = -11 then (3, 0) else if z = -12 then (13, 0) else if z = -13 then (14, 0) else if z = -14 then (15, 0) else if z = -15 then (4, 0) else if z = -16 then (5, 0) else if z = -17 then (6, 0) else if z = -18 then (7, 0) else if z = -19 then (8, 0) else if z = -20 then (10, 0) else if z = -21 then (11, 0) else if z = -22 then (9, 0) else (16, 0)
def sc (g : Int → Int) (a : Int) : Nat → List Tk
  | 0 => []
  | m + 1 => ctk (g a) :: sc g (a + 1) m
def vcn : List Tk → Int
  | [] => 0
  | t :: ts => (if t.1 = 0 ∨ t.1 = 1 then 1 else 0) + vcn ts
theorem vcn_nn : ∀ ts, 0 ≤ vcn ts := by
  intro ts
  induction ts with
  | nil => exact Int.le_refl 0
  | cons t ts ih =>
    show 0 ≤ (if t.1 = 0 ∨ t.1 = 1 then 1 else 0) + vcn ts
    split <;> omega
theorem ctk_c {z : Int} {a b : List Bool} (h : Kd (ctk z).1 (ctk z).2 a b) : (0 ≤ z ∧ ctk z = (0, z) ∧ b = false :: a) ∨ (-9 ≤ z ∧ z < 0 ∧ ctk z = (1, -1 - z) ∧ b = false :: a) ∨ (z = -22 ∧ ctk z = (9, 0) ∧ ∃ r, a = true :: r ∧ b = true :: r) ∨ ((-21 ≤ z ∧ z ≤ -10) ∧ ((ctk z).1 = 2 ∨ (ctk z).1 = 3 ∨ (ctk z).1 = 4 ∨ (ctk z).1 = 5 ∨ (ctk z).1 = 6 ∨ (ctk z).1 = 7 ∨ (ctk z).1 = 8 ∨ (ctk z).1 = 10 ∨ (ctk z).1 = 11 ∨ (ctk z).1 = 13 ∨ (ctk z).1 = 14 ∨ (ctk z).1 = 15) ∧ ∃ x y r k, a = x :: y :: r ∧ b = k :: r) := by
  by_cases h0 : 0 ≤ z
  · have e : ctk z = (0, z) := if_pos h0
    rw [e] at h
    rcases h with ⟨_, h⟩ | h | h | h | h | h
    · exact Or.inl ⟨h0, e, h⟩
    all_goals (simp only at h; omega)
  by_cases h9 : -9 ≤ z
  · have e : ctk z = (1, -1 - z) := (if_neg h0).trans (if_pos h9)
    rw [e] at h
    rcases h with h | ⟨_, _, _, h⟩ | h | h | h | h
    · simp only at h; omega
    · exact Or.inr (Or.inl ⟨h9, by omega, e, h⟩)
    all_goals (simp only at h; omega)
  by_cases h22 : z = -22
  · subst h22
    have e : ctk (-22) = (9, 0) := rfl
    rw [e] at h
    rcases h with h | h | ⟨_, h⟩ | h | h | h
    · simp only at h; omega
    · simp only at h; omega
    · exact Or.inr (Or.inr (Or.inl ⟨rfl, e, h⟩))
    all_goals (simp only at h; omega)
  by_cases h21 : -21 ≤ z
  · refine Or.inr (Or.inr (Or.inr ⟨⟨h21, by omega⟩, ?_⟩))
    rcases (by omega : z = -10 ∨ z = -11 ∨ z = -12 ∨ z = -13 ∨ z = -14 ∨ z = -15 ∨ z = -16 ∨ z = -17 ∨ z = -18 ∨ z = -19 ∨ z = -20 ∨ z = -21) with rfl | rfl | rfl | rfl | rfl | rfl | rfl | rfl | rfl | rfl | rfl | rfl
    all_goals
      refine ⟨by decide, ?_⟩
      rcases h with h | h | h | ⟨_, r, h1, h2⟩ | ⟨_, r, h1, h2⟩ | ⟨_, r, h1, h2⟩
      · exact absurd h.1 (by decide)
      · exact absurd h.1 (by decide)
      · exact absurd h.1 (by decide)
      · exact ⟨_, _, _, _, h1, h2⟩
      · exact ⟨_, _, _, _, h1, h2⟩
      · exact ⟨_, _, _, _, h1, h2⟩
  · exfalso
    have e : ctk z = (16, 0) := by
      unfold ctk
      rw [if_neg h0, if_neg h9, if_neg (by omega), if_neg (by omega), if_neg (by omega), if_neg (by omega), if_neg (by omega), if_neg (by omega), if_neg (by omega), if_neg (by omega), if_neg (by omega), if_neg (by omega), if_neg (by omega), if_neg (by omega), if_neg (by omega)]
    rw [e] at h
    rcases h with h | h | h | h | h | h <;> (simp only at h; omega)
section CLAW
variable {L : Nat} {sh : Nat → SH} {c : Nat → Int → Int} {n : Nat} {Q : Option AV → List SC → Nat → Prop} {r m1 m2 : Nat}
theorem c97 {h : List SC} {z a b : Int} (hz : -21 ≤ z ∧ z ≤ -10) : tc_C 97 [.inl z, .inr (.inl a), .inr (.inl b)] h n Q = Q (some (.inr (.inl (bot (ctk z).1 a b)))) h n := tc_det fun Q hq => by
  show tc_W 97 0 [.inl z, .inr (.inl a), tc_nil, .inr (.inl b), tc_nil] [] _ _ Q
  rcases (by omega : z = -10 ∨ z = -11 ∨ z = -12 ∨ z = -13 ∨ z = -14 ∨ z = -15 ∨ z = -16 ∨ z = -17 ∨ z = -18 ∨ z = -19 ∨ z = -20 ∨ z = -21) with rfl | rfl | rfl | rfl | rfl | rfl | rfl | rfl | rfl | rfl | rfl | rfl
  all_goals
    repeat' (first | (simp (disch := first | omega | exact Nat.le_of_ble_eq_true rfl | exact rfl | assumption | (simp only [fr_at, Nat.reduceEqDiff, if_false, if_true, reduceIte]; first | assumption | omega)) only [r97_0, r97_1_0, r97_1_1, r97_1_2, r97_1_3, r97_1_4, r97_1_5, r97_1_6, r97_1_7, r97_1_8, r97_1_9, r97_1_10, r97_1_11, r97_1_d, r97_64, r97_65, r97_66, r97_67, r97_68, r97_69, r97_70, r97_71, r97_72, r97_73, r97_74, r97_75, r97_76, r97_77, r97_78, r97_82, r97_83, r97_86, r97_87, r97_88, r97_89, r97_90, r97_91, r97_92, r97_96, r97_97, r97_100, r97_101, r97_102, r97_103, r97_104, r97_105, r97_106, r97_110, r97_111, r97_114, r97_115, r97_116, r97_117, r97_118, r97_122, r97_123, r97_126, r97_127, r97_128, r97_129, r97_130, r97_134, r97_135, r97_138, r97_139, r97_140, r97_141, r97_142, r97_146, r97_147, r97_150, r97_151, r97_152, r97_153, r97_154, r97_158, r97_159, r97_162, r97_163, r97_164, r97_165, r97_166, r97_167, r97_168, r97_169, r97_170, r97_171, r97_172, r97_173, il_s, bl_s, bl_z, ll_s, is_s, bs_s, bs_z, ls_s, al_s, al_b, al_l, fr_at, fr_fr, Nat.reduceEqDiff, tc_gf3_s, tc_ql2_s, tc_ws_0, tc_ws_i, tc_ws_l, tc_ws_r, Nat.reduceLeDiff, Nat.reduceAdd, Nat.reduceLT, true_and, and_true, if_true, if_false, tc_K, Option.toList_some, Option.toList_none, List.nil_append, List.cons_append, ite_true, ite_false, Int.cast_ofNat_Int, reduceIte, i3_add_eq, i3_sub_eq, Int.add_sub_cancel, Int.add_neg_cancel_right]) | (simp only [r97_79, r97_93, r97_107, r97_119, r97_131, r97_143, r97_155, i6_lt0, i6_0lt, i6_0le, i6_le0, i6_eq0, b10_0, ite_not, Int.reduceLT, Int.reduceLE, Int.reduceEq, Int.reduceNeg, if_true, if_false, ite_true, ite_false, reduceIte, eq_self, not_true, not_false_eq_true]; try refine tc_ite (fun _ => ?_) (fun _ => ?_) <;> try (exfalso; omega)))
  all_goals
    simp (disch := omega) only [ctk, bot, if_pos, if_neg, if_true, if_false, Int.reduceEq, Int.reduceLE, Int.reduceNeg, ite_true, ite_false, reduceIte] at hq
    exact hq
theorem c96_l (hS : LawS L sh r m1 m2) (h54 : 54 < L ∧ sh 54 = (3, 9, [])) (h55 : 55 < L ∧ sh 55 = (3, 60, [])) (hr : 115 ≤ r) {fr0 un : Int} (hf : 0 ≤ fr0) (hu : un ≤ m1) (hm1 : m1 ≤ 400) {fin : List Bool} : ∀ (m : Nat) (k : Int) (st : List Int) (ks : List Bool) (g : Int → Int) (a7 : AV), fr0 ≤ k → k + m = un → (st.length : Int) + vcn (sc (c (r + 1)) k m) ≤ 60 → SK g st → Ty st ks → Kds (sc (c (r + 1)) k m) ks fin → fin ≠ [] → (∀ g', SK g' (evs (c 54) (sc (c (r + 1)) k m) st) → Q (some (.inr (.inl (g' 0)))) (hp L sh (fr c 55 g')) n) → tc_W 96 6 [rf r, .inl fr0, .inl un, rf 54, rf 55, .inl (st.length : Int), .inl k, a7] [] (hp L sh (fr c 55 g)) n Q := by
  intro m
  induction m with
  | zero =>
    intro k st ks g a7 hk0 hk hl hg ht hK hfi hq
    have hlen := ht.len
    have hK' : ks = fin := hK
    have hl1 : 0 < fin.length := List.length_pos_iff.mpr hfi
    rw [hK'] at hlen
    simp only [r96_6]
    repeat' (first | (simp (disch := first | omega | exact Nat.le_of_ble_eq_true rfl | exact rfl | assumption | (simp (disch := omega) only [fr_ne, fr_same]; first | assumption | omega)) only [r96_0, r96_1r, r96_3, r96_4i, r96_8, r96_12, r96_13, r96_16, r96_18, r96_19i, r96_21, r96_23, r96_28, r96_30, r96_32, r96_36, r96_38, r96_40, r96_45, r96_47, r96_48, r96_51, r96_52, r96_53, r96_55, r96_56, r96_57, r96_58r, r96_61, r96_64, r96_66, r96_71, r96_76, r96_78, r96_80, r96_81, r96_82, r96_83, r96_85, r96_87, r96_88, r96_89, r96_90, r96_91, r96_92, r96_95, r96_97, r96_101r, r96_104, r96_106, r96_108, r96_109, r96_110, r96_112, r96_114, r96_116, r96_117, r96_118, r96_119, r96_121, r96_123, r96_124, r96_127, r96_128i, r96_131, r96_134, r96_139, r96_141, r96_142, r96_143, r96_146, r96_147, g1_9_1, o1_len, o1_g0, il_s, bl_s, bl_z, ll_s, is_s, bs_s, bs_z, ls_s, al_s, al_b, al_l, fr_ne, fr_same, fr_fr, Nat.reduceEqDiff, tc_gf3_s, tc_ql2_s, tc_ws_0, tc_ws_i, tc_ws_l, tc_ws_r, Nat.reduceLeDiff, Nat.reduceAdd, Nat.reduceLT, true_and, and_true, if_true, if_false, tc_K, Option.toList_some, Option.toList_none, List.nil_append, List.cons_append, ite_true, ite_false, Int.cast_ofNat_Int, reduceIte, i3_add_eq, i3_sub_eq, Int.add_sub_cancel, Int.add_neg_cancel_right, hL h55.1 h55.2]) | (simp only [r96_9, r96_25, r96_33, r96_42, r96_68, r96_73, r96_98, r96_136, i6_lt0, i6_0lt, i6_0le, i6_le0, i6_eq0, b10_0, ite_not, Int.reduceLT, Int.reduceLE, Int.reduceEq, Int.reduceNeg, if_true, if_false, ite_true, ite_false, reduceIte, eq_self, not_true, not_false_eq_true]; try refine tc_ite (fun _ => ?_) (fun _ => ?_) <;> try (exfalso; omega)))
    exact hq g hg
  | succ m ih =>
    intro k st ks g a7 hk0 hk hl hg ht hK hfi hq
    obtain ⟨mm, h1, h2⟩ := hK
    have hty := ev1_ty (w := c 54) ht h1
    have hvc : vcn (sc (c (r + 1)) k (m + 1)) = (if (ctk (c (r + 1) k)).1 = 0 ∨ (ctk (c (r + 1) k)).1 = 1 then 1 else 0) + vcn (sc (c (r + 1)) (k + 1) m) := rfl
    have hvn := vcn_nn (sc (c (r + 1)) (k + 1) m)
    rw [hvc] at hl
    have hq' : ∀ g', SK g' (evs (c 54) (sc (c (r + 1)) (k + 1) m) (ev1 (c 54) (ctk (c (r + 1) k)).1 (ctk (c (r + 1) k)).2 st)) → Q (some (.inr (.inl (g' 0)))) (hp L sh (fr c 55 g')) n := fun g' hg' => hq g' hg'
    simp only [r96_6]
    rcases ctk_c h1 with ⟨e, e1, rfl⟩ | ⟨e, e0, e1, rfl⟩ | ⟨e, e1, q, rfl, rfl⟩ | ⟨e, e1, x1, x2, q, k1, rfl, rfl⟩
    · rw [e1] at hq' hty hl
      rw [if_pos (Or.inl rfl)] at hl
      repeat' (first | (simp (disch := first | omega | exact Nat.le_of_ble_eq_true rfl | exact rfl | assumption | (simp (disch := omega) only [fr_ne, fr_same]; first | assumption | omega)) only [r96_0, r96_1r, r96_3, r96_4i, r96_8, r96_12, r96_13, r96_16, r96_18, r96_19i, r96_21, r96_23, r96_28, r96_30, r96_32, r96_36, r96_38, r96_40, r96_45, r96_47, r96_48, r96_51, r96_52, r96_53, r96_55, r96_56, r96_57, r96_58r, r96_61, r96_64, r96_66, r96_71, r96_76, r96_78, r96_80, r96_81, r96_82, r96_83, r96_85, r96_87, r96_88, r96_89, r96_90, r96_91, r96_92, r96_95, r96_97, r96_101r, r96_104, r96_106, r96_108, r96_109, r96_110, r96_112, r96_114, r96_116, r96_117, r96_118, r96_119, r96_121, r96_123, r96_124, r96_127, r96_128i, r96_131, r96_134, r96_139, r96_141, r96_142, r96_143, r96_146, r96_147, g1_9_1, o1_len, o1_g0, il_s, bl_s, bl_z, ll_s, is_s, bs_s, bs_z, ls_s, al_s, al_b, al_l, fr_ne, fr_same, fr_fr, Nat.reduceEqDiff, tc_gf3_s, tc_ql2_s, tc_ws_0, tc_ws_i, tc_ws_l, tc_ws_r, Nat.reduceLeDiff, Nat.reduceAdd, Nat.reduceLT, true_and, and_true, if_true, if_false, tc_K, Option.toList_some, Option.toList_none, List.nil_append, List.cons_append, ite_true, ite_false, Int.cast_ofNat_Int, reduceIte, i3_add_eq, i3_sub_eq, Int.add_sub_cancel, Int.add_neg_cancel_right, LawS_g0 hS, LawS_s0 hS, LawS_g1 hS, LawS_s1 hS, LawS_g2 hS, LawS_s2 hS, hL h54.1 h54.2, hL h55.1 h55.2, hLs h55.2]) | (simp only [r96_9, r96_25, r96_33, r96_42, r96_68, r96_73, r96_98, r96_136, i6_lt0, i6_0lt, i6_0le, i6_le0, i6_eq0, b10_0, ite_not, Int.reduceLT, Int.reduceLE, Int.reduceEq, Int.reduceNeg, if_true, if_false, ite_true, ite_false, reduceIte, eq_self, not_true, not_false_eq_true]; try refine tc_ite (fun _ => ?_) (fun _ => ?_) <;> try (exfalso; omega)))
      exact ih (k + 1) (c (r + 1) k :: st) _ _ _ (by omega) (by omega) (by show ((st.length + 1 : Nat) : Int) + _ ≤ _; omega) ⟨fu_same _ _ _, hg.fu (by omega)⟩ hty h2 hfi hq'
    · rw [e1] at hq' hty hl
      rw [if_pos (Or.inr rfl)] at hl
      repeat' (first | (simp (disch := first | omega | exact Nat.le_of_ble_eq_true rfl | exact rfl | assumption | (simp (disch := omega) only [fr_ne, fr_same]; first | assumption | omega)) only [r96_0, r96_1r, r96_3, r96_4i, r96_8, r96_12, r96_13, r96_16, r96_18, r96_19i, r96_21, r96_23, r96_28, r96_30, r96_32, r96_36, r96_38, r96_40, r96_45, r96_47, r96_48, r96_51, r96_52, r96_53, r96_55, r96_56, r96_57, r96_58r, r96_61, r96_64, r96_66, r96_71, r96_76, r96_78, r96_80, r96_81, r96_82, r96_83, r96_85, r96_87, r96_88, r96_89, r96_90, r96_91, r96_92, r96_95, r96_97, r96_101r, r96_104, r96_106, r96_108, r96_109, r96_110, r96_112, r96_114, r96_116, r96_117, r96_118, r96_119, r96_121, r96_123, r96_124, r96_127, r96_128i, r96_131, r96_134, r96_139, r96_141, r96_142, r96_143, r96_146, r96_147, g1_9_1, o1_len, o1_g0, il_s, bl_s, bl_z, ll_s, is_s, bs_s, bs_z, ls_s, al_s, al_b, al_l, fr_ne, fr_same, fr_fr, Nat.reduceEqDiff, tc_gf3_s, tc_ql2_s, tc_ws_0, tc_ws_i, tc_ws_l, tc_ws_r, Nat.reduceLeDiff, Nat.reduceAdd, Nat.reduceLT, true_and, and_true, if_true, if_false, tc_K, Option.toList_some, Option.toList_none, List.nil_append, List.cons_append, ite_true, ite_false, Int.cast_ofNat_Int, reduceIte, i3_add_eq, i3_sub_eq, Int.add_sub_cancel, Int.add_neg_cancel_right, LawS_g0 hS, LawS_s0 hS, LawS_g1 hS, LawS_s1 hS, LawS_g2 hS, LawS_s2 hS, hL h54.1 h54.2, hL h55.1 h55.2, hLs h55.2]) | (simp only [r96_9, r96_25, r96_33, r96_42, r96_68, r96_73, r96_98, r96_136, i6_lt0, i6_0lt, i6_0le, i6_le0, i6_eq0, b10_0, ite_not, Int.reduceLT, Int.reduceLE, Int.reduceEq, Int.reduceNeg, if_true, if_false, ite_true, ite_false, reduceIte, eq_self, not_true, not_false_eq_true]; try refine tc_ite (fun _ => ?_) (fun _ => ?_) <;> try (exfalso; omega)))
      exact ih (k + 1) (c 54 (-1 - c (r + 1) k) :: st) _ _ _ (by omega) (by omega) (by show ((st.length + 1 : Nat) : Int) + _ ≤ _; omega) ⟨fu_same _ _ _, hg.fu (by omega)⟩ hty h2 hfi hq'
    · obtain ⟨x, q1, rfl, h3, h4⟩ := ht.c
      rw [e1] at hq' hty hl
      rw [if_neg (by decide)] at hl
      have hle : ((x :: q1).length : Int) = q1.length + 1 := rfl
      rw [hle] at hl ⊢
      repeat' (first | (simp (disch := first | omega | exact Nat.le_of_ble_eq_true rfl | exact rfl | assumption | (simp (disch := omega) only [fr_ne, fr_same]; first | assumption | omega)) only [r96_0, r96_1r, r96_3, r96_4i, r96_8, r96_12, r96_13, r96_16, r96_18, r96_19i, r96_21, r96_23, r96_28, r96_30, r96_32, r96_36, r96_38, r96_40, r96_45, r96_47, r96_48, r96_51, r96_52, r96_53, r96_55, r96_56, r96_57, r96_58r, r96_61, r96_64, r96_66, r96_71, r96_76, r96_78, r96_80, r96_81, r96_82, r96_83, r96_85, r96_87, r96_88, r96_89, r96_90, r96_91, r96_92, r96_95, r96_97, r96_101r, r96_104, r96_106, r96_108, r96_109, r96_110, r96_112, r96_114, r96_116, r96_117, r96_118, r96_119, r96_121, r96_123, r96_124, r96_127, r96_128i, r96_131, r96_134, r96_139, r96_141, r96_142, r96_143, r96_146, r96_147, g1_9_1, o1_len, o1_g0, il_s, bl_s, bl_z, ll_s, is_s, bs_s, bs_z, ls_s, al_s, al_b, al_l, fr_ne, fr_same, fr_fr, Nat.reduceEqDiff, tc_gf3_s, tc_ql2_s, tc_ws_0, tc_ws_i, tc_ws_l, tc_ws_r, Nat.reduceLeDiff, Nat.reduceAdd, Nat.reduceLT, true_and, and_true, if_true, if_false, tc_K, Option.toList_some, Option.toList_none, List.nil_append, List.cons_append, ite_true, ite_false, Int.cast_ofNat_Int, reduceIte, i3_add_eq, i3_sub_eq, Int.add_sub_cancel, Int.add_neg_cancel_right, LawS_g0 hS, LawS_s0 hS, LawS_g1 hS, LawS_s1 hS, LawS_g2 hS, LawS_s2 hS, hL h54.1 h54.2, hL h55.1 h55.2, hLs h55.2, e]) | (simp only [r96_9, r96_25, r96_33, r96_42, r96_68, r96_73, r96_98, r96_136, i6_lt0, i6_0lt, i6_0le, i6_le0, i6_eq0, b10_0, ite_not, Int.reduceLT, Int.reduceLE, Int.reduceEq, Int.reduceNeg, if_true, if_false, ite_true, ite_false, reduceIte, eq_self, not_true, not_false_eq_true]; try refine tc_ite (fun _ => ?_) (fun _ => ?_) <;> try (exfalso; omega)))
      rw [show g (q1.length : Int) = x from hg.1]
      exact ih (k + 1) (i6_sub 1 x :: q1) _ _ _ (by omega) (by omega) (by show ((q1.length + 1 : Nat) : Int) + _ ≤ _; omega) ⟨fu_same _ _ _, hg.2.fu (by omega)⟩ hty h2 hfi hq'
    · obtain ⟨x, q1, rfl, h3, h4⟩ := ht.c
      obtain ⟨y, q2, rfl, h5, h6⟩ := h4.c
      rw [if_neg (by omega)] at hl
      have e3 : ev1 (c 54) (ctk (c (r + 1) k)).1 (ctk (c (r + 1) k)).2 (x :: y :: q2) = bot (ctk (c (r + 1) k)).1 y x :: q2 := by
        unfold ev1
        rw [if_neg (by omega), if_neg (by omega), if_neg (by omega)]
      rw [e3] at hq' hty
      have hle : ((x :: y :: q2).length : Int) = q2.length + 1 + 1 := rfl
      rw [hle] at hl ⊢
      repeat' (first | (simp (disch := first | omega | exact Nat.le_of_ble_eq_true rfl | exact rfl | assumption | (simp (disch := omega) only [fr_ne, fr_same]; first | assumption | omega)) only [r96_0, r96_1r, r96_3, r96_4i, r96_8, r96_12, r96_13, r96_16, r96_18, r96_19i, r96_21, r96_23, r96_28, r96_30, r96_32, r96_36, r96_38, r96_40, r96_45, r96_47, r96_48, r96_51, r96_52, r96_53, r96_55, r96_56, r96_57, r96_58r, r96_61, r96_64, r96_66, r96_71, r96_76, r96_78, r96_80, r96_81, r96_82, r96_83, r96_85, r96_87, r96_88, r96_89, r96_90, r96_91, r96_92, r96_95, r96_97, r96_101r, r96_104, r96_106, r96_108, r96_109, r96_110, r96_112, r96_114, r96_116, r96_117, r96_118, r96_119, r96_121, r96_123, r96_124, r96_127, r96_128i, r96_131, r96_134, r96_139, r96_141, r96_142, r96_143, r96_146, r96_147, g1_9_1, o1_len, o1_g0, il_s, bl_s, bl_z, ll_s, is_s, bs_s, bs_z, ls_s, al_s, al_b, al_l, fr_ne, fr_same, fr_fr, Nat.reduceEqDiff, tc_gf3_s, tc_ql2_s, tc_ws_0, tc_ws_i, tc_ws_l, tc_ws_r, Nat.reduceLeDiff, Nat.reduceAdd, Nat.reduceLT, true_and, and_true, if_true, if_false, tc_K, Option.toList_some, Option.toList_none, List.nil_append, List.cons_append, ite_true, ite_false, Int.cast_ofNat_Int, reduceIte, i3_add_eq, i3_sub_eq, Int.add_sub_cancel, Int.add_neg_cancel_right, LawS_g0 hS, LawS_s0 hS, LawS_g1 hS, LawS_s1 hS, LawS_g2 hS, LawS_s2 hS, hL h54.1 h54.2, hL h55.1 h55.2, hLs h55.2, c97]) | (simp only [r96_9, r96_25, r96_33, r96_42, r96_68, r96_73, r96_98, r96_136, i6_lt0, i6_0lt, i6_0le, i6_le0, i6_eq0, b10_0, ite_not, Int.reduceLT, Int.reduceLE, Int.reduceEq, Int.reduceNeg, if_true, if_false, ite_true, ite_false, reduceIte, eq_self, not_true, not_false_eq_true]; try refine tc_ite (fun _ => ?_) (fun _ => ?_) <;> try (exfalso; omega)))
      rw [show g ((q2.length : Int) + 1) = x from hg.1, show g (q2.length : Int) = y from hg.2.1]
      exact ih (k + 1) (bot (ctk (c (r + 1) k)).1 y x :: q2) _ _ _ (by omega) (by omega) (by show ((q2.length + 1 : Nat) : Int) + _ ≤ _; omega) ⟨fu_same _ _ _, hg.2.2.fu (by omega)⟩ hty h2 hfi hq'
theorem c96 (hS : LawS L sh r m1 m2) (h54 : 54 < L ∧ sh 54 = (3, 9, [])) (h55 : 55 < L ∧ sh 55 = (3, 60, [])) (hr : 115 ≤ r) {fr0 un : Int} (hf : 0 ≤ fr0) (hfu : fr0 ≤ un) (hu : un ≤ m1) (hm1 : m1 ≤ 400) {b : Bool} (hK : Kds (sc (c (r + 1)) fr0 (un - fr0).toNat) [] [b]) (hv : vcn (sc (c (r + 1)) fr0 (un - fr0).toNat) ≤ 60)
    (hq : ∀ g, Q (some (.inr (.inl ((evs (c 54) (sc (c (r + 1)) fr0 (un - fr0).toNat) []).headD 0)))) (hp L sh (fr c 55 g)) n) : tc_C 96 [rf r, .inl fr0, .inl un, rf 54, rf 55] (hp L sh c) n Q := by
  show tc_W 96 0 [rf r, .inl fr0, .inl un, rf 54, rf 55, tc_nil, tc_nil, tc_nil] [] _ _ Q
  repeat' (first | (simp (disch := first | omega | exact Nat.le_of_ble_eq_true rfl | exact rfl | assumption | (simp (disch := omega) only [fr_ne, fr_same]; first | assumption | omega)) only [r96_0, r96_1r, r96_3, r96_4i, r96_8, r96_12, r96_13, r96_16, r96_18, r96_19i, r96_21, r96_23, r96_28, r96_30, r96_32, r96_36, r96_38, r96_40, r96_45, r96_47, r96_48, r96_51, r96_52, r96_53, r96_55, r96_56, r96_57, r96_58r, r96_61, r96_64, r96_66, r96_71, r96_76, r96_78, r96_80, r96_81, r96_82, r96_83, r96_85, r96_87, r96_88, r96_89, r96_90, r96_91, r96_92, r96_95, r96_97, r96_101r, r96_104, r96_106, r96_108, r96_109, r96_110, r96_112, r96_114, r96_116, r96_117, r96_118, r96_119, r96_121, r96_123, r96_124, r96_127, r96_128i, r96_131, r96_134, r96_139, r96_141, r96_142, r96_143, r96_146, r96_147, g1_9_1, o1_len, o1_g0, il_s, bl_s, bl_z, ll_s, is_s, bs_s, bs_z, ls_s, al_s, al_b, al_l, fr_ne, fr_same, fr_fr, Nat.reduceEqDiff, tc_gf3_s, tc_ql2_s, tc_ws_0, tc_ws_i, tc_ws_l, tc_ws_r, Nat.reduceLeDiff, Nat.reduceAdd, Nat.reduceLT, true_and, and_true, if_true, if_false, tc_K, Option.toList_some, Option.toList_none, List.nil_append, List.cons_append, ite_true, ite_false, Int.cast_ofNat_Int, reduceIte, i3_add_eq, i3_sub_eq, Int.add_sub_cancel, Int.add_neg_cancel_right]) | (simp only [r96_9, r96_25, r96_33, r96_42, r96_68, r96_73, r96_98, r96_136, i6_lt0, i6_0lt, i6_0le, i6_le0, i6_eq0, b10_0, ite_not, Int.reduceLT, Int.reduceLE, Int.reduceEq, Int.reduceNeg, if_true, if_false, ite_true, ite_false, reduceIte, eq_self, not_true, not_false_eq_true]; try refine tc_ite (fun _ => ?_) (fun _ => ?_) <;> try (exfalso; omega)))
  have h := c96_l (c := c) (n := n) (Q := Q) hS h54 h55 hr hf hu hm1 (un - fr0).toNat fr0 [] [] (c 55) tc_nil (by omega) (by omega) (by show (0 : Int) + _ ≤ _; omega) trivial trivial hK (List.cons_ne_nil _ _) ?_
  · rw [fr_id] at h
    exact h
  · intro g hg
    obtain ⟨v, q, e, _, h2⟩ := (evs_ty (w := c 54) (st := []) (a := []) trivial hK).c
    have e2 : q = [] := by
      cases q with
      | nil => rfl
      | cons _ _ => exact h2.elim
    subst e2
    have hq' := hq g
    rw [e] at hg hq'
    rw [show g 0 = v from hg.1]
    exact hq'
end CLAW

/-! the class: facts -/
section TESTD
variable {L : Nat} {sh : Nat → SH} {c : Nat → Int → Int} {n : Nat} {Q : Option AV → List SC → Nat → Prop} {g : Int → Int} {N p m z f p' m' W W' F : Int} {T T' : List Tk} {O O' : List Int}
theorem c54x (hR : LRd L sh) {q : Int} (hq0 : 0 ≤ q ∧ q ≤ 1000) (h9 : c 70 9 = m) (hm : 0 ≤ m ∧ m ≤ 100) (h4 : c 70 4 = F) : ∃ F2 : Int → Int, (∀ n Q, tc_C 54 [rf 70, .inl q] (hp L sh c) n Q = Q none (hp L sh (fr c 70 F2)) n) ∧ (∀ i, ¬ i = 4 → ¬ i = 9 → F2 i = c 70 i) ∧ F2 9 = m + 1 ∧ F2 4 = fl F (if 60 ≤ m then 1 + 8 * q + 3 else 0) := by
  by_cases h60 : 60 ≤ m
  · refine ⟨fu (fu (c 70) 9 (m + 1)) 4 (if c 70 4 = 0 then 1 + 8 * q + 3 else c 70 4), fun n Q => by rw [c54 hR hq0 h9 hm, if_pos h60], fun i i1 i2 => by rw [fu_ne i1, fu_ne i2], by rw [fu_ne (by omega), fu_same], ?_⟩
    rw [fu_same, h4, if_pos h60]
    rfl
  · refine ⟨fu (c 70) 9 (m + 1), fun n Q => by rw [c54 hR hq0 h9 hm, if_neg h60], fun i i1 i2 => by rw [fu_ne i2], by rw [fu_same], ?_⟩
    rw [fu_ne (by omega), h4, if_neg h60]
    unfold fl
    split <;> omega
def cmf (g : Int → Int) (N q m : Int) : Int := if ¬ (byt g N q = 60 ∨ byt g N q = 61 ∨ byt g N q = 62) then 1 + 8 * q else if 60 ≤ m then 1 + 8 * q + 3 else 0
theorem c61 (hR : LRd L sh) (hTP : TP g N) (d27 : c 27 = g) (d1 : c 70 1 = N) (d2 : c 70 2 = p) (hp0 : 0 ≤ p ∧ p ≤ N) (d9 : c 70 9 = m) (hm : 0 ≤ m ∧ m ≤ 61) (d4 : c 70 4 = F) {q : Int} (hq0 : sk g N p = q) : ∃ e v, (∀ n Q, tc_C 61 [rf 70] (hp L sh c) n Q = Q (some (.inl v)) (hp L sh e) n) ∧ (∀ a, ¬ a = 70 → e a = c a) ∧ (∀ i, ¬ i = 2 → ¬ i = 4 → ¬ i = 9 → e 70 i = c 70 i) ∧ (0 ≤ e 70 2 ∧ e 70 2 ≤ N) ∧ (0 ≤ e 70 9 ∧ e 70 9 ≤ m + 1) ∧ e 70 4 = fl F (cmf g N q m) ∧ (cmf g N q m = 0 → v = -11 - ccd g N q ∧ e 70 2 = q + 1 + ceq g N q ∧ e 70 9 = m + 1) := by
  obtain ⟨hL, h70, h27, h71, h72, h73⟩ := id hR
  have hL70 : 70 < L := by omega
  have hN := hTP.1
  have hs := nm_rng (g := g) (p := p) (N := N) hp0
  have h20 := fun n Q => c20_l (c := c) (n := n) (Q := Q) (N := N) (p := p) h70 h27 hL (by rw [d27]; exact hTP) d1 d2 (by omega)
  rw [d27, hq0] at h20
  rw [hq0] at hs
  have hsq : sk g N q = q := by rw [← hq0]; exact sk_2 g N p
  generalize hc1 : fr c 70 (fu (c 70) 2 q) = c1 at h20
  have x70 : ∀ i, c1 70 i = fu (c 70) 2 q i := fun i => by rw [← hc1, fr_same]
  have xo : ∀ a, ¬ a = 70 → c1 a = c a := fun a ha => by rw [← hc1, fr_ne ha]
  have a27 : c1 27 = g := by rw [xo 27 (by omega)]; exact d27
  have a1 : c1 70 1 = N := by rw [x70, fu_ne (by omega)]; exact d1
  have a2 : c1 70 2 = q := by rw [x70, fu_same]
  have a4 : c1 70 4 = F := by rw [x70, fu_ne (by omega)]; exact d4
  have a9 : c1 70 9 = m := by rw [x70, fu_ne (by omega)]; exact d9
  have h46 := fun ch n Q => c46_l (c := c1) (n := n) (Q := Q) (N := N) (p := q) (ch := ch) h70 h27 hL (by rw [a27]; exact hTP) a1 a2 (by omega)
  rw [a27, hsq] at h46
  have e5 : fr c1 70 (fu (c1 70) 2 q) = c1 := by rw [← a2, fu_id, fr_id]
  -- a state at a place r
  have st : ∀ r, 0 ≤ r → r ≤ N → ∃ c2, fr c1 70 (fu (c1 70) 2 r) = c2 ∧ (∀ a, ¬ a = 70 → c2 a = c a) ∧ (∀ i, ¬ i = 2 → c2 70 i = c 70 i) ∧ c2 70 2 = r ∧ (∀ n Q, tc_C 33 [rf 70, .inl r] (hp L sh c2) n Q = Q (some (.inl (byt g N r))) (hp L sh c2) n) := by
    intro r r1 r2
    refine ⟨_, rfl, fun a ha => by rw [fr_ne ha, xo a ha], fun i hi => by rw [fr_same, fu_ne hi, x70, fu_ne hi], by rw [fr_same, fu_same], fun n Q => ?_⟩
    rw [c33_l (N := N) (q := r) h70 h27 hL (by rw [fr_ne (by omega), a27]; exact hTP) (by rw [fr_same, fu_ne (by omega)]; exact a1) r1, fr_ne (by omega), a27]
  by_cases hb : byt g N q = 60 ∨ byt g N q = 61 ∨ byt g N q = 62
  · have hlt : q < N := by
      rcases hb with x | x | x
      · exact byt_lt x (by omega)
      · exact byt_lt x (by omega)
      · exact byt_lt x (by omega)
    have hceq := ceq_rng (g := g) hlt
    have hcm : cmf g N q m = if 60 ≤ m then 1 + 8 * q + 3 else 0 := by
      unfold cmf
      rw [if_neg (fun x => x hb)]
    obtain ⟨c3, y0, y1, y2, y3, _⟩ := st (q + 1 + ceq g N q) (by omega) (by omega)
    obtain ⟨F2, z1, z2, z3, z4⟩ := c54x (c := c3) (q := q) (m := m) (F := F) hR (by omega) (by rw [y2 9 (by omega)]; exact d9) (by omega) (by rw [y2 4 (by omega)]; exact d4)
    refine ⟨fr c3 70 F2, -11 - ccd g N q, fun n Q => tc_det (fun Q hq => ?_), fun a ha => by rw [fr_ne ha]; exact y1 a ha, fun i i1 i2 i3 => by rw [fr_same, z2 i i2 i3]; exact y2 i i1, by rw [fr_same, z2 2 (by omega) (by omega), y3]; omega, by rw [fr_same, z3]; omega, by rw [fr_same, z4, hcm], fun _ => ⟨rfl, by rw [fr_same, z2 2 (by omega) (by omega), y3], by rw [fr_same, z3]⟩⟩
    show tc_W 61 0 [rf 70, tc_nil, tc_nil, tc_nil, tc_nil] [] _ _ Q
    by_cases b1 : byt g N q = 60
    · obtain ⟨c2, u0, u1, u2, u3, u4⟩ := st (q + 1) (by omega) (by omega)
      have k1 := h46 60
      rw [if_pos b1, if_pos b1, u0] at k1
      have hcc : ceq g N q = if byt g N (q + 1) = 61 then 1 else 0 := by
        unfold ceq
        by_cases x : byt g N (q + 1) = 61
        · rw [if_pos x, if_pos ⟨by omega, x⟩]
        · rw [if_neg x, if_neg (fun y => x y.2)]
      by_cases hx : byt g N (q + 1) = 61
      · rw [if_pos hx] at hcc
        have hcd : ccd g N q = 5 := by
          unfold ccd
          rw [if_neg (by omega), if_pos b1, if_pos hcc]
        rw [hcd] at hq
        have y0' : fr c2 70 (fu (c2 70) 2 (q + 1 + 1)) = c3 := by rw [← y0, ← u0, fr_fr, fr_same, fu_fu, hcc]
        repeat' (first | (simp (disch := first | omega | exact Nat.le_of_ble_eq_true rfl | exact rfl | assumption | (simp (disch := omega) only [fr_ne, fr_same]; first | assumption | omega)) only [r61_0, r61_1, v61_1_2, r61_4, r61_5, r61_8r, r61_9, r61_10, r61_12, v61_12_2, r61_15i, r61_16, r61_20, r61_21, r61_23, v61_23_2, r61_29, r61_30, r61_33, r61_34i, r61_35, r61_36, r61_37, r61_40, v61_40_2, r61_43, r61_48, r61_49, r61_52, r61_53i, r61_55, r61_59, r61_63, r61_68, r61_69, r61_70, r61_71, v61_71_2, r61_74, r61_75, r61_76, r61_77, r61_77A, r61_78, r61_81, r61_86, r61_87, r61_90, r61_91, r61_92, r61_95, r61_96, r61_97, v61_97_2, r61_100, r61_104, r61_109, r61_111, r61_114, r61_116, r61_117, r61_121, r61_126, r61_128, r61_131, r61_133, r61_134, r61_136, g2_63_0, g2_63_2, p2_63_0, p2_63_2, o0_len, o0_g2, o2_len, o2_g2, o0_s2, o2_s2, il_s, bl_s, bl_z, ll_s, is_s, bs_s, bs_z, ls_s, al_s, al_b, al_l, fr_ne, fr_same, fr_fr, Nat.reduceEqDiff, tc_gf3_s, tc_ql2_s, tc_ws_0, tc_ws_i, tc_ws_l, tc_ws_r, Nat.reduceLeDiff, Nat.reduceAdd, Nat.reduceLT, true_and, and_true, if_true, if_false, tc_K, Option.toList_some, Option.toList_none, List.nil_append, List.cons_append, ite_true, ite_false, Int.cast_ofNat_Int, reduceIte, i3_add_eq, i3_sub_eq, Int.add_sub_cancel, Int.add_neg_cancel_right, hO hL70 h70, hOs h70, h20, a2, k1, u3, u4, hx, y0', z1]) | (simp only [r61_17, r61_26, r61_45, r61_56, r61_60, r61_65, r61_83, r61_101, r61_106, r61_118, r61_123, i6_lt0, i6_0lt, i6_0le, i6_le0, i6_eq0, b10_0, ite_not, Int.reduceLT, Int.reduceLE, Int.reduceEq, Int.reduceNeg, if_true, if_false, ite_true, ite_false, reduceIte, eq_self, not_true, not_false_eq_true]; try refine tc_ite (fun _ => ?_) (fun _ => ?_) <;> try (exfalso; omega)))
        all_goals first
          | exact hq
          | omega
      · rw [if_neg hx] at hcc
        have hcd : ccd g N q = 4 := by
          unfold ccd
          rw [if_neg (by omega), if_pos b1, if_neg (by omega)]
        rw [hcd] at hq
        have y0' : c2 = c3 := by rw [← y0, ← u0, hcc, Int.add_zero]
        have y0'' : fr c2 70 (fu (c2 70) 2 (q + 1)) = c3 := by rw [← y0', ← u3, fu_id, fr_id]
        generalize byt g N (q + 1) = bb at hx u4
        repeat' (first | (simp (disch := first | omega | exact Nat.le_of_ble_eq_true rfl | exact rfl | assumption | (simp (disch := omega) only [fr_ne, fr_same]; first | assumption | omega)) only [r61_0, r61_1, v61_1_2, r61_4, r61_5, r61_8r, r61_9, r61_10, r61_12, v61_12_2, r61_15i, r61_16, r61_20, r61_21, r61_23, v61_23_2, r61_29, r61_30, r61_33, r61_34i, r61_35, r61_36, r61_37, r61_40, v61_40_2, r61_43, r61_48, r61_49, r61_52, r61_53i, r61_55, r61_59, r61_63, r61_68, r61_69, r61_70, r61_71, v61_71_2, r61_74, r61_75, r61_76, r61_77, r61_77A, r61_78, r61_81, r61_86, r61_87, r61_90, r61_91, r61_92, r61_95, r61_96, r61_97, v61_97_2, r61_100, r61_104, r61_109, r61_111, r61_114, r61_116, r61_117, r61_121, r61_126, r61_128, r61_131, r61_133, r61_134, r61_136, g2_63_0, g2_63_2, p2_63_0, p2_63_2, o0_len, o0_g2, o2_len, o2_g2, o0_s2, o2_s2, il_s, bl_s, bl_z, ll_s, is_s, bs_s, bs_z, ls_s, al_s, al_b, al_l, fr_ne, fr_same, fr_fr, Nat.reduceEqDiff, tc_gf3_s, tc_ql2_s, tc_ws_0, tc_ws_i, tc_ws_l, tc_ws_r, Nat.reduceLeDiff, Nat.reduceAdd, Nat.reduceLT, true_and, and_true, if_true, if_false, tc_K, Option.toList_some, Option.toList_none, List.nil_append, List.cons_append, ite_true, ite_false, Int.cast_ofNat_Int, reduceIte, i3_add_eq, i3_sub_eq, Int.add_sub_cancel, Int.add_neg_cancel_right, hO hL70 h70, hOs h70, h20, a2, k1, u3, u4, Int.add_zero, y0'', z1]) | (simp only [r61_17, r61_26, r61_45, r61_56, r61_60, r61_65, r61_83, r61_101, r61_106, r61_118, r61_123, i6_lt0, i6_0lt, i6_0le, i6_le0, i6_eq0, b10_0, ite_not, Int.reduceLT, Int.reduceLE, Int.reduceEq, Int.reduceNeg, if_true, if_false, ite_true, ite_false, reduceIte, eq_self, not_true, not_false_eq_true]; try refine tc_ite (fun _ => ?_) (fun _ => ?_) <;> try (exfalso; omega)))
        all_goals first
          | exact hq
          | omega
    have k1 := h46 60
    rw [if_neg b1, if_neg b1, e5] at k1
    have k2 := h46 62
    by_cases b2 : byt g N q = 62
    · obtain ⟨c2, u0, u1, u2, u3, u4⟩ := st (q + 1) (by omega) (by omega)
      rw [if_pos b2, if_pos b2, u0] at k2
      have hcc : ceq g N q = if byt g N (q + 1) = 61 then 1 else 0 := by
        unfold ceq
        by_cases x : byt g N (q + 1) = 61
        · rw [if_pos x, if_pos ⟨by omega, x⟩]
        · rw [if_neg x, if_neg (fun y => x y.2)]
      by_cases hx : byt g N (q + 1) = 61
      · rw [if_pos hx] at hcc
        have hcd : ccd g N q = 7 := by
          unfold ccd
          rw [if_neg (by omega), if_neg (by omega), if_pos hcc]
        rw [hcd] at hq
        have y0' : fr c2 70 (fu (c2 70) 2 (q + 1 + 1)) = c3 := by rw [← y0, ← u0, fr_fr, fr_same, fu_fu, hcc]
        repeat' (first | (simp (disch := first | omega | exact Nat.le_of_ble_eq_true rfl | exact rfl | assumption | (simp (disch := omega) only [fr_ne, fr_same]; first | assumption | omega)) only [r61_0, r61_1, v61_1_2, r61_4, r61_5, r61_8r, r61_9, r61_10, r61_12, v61_12_2, r61_15i, r61_16, r61_20, r61_21, r61_23, v61_23_2, r61_29, r61_30, r61_33, r61_34i, r61_35, r61_36, r61_37, r61_40, v61_40_2, r61_43, r61_48, r61_49, r61_52, r61_53i, r61_55, r61_59, r61_63, r61_68, r61_69, r61_70, r61_71, v61_71_2, r61_74, r61_75, r61_76, r61_77, r61_77A, r61_78, r61_81, r61_86, r61_87, r61_90, r61_91, r61_92, r61_95, r61_96, r61_97, v61_97_2, r61_100, r61_104, r61_109, r61_111, r61_114, r61_116, r61_117, r61_121, r61_126, r61_128, r61_131, r61_133, r61_134, r61_136, g2_63_0, g2_63_2, p2_63_0, p2_63_2, o0_len, o0_g2, o2_len, o2_g2, o0_s2, o2_s2, il_s, bl_s, bl_z, ll_s, is_s, bs_s, bs_z, ls_s, al_s, al_b, al_l, fr_ne, fr_same, fr_fr, Nat.reduceEqDiff, tc_gf3_s, tc_ql2_s, tc_ws_0, tc_ws_i, tc_ws_l, tc_ws_r, Nat.reduceLeDiff, Nat.reduceAdd, Nat.reduceLT, true_and, and_true, if_true, if_false, tc_K, Option.toList_some, Option.toList_none, List.nil_append, List.cons_append, ite_true, ite_false, Int.cast_ofNat_Int, reduceIte, i3_add_eq, i3_sub_eq, Int.add_sub_cancel, Int.add_neg_cancel_right, hO hL70 h70, hOs h70, h20, a2, k1, k2, u3, u4, hx, y0', z1]) | (simp only [r61_17, r61_26, r61_45, r61_56, r61_60, r61_65, r61_83, r61_101, r61_106, r61_118, r61_123, i6_lt0, i6_0lt, i6_0le, i6_le0, i6_eq0, b10_0, ite_not, Int.reduceLT, Int.reduceLE, Int.reduceEq, Int.reduceNeg, if_true, if_false, ite_true, ite_false, reduceIte, eq_self, not_true, not_false_eq_true]; try refine tc_ite (fun _ => ?_) (fun _ => ?_) <;> try (exfalso; omega)))
        all_goals first
          | exact hq
          | omega
      · rw [if_neg hx] at hcc
        have hcd : ccd g N q = 8 := by
          unfold ccd
          rw [if_neg (by omega), if_neg (by omega), if_neg (by omega)]
        rw [hcd] at hq
        have y0' : c2 = c3 := by rw [← y0, ← u0, hcc, Int.add_zero]
        have y0'' : fr c2 70 (fu (c2 70) 2 (q + 1)) = c3 := by rw [← y0', ← u3, fu_id, fr_id]
        generalize byt g N (q + 1) = bb at hx u4
        repeat' (first | (simp (disch := first | omega | exact Nat.le_of_ble_eq_true rfl | exact rfl | assumption | (simp (disch := omega) only [fr_ne, fr_same]; first | assumption | omega)) only [r61_0, r61_1, v61_1_2, r61_4, r61_5, r61_8r, r61_9, r61_10, r61_12, v61_12_2, r61_15i, r61_16, r61_20, r61_21, r61_23, v61_23_2, r61_29, r61_30, r61_33, r61_34i, r61_35, r61_36, r61_37, r61_40, v61_40_2, r61_43, r61_48, r61_49, r61_52, r61_53i, r61_55, r61_59, r61_63, r61_68, r61_69, r61_70, r61_71, v61_71_2, r61_74, r61_75, r61_76, r61_77, r61_77A, r61_78, r61_81, r61_86, r61_87, r61_90, r61_91, r61_92, r61_95, r61_96, r61_97, v61_97_2, r61_100, r61_104, r61_109, r61_111, r61_114, r61_116, r61_117, r61_121, r61_126, r61_128, r61_131, r61_133, r61_134, r61_136, g2_63_0, g2_63_2, p2_63_0, p2_63_2, o0_len, o0_g2, o2_len, o2_g2, o0_s2, o2_s2, il_s, bl_s, bl_z, ll_s, is_s, bs_s, bs_z, ls_s, al_s, al_b, al_l, fr_ne, fr_same, fr_fr, Nat.reduceEqDiff, tc_gf3_s, tc_ql2_s, tc_ws_0, tc_ws_i, tc_ws_l, tc_ws_r, Nat.reduceLeDiff, Nat.reduceAdd, Nat.reduceLT, true_and, and_true, if_true, if_false, tc_K, Option.toList_some, Option.toList_none, List.nil_append, List.cons_append, ite_true, ite_false, Int.cast_ofNat_Int, reduceIte, i3_add_eq, i3_sub_eq, Int.add_sub_cancel, Int.add_neg_cancel_right, hO hL70 h70, hOs h70, h20, a2, k1, k2, u3, u4, Int.add_zero, y0'', z1]) | (simp only [r61_17, r61_26, r61_45, r61_56, r61_60, r61_65, r61_83, r61_101, r61_106, r61_118, r61_123, i6_lt0, i6_0lt, i6_0le, i6_le0, i6_eq0, b10_0, ite_not, Int.reduceLT, Int.reduceLE, Int.reduceEq, Int.reduceNeg, if_true, if_false, ite_true, ite_false, reduceIte, eq_self, not_true, not_false_eq_true]; try refine tc_ite (fun _ => ?_) (fun _ => ?_) <;> try (exfalso; omega)))
        all_goals first
          | exact hq
          | omega
    · rw [if_neg b2, if_neg b2, e5] at k2
      have b3 : byt g N q = 61 := by omega
      obtain ⟨c2, u0, u1, u2, u3, u4⟩ := st q (by omega) (by omega)
      rw [e5] at u0
      subst u0
      have hcc : ceq g N q = 0 := by
        unfold ceq
        rw [if_neg (fun y => y.1 b3)]
      have hcd : ccd g N q = 6 := by
        unfold ccd
        rw [if_pos b3]
      rw [hcd] at hq
      have y0' : fr c1 70 (fu (c1 70) 2 (q + 1)) = c3 := by rw [← y0, hcc, Int.add_zero]
      repeat' (first | (simp (disch := first | omega | exact Nat.le_of_ble_eq_true rfl | exact rfl | assumption | (simp (disch := omega) only [fr_ne, fr_same]; first | assumption | omega)) only [r61_0, r61_1, v61_1_2, r61_4, r61_5, r61_8r, r61_9, r61_10, r61_12, v61_12_2, r61_15i, r61_16, r61_20, r61_21, r61_23, v61_23_2, r61_29, r61_30, r61_33, r61_34i, r61_35, r61_36, r61_37, r61_40, v61_40_2, r61_43, r61_48, r61_49, r61_52, r61_53i, r61_55, r61_59, r61_63, r61_68, r61_69, r61_70, r61_71, v61_71_2, r61_74, r61_75, r61_76, r61_77, r61_77A, r61_78, r61_81, r61_86, r61_87, r61_90, r61_91, r61_92, r61_95, r61_96, r61_97, v61_97_2, r61_100, r61_104, r61_109, r61_111, r61_114, r61_116, r61_117, r61_121, r61_126, r61_128, r61_131, r61_133, r61_134, r61_136, g2_63_0, g2_63_2, p2_63_0, p2_63_2, o0_len, o0_g2, o2_len, o2_g2, o0_s2, o2_s2, il_s, bl_s, bl_z, ll_s, is_s, bs_s, bs_z, ls_s, al_s, al_b, al_l, fr_ne, fr_same, fr_fr, Nat.reduceEqDiff, tc_gf3_s, tc_ql2_s, tc_ws_0, tc_ws_i, tc_ws_l, tc_ws_r, Nat.reduceLeDiff, Nat.reduceAdd, Nat.reduceLT, true_and, and_true, if_true, if_false, tc_K, Option.toList_some, Option.toList_none, List.nil_append, List.cons_append, ite_true, ite_false, Int.cast_ofNat_Int, reduceIte, i3_add_eq, i3_sub_eq, Int.add_sub_cancel, Int.add_neg_cancel_right, hO hL70 h70, hOs h70, h20, a2, k1, k2, u4, b3, y0', z1]) | (simp only [r61_17, r61_26, r61_45, r61_56, r61_60, r61_65, r61_83, r61_101, r61_106, r61_118, r61_123, i6_lt0, i6_0lt, i6_0le, i6_le0, i6_eq0, b10_0, ite_not, Int.reduceLT, Int.reduceLE, Int.reduceEq, Int.reduceNeg, if_true, if_false, ite_true, ite_false, reduceIte, eq_self, not_true, not_false_eq_true]; try refine tc_ite (fun _ => ?_) (fun _ => ?_) <;> try (exfalso; omega)))
      all_goals first
        | exact hq
        | omega
  · have hcm : cmf g N q m = 1 + 8 * q := by
      unfold cmf
      rw [if_pos hb]
    have h34 := fun n Q => c34_l (c := c1) (n := n) (Q := Q) (a := q) (k := 0) h70 h27 hL (by omega) (by omega)
    rw [a4] at h34
    have hFx : (if F = 0 then 1 + 8 * q + 0 else F) = fl F (cmf g N q m) := by
      rw [hcm]
      unfold fl
      split <;> omega
    rw [hFx] at h34
    refine ⟨fr c1 70 (fu (c1 70) 4 (fl F (cmf g N q m))), 0, fun n Q => tc_det (fun Q hq => ?_), fun a ha => by rw [fr_ne ha]; exact xo a ha, fun i i1 i2 i3 => by rw [fr_same, fu_ne i2, x70, fu_ne i1], by rw [fr_same, fu_ne (by omega), a2]; omega, by rw [fr_same, fu_ne (by omega), a9]; omega, by rw [fr_same, fu_same], fun x => by omega⟩
    have k1 := h46 60
    rw [if_neg (fun x => hb (Or.inl x)), if_neg (fun x => hb (Or.inl x)), e5] at k1
    have k2 := h46 62
    rw [if_neg (fun x => hb (Or.inr (Or.inr x))), if_neg (fun x => hb (Or.inr (Or.inr x))), e5] at k2
    obtain ⟨c2, u0, u1, u2, u3, u4⟩ := st q (by omega) (by omega)
    rw [e5] at u0
    subst u0
    have hb3 : ¬ byt g N q = 61 := fun x => hb (Or.inr (Or.inl x))
    generalize byt g N q = bb at hb3 u4
    show tc_W 61 0 [rf 70, tc_nil, tc_nil, tc_nil, tc_nil] [] _ _ Q
    repeat' (first | (simp (disch := first | omega | exact Nat.le_of_ble_eq_true rfl | exact rfl | assumption | (simp (disch := omega) only [fr_ne, fr_same]; first | assumption | omega)) only [r61_0, r61_1, v61_1_2, r61_4, r61_5, r61_8r, r61_9, r61_10, r61_12, v61_12_2, r61_15i, r61_16, r61_20, r61_21, r61_23, v61_23_2, r61_29, r61_30, r61_33, r61_34i, r61_35, r61_36, r61_37, r61_40, v61_40_2, r61_43, r61_48, r61_49, r61_52, r61_53i, r61_55, r61_59, r61_63, r61_68, r61_69, r61_70, r61_71, v61_71_2, r61_74, r61_75, r61_76, r61_77, r61_77A, r61_78, r61_81, r61_86, r61_87, r61_90, r61_91, r61_92, r61_95, r61_96, r61_97, v61_97_2, r61_100, r61_104, r61_109, r61_111, r61_114, r61_116, r61_117, r61_121, r61_126, r61_128, r61_131, r61_133, r61_134, r61_136, g2_63_0, g2_63_2, p2_63_0, p2_63_2, o0_len, o0_g2, o2_len, o2_g2, o0_s2, o2_s2, il_s, bl_s, bl_z, ll_s, is_s, bs_s, bs_z, ls_s, al_s, al_b, al_l, fr_ne, fr_same, fr_fr, Nat.reduceEqDiff, tc_gf3_s, tc_ql2_s, tc_ws_0, tc_ws_i, tc_ws_l, tc_ws_r, Nat.reduceLeDiff, Nat.reduceAdd, Nat.reduceLT, true_and, and_true, if_true, if_false, tc_K, Option.toList_some, Option.toList_none, List.nil_append, List.cons_append, ite_true, ite_false, Int.cast_ofNat_Int, reduceIte, i3_add_eq, i3_sub_eq, Int.add_sub_cancel, Int.add_neg_cancel_right, hO hL70 h70, h20, a2, k1, k2, u4, h34]) | (simp only [r61_17, r61_26, r61_45, r61_56, r61_60, r61_65, r61_83, r61_101, r61_106, r61_118, r61_123, i6_lt0, i6_0lt, i6_0le, i6_le0, i6_eq0, b10_0, ite_not, Int.reduceLT, Int.reduceLE, Int.reduceEq, Int.reduceNeg, if_true, if_false, ite_true, ite_false, reduceIte, eq_self, not_true, not_false_eq_true]; try refine tc_ite (fun _ => ?_) (fun _ => ?_) <;> try (exfalso; omega)))
    all_goals first
      | exact hq
      | omega
end TESTD

/-! the class: readTest -/
def RG2 (e : Nat → Int → Int) (N : Int) : Prop := (0 ≤ e 70 2 ∧ e 70 2 ≤ N) ∧ 0 ≤ e 70 9 ∧ e 70 9 ≤ 62
section TESTF
variable {L : Nat} {sh : Nat → SH} {c : Nat → Int → Int} {n : Nat} {Q : Option AV → List SC → Nat → Prop} {g : Int → Int} {N p m z f p' m' W W' F : Int} {T T' : List Tk} {O O' : List Int}
theorem ctk_cm {k : Int} (h : k = 4 ∨ k = 5 ∨ k = 6 ∨ k = 7 ∨ k = 8) : ctk (-11 - k) = (k, 0) := by
  rcases h with rfl | rfl | rfl | rfl | rfl <;> decide
/-- a fault has come ahead of the sign, at the sign, or behind it -/
theorem c59_x (hR : LRd L sh) {e : Nat → Int → Int} {v i a1 : Int} (h4 : e 70 4 = F) (hF : ¬ F = 0) (hq : Q none (hp L sh e) n) (hi : 0 ≤ i ∧ i < 1000) : tc_W 59 42 [rf 70, .inl a1, .inl i, .inl v] [] (hp L sh e) n Q := by
  have h58 := fun st n Q => c58f (c := e) (n := n) (Q := Q) (st := st) hR h4 hF
  have h62 := fun n Q => c62f (c := e) (n := n) (Q := Q) hR h4 hF
  obtain ⟨hL, h70, h27, h71, h72, h73⟩ := id hR
  have hL70 : 70 < L := by omega
  repeat' (first | (simp (disch := first | omega | exact Nat.le_of_ble_eq_true rfl | exact rfl | assumption | (simp (disch := omega) only [fr_ne, fr_same]; first | assumption | omega)) only [r59_0, r59_1, r59_2, r59_5, r59_6, r59_7, r59_10, r59_11r, r59_12, r59_13i, r59_15, r59_21, r59_25, r59_26, v59_26_2, r59_29, r59_30, v59_30_2, r59_33, r59_34, v59_34_2, r59_37i, r59_38, r59_39, v59_39_2, r59_42, r59_43, r59_44, v59_44_2, r59_47, r59_48, v59_48_2, r59_51r, r59_52i, r59_55, r59_58, p2_28_2, p2_31_2, o2_len, o2_s10, o2_s11, il_s, bl_s, bl_z, ll_s, is_s, bs_s, bs_z, ls_s, al_s, al_b, al_l, fr_ne, fr_same, fr_fr, Nat.reduceEqDiff, tc_gf3_s, tc_ql2_s, tc_ws_0, tc_ws_i, tc_ws_l, tc_ws_r, Nat.reduceLeDiff, Nat.reduceAdd, Nat.reduceLT, true_and, and_true, if_true, if_false, tc_K, Option.toList_some, Option.toList_none, List.nil_append, List.cons_append, ite_true, ite_false, Int.cast_ofNat_Int, reduceIte, i3_add_eq, i3_sub_eq, Int.add_sub_cancel, Int.add_neg_cancel_right, hO hL70 h70, h58, h62]) | (simp only [r59_18, r59_22, i6_lt0, i6_0lt, i6_0le, i6_le0, i6_eq0, b10_0, ite_not, Int.reduceLT, Int.reduceLE, Int.reduceEq, Int.reduceNeg, if_true, if_false, ite_true, ite_false, reduceIte, eq_self, not_true, not_false_eq_true]; try refine tc_ite (fun _ => ?_) (fun _ => ?_) <;> try (exfalso; omega)))
  simp only [r59_14]
  repeat' (first | (simp (disch := first | omega | exact Nat.le_of_ble_eq_true rfl | exact rfl | assumption | (simp (disch := omega) only [fr_ne, fr_same]; first | assumption | omega)) only [r59_0, r59_1, r59_2, r59_5, r59_6, r59_7, r59_10, r59_11r, r59_12, r59_13i, r59_15, r59_21, r59_25, r59_26, v59_26_2, r59_29, r59_30, v59_30_2, r59_33, r59_34, v59_34_2, r59_37i, r59_38, r59_39, v59_39_2, r59_42, r59_43, r59_44, v59_44_2, r59_47, r59_48, v59_48_2, r59_51r, r59_52i, r59_55, r59_58, p2_28_2, p2_31_2, o2_len, o2_s10, o2_s11, il_s, bl_s, bl_z, ll_s, is_s, bs_s, bs_z, ls_s, al_s, al_b, al_l, fr_ne, fr_same, fr_fr, Nat.reduceEqDiff, tc_gf3_s, tc_ql2_s, tc_ws_0, tc_ws_i, tc_ws_l, tc_ws_r, Nat.reduceLeDiff, Nat.reduceAdd, Nat.reduceLT, true_and, and_true, if_true, if_false, tc_K, Option.toList_some, Option.toList_none, List.nil_append, List.cons_append, ite_true, ite_false, Int.cast_ofNat_Int, reduceIte, i3_add_eq, i3_sub_eq, Int.add_sub_cancel, Int.add_neg_cancel_right, hO hL70 h70]) | (simp only [r59_18, r59_22, i6_lt0, i6_0lt, i6_0le, i6_le0, i6_eq0, b10_0, ite_not, Int.reduceLT, Int.reduceLE, Int.reduceEq, Int.reduceNeg, if_true, if_false, ite_true, ite_false, reduceIte, eq_self, not_true, not_false_eq_true]; try refine tc_ite (fun _ => ?_) (fun _ => ?_) <;> try (exfalso; omega)))
  all_goals first
    | exact hq
    | omega
theorem c59_y (hR : LRd L sh) (hTP : TP g N) {Z : Int} {e : Nat → Int → Int} {i a1 : Int} {a3 : AV} (hLe : LQT c e Z) (h27e : e 27 = g) (h1e : e 70 1 = N) (hrg : RG e N) (h4 : e 70 4 = F) (hF : ¬ F = 0) (hi : 0 ≤ i ∧ i < 1000) (hq : ∀ e, LQT c e Z → RG2 e N → e 70 4 = F → Q none (hp L sh e) n) : tc_W 59 33 [rf 70, .inl a1, .inl i, a3] [] (hp L sh e) n Q := by
  obtain ⟨e2, v, x1, x2, x3, x4, x5, x6, x7⟩ := c61 (c := e) hR hTP h27e h1e rfl hrg.1 rfl hrg.2 h4 rfl
  rw [fl_n hF] at x6
  have h52 := fun n Q => c52f (c := e2) (n := n) (Q := Q) hR x6 hF
  have hL2 : LQT c e2 Z := hLe.trans ⟨fun a a1 _ _ => x2 a a1, fun i _ => by rw [x2 71 (by omega)], x3 1 (by omega) (by omega) (by omega)⟩ (Int.le_refl _)
  have hr := hrg.2
  have fin := fun (v : Int) => c59_x (v := v) (i := i) (a1 := a1) (n := n) (Q := Q) hR x6 hF (hq e2 hL2 ⟨x4, by omega⟩ x6) hi
  obtain ⟨hL, h70, h27, h71, h72, h73⟩ := id hR
  have hL70 : 70 < L := by omega
  repeat' (first | (simp (disch := first | omega | exact Nat.le_of_ble_eq_true rfl | exact rfl | assumption | (simp (disch := omega) only [fr_ne, fr_same]; first | assumption | omega)) only [r59_0, r59_1, r59_2, r59_5, r59_6, r59_7, r59_10, r59_11r, r59_12, r59_13i, r59_15, r59_21, r59_25, r59_26, v59_26_2, r59_29, r59_30, v59_30_2, r59_33, r59_34, v59_34_2, r59_37i, r59_38, r59_39, v59_39_2, r59_43, r59_44, v59_44_2, r59_47, r59_48, v59_48_2, r59_51r, r59_52i, r59_55, r59_58, p2_28_2, p2_31_2, o2_len, o2_s10, o2_s11, il_s, bl_s, bl_z, ll_s, is_s, bs_s, bs_z, ls_s, al_s, al_b, al_l, fr_ne, fr_same, fr_fr, Nat.reduceEqDiff, tc_gf3_s, tc_ql2_s, tc_ws_0, tc_ws_i, tc_ws_l, tc_ws_r, Nat.reduceLeDiff, Nat.reduceAdd, Nat.reduceLT, true_and, and_true, if_true, if_false, tc_K, Option.toList_some, Option.toList_none, List.nil_append, List.cons_append, ite_true, ite_false, Int.cast_ofNat_Int, reduceIte, i3_add_eq, i3_sub_eq, Int.add_sub_cancel, Int.add_neg_cancel_right, hO hL70 h70, x1, h52]) | (simp only [r59_18, r59_22, i6_lt0, i6_0lt, i6_0le, i6_le0, i6_eq0, b10_0, ite_not, Int.reduceLT, Int.reduceLE, Int.reduceEq, Int.reduceNeg, if_true, if_false, ite_true, ite_false, reduceIte, eq_self, not_true, not_false_eq_true]; try refine tc_ite (fun _ => ?_) (fun _ => ?_) <;> try (exfalso; omega)))
  all_goals exact fin _
theorem c59_l (hR : LRd L sh) (hST : STRS sh c) (hTP : TP g N) {Z : Int} {K : Nat} (hK : N ≤ K) (hz0 : 0 ≤ z) (hq : ∀ e, LQT c e Z → RG2 e N → e 70 4 = f → (f = 0 → LD e g N p' m' z T') → Q none (hp L sh e) n) : ∀ (k : Nat) (p m W i : Int) (T : List Tk) (O : List Int) (d : Nat → Int → Int) (a3 : AV), LD d g N p m z T → LT d O W → LQT c d Z → Z ≤ z + T.length → okO O → 0 ≤ W → W ≤ 3 → O.length ≤ 10 → 0 ≤ p → p ≤ N → N - p < k → 0 ≤ m → m ≤ 60 → 0 ≤ i → i + (N - p) ≤ 399 → 3 * (z + T.length + wn W + pnb O + nnt O) ≤ 7 * m + p → tst g N K k p m T O W = (f, p', m', T') → tc_W 59 14 [rf 70, .inl 1, .inl i, a3] [] (hp L sh d) n Q := by
  obtain ⟨hL, h70, h27, h71, h72, h73⟩ := id hR
  have hL70 : 70 < L := by omega
  have hN := hTP.1
  intro k
  induction k with
  | zero => intro p m W i T O d a3 _ _ _ _ _ _ _ _ _ _ h; omega
  | succ k ih =>
    intro p m W i T O d a3 hD hLT hLQ hZ hok hW1 hW2 hOl hp1 hp2 hk hm1 hm2 hi1 hi2 hz hr
    rcases ho : opn g N K p O W with ⟨f1, p1, O1, W1⟩
    rcases hf : fct g N K p1 m T with ⟨f2, p2, m2, T2⟩
    rcases hc : cls g N 11 p2 T2 O1 W1 with ⟨f3, mo, p3, T3, O3, W3⟩
    rw [tst_st ho hf hc] at hr
    have hwn := wn_rng W
    have hpn := pnb_nn O
    have hnn := nnt_nn O
    simp only [r59_14]
    repeat' (first | (simp (disch := first | omega | exact Nat.le_of_ble_eq_true rfl | exact rfl | assumption | (simp (disch := omega) only [fr_ne, fr_same]; first | assumption | omega)) only [r59_0, r59_1, r59_2, r59_5, r59_6, r59_7, r59_10, r59_11r, r59_12, r59_13i, r59_15, r59_21, r59_25, r59_26, v59_26_2, r59_29, r59_30, v59_30_2, r59_33, r59_34, v59_34_2, r59_37i, r59_38, r59_39, v59_39_2, r59_42, r59_43, r59_44, v59_44_2, r59_47, r59_48, v59_48_2, r59_51r, r59_52i, r59_55, r59_58, p2_28_2, p2_31_2, o2_len, o2_s10, o2_s11, il_s, bl_s, bl_z, ll_s, is_s, bs_s, bs_z, ls_s, al_s, al_b, al_l, fr_ne, fr_same, fr_fr, Nat.reduceEqDiff, tc_gf3_s, tc_ql2_s, tc_ws_0, tc_ws_i, tc_ws_l, tc_ws_r, Nat.reduceLeDiff, Nat.reduceAdd, Nat.reduceLT, true_and, and_true, if_true, if_false, tc_K, Option.toList_some, Option.toList_none, List.nil_append, List.cons_append, ite_true, ite_false, Int.cast_ofNat_Int, reduceIte, i3_add_eq, i3_sub_eq, Int.add_sub_cancel, Int.add_neg_cancel_right, hO hL70 h70]) | (simp only [r59_18, r59_22, i6_lt0, i6_0lt, i6_0le, i6_le0, i6_eq0, b10_0, ite_not, Int.reduceLT, Int.reduceLE, Int.reduceEq, Int.reduceNeg, if_true, if_false, ite_true, ite_false, reduceIte, eq_self, not_true, not_false_eq_true]; try refine tc_ite (fun _ => ?_) (fun _ => ?_) <;> try (exfalso; omega)))
    all_goals try omega
    -- what is opened
    show tc_W 60 0 [rf 70, tc_nil, tc_nil, tc_nil] [] _ _ _
    repeat' (first | (simp (disch := first | omega | exact Nat.le_of_ble_eq_true rfl | exact rfl | assumption | (simp (disch := omega) only [fr_ne, fr_same]; first | assumption | omega)) only [r60_0, r60_1r, r60_3, r60_9, r60_10, r60_16, r60_17, v60_17_2, r60_20, r60_21, r60_24i, r60_25, r60_26, r60_28, v60_28_2, r60_31i, r60_32, r60_36, r60_37, r60_39, v60_39_2, r60_42, r60_46, r60_47, r60_48, r60_51, r60_56, r60_57, r60_58, r60_59, v60_59_2, r60_62, r60_63, r60_64, r60_67, r60_68, r60_71, r60_75, r60_76, r60_79, r60_82, r60_83, r60_84, r60_85, r60_89, r60_90, r60_93, r60_94, r60_97, r60_100, r60_101, r60_101A, r60_102, r60_105, r60_106, r60_107, r60_110r, r60_113, r60_116, g2_46_0, g2_46_2, g2_63_0, g2_63_2, g2_28_2, g2_18_2, g2_31_2, p2_31_2, p2_28_2, o0_len, o0_g4, o2_len, o2_g4, o0_g2, o2_g2, o2_g10, o2_g7, o2_g11, o2_s11, o2_s10, il_s, bl_s, bl_z, ll_s, is_s, bs_s, bs_z, ls_s, al_s, al_b, al_l, fr_ne, fr_same, fr_fr, Nat.reduceEqDiff, tc_gf3_s, tc_ql2_s, tc_ws_0, tc_ws_i, tc_ws_l, tc_ws_r, Nat.reduceLeDiff, Nat.reduceAdd, Nat.reduceLT, true_and, and_true, if_true, if_false, tc_K, Option.toList_some, Option.toList_none, List.nil_append, List.cons_append, ite_true, ite_false, Int.cast_ofNat_Int, reduceIte, i3_add_eq, i3_sub_eq, Int.add_sub_cancel, Int.add_neg_cancel_right]) | (simp only [r60_6, r60_13, r60_33, r60_43, r60_53, r60_72, r60_86, i6_lt0, i6_0lt, i6_0le, i6_le0, i6_eq0, b10_0, ite_not, Int.reduceLT, Int.reduceLE, Int.reduceEq, Int.reduceNeg, if_true, if_false, ite_true, ite_false, reduceIte, eq_self, not_true, not_false_eq_true]; try refine tc_ite (fun _ => ?_) (fun _ => ?_) <;> try (exfalso; omega)))
    refine c60_l (c := c) (k := K) (p := p) (W := W) (i := 0) (O := O) (d := d) (f := f1) (p' := p1) (O' := O1) (W' := W1) (m := m) (T := T) (z := z) (Z := Z) (g := g) (N := N) hR hST hTP ⟨hm1, hm2⟩ ?_ _ _ hD hLT hLQ hZ hok hW1 hW2 hOl hp1 hp2 (by omega) (by omega) (by omega) ho
    intro e1 j1 j2 j3 j4
    have h27e1 : e1 27 = g := by rw [j1.1 27 (by omega) (by omega) (by omega), ← hLQ.1 27 (by omega) (by omega) (by omega)]; exact hD.1
    have h1e1 : e1 70 1 = N := by rw [j1.2.2, ← hLQ.2.2]; exact hD.2.1
    repeat' (first | (simp (disch := first | omega | exact Nat.le_of_ble_eq_true rfl | exact rfl | assumption | (simp (disch := omega) only [fr_ne, fr_same]; first | assumption | omega)) only [r59_0, r59_1, r59_2, r59_5, r59_6, r59_7, r59_10, r59_11r, r59_12, r59_13i, r59_15, r59_21, r59_25, r59_26, v59_26_2, r59_29, r59_30, v59_30_2, r59_33, r59_34, v59_34_2, r59_37i, r59_38, r59_39, v59_39_2, r59_42, r59_43, r59_44, v59_44_2, r59_47, r59_48, v59_48_2, r59_51r, r59_52i, r59_55, r59_58, p2_28_2, p2_31_2, o2_len, o2_s10, o2_s11, il_s, bl_s, bl_z, ll_s, is_s, bs_s, bs_z, ls_s, al_s, al_b, al_l, fr_ne, fr_same, fr_fr, Nat.reduceEqDiff, tc_gf3_s, tc_ql2_s, tc_ws_0, tc_ws_i, tc_ws_l, tc_ws_r, Nat.reduceLeDiff, Nat.reduceAdd, Nat.reduceLT, true_and, and_true, if_true, if_false, tc_K, Option.toList_some, Option.toList_none, List.nil_append, List.cons_append, ite_true, ite_false, Int.cast_ofNat_Int, reduceIte, i3_add_eq, i3_sub_eq, Int.add_sub_cancel, Int.add_neg_cancel_right, hO hL70 h70]) | (simp only [r59_18, r59_22, i6_lt0, i6_0lt, i6_0le, i6_le0, i6_eq0, b10_0, ite_not, Int.reduceLT, Int.reduceLE, Int.reduceEq, Int.reduceNeg, if_true, if_false, ite_true, ite_false, reduceIte, eq_self, not_true, not_false_eq_true]; try refine tc_ite (fun _ => ?_) (fun _ => ?_) <;> try (exfalso; omega)))
    by_cases q1 : f1 = 0
    · subst q1
      rw [if_neg (fun q => q rfl)] at hr
      obtain ⟨a1, a2, a3', a4, a5, a6, a7⟩ := opn_g K p p1 W W1 O O1 ho hok hW1 hW2 hOl hp1 hp2
      obtain ⟨hD1, hLT1⟩ := j4 rfl
      have hwn1 := wn_rng W1
      have hpn1 := pnb_nn O1
      have hnn1 := nnt_nn O1
      -- the fact
      unfold fct at hf
      rcases hs1 : smf g N K p1 m T with ⟨g1, r1, s1, U1⟩
      rw [hs1] at hf
      dsimp only at hf
      refine c52 (c := e1) (k := K) hR (hST.t j1) hTP hD1 (by omega) ⟨hm1, hm2⟩ ⟨hz0, by omega⟩ (by omega) hs1 ?_
      intro e2 b1 b2 b3 b4
      have hL2 := j1.trans b1.t hZ
      have h27e2 : e2 27 = g := by rw [b1.1 27 (by omega) (by omega)]; exact h27e1
      have h1e2 : e2 70 1 = N := by rw [b1.2.2.1]; exact h1e1
      by_cases q2 : g1 = 0
      · subst q2
        rw [if_neg (fun q => q rfl)] at hf
        obtain ⟨⟨v1, v2, v3, _, _, v6⟩, v7⟩ := smf_g hs1 (by omega) [] []
        have hD2 := b4 rfl
        have hLT2 := b1.lt hLT1
        obtain ⟨e3, v, x1, x2, x3, x4, x5, x6, x7⟩ := c61 (c := e2) (F := 0) (m := s1) (p := r1) (q := r1) hR hTP h27e2 h1e2 hD2.2.2.1 (by omega) hD2.2.2.2.2.2.1 (by omega) b3 v7
        rw [fl_0] at x6
        have hL3 : LQT c e3 Z := hL2.trans ⟨fun a a1 _ _ => x2 a a1, fun i _ => by rw [x2 71 (by omega)], x3 1 (by omega) (by omega) (by omega)⟩ (Int.le_refl _)
        unfold fc2 at hf
        by_cases hcm : cmf g N r1 s1 = 0
        · obtain ⟨y1, y2, y3⟩ := x7 hcm
          rw [hcm] at x6
          have hb : byt g N r1 = 60 ∨ byt g N r1 = 61 ∨ byt g N r1 = 62 := by
            by_cases hb : byt g N r1 = 60 ∨ byt g N r1 = 61 ∨ byt g N r1 = 62
            · exact hb
            · unfold cmf at hcm
              rw [if_pos hb] at hcm
              omega
          have h60 : ¬ 60 ≤ s1 := by
            intro x
            unfold cmf at hcm
            rw [if_neg (fun q => q hb), if_pos x] at hcm
            omega
          rw [if_neg (fun q => q hb), if_neg h60] at hf
          have hlt : r1 < N := by
            rcases hb with x | x | x
            · exact byt_lt x (by omega)
            · exact byt_lt x (by omega)
            · exact byt_lt x (by omega)
          have hceq := ceq_rng (g := g) hlt
          rcases hs2 : smf g N K (r1 + 1 + ceq g N r1) (s1 + 1) U1 with ⟨g2, r2, s2, U2⟩
          rw [hs2] at hf
          dsimp only at hf
          have hD3 : LD e3 g N (r1 + 1 + ceq g N r1) (s1 + 1) z U1 := ⟨by rw [x2 27 (by omega)]; exact h27e2, by rw [x3 1 (by omega) (by omega) (by omega)]; exact h1e2, y2, x6, by rw [x3 8 (by omega) (by omega) (by omega)]; exact hD2.2.2.2.2.1, y3, by rw [x2 71 (by omega)]; exact hD2.2.2.2.2.2.2⟩
          have hLT3 : LT e3 O1 W1 := ⟨by rw [x3 10 (by omega) (by omega) (by omega)]; exact hLT2.1, by rw [x3 11 (by omega) (by omega) (by omega)]; exact hLT2.2.1, by rw [x2 73 (by omega)]; exact hLT2.2.2⟩
          repeat' (first | (simp (disch := first | omega | exact Nat.le_of_ble_eq_true rfl | exact rfl | assumption | (simp (disch := omega) only [fr_ne, fr_same]; first | assumption | omega)) only [r59_0, r59_1, r59_2, r59_5, r59_6, r59_7, r59_10, r59_11r, r59_12, r59_13i, r59_15, r59_21, r59_25, r59_26, v59_26_2, r59_29, r59_30, v59_30_2, r59_33, r59_34, v59_34_2, r59_37i, r59_38, r59_39, v59_39_2, r59_43, r59_44, v59_44_2, r59_47, r59_48, v59_48_2, r59_51r, r59_52i, r59_55, r59_58, p2_28_2, p2_31_2, o2_len, o2_s10, o2_s11, il_s, bl_s, bl_z, ll_s, is_s, bs_s, bs_z, ls_s, al_s, al_b, al_l, fr_ne, fr_same, fr_fr, Nat.reduceEqDiff, tc_gf3_s, tc_ql2_s, tc_ws_0, tc_ws_i, tc_ws_l, tc_ws_r, Nat.reduceLeDiff, Nat.reduceAdd, Nat.reduceLT, true_and, and_true, if_true, if_false, tc_K, Option.toList_some, Option.toList_none, List.nil_append, List.cons_append, ite_true, ite_false, Int.cast_ofNat_Int, reduceIte, i3_add_eq, i3_sub_eq, Int.add_sub_cancel, Int.add_neg_cancel_right, hO hL70 h70, x1]) | (simp only [r59_18, r59_22, i6_lt0, i6_0lt, i6_0le, i6_le0, i6_eq0, b10_0, ite_not, Int.reduceLT, Int.reduceLE, Int.reduceEq, Int.reduceNeg, if_true, if_false, ite_true, ite_false, reduceIte, eq_self, not_true, not_false_eq_true]; try refine tc_ite (fun _ => ?_) (fun _ => ?_) <;> try (exfalso; omega)))
          refine c52 (c := e3) (k := K) hR (hST.t hL3) hTP hD3 (by omega) (by omega) ⟨hz0, by omega⟩ (by omega) hs2 ?_
          intro e4 k1 k2 k3 k4
          have hL4 := hL3.trans k1.t (by omega)
          by_cases q3 : g2 = 0
          · subst q3
            rw [if_neg (fun q => q rfl)] at hf
            obtain ⟨⟨u1, u2, u3, _, _, u6⟩, u7⟩ := smf_g hs2 (by omega) [] []
            obtain ⟨t1, t2, t3, t4⟩ := prL hf
            have hcc := ccd_k g N r1
            have hl := len_app (t := (ccd g N r1, 0)) (T := U2)
            rw [t4] at hl
            subst t1 t2 t3
            rw [if_neg (fun q => q rfl)] at hr
            repeat' (first | (simp (disch := first | omega | exact Nat.le_of_ble_eq_true rfl | exact rfl | assumption | (simp (disch := omega) only [fr_ne, fr_same]; first | assumption | omega)) only [r59_0, r59_1, r59_2, r59_5, r59_6, r59_7, r59_10, r59_11r, r59_12, r59_13i, r59_15, r59_21, r59_25, r59_26, v59_26_2, r59_29, r59_30, v59_30_2, r59_33, r59_34, v59_34_2, r59_37i, r59_38, r59_39, v59_39_2, r59_42, r59_43, r59_44, v59_44_2, r59_47, r59_48, v59_48_2, r59_51r, r59_52i, r59_55, r59_58, p2_28_2, p2_31_2, o2_len, o2_s10, o2_s11, il_s, bl_s, bl_z, ll_s, is_s, bs_s, bs_z, ls_s, al_s, al_b, al_l, fr_ne, fr_same, fr_fr, Nat.reduceEqDiff, tc_gf3_s, tc_ql2_s, tc_ws_0, tc_ws_i, tc_ws_l, tc_ws_r, Nat.reduceLeDiff, Nat.reduceAdd, Nat.reduceLT, true_and, and_true, if_true, if_false, tc_K, Option.toList_some, Option.toList_none, List.nil_append, List.cons_append, ite_true, ite_false, Int.cast_ofNat_Int, reduceIte, i3_add_eq, i3_sub_eq, Int.add_sub_cancel, Int.add_neg_cancel_right, hO hL70 h70]) | (simp only [r59_18, r59_22, i6_lt0, i6_0lt, i6_0le, i6_le0, i6_eq0, b10_0, ite_not, Int.reduceLT, Int.reduceLE, Int.reduceEq, Int.reduceNeg, if_true, if_false, ite_true, ite_false, reduceIte, eq_self, not_true, not_false_eq_true]; try refine tc_ite (fun _ => ?_) (fun _ => ?_) <;> try (exfalso; omega)))
            rw [y1]
            refine c58 (t := (ccd g N r1, 0)) hR (k4 rfl) (ctk_cm hcc) (by omega) (by omega) ?_
            intro e5 l1 l2
            rw [t4] at l1
            have hL5 := hL4.trans l2.t (by omega)
            have hLT5 := l2.lt (k1.lt hLT3)
            repeat' (first | (simp (disch := first | omega | exact Nat.le_of_ble_eq_true rfl | exact rfl | assumption | (simp (disch := omega) only [fr_ne, fr_same]; first | assumption | omega)) only [r59_0, r59_1, r59_2, r59_5, r59_6, r59_7, r59_10, r59_11r, r59_12, r59_13i, r59_15, r59_21, r59_25, r59_26, v59_26_2, r59_29, r59_30, v59_30_2, r59_33, r59_34, v59_34_2, r59_37i, r59_38, r59_39, v59_39_2, r59_42, r59_43, r59_44, v59_44_2, r59_47, r59_48, v59_48_2, r59_51r, r59_52i, r59_55, r59_58, p2_28_2, p2_31_2, o2_len, o2_s10, o2_s11, il_s, bl_s, bl_z, ll_s, is_s, bs_s, bs_z, ls_s, al_s, al_b, al_l, fr_ne, fr_same, fr_fr, Nat.reduceEqDiff, tc_gf3_s, tc_ql2_s, tc_ws_0, tc_ws_i, tc_ws_l, tc_ws_r, Nat.reduceLeDiff, Nat.reduceAdd, Nat.reduceLT, true_and, and_true, if_true, if_false, tc_K, Option.toList_some, Option.toList_none, List.nil_append, List.cons_append, ite_true, ite_false, Int.cast_ofNat_Int, reduceIte, i3_add_eq, i3_sub_eq, Int.add_sub_cancel, Int.add_neg_cancel_right, hO hL70 h70]) | (simp only [r59_18, r59_22, i6_lt0, i6_0lt, i6_0le, i6_le0, i6_eq0, b10_0, ite_not, Int.reduceLT, Int.reduceLE, Int.reduceEq, Int.reduceNeg, if_true, if_false, ite_true, ite_false, reduceIte, eq_self, not_true, not_false_eq_true]; try refine tc_ite (fun _ => ?_) (fun _ => ?_) <;> try (exfalso; omega)))
            show tc_W 62 0 [rf 70, tc_nil, tc_nil] [] _ _ _
            repeat' (first | (simp (disch := first | omega | exact Nat.le_of_ble_eq_true rfl | exact rfl | assumption | (simp (disch := omega) only [fr_ne, fr_same]; first | assumption | omega)) only [r62_0, r62_1r, r62_3, r62_8, r62_9, r62_15, r62_16, v62_16_2, r62_19, r62_20, r62_22, v62_22_2, r62_25, r62_29, r62_30, r62_30A, r62_31, r62_34, r62_35, r62_36, r62_39, r62_40h, r62_40f, r62_40t, r62_41, r62_42, r62_44, v62_44_2, r62_47, r62_51, r62_52, r62_55, r62_56i, r62_57, r62_58, r62_59, r62_62, r62_63, r62_67, r62_69, r62_72, r62_73, v62_73_2, r62_76, r62_80, r62_81, r62_82, r62_85, r62_86h, r62_86f, r62_86t, r62_87, r62_88, r62_94, r62_95h, r62_95f, r62_95t, r62_96, r62_97, r62_99, v62_99_2, r62_105, r62_106, r62_107, r62_110, r62_111, v62_111_2, r62_114, r62_115h, r62_115f, r62_115t, r62_116, r62_117, r62_117A, r62_118, r62_121, r62_122, r62_123, r62_126, r62_127, r62_128, r62_131, r62_132, r62_135, r62_136, r62_139r, r62_142, r62_145, r62_146h, r62_146f, r62_146t, g2_46_0, g2_46_2, g2_31_2, p2_31_2, g2_28_2, g2_63_0, g2_63_2, p2_28_2, g2_18_2, o0_len, o0_g4, o2_len, o2_g4, o2_g11, o2_s11, o2_g10, o0_g2, o2_g2, o2_s10, o2_g7, il_s, bl_s, bl_z, ll_s, is_s, bs_s, bs_z, ls_s, al_s, al_b, al_l, fr_ne, fr_same, fr_fr, Nat.reduceEqDiff, tc_gf3_s, tc_ql2_s, tc_ws_0, tc_ws_i, tc_ws_l, tc_ws_r, Nat.reduceLeDiff, Nat.reduceAdd, Nat.reduceLT, true_and, and_true, if_true, if_false, tc_K, Option.toList_some, Option.toList_none, List.nil_append, List.cons_append, ite_true, ite_false, Int.cast_ofNat_Int, reduceIte, i3_add_eq, i3_sub_eq, Int.add_sub_cancel, Int.add_neg_cancel_right]) | (simp only [r62_5, r62_12, r62_26, r62_48, r62_64, r62_77, r62_91, r62_102, i6_lt0, i6_0lt, i6_0le, i6_le0, i6_eq0, b10_0, ite_not, Int.reduceLT, Int.reduceLE, Int.reduceEq, Int.reduceNeg, if_true, if_false, ite_true, ite_false, reduceIte, eq_self, not_true, not_false_eq_true]; try refine tc_ite (fun _ => ?_) (fun _ => ?_) <;> try (exfalso; omega)))
            refine c62_l (c := c) (k := 11) (f := f3) (mo := mo) (p' := p3) (T' := T3) (O' := O3) (W' := W3) (m := s2) (z := z) (Z := Z) (g := g) (N := N) hR hST hTP (by omega) hz0 ?_ r2 W1 0 T2 O1 e5 _ l1 hLT5 hL5 (by omega) a1 a2.1 a2.2 (by omega) (by omega) (by omega) (by omega) (by omega) (by omega) hc
            intro e6 n1 n2 n3 n4
            by_cases q4 : f3 = 0
            · subst q4
              rw [if_neg (fun q => q rfl)] at hr
              rw [if_pos rfl]
              obtain ⟨hD6, hLT6⟩ := n4 rfl
              obtain ⟨c1, c2, c3, c4, c5, c6⟩ := cls_g 11 r2 mo p3 W1 W3 T2 T3 O1 O3 hc a1 a2.1 a2.2 (by omega) (by omega) (by omega)
              rcases c1 with rfl | rfl
              · rw [if_neg (by omega)] at hr
                obtain ⟨t1, t2, t3, t5⟩ := prL hr
                have hq' := hq e6 n1 ⟨n2.1, by have := n2.2; omega⟩ (by rw [n3]; exact t1) (fun _ => by
                  rw [← t2, ← t3, ← t5]
                  exact hD6)
                repeat' (first | (simp (disch := first | omega | exact Nat.le_of_ble_eq_true rfl | exact rfl | assumption | (simp (disch := omega) only [fr_ne, fr_same]; first | assumption | omega)) only [r59_0, r59_1, r59_2, r59_5, r59_6, r59_7, r59_10, r59_11r, r59_12, r59_13i, r59_15, r59_21, r59_25, r59_26, v59_26_2, r59_29, r59_30, v59_30_2, r59_33, r59_34, v59_34_2, r59_37i, r59_38, r59_39, v59_39_2, r59_42, r59_43, r59_44, v59_44_2, r59_47, r59_48, v59_48_2, r59_51r, r59_52i, r59_55, r59_58, p2_28_2, p2_31_2, o2_len, o2_s10, o2_s11, il_s, bl_s, bl_z, ll_s, is_s, bs_s, bs_z, ls_s, al_s, al_b, al_l, fr_ne, fr_same, fr_fr, Nat.reduceEqDiff, tc_gf3_s, tc_ql2_s, tc_ws_0, tc_ws_i, tc_ws_l, tc_ws_r, Nat.reduceLeDiff, Nat.reduceAdd, Nat.reduceLT, true_and, and_true, if_true, if_false, tc_K, Option.toList_some, Option.toList_none, List.nil_append, List.cons_append, ite_true, ite_false, Int.cast_ofNat_Int, reduceIte, i3_add_eq, i3_sub_eq, Int.add_sub_cancel, Int.add_neg_cancel_right]) | (simp only [r59_18, r59_22, i6_lt0, i6_0lt, i6_0le, i6_le0, i6_eq0, b10_0, ite_not, Int.reduceLT, Int.reduceLE, Int.reduceEq, Int.reduceNeg, if_true, if_false, ite_true, ite_false, reduceIte, eq_self, not_true, not_false_eq_true]; try refine tc_ite (fun _ => ?_) (fun _ => ?_) <;> try (exfalso; omega)))
                simp only [r59_14]
                repeat' (first | (simp (disch := first | omega | exact Nat.le_of_ble_eq_true rfl | exact rfl | assumption | (simp (disch := omega) only [fr_ne, fr_same]; first | assumption | omega)) only [r59_0, r59_1, r59_2, r59_5, r59_6, r59_7, r59_10, r59_11r, r59_12, r59_13i, r59_15, r59_21, r59_25, r59_26, v59_26_2, r59_29, r59_30, v59_30_2, r59_33, r59_34, v59_34_2, r59_37i, r59_38, r59_39, v59_39_2, r59_42, r59_43, r59_44, v59_44_2, r59_47, r59_48, v59_48_2, r59_51r, r59_52i, r59_55, r59_58, p2_28_2, p2_31_2, o2_len, o2_s10, o2_s11, il_s, bl_s, bl_z, ll_s, is_s, bs_s, bs_z, ls_s, al_s, al_b, al_l, fr_ne, fr_same, fr_fr, Nat.reduceEqDiff, tc_gf3_s, tc_ql2_s, tc_ws_0, tc_ws_i, tc_ws_l, tc_ws_r, Nat.reduceLeDiff, Nat.reduceAdd, Nat.reduceLT, true_and, and_true, if_true, if_false, tc_K, Option.toList_some, Option.toList_none, List.nil_append, List.cons_append, ite_true, ite_false, Int.cast_ofNat_Int, reduceIte, i3_add_eq, i3_sub_eq, Int.add_sub_cancel, Int.add_neg_cancel_right, hO hL70 h70]) | (simp only [r59_18, r59_22, i6_lt0, i6_0lt, i6_0le, i6_le0, i6_eq0, b10_0, ite_not, Int.reduceLT, Int.reduceLE, Int.reduceEq, Int.reduceNeg, if_true, if_false, ite_true, ite_false, reduceIte, eq_self, not_true, not_false_eq_true]; try refine tc_ite (fun _ => ?_) (fun _ => ?_) <;> try (exfalso; omega)))
                all_goals first
                  | exact hq'
                  | omega
              · rw [if_pos rfl] at hr
                obtain ⟨j1', j2', j3', j4', j5', j6'⟩ := c5 rfl
                repeat' (first | (simp (disch := first | omega | exact Nat.le_of_ble_eq_true rfl | exact rfl | assumption | (simp (disch := omega) only [fr_ne, fr_same]; first | assumption | omega)) only [r59_0, r59_1, r59_2, r59_5, r59_6, r59_7, r59_10, r59_11r, r59_12, r59_13i, r59_15, r59_21, r59_25, r59_26, v59_26_2, r59_29, r59_30, v59_30_2, r59_33, r59_34, v59_34_2, r59_37i, r59_38, r59_39, v59_39_2, r59_42, r59_43, r59_44, v59_44_2, r59_47, r59_48, v59_48_2, r59_51r, r59_52i, r59_55, r59_58, p2_28_2, p2_31_2, o2_len, o2_s10, o2_s11, il_s, bl_s, bl_z, ll_s, is_s, bs_s, bs_z, ls_s, al_s, al_b, al_l, fr_ne, fr_same, fr_fr, Nat.reduceEqDiff, tc_gf3_s, tc_ql2_s, tc_ws_0, tc_ws_i, tc_ws_l, tc_ws_r, Nat.reduceLeDiff, Nat.reduceAdd, Nat.reduceLT, true_and, and_true, if_true, if_false, tc_K, Option.toList_some, Option.toList_none, List.nil_append, List.cons_append, ite_true, ite_false, Int.cast_ofNat_Int, reduceIte, i3_add_eq, i3_sub_eq, Int.add_sub_cancel, Int.add_neg_cancel_right]) | (simp only [r59_18, r59_22, i6_lt0, i6_0lt, i6_0le, i6_le0, i6_eq0, b10_0, ite_not, Int.reduceLT, Int.reduceLE, Int.reduceEq, Int.reduceNeg, if_true, if_false, ite_true, ite_false, reduceIte, eq_self, not_true, not_false_eq_true]; try refine tc_ite (fun _ => ?_) (fun _ => ?_) <;> try (exfalso; omega)))
                exact ih p3 s2 W3 (i + 1) T3 O3 e6 _ hD6 (hLT6 rfl) n1 (by omega) j2' j3'.1 j3'.2 (by omega) (by omega) (by omega) (by omega) (by omega) (by omega) (by omega) (by omega) (by omega) hr
            · rw [if_pos q4] at hr
              have hff := (prL hr).1
              rw [if_neg q4]
              have hq' := hq e6 n1 ⟨n2.1, by have := n2.2; omega⟩ (by rw [n3]; exact hff) (fun x => absurd (hff.trans x) q4)
              repeat' (first | (simp (disch := first | omega | exact Nat.le_of_ble_eq_true rfl | exact rfl | assumption | (simp (disch := omega) only [fr_ne, fr_same]; first | assumption | omega)) only [r59_0, r59_1, r59_2, r59_5, r59_6, r59_7, r59_10, r59_11r, r59_12, r59_13i, r59_15, r59_21, r59_25, r59_26, v59_26_2, r59_29, r59_30, v59_30_2, r59_33, r59_34, v59_34_2, r59_37i, r59_38, r59_39, v59_39_2, r59_42, r59_43, r59_44, v59_44_2, r59_47, r59_48, v59_48_2, r59_51r, r59_52i, r59_55, r59_58, p2_28_2, p2_31_2, o2_len, o2_s10, o2_s11, il_s, bl_s, bl_z, ll_s, is_s, bs_s, bs_z, ls_s, al_s, al_b, al_l, fr_ne, fr_same, fr_fr, Nat.reduceEqDiff, tc_gf3_s, tc_ql2_s, tc_ws_0, tc_ws_i, tc_ws_l, tc_ws_r, Nat.reduceLeDiff, Nat.reduceAdd, Nat.reduceLT, true_and, and_true, if_true, if_false, tc_K, Option.toList_some, Option.toList_none, List.nil_append, List.cons_append, ite_true, ite_false, Int.cast_ofNat_Int, reduceIte, i3_add_eq, i3_sub_eq, Int.add_sub_cancel, Int.add_neg_cancel_right]) | (simp only [r59_18, r59_22, i6_lt0, i6_0lt, i6_0le, i6_le0, i6_eq0, b10_0, ite_not, Int.reduceLT, Int.reduceLE, Int.reduceEq, Int.reduceNeg, if_true, if_false, ite_true, ite_false, reduceIte, eq_self, not_true, not_false_eq_true]; try refine tc_ite (fun _ => ?_) (fun _ => ?_) <;> try (exfalso; omega)))
              simp only [r59_14]
              repeat' (first | (simp (disch := first | omega | exact Nat.le_of_ble_eq_true rfl | exact rfl | assumption | (simp (disch := omega) only [fr_ne, fr_same]; first | assumption | omega)) only [r59_0, r59_1, r59_2, r59_5, r59_6, r59_7, r59_10, r59_11r, r59_12, r59_13i, r59_15, r59_21, r59_25, r59_26, v59_26_2, r59_29, r59_30, v59_30_2, r59_33, r59_34, v59_34_2, r59_37i, r59_38, r59_39, v59_39_2, r59_42, r59_43, r59_44, v59_44_2, r59_47, r59_48, v59_48_2, r59_51r, r59_52i, r59_55, r59_58, p2_28_2, p2_31_2, o2_len, o2_s10, o2_s11, il_s, bl_s, bl_z, ll_s, is_s, bs_s, bs_z, ls_s, al_s, al_b, al_l, fr_ne, fr_same, fr_fr, Nat.reduceEqDiff, tc_gf3_s, tc_ql2_s, tc_ws_0, tc_ws_i, tc_ws_l, tc_ws_r, Nat.reduceLeDiff, Nat.reduceAdd, Nat.reduceLT, true_and, and_true, if_true, if_false, tc_K, Option.toList_some, Option.toList_none, List.nil_append, List.cons_append, ite_true, ite_false, Int.cast_ofNat_Int, reduceIte, i3_add_eq, i3_sub_eq, Int.add_sub_cancel, Int.add_neg_cancel_right, hO hL70 h70]) | (simp only [r59_18, r59_22, i6_lt0, i6_0lt, i6_0le, i6_le0, i6_eq0, b10_0, ite_not, Int.reduceLT, Int.reduceLE, Int.reduceEq, Int.reduceNeg, if_true, if_false, ite_true, ite_false, reduceIte, eq_self, not_true, not_false_eq_true]; try refine tc_ite (fun _ => ?_) (fun _ => ?_) <;> try (exfalso; omega)))
              all_goals first
                | exact hq'
                | omega
          · rw [if_pos q3] at hf
            have hff := (prL hf).1
            rw [if_pos (by omega)] at hr
            have hff2 := (prL hr).1
            repeat' (first | (simp (disch := first | omega | exact Nat.le_of_ble_eq_true rfl | exact rfl | assumption | (simp (disch := omega) only [fr_ne, fr_same]; first | assumption | omega)) only [r59_0, r59_1, r59_2, r59_5, r59_6, r59_7, r59_10, r59_11r, r59_12, r59_13i, r59_15, r59_21, r59_25, r59_26, v59_26_2, r59_29, r59_30, v59_30_2, r59_33, r59_34, v59_34_2, r59_37i, r59_38, r59_39, v59_39_2, r59_43, r59_44, v59_44_2, r59_47, r59_48, v59_48_2, r59_51r, r59_52i, r59_55, r59_58, p2_28_2, p2_31_2, o2_len, o2_s10, o2_s11, il_s, bl_s, bl_z, ll_s, is_s, bs_s, bs_z, ls_s, al_s, al_b, al_l, fr_ne, fr_same, fr_fr, Nat.reduceEqDiff, tc_gf3_s, tc_ql2_s, tc_ws_0, tc_ws_i, tc_ws_l, tc_ws_r, Nat.reduceLeDiff, Nat.reduceAdd, Nat.reduceLT, true_and, and_true, if_true, if_false, tc_K, Option.toList_some, Option.toList_none, List.nil_append, List.cons_append, ite_true, ite_false, Int.cast_ofNat_Int, reduceIte, i3_add_eq, i3_sub_eq, Int.add_sub_cancel, Int.add_neg_cancel_right]) | (simp only [r59_18, r59_22, i6_lt0, i6_0lt, i6_0le, i6_le0, i6_eq0, b10_0, ite_not, Int.reduceLT, Int.reduceLE, Int.reduceEq, Int.reduceNeg, if_true, if_false, ite_true, ite_false, reduceIte, eq_self, not_true, not_false_eq_true]; try refine tc_ite (fun _ => ?_) (fun _ => ?_) <;> try (exfalso; omega)))
            exact c59_x hR k3 q3 (hq e4 hL4 ⟨k2.1, by have := k2.2; omega⟩ (by rw [k3]; omega) fun x => by omega) (by omega)
        · have hfc : f2 = cmf g N r1 s1 := by
            unfold cmf
            by_cases hb : byt g N r1 = 60 ∨ byt g N r1 = 61 ∨ byt g N r1 = 62
            · rw [if_neg (fun q => q hb)] at hf ⊢
              by_cases h60 : 60 ≤ s1
              · rw [if_pos h60] at hf ⊢
                exact (prL hf).1.symm
              · exfalso
                apply hcm
                unfold cmf
                rw [if_neg (fun q => q hb), if_neg h60]
            · rw [if_pos hb] at hf ⊢
              exact (prL hf).1.symm
          rw [if_pos (by rw [hfc]; exact hcm)] at hr
          have hff := (prL hr).1
          have h52 := fun n Q => c52f (c := e3) (n := n) (Q := Q) hR x6 hcm
          have fin := fun (a1 : Int) => c59_x (v := v) (i := i) (a1 := a1) (n := n) (Q := Q) hR x6 hcm (hq e3 hL3 ⟨x4, by omega⟩ (by rw [x6]; omega) fun x => by omega) (by omega)
          repeat' (first | (simp (disch := first | omega | exact Nat.le_of_ble_eq_true rfl | exact rfl | assumption | (simp (disch := omega) only [fr_ne, fr_same]; first | assumption | omega)) only [r59_0, r59_1, r59_2, r59_5, r59_6, r59_7, r59_10, r59_11r, r59_12, r59_13i, r59_15, r59_21, r59_25, r59_26, v59_26_2, r59_29, r59_30, v59_30_2, r59_33, r59_34, v59_34_2, r59_37i, r59_38, r59_39, v59_39_2, r59_43, r59_44, v59_44_2, r59_47, r59_48, v59_48_2, r59_51r, r59_52i, r59_55, r59_58, p2_28_2, p2_31_2, o2_len, o2_s10, o2_s11, il_s, bl_s, bl_z, ll_s, is_s, bs_s, bs_z, ls_s, al_s, al_b, al_l, fr_ne, fr_same, fr_fr, Nat.reduceEqDiff, tc_gf3_s, tc_ql2_s, tc_ws_0, tc_ws_i, tc_ws_l, tc_ws_r, Nat.reduceLeDiff, Nat.reduceAdd, Nat.reduceLT, true_and, and_true, if_true, if_false, tc_K, Option.toList_some, Option.toList_none, List.nil_append, List.cons_append, ite_true, ite_false, Int.cast_ofNat_Int, reduceIte, i3_add_eq, i3_sub_eq, Int.add_sub_cancel, Int.add_neg_cancel_right, hO hL70 h70, x1, h52]) | (simp only [r59_18, r59_22, i6_lt0, i6_0lt, i6_0le, i6_le0, i6_eq0, b10_0, ite_not, Int.reduceLT, Int.reduceLE, Int.reduceEq, Int.reduceNeg, if_true, if_false, ite_true, ite_false, reduceIte, eq_self, not_true, not_false_eq_true]; try refine tc_ite (fun _ => ?_) (fun _ => ?_) <;> try (exfalso; omega)))
          all_goals exact fin _
      · rw [if_pos q2] at hf
        have hff := (prL hf).1
        rw [if_pos (by omega)] at hr
        have hff2 := (prL hr).1
        repeat' (first | (simp (disch := first | omega | exact Nat.le_of_ble_eq_true rfl | exact rfl | assumption | (simp (disch := omega) only [fr_ne, fr_same]; first | assumption | omega)) only [r59_0, r59_1, r59_2, r59_5, r59_6, r59_7, r59_10, r59_11r, r59_12, r59_13i, r59_15, r59_21, r59_25, r59_26, v59_26_2, r59_29, r59_30, v59_30_2, r59_34, v59_34_2, r59_37i, r59_38, r59_39, v59_39_2, r59_42, r59_43, r59_44, v59_44_2, r59_47, r59_48, v59_48_2, r59_51r, r59_52i, r59_55, r59_58, p2_28_2, p2_31_2, o2_len, o2_s10, o2_s11, il_s, bl_s, bl_z, ll_s, is_s, bs_s, bs_z, ls_s, al_s, al_b, al_l, fr_ne, fr_same, fr_fr, Nat.reduceEqDiff, tc_gf3_s, tc_ql2_s, tc_ws_0, tc_ws_i, tc_ws_l, tc_ws_r, Nat.reduceLeDiff, Nat.reduceAdd, Nat.reduceLT, true_and, and_true, if_true, if_false, tc_K, Option.toList_some, Option.toList_none, List.nil_append, List.cons_append, ite_true, ite_false, Int.cast_ofNat_Int, reduceIte, i3_add_eq, i3_sub_eq, Int.add_sub_cancel, Int.add_neg_cancel_right]) | (simp only [r59_18, r59_22, i6_lt0, i6_0lt, i6_0le, i6_le0, i6_eq0, b10_0, ite_not, Int.reduceLT, Int.reduceLE, Int.reduceEq, Int.reduceNeg, if_true, if_false, ite_true, ite_false, reduceIte, eq_self, not_true, not_false_eq_true]; try refine tc_ite (fun _ => ?_) (fun _ => ?_) <;> try (exfalso; omega)))
        exact c59_y (c := c) hR hTP hL2 h27e2 h1e2 b2 b3 q2 (by omega) fun e w1 w2 w3 => hq e w1 w2 (by omega) fun x => by omega
    · rw [if_pos q1] at hr
      have hff := (prL hr).1
      have h52 := fun n Q => c52f (c := e1) (n := n) (Q := Q) hR j3 q1
      have fin := fun (a1 : Int) (a3 : AV) => c59_y (c := c) (i := i) (a1 := a1) (a3 := a3) (n := n) (Q := Q) hR hTP j1 h27e1 h1e1 j2 j3 q1 (by omega) fun e w1 w2 w3 => hq e w1 w2 (by omega) fun x => by omega
      repeat' (first | (simp (disch := first | omega | exact Nat.le_of_ble_eq_true rfl | exact rfl | assumption | (simp (disch := omega) only [fr_ne, fr_same]; first | assumption | omega)) only [r59_0, r59_1, r59_2, r59_5, r59_6, r59_7, r59_10, r59_11r, r59_12, r59_13i, r59_15, r59_21, r59_25, r59_26, v59_26_2, r59_29, r59_30, v59_30_2, r59_34, v59_34_2, r59_37i, r59_38, r59_39, v59_39_2, r59_42, r59_43, r59_44, v59_44_2, r59_47, r59_48, v59_48_2, r59_51r, r59_52i, r59_55, r59_58, p2_28_2, p2_31_2, o2_len, o2_s10, o2_s11, il_s, bl_s, bl_z, ll_s, is_s, bs_s, bs_z, ls_s, al_s, al_b, al_l, fr_ne, fr_same, fr_fr, Nat.reduceEqDiff, tc_gf3_s, tc_ql2_s, tc_ws_0, tc_ws_i, tc_ws_l, tc_ws_r, Nat.reduceLeDiff, Nat.reduceAdd, Nat.reduceLT, true_and, and_true, if_true, if_false, tc_K, Option.toList_some, Option.toList_none, List.nil_append, List.cons_append, ite_true, ite_false, Int.cast_ofNat_Int, reduceIte, i3_add_eq, i3_sub_eq, Int.add_sub_cancel, Int.add_neg_cancel_right, h52]) | (simp only [r59_18, r59_22, i6_lt0, i6_0lt, i6_0le, i6_le0, i6_eq0, b10_0, ite_not, Int.reduceLT, Int.reduceLE, Int.reduceEq, Int.reduceNeg, if_true, if_false, ite_true, ite_false, reduceIte, eq_self, not_true, not_false_eq_true]; try refine tc_ite (fun _ => ?_) (fun _ => ?_) <;> try (exfalso; omega)))
      all_goals exact fin _ _
end TESTF

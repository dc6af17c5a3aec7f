/-! the class: a Reader -/
/-- a sign that stands next -/
def isdg (g : Int → Int) (N p : Int) : Int := if p < N ∧ 48 ≤ g p ∧ g p ≤ 57 then 1 else 0
section RD_b
variable {L : Nat} {sh : Nat → SH} {c : Nat → Int → Int} {n : Nat} {Q : Option AV → List SC → Nat → Prop} {bs : Option Nat} 
theorem c20_b (hr : sh 69 = (6, 0, [some 27, bs])) (h27 : sh 27 = (1, 400, [])) (hL : 115 ≤ L) {N p : Int} (hTP : TP (c 27) N) (h1 : c 69 1 = N) (h2 : c 69 2 = p) (hp0 : 0 ≤ p ∧ p ≤ 1000) : tc_C 20 [rf 69] (hp L sh c) n Q = Q none (hp L sh (fr c 69 (fu (c 69) 2 (sk (c 27) N p)))) n := tc_det fun Q hq => by
  have hLr : 69 < L := by omega
  have hL27 : 27 < L := by omega
  have hT1 := hTP.1
  show tc_W 20 0 [rf 69] [] _ _ Q
  have key : ∀ (k : Nat) (q : Int), N - q ≤ k → 0 ≤ q → q ≤ 1000 → sk (c 27) N q = sk (c 27) N p → tc_W 20 0 [rf 69] [] (hp L sh (fr c 69 (fu (c 69) 2 q))) n Q := by
    intro k
    induction k with
    | zero =>
      intro q hk hq0 hq2 he
      have e := sk_e (g := c 27) (n := N) (p := q)
      rw [if_neg (fun h => by omega), he] at e
      rw [e] at hq
      simp only [r20_0]
      repeat' (first | (simp (disch := first | omega | exact Nat.le_of_ble_eq_true rfl | exact rfl | assumption | (simp (disch := omega) only [fr_ne, fr_same]; first | assumption | omega)) only [r20_1, r20_4, r20_5, r20_11, r20_12, r20_15, r20_16, r20_19, r20_20, r20_25, r20_26, r20_26A, r20_27, r20_30, r20_31, r20_32, r20_35, r20_38, g12_19_0, g12_19_2, g12_15_0, g12_15_2, g12_9_0, g12_9_2, p12_19_0, p12_19_2, o0_len, o0_g2, o2_len, o2_g2, o0_g1, o2_g1, o0_g0, o2_g0, o0_s2, o2_s2, il_s, bl_s, bl_z, ll_s, is_s, bs_s, bs_z, ls_s, al_s, al_b, al_l, fr_ne, fr_same, fr_fr, Nat.reduceEqDiff, tc_gf3_s, tc_ql2_s, tc_ws_0, tc_ws_i, tc_ws_l, tc_ws_r, Nat.reduceLeDiff, Nat.reduceAdd, Nat.reduceLT, true_and, and_true, if_true, if_false, tc_K, Option.toList_some, Option.toList_none, List.nil_append, List.cons_append, ite_true, ite_false, Int.cast_ofNat_Int, reduceIte, i3_add_eq, i3_sub_eq, Int.add_sub_cancel, Int.add_neg_cancel_right, hO hLr hr, hOs hr, hB hL27 h27, h1, fu_same, fu_ne]) | (simp only [r20_8, r20_22, i6_lt0, i6_0lt, i6_0le, i6_le0, i6_eq0, b10_0, ite_not, Int.reduceLT, Int.reduceLE, Int.reduceEq, Int.reduceNeg, if_true, if_false, ite_true, ite_false, reduceIte, eq_self, not_true, not_false_eq_true]; try refine tc_ite (fun _ => ?_) (fun _ => ?_) <;> try (exfalso; omega)))
      exact hq
    | succ k ih =>
      intro q hk hq0 hq2 he
      have e := sk_e (g := c 27) (n := N) (p := q)
      simp only [r20_0]
      by_cases h : q < N ∧ c 27 q = 32
      · rw [if_pos h, he] at e
        repeat' (first | (simp (disch := first | omega | exact Nat.le_of_ble_eq_true rfl | exact rfl | assumption | (simp (disch := omega) only [fr_ne, fr_same]; first | assumption | omega)) only [r20_1, r20_4, r20_5, r20_11, r20_12, r20_15, r20_16, r20_19, r20_20, r20_25, r20_26, r20_26A, r20_27, r20_30, r20_31, r20_32, r20_35, r20_38, g12_19_0, g12_19_2, g12_15_0, g12_15_2, g12_9_0, g12_9_2, p12_19_0, p12_19_2, o0_len, o0_g2, o2_len, o2_g2, o0_g1, o2_g1, o0_g0, o2_g0, o0_s2, o2_s2, il_s, bl_s, bl_z, ll_s, is_s, bs_s, bs_z, ls_s, al_s, al_b, al_l, fr_ne, fr_same, fr_fr, Nat.reduceEqDiff, tc_gf3_s, tc_ql2_s, tc_ws_0, tc_ws_i, tc_ws_l, tc_ws_r, Nat.reduceLeDiff, Nat.reduceAdd, Nat.reduceLT, true_and, and_true, if_true, if_false, tc_K, Option.toList_some, Option.toList_none, List.nil_append, List.cons_append, ite_true, ite_false, Int.cast_ofNat_Int, reduceIte, i3_add_eq, i3_sub_eq, Int.add_sub_cancel, Int.add_neg_cancel_right, hO hLr hr, hOs hr, hB hL27 h27, h1, fu_same, fu_ne, fu_fu]) | (simp only [r20_8, r20_22, i6_lt0, i6_0lt, i6_0le, i6_le0, i6_eq0, b10_0, ite_not, Int.reduceLT, Int.reduceLE, Int.reduceEq, Int.reduceNeg, if_true, if_false, ite_true, ite_false, reduceIte, eq_self, not_true, not_false_eq_true]; try refine tc_ite (fun _ => ?_) (fun _ => ?_) <;> try (exfalso; omega)))
        all_goals first
          | exact ih (q + 1) (by omega) (by omega) (by omega) e.symm
          | omega
      · rw [if_neg h, he] at e
        rw [e] at hq
        repeat' (first | (simp (disch := first | omega | exact Nat.le_of_ble_eq_true rfl | exact rfl | assumption | (simp (disch := omega) only [fr_ne, fr_same]; first | assumption | omega)) only [r20_1, r20_4, r20_5, r20_11, r20_12, r20_15, r20_16, r20_19, r20_20, r20_25, r20_26, r20_26A, r20_27, r20_30, r20_31, r20_32, r20_35, r20_38, g12_19_0, g12_19_2, g12_15_0, g12_15_2, g12_9_0, g12_9_2, p12_19_0, p12_19_2, o0_len, o0_g2, o2_len, o2_g2, o0_g1, o2_g1, o0_g0, o2_g0, o0_s2, o2_s2, il_s, bl_s, bl_z, ll_s, is_s, bs_s, bs_z, ls_s, al_s, al_b, al_l, fr_ne, fr_same, fr_fr, Nat.reduceEqDiff, tc_gf3_s, tc_ql2_s, tc_ws_0, tc_ws_i, tc_ws_l, tc_ws_r, Nat.reduceLeDiff, Nat.reduceAdd, Nat.reduceLT, true_and, and_true, if_true, if_false, tc_K, Option.toList_some, Option.toList_none, List.nil_append, List.cons_append, ite_true, ite_false, Int.cast_ofNat_Int, reduceIte, i3_add_eq, i3_sub_eq, Int.add_sub_cancel, Int.add_neg_cancel_right, hO hLr hr, hOs hr, hB hL27 h27, h1, fu_same, fu_ne]) | (simp only [r20_8, r20_22, i6_lt0, i6_0lt, i6_0le, i6_le0, i6_eq0, b10_0, ite_not, Int.reduceLT, Int.reduceLE, Int.reduceEq, Int.reduceNeg, if_true, if_false, ite_true, ite_false, reduceIte, eq_self, not_true, not_false_eq_true]; try refine tc_ite (fun _ => ?_) (fun _ => ?_) <;> try (exfalso; omega)))
        all_goals first
          | exact hq
          | omega
  have h := key (N - p).toNat p (by omega) hp0.1 hp0.2 rfl
  rw [fu_idv h2, fr_id] at h
  exact h
theorem c33_b (hr : sh 69 = (6, 0, [some 27, bs])) (h27 : sh 27 = (1, 400, [])) (hL : 115 ≤ L) {N q : Int} (hTP : TP (c 27) N) (h1 : c 69 1 = N) (hq0 : 0 ≤ q) : tc_C 33 [rf 69, .inl q] (hp L sh c) n Q = Q (some (.inl (byt (c 27) N q))) (hp L sh c) n := tc_det fun Q hq => by
  have hLr : 69 < L := by omega
  have hL27 : 27 < L := by omega
  have hT1 := hTP.1
  show tc_W 33 0 [rf 69, .inl q] [] _ _ Q
  unfold byt at hq
  by_cases h : q < N
  · rw [if_pos h] at hq
    have h2 := and_255 (hTP.2 q hq0 (by omega))
    rw [← h2] at hq
    repeat' (first | (simp (disch := first | omega | exact Nat.le_of_ble_eq_true rfl | exact rfl | assumption | (simp (disch := omega) only [fr_ne, fr_same]; first | assumption | omega)) only [r33_0, r33_4, r33_5, r33_6, r33_12, r33_13, r33_16, r33_17, r33_18, r33_21, r33_22, r33_25, r33_26, g12_15_0, g12_15_2, g12_9_0, g12_9_2, o0_len, o0_g1, o2_len, o2_g1, o0_g0, o2_g0, il_s, bl_s, bl_z, ll_s, is_s, bs_s, bs_z, ls_s, al_s, al_b, al_l, fr_ne, fr_same, fr_fr, Nat.reduceEqDiff, tc_gf3_s, tc_ql2_s, tc_ws_0, tc_ws_i, tc_ws_l, tc_ws_r, Nat.reduceLeDiff, Nat.reduceAdd, Nat.reduceLT, true_and, and_true, if_true, if_false, tc_K, Option.toList_some, Option.toList_none, List.nil_append, List.cons_append, ite_true, ite_false, Int.cast_ofNat_Int, reduceIte, i3_add_eq, i3_sub_eq, Int.add_sub_cancel, Int.add_neg_cancel_right, hO hLr hr, hOs hr, hB hL27 h27, h1]) | (simp only [r33_1, r33_9, i6_lt0, i6_0lt, i6_0le, i6_le0, i6_eq0, b10_0, ite_not, Int.reduceLT, Int.reduceLE, Int.reduceEq, Int.reduceNeg, if_true, if_false, ite_true, ite_false, reduceIte, eq_self, not_true, not_false_eq_true]; try refine tc_ite (fun _ => ?_) (fun _ => ?_) <;> try (exfalso; omega)))
    all_goals first
      | exact hq
      | omega
  · rw [if_neg h] at hq
    repeat' (first | (simp (disch := first | omega | exact Nat.le_of_ble_eq_true rfl | exact rfl | assumption | (simp (disch := omega) only [fr_ne, fr_same]; first | assumption | omega)) only [r33_0, r33_4, r33_5, r33_6, r33_12, r33_13, r33_16, r33_17, r33_18, r33_21, r33_22, r33_25, r33_26, g12_15_0, g12_15_2, g12_9_0, g12_9_2, o0_len, o0_g1, o2_len, o2_g1, o0_g0, o2_g0, il_s, bl_s, bl_z, ll_s, is_s, bs_s, bs_z, ls_s, al_s, al_b, al_l, fr_ne, fr_same, fr_fr, Nat.reduceEqDiff, tc_gf3_s, tc_ql2_s, tc_ws_0, tc_ws_i, tc_ws_l, tc_ws_r, Nat.reduceLeDiff, Nat.reduceAdd, Nat.reduceLT, true_and, and_true, if_true, if_false, tc_K, Option.toList_some, Option.toList_none, List.nil_append, List.cons_append, ite_true, ite_false, Int.cast_ofNat_Int, reduceIte, i3_add_eq, i3_sub_eq, Int.add_sub_cancel, Int.add_neg_cancel_right, hO hLr hr, hOs hr, hB hL27 h27, h1]) | (simp only [r33_1, r33_9, i6_lt0, i6_0lt, i6_0le, i6_le0, i6_eq0, b10_0, ite_not, Int.reduceLT, Int.reduceLE, Int.reduceEq, Int.reduceNeg, if_true, if_false, ite_true, ite_false, reduceIte, eq_self, not_true, not_false_eq_true]; try refine tc_ite (fun _ => ?_) (fun _ => ?_) <;> try (exfalso; omega)))
    all_goals first
      | exact hq
      | omega
theorem c34_b (hr : sh 69 = (6, 0, [some 27, bs])) (h27 : sh 27 = (1, 400, [])) (hL : 115 ≤ L) {a k : Int} (ha : 0 ≤ a ∧ a ≤ 1000) (hk : 0 ≤ k ∧ k ≤ 7) : tc_C 34 [rf 69, .inl a, .inl k] (hp L sh c) n Q = Q none (hp L sh (fr c 69 (fu (c 69) 4 (if c 69 4 = 0 then 1 + 8 * a + k else c 69 4)))) n := tc_det fun Q hq => by
  have hLr : 69 < L := by omega
  have hL27 : 27 < L := by omega
  show tc_W 34 0 [rf 69, .inl a, .inl k] [] _ _ Q
  by_cases h : c 69 4 = 0
  · rw [if_pos h] at hq
    repeat' (first | (simp (disch := first | omega | exact Nat.le_of_ble_eq_true rfl | exact rfl | assumption | (simp (disch := omega) only [fr_ne, fr_same]; first | assumption | omega)) only [r34_0, r34_1, r34_7, r34_8, r34_9, r34_11, r34_12, r34_13, r34_14, r34_15, r34_16, r34_19, g12_25_0, g12_25_2, p12_25_0, p12_25_2, o0_len, o0_g4, o2_len, o2_g4, o0_s4, o2_s4, il_s, bl_s, bl_z, ll_s, is_s, bs_s, bs_z, ls_s, al_s, al_b, al_l, fr_ne, fr_same, fr_fr, Nat.reduceEqDiff, tc_gf3_s, tc_ql2_s, tc_ws_0, tc_ws_i, tc_ws_l, tc_ws_r, Nat.reduceLeDiff, Nat.reduceAdd, Nat.reduceLT, true_and, and_true, if_true, if_false, tc_K, Option.toList_some, Option.toList_none, List.nil_append, List.cons_append, ite_true, ite_false, Int.cast_ofNat_Int, reduceIte, i3_add_eq, i3_sub_eq, Int.add_sub_cancel, Int.add_neg_cancel_right, hO hLr hr, hOs hr, hB hL27 h27, h, i3_mul_eq]) | (simp only [r34_4, i6_lt0, i6_0lt, i6_0le, i6_le0, i6_eq0, b10_0, ite_not, Int.reduceLT, Int.reduceLE, Int.reduceEq, Int.reduceNeg, if_true, if_false, ite_true, ite_false, reduceIte, eq_self, not_true, not_false_eq_true]; try refine tc_ite (fun _ => ?_) (fun _ => ?_) <;> try (exfalso; omega)))
    all_goals first
      | exact hq
      | omega
  · rw [if_neg h, fu_id, fr_id] at hq
    repeat' (first | (simp (disch := first | omega | exact Nat.le_of_ble_eq_true rfl | exact rfl | assumption | (simp (disch := omega) only [fr_ne, fr_same]; first | assumption | omega)) only [r34_0, r34_1, r34_7, r34_8, r34_9, r34_11, r34_12, r34_13, r34_14, r34_15, r34_16, r34_19, g12_25_0, g12_25_2, p12_25_0, p12_25_2, o0_len, o0_g4, o2_len, o2_g4, o0_s4, o2_s4, il_s, bl_s, bl_z, ll_s, is_s, bs_s, bs_z, ls_s, al_s, al_b, al_l, fr_ne, fr_same, fr_fr, Nat.reduceEqDiff, tc_gf3_s, tc_ql2_s, tc_ws_0, tc_ws_i, tc_ws_l, tc_ws_r, Nat.reduceLeDiff, Nat.reduceAdd, Nat.reduceLT, true_and, and_true, if_true, if_false, tc_K, Option.toList_some, Option.toList_none, List.nil_append, List.cons_append, ite_true, ite_false, Int.cast_ofNat_Int, reduceIte, i3_add_eq, i3_sub_eq, Int.add_sub_cancel, Int.add_neg_cancel_right, hO hLr hr, hOs hr, hB hL27 h27]) | (simp only [r34_4, i6_lt0, i6_0lt, i6_0le, i6_le0, i6_eq0, b10_0, ite_not, Int.reduceLT, Int.reduceLE, Int.reduceEq, Int.reduceNeg, if_true, if_false, ite_true, ite_false, reduceIte, eq_self, not_true, not_false_eq_true]; try refine tc_ite (fun _ => ?_) (fun _ => ?_) <;> try (exfalso; omega)))
    all_goals first
      | exact hq
      | omega
theorem c41_b (hr : sh 69 = (6, 0, [some 27, bs])) (h27 : sh 27 = (1, 400, [])) (hL : 115 ≤ L) {N q : Int} (hTP : TP (c 27) N) (h1 : c 69 1 = N) (hq0 : 0 ≤ q) : tc_C 41 [rf 69, .inl q] (hp L sh c) n Q = Q (some (.inl (isdg (c 27) N q))) (hp L sh c) n := tc_det fun Q hq => by
  have hLr : 69 < L := by omega
  have hL27 : 27 < L := by omega
  have h33 := fun Q => c33_b (c := c) (n := n) (Q := Q) hr h27 hL hTP h1 hq0
  have hT1 := hTP.1
  show tc_W 41 0 [rf 69, .inl q, tc_nil] [] _ _ Q
  have eb : (48 ≤ byt (c 27) N q ∧ byt (c 27) N q ≤ 57) ↔ (q < N ∧ 48 ≤ c 27 q ∧ c 27 q ≤ 57) := by
    unfold byt
    by_cases h : q < N
    · rw [if_pos h]
      have h2 := hTP.2 q hq0 (by omega)
      split <;> omega
    · rw [if_neg h]
      omega
  unfold isdg at hq
  generalize byt (c 27) N q = v at eb h33
  by_cases h : q < N ∧ 48 ≤ c 27 q ∧ c 27 q ≤ 57
  · rw [if_pos h] at hq
    have hv := eb.mpr h
    repeat' (first | (simp (disch := first | omega | exact Nat.le_of_ble_eq_true rfl | exact rfl | assumption | (simp (disch := omega) only [fr_ne, fr_same]; first | assumption | omega)) only [r41_0, r41_1, r41_2, v41_2_0, v41_2_2, r41_5i, r41_6, r41_7, r41_12, r41_13, r41_18, r41_19, r41_22, r41_23h, r41_23f, r41_23t, il_s, bl_s, bl_z, ll_s, is_s, bs_s, bs_z, ls_s, al_s, al_b, al_l, fr_ne, fr_same, fr_fr, Nat.reduceEqDiff, tc_gf3_s, tc_ql2_s, tc_ws_0, tc_ws_i, tc_ws_l, tc_ws_r, Nat.reduceLeDiff, Nat.reduceAdd, Nat.reduceLT, true_and, and_true, if_true, if_false, tc_K, Option.toList_some, Option.toList_none, List.nil_append, List.cons_append, ite_true, ite_false, Int.cast_ofNat_Int, reduceIte, i3_add_eq, i3_sub_eq, Int.add_sub_cancel, Int.add_neg_cancel_right, hO hLr hr, hOs hr, hB hL27 h27, h33]) | (simp only [r41_9, r41_15, i6_lt0, i6_0lt, i6_0le, i6_le0, i6_eq0, b10_0, ite_not, Int.reduceLT, Int.reduceLE, Int.reduceEq, Int.reduceNeg, if_true, if_false, ite_true, ite_false, reduceIte, eq_self, not_true, not_false_eq_true]; try refine tc_ite (fun _ => ?_) (fun _ => ?_) <;> try (exfalso; omega)))
    all_goals first
      | exact hq
      | omega
  · rw [if_neg h] at hq
    have hv : ¬ (48 ≤ v ∧ v ≤ 57) := fun q => h (eb.mp q)
    repeat' (first | (simp (disch := first | omega | exact Nat.le_of_ble_eq_true rfl | exact rfl | assumption | (simp (disch := omega) only [fr_ne, fr_same]; first | assumption | omega)) only [r41_0, r41_1, r41_2, v41_2_0, v41_2_2, r41_5i, r41_6, r41_7, r41_12, r41_13, r41_18, r41_19, r41_22, r41_23h, r41_23f, r41_23t, il_s, bl_s, bl_z, ll_s, is_s, bs_s, bs_z, ls_s, al_s, al_b, al_l, fr_ne, fr_same, fr_fr, Nat.reduceEqDiff, tc_gf3_s, tc_ql2_s, tc_ws_0, tc_ws_i, tc_ws_l, tc_ws_r, Nat.reduceLeDiff, Nat.reduceAdd, Nat.reduceLT, true_and, and_true, if_true, if_false, tc_K, Option.toList_some, Option.toList_none, List.nil_append, List.cons_append, ite_true, ite_false, Int.cast_ofNat_Int, reduceIte, i3_add_eq, i3_sub_eq, Int.add_sub_cancel, Int.add_neg_cancel_right, hO hLr hr, hOs hr, hB hL27 h27, h33]) | (simp only [r41_9, r41_15, i6_lt0, i6_0lt, i6_0le, i6_le0, i6_eq0, b10_0, ite_not, Int.reduceLT, Int.reduceLE, Int.reduceEq, Int.reduceNeg, if_true, if_false, ite_true, ite_false, reduceIte, eq_self, not_true, not_false_eq_true]; try refine tc_ite (fun _ => ?_) (fun _ => ?_) <;> try (exfalso; omega)))
    all_goals first
      | exact hq
      | omega
theorem c46_b (hr : sh 69 = (6, 0, [some 27, bs])) (h27 : sh 27 = (1, 400, [])) (hL : 115 ≤ L) {N p ch : Int} (hTP : TP (c 27) N) (h1 : c 69 1 = N) (h2 : c 69 2 = p) (hp0 : 0 ≤ p ∧ p ≤ 500) : tc_C 46 [rf 69, .inl ch] (hp L sh c) n Q = Q (some (.inl (if byt (c 27) N (sk (c 27) N p) = ch then 1 else 0))) (hp L sh (fr c 69 (fu (c 69) 2 (if byt (c 27) N (sk (c 27) N p) = ch then sk (c 27) N p + 1 else sk (c 27) N p)))) n := tc_det fun Q hq => by
  have hLr : 69 < L := by omega
  have hL27 : 27 < L := by omega
  have hT1 := hTP.1
  have hsr := sk_rng (g := c 27) (n := N) (p := p)
  have h20 := fun Q => c20_b (c := c) (n := n) (Q := Q) hr h27 hL hTP h1 h2 (by omega)
  have h33 := fun Q => c33_b (c := fr c 69 (fu (c 69) 2 (sk (c 27) N p))) (n := n) (Q := Q) (N := N) (q := sk (c 27) N p) hr h27 hL (by rw [fr_ne (by omega)]; exact hTP) (by rw [fr_same, fu_ne (by omega), h1]) (by omega)
  rw [fr_ne (by omega : ¬ (27 : Nat) = 69)] at h33
  show tc_W 46 0 [rf 69, .inl ch] [] _ _ Q
  generalize sk (c 27) N p = q at hq h20 h33 hsr
  by_cases h : byt (c 27) N q = ch
  · rw [if_pos h, if_pos h] at hq
    repeat' (first | (simp (disch := first | omega | exact Nat.le_of_ble_eq_true rfl | exact rfl | assumption | (simp (disch := omega) only [fr_ne, fr_same]; first | assumption | omega)) only [r46_0, r46_1, v46_1_0, v46_1_2, r46_4, r46_5, r46_6, r46_9, v46_9_0, v46_9_2, r46_12, r46_16, r46_17h, r46_17f, r46_17t, r46_18, r46_19, r46_19A, r46_20, r46_23, r46_24, r46_25, r46_28, r46_29h, r46_29f, r46_29t, g12_19_0, g12_19_2, p12_19_0, p12_19_2, o0_len, o0_g2, o2_len, o2_g2, o0_s2, o2_s2, il_s, bl_s, bl_z, ll_s, is_s, bs_s, bs_z, ls_s, al_s, al_b, al_l, fr_ne, fr_same, fr_fr, Nat.reduceEqDiff, tc_gf3_s, tc_ql2_s, tc_ws_0, tc_ws_i, tc_ws_l, tc_ws_r, Nat.reduceLeDiff, Nat.reduceAdd, Nat.reduceLT, true_and, and_true, if_true, if_false, tc_K, Option.toList_some, Option.toList_none, List.nil_append, List.cons_append, ite_true, ite_false, Int.cast_ofNat_Int, reduceIte, i3_add_eq, i3_sub_eq, Int.add_sub_cancel, Int.add_neg_cancel_right, hO hLr hr, hOs hr, hB hL27 h27, h20, h33, fu_same, fu_fu, h]) | (simp only [r46_13, i6_lt0, i6_0lt, i6_0le, i6_le0, i6_eq0, b10_0, ite_not, Int.reduceLT, Int.reduceLE, Int.reduceEq, Int.reduceNeg, if_true, if_false, ite_true, ite_false, reduceIte, eq_self, not_true, not_false_eq_true]; try refine tc_ite (fun _ => ?_) (fun _ => ?_) <;> try (exfalso; omega)))
    all_goals first
      | exact hq
      | omega
  · rw [if_neg h, if_neg h] at hq
    repeat' (first | (simp (disch := first | omega | exact Nat.le_of_ble_eq_true rfl | exact rfl | assumption | (simp (disch := omega) only [fr_ne, fr_same]; first | assumption | omega)) only [r46_0, r46_1, v46_1_0, v46_1_2, r46_4, r46_5, r46_6, r46_9, v46_9_0, v46_9_2, r46_12, r46_16, r46_17h, r46_17f, r46_17t, r46_18, r46_19, r46_19A, r46_20, r46_23, r46_24, r46_25, r46_28, r46_29h, r46_29f, r46_29t, g12_19_0, g12_19_2, p12_19_0, p12_19_2, o0_len, o0_g2, o2_len, o2_g2, o0_s2, o2_s2, il_s, bl_s, bl_z, ll_s, is_s, bs_s, bs_z, ls_s, al_s, al_b, al_l, fr_ne, fr_same, fr_fr, Nat.reduceEqDiff, tc_gf3_s, tc_ql2_s, tc_ws_0, tc_ws_i, tc_ws_l, tc_ws_r, Nat.reduceLeDiff, Nat.reduceAdd, Nat.reduceLT, true_and, and_true, if_true, if_false, tc_K, Option.toList_some, Option.toList_none, List.nil_append, List.cons_append, ite_true, ite_false, Int.cast_ofNat_Int, reduceIte, i3_add_eq, i3_sub_eq, Int.add_sub_cancel, Int.add_neg_cancel_right, hO hLr hr, hOs hr, hB hL27 h27, h20, h33, fu_same, fu_fu]) | (simp only [r46_13, i6_lt0, i6_0lt, i6_0le, i6_le0, i6_eq0, b10_0, ite_not, Int.reduceLT, Int.reduceLE, Int.reduceEq, Int.reduceNeg, if_true, if_false, ite_true, ite_false, reduceIte, eq_self, not_true, not_false_eq_true]; try refine tc_ite (fun _ => ?_) (fun _ => ?_) <;> try (exfalso; omega)))
    all_goals first
      | exact hq
      | omega
end RD_b
section RD_l
variable {L : Nat} {sh : Nat → SH} {c : Nat → Int → Int} {n : Nat} {Q : Option AV → List SC → Nat → Prop} 
theorem c20_l (hr : sh 70 = (6, 2, [some 27, some 71, some 72, some 73])) (h27 : sh 27 = (1, 400, [])) (hL : 115 ≤ L) {N p : Int} (hTP : TP (c 27) N) (h1 : c 70 1 = N) (h2 : c 70 2 = p) (hp0 : 0 ≤ p ∧ p ≤ 1000) : tc_C 20 [rf 70] (hp L sh c) n Q = Q none (hp L sh (fr c 70 (fu (c 70) 2 (sk (c 27) N p)))) n := tc_det fun Q hq => by
  have hLr : 70 < L := by omega
  have hL27 : 27 < L := by omega
  have hT1 := hTP.1
  show tc_W 20 0 [rf 70] [] _ _ Q
  have key : ∀ (k : Nat) (q : Int), N - q ≤ k → 0 ≤ q → q ≤ 1000 → sk (c 27) N q = sk (c 27) N p → tc_W 20 0 [rf 70] [] (hp L sh (fr c 70 (fu (c 70) 2 q))) n Q := by
    intro k
    induction k with
    | zero =>
      intro q hk hq0 hq2 he
      have e := sk_e (g := c 27) (n := N) (p := q)
      rw [if_neg (fun h => by omega), he] at e
      rw [e] at hq
      simp only [r20_0]
      repeat' (first | (simp (disch := first | omega | exact Nat.le_of_ble_eq_true rfl | exact rfl | assumption | (simp (disch := omega) only [fr_ne, fr_same]; first | assumption | omega)) only [r20_1, r20_4, r20_5, r20_11, r20_12, r20_15, r20_16, r20_19, r20_20, r20_25, r20_26, r20_26A, r20_27, r20_30, r20_31, r20_32, r20_35, r20_38, g12_19_0, g12_19_2, g12_15_0, g12_15_2, g12_9_0, g12_9_2, p12_19_0, p12_19_2, o0_len, o0_g2, o2_len, o2_g2, o0_g1, o2_g1, o0_g0, o2_g0, o0_s2, o2_s2, il_s, bl_s, bl_z, ll_s, is_s, bs_s, bs_z, ls_s, al_s, al_b, al_l, fr_ne, fr_same, fr_fr, Nat.reduceEqDiff, tc_gf3_s, tc_ql2_s, tc_ws_0, tc_ws_i, tc_ws_l, tc_ws_r, Nat.reduceLeDiff, Nat.reduceAdd, Nat.reduceLT, true_and, and_true, if_true, if_false, tc_K, Option.toList_some, Option.toList_none, List.nil_append, List.cons_append, ite_true, ite_false, Int.cast_ofNat_Int, reduceIte, i3_add_eq, i3_sub_eq, Int.add_sub_cancel, Int.add_neg_cancel_right, hO hLr hr, hOs hr, hB hL27 h27, h1, fu_same, fu_ne]) | (simp only [r20_8, r20_22, i6_lt0, i6_0lt, i6_0le, i6_le0, i6_eq0, b10_0, ite_not, Int.reduceLT, Int.reduceLE, Int.reduceEq, Int.reduceNeg, if_true, if_false, ite_true, ite_false, reduceIte, eq_self, not_true, not_false_eq_true]; try refine tc_ite (fun _ => ?_) (fun _ => ?_) <;> try (exfalso; omega)))
      exact hq
    | succ k ih =>
      intro q hk hq0 hq2 he
      have e := sk_e (g := c 27) (n := N) (p := q)
      simp only [r20_0]
      by_cases h : q < N ∧ c 27 q = 32
      · rw [if_pos h, he] at e
        repeat' (first | (simp (disch := first | omega | exact Nat.le_of_ble_eq_true rfl | exact rfl | assumption | (simp (disch := omega) only [fr_ne, fr_same]; first | assumption | omega)) only [r20_1, r20_4, r20_5, r20_11, r20_12, r20_15, r20_16, r20_19, r20_20, r20_25, r20_26, r20_26A, r20_27, r20_30, r20_31, r20_32, r20_35, r20_38, g12_19_0, g12_19_2, g12_15_0, g12_15_2, g12_9_0, g12_9_2, p12_19_0, p12_19_2, o0_len, o0_g2, o2_len, o2_g2, o0_g1, o2_g1, o0_g0, o2_g0, o0_s2, o2_s2, il_s, bl_s, bl_z, ll_s, is_s, bs_s, bs_z, ls_s, al_s, al_b, al_l, fr_ne, fr_same, fr_fr, Nat.reduceEqDiff, tc_gf3_s, tc_ql2_s, tc_ws_0, tc_ws_i, tc_ws_l, tc_ws_r, Nat.reduceLeDiff, Nat.reduceAdd, Nat.reduceLT, true_and, and_true, if_true, if_false, tc_K, Option.toList_some, Option.toList_none, List.nil_append, List.cons_append, ite_true, ite_false, Int.cast_ofNat_Int, reduceIte, i3_add_eq, i3_sub_eq, Int.add_sub_cancel, Int.add_neg_cancel_right, hO hLr hr, hOs hr, hB hL27 h27, h1, fu_same, fu_ne, fu_fu]) | (simp only [r20_8, r20_22, i6_lt0, i6_0lt, i6_0le, i6_le0, i6_eq0, b10_0, ite_not, Int.reduceLT, Int.reduceLE, Int.reduceEq, Int.reduceNeg, if_true, if_false, ite_true, ite_false, reduceIte, eq_self, not_true, not_false_eq_true]; try refine tc_ite (fun _ => ?_) (fun _ => ?_) <;> try (exfalso; omega)))
        all_goals first
          | exact ih (q + 1) (by omega) (by omega) (by omega) e.symm
          | omega
      · rw [if_neg h, he] at e
        rw [e] at hq
        repeat' (first | (simp (disch := first | omega | exact Nat.le_of_ble_eq_true rfl | exact rfl | assumption | (simp (disch := omega) only [fr_ne, fr_same]; first | assumption | omega)) only [r20_1, r20_4, r20_5, r20_11, r20_12, r20_15, r20_16, r20_19, r20_20, r20_25, r20_26, r20_26A, r20_27, r20_30, r20_31, r20_32, r20_35, r20_38, g12_19_0, g12_19_2, g12_15_0, g12_15_2, g12_9_0, g12_9_2, p12_19_0, p12_19_2, o0_len, o0_g2, o2_len, o2_g2, o0_g1, o2_g1, o0_g0, o2_g0, o0_s2, o2_s2, il_s, bl_s, bl_z, ll_s, is_s, bs_s, bs_z, ls_s, al_s, al_b, al_l, fr_ne, fr_same, fr_fr, Nat.reduceEqDiff, tc_gf3_s, tc_ql2_s, tc_ws_0, tc_ws_i, tc_ws_l, tc_ws_r, Nat.reduceLeDiff, Nat.reduceAdd, Nat.reduceLT, true_and, and_true, if_true, if_false, tc_K, Option.toList_some, Option.toList_none, List.nil_append, List.cons_append, ite_true, ite_false, Int.cast_ofNat_Int, reduceIte, i3_add_eq, i3_sub_eq, Int.add_sub_cancel, Int.add_neg_cancel_right, hO hLr hr, hOs hr, hB hL27 h27, h1, fu_same, fu_ne]) | (simp only [r20_8, r20_22, i6_lt0, i6_0lt, i6_0le, i6_le0, i6_eq0, b10_0, ite_not, Int.reduceLT, Int.reduceLE, Int.reduceEq, Int.reduceNeg, if_true, if_false, ite_true, ite_false, reduceIte, eq_self, not_true, not_false_eq_true]; try refine tc_ite (fun _ => ?_) (fun _ => ?_) <;> try (exfalso; omega)))
        all_goals first
          | exact hq
          | omega
  have h := key (N - p).toNat p (by omega) hp0.1 hp0.2 rfl
  rw [fu_idv h2, fr_id] at h
  exact h
theorem c33_l (hr : sh 70 = (6, 2, [some 27, some 71, some 72, some 73])) (h27 : sh 27 = (1, 400, [])) (hL : 115 ≤ L) {N q : Int} (hTP : TP (c 27) N) (h1 : c 70 1 = N) (hq0 : 0 ≤ q) : tc_C 33 [rf 70, .inl q] (hp L sh c) n Q = Q (some (.inl (byt (c 27) N q))) (hp L sh c) n := tc_det fun Q hq => by
  have hLr : 70 < L := by omega
  have hL27 : 27 < L := by omega
  have hT1 := hTP.1
  show tc_W 33 0 [rf 70, .inl q] [] _ _ Q
  unfold byt at hq
  by_cases h : q < N
  · rw [if_pos h] at hq
    have h2 := and_255 (hTP.2 q hq0 (by omega))
    rw [← h2] at hq
    repeat' (first | (simp (disch := first | omega | exact Nat.le_of_ble_eq_true rfl | exact rfl | assumption | (simp (disch := omega) only [fr_ne, fr_same]; first | assumption | omega)) only [r33_0, r33_4, r33_5, r33_6, r33_12, r33_13, r33_16, r33_17, r33_18, r33_21, r33_22, r33_25, r33_26, g12_15_0, g12_15_2, g12_9_0, g12_9_2, o0_len, o0_g1, o2_len, o2_g1, o0_g0, o2_g0, il_s, bl_s, bl_z, ll_s, is_s, bs_s, bs_z, ls_s, al_s, al_b, al_l, fr_ne, fr_same, fr_fr, Nat.reduceEqDiff, tc_gf3_s, tc_ql2_s, tc_ws_0, tc_ws_i, tc_ws_l, tc_ws_r, Nat.reduceLeDiff, Nat.reduceAdd, Nat.reduceLT, true_and, and_true, if_true, if_false, tc_K, Option.toList_some, Option.toList_none, List.nil_append, List.cons_append, ite_true, ite_false, Int.cast_ofNat_Int, reduceIte, i3_add_eq, i3_sub_eq, Int.add_sub_cancel, Int.add_neg_cancel_right, hO hLr hr, hOs hr, hB hL27 h27, h1]) | (simp only [r33_1, r33_9, i6_lt0, i6_0lt, i6_0le, i6_le0, i6_eq0, b10_0, ite_not, Int.reduceLT, Int.reduceLE, Int.reduceEq, Int.reduceNeg, if_true, if_false, ite_true, ite_false, reduceIte, eq_self, not_true, not_false_eq_true]; try refine tc_ite (fun _ => ?_) (fun _ => ?_) <;> try (exfalso; omega)))
    all_goals first
      | exact hq
      | omega
  · rw [if_neg h] at hq
    repeat' (first | (simp (disch := first | omega | exact Nat.le_of_ble_eq_true rfl | exact rfl | assumption | (simp (disch := omega) only [fr_ne, fr_same]; first | assumption | omega)) only [r33_0, r33_4, r33_5, r33_6, r33_12, r33_13, r33_16, r33_17, r33_18, r33_21, r33_22, r33_25, r33_26, g12_15_0, g12_15_2, g12_9_0, g12_9_2, o0_len, o0_g1, o2_len, o2_g1, o0_g0, o2_g0, il_s, bl_s, bl_z, ll_s, is_s, bs_s, bs_z, ls_s, al_s, al_b, al_l, fr_ne, fr_same, fr_fr, Nat.reduceEqDiff, tc_gf3_s, tc_ql2_s, tc_ws_0, tc_ws_i, tc_ws_l, tc_ws_r, Nat.reduceLeDiff, Nat.reduceAdd, Nat.reduceLT, true_and, and_true, if_true, if_false, tc_K, Option.toList_some, Option.toList_none, List.nil_append, List.cons_append, ite_true, ite_false, Int.cast_ofNat_Int, reduceIte, i3_add_eq, i3_sub_eq, Int.add_sub_cancel, Int.add_neg_cancel_right, hO hLr hr, hOs hr, hB hL27 h27, h1]) | (simp only [r33_1, r33_9, i6_lt0, i6_0lt, i6_0le, i6_le0, i6_eq0, b10_0, ite_not, Int.reduceLT, Int.reduceLE, Int.reduceEq, Int.reduceNeg, if_true, if_false, ite_true, ite_false, reduceIte, eq_self, not_true, not_false_eq_true]; try refine tc_ite (fun _ => ?_) (fun _ => ?_) <;> try (exfalso; omega)))
    all_goals first
      | exact hq
      | omega
theorem c34_l (hr : sh 70 = (6, 2, [some 27, some 71, some 72, some 73])) (h27 : sh 27 = (1, 400, [])) (hL : 115 ≤ L) {a k : Int} (ha : 0 ≤ a ∧ a ≤ 1000) (hk : 0 ≤ k ∧ k ≤ 7) : tc_C 34 [rf 70, .inl a, .inl k] (hp L sh c) n Q = Q none (hp L sh (fr c 70 (fu (c 70) 4 (if c 70 4 = 0 then 1 + 8 * a + k else c 70 4)))) n := tc_det fun Q hq => by
  have hLr : 70 < L := by omega
  have hL27 : 27 < L := by omega
  show tc_W 34 0 [rf 70, .inl a, .inl k] [] _ _ Q
  by_cases h : c 70 4 = 0
  · rw [if_pos h] at hq
    repeat' (first | (simp (disch := first | omega | exact Nat.le_of_ble_eq_true rfl | exact rfl | assumption | (simp (disch := omega) only [fr_ne, fr_same]; first | assumption | omega)) only [r34_0, r34_1, r34_7, r34_8, r34_9, r34_11, r34_12, r34_13, r34_14, r34_15, r34_16, r34_19, g12_25_0, g12_25_2, p12_25_0, p12_25_2, o0_len, o0_g4, o2_len, o2_g4, o0_s4, o2_s4, il_s, bl_s, bl_z, ll_s, is_s, bs_s, bs_z, ls_s, al_s, al_b, al_l, fr_ne, fr_same, fr_fr, Nat.reduceEqDiff, tc_gf3_s, tc_ql2_s, tc_ws_0, tc_ws_i, tc_ws_l, tc_ws_r, Nat.reduceLeDiff, Nat.reduceAdd, Nat.reduceLT, true_and, and_true, if_true, if_false, tc_K, Option.toList_some, Option.toList_none, List.nil_append, List.cons_append, ite_true, ite_false, Int.cast_ofNat_Int, reduceIte, i3_add_eq, i3_sub_eq, Int.add_sub_cancel, Int.add_neg_cancel_right, hO hLr hr, hOs hr, hB hL27 h27, h, i3_mul_eq]) | (simp only [r34_4, i6_lt0, i6_0lt, i6_0le, i6_le0, i6_eq0, b10_0, ite_not, Int.reduceLT, Int.reduceLE, Int.reduceEq, Int.reduceNeg, if_true, if_false, ite_true, ite_false, reduceIte, eq_self, not_true, not_false_eq_true]; try refine tc_ite (fun _ => ?_) (fun _ => ?_) <;> try (exfalso; omega)))
    all_goals first
      | exact hq
      | omega
  · rw [if_neg h, fu_id, fr_id] at hq
    repeat' (first | (simp (disch := first | omega | exact Nat.le_of_ble_eq_true rfl | exact rfl | assumption | (simp (disch := omega) only [fr_ne, fr_same]; first | assumption | omega)) only [r34_0, r34_1, r34_7, r34_8, r34_9, r34_11, r34_12, r34_13, r34_14, r34_15, r34_16, r34_19, g12_25_0, g12_25_2, p12_25_0, p12_25_2, o0_len, o0_g4, o2_len, o2_g4, o0_s4, o2_s4, il_s, bl_s, bl_z, ll_s, is_s, bs_s, bs_z, ls_s, al_s, al_b, al_l, fr_ne, fr_same, fr_fr, Nat.reduceEqDiff, tc_gf3_s, tc_ql2_s, tc_ws_0, tc_ws_i, tc_ws_l, tc_ws_r, Nat.reduceLeDiff, Nat.reduceAdd, Nat.reduceLT, true_and, and_true, if_true, if_false, tc_K, Option.toList_some, Option.toList_none, List.nil_append, List.cons_append, ite_true, ite_false, Int.cast_ofNat_Int, reduceIte, i3_add_eq, i3_sub_eq, Int.add_sub_cancel, Int.add_neg_cancel_right, hO hLr hr, hOs hr, hB hL27 h27]) | (simp only [r34_4, i6_lt0, i6_0lt, i6_0le, i6_le0, i6_eq0, b10_0, ite_not, Int.reduceLT, Int.reduceLE, Int.reduceEq, Int.reduceNeg, if_true, if_false, ite_true, ite_false, reduceIte, eq_self, not_true, not_false_eq_true]; try refine tc_ite (fun _ => ?_) (fun _ => ?_) <;> try (exfalso; omega)))
    all_goals first
      | exact hq
      | omega
theorem c41_l (hr : sh 70 = (6, 2, [some 27, some 71, some 72, some 73])) (h27 : sh 27 = (1, 400, [])) (hL : 115 ≤ L) {N q : Int} (hTP : TP (c 27) N) (h1 : c 70 1 = N) (hq0 : 0 ≤ q) : tc_C 41 [rf 70, .inl q] (hp L sh c) n Q = Q (some (.inl (isdg (c 27) N q))) (hp L sh c) n := tc_det fun Q hq => by
  have hLr : 70 < L := by omega
  have hL27 : 27 < L := by omega
  have h33 := fun Q => c33_l (c := c) (n := n) (Q := Q) hr h27 hL hTP h1 hq0
  have hT1 := hTP.1
  show tc_W 41 0 [rf 70, .inl q, tc_nil] [] _ _ Q
  have eb : (48 ≤ byt (c 27) N q ∧ byt (c 27) N q ≤ 57) ↔ (q < N ∧ 48 ≤ c 27 q ∧ c 27 q ≤ 57) := by
    unfold byt
    by_cases h : q < N
    · rw [if_pos h]
      have h2 := hTP.2 q hq0 (by omega)
      split <;> omega
    · rw [if_neg h]
      omega
  unfold isdg at hq
  generalize byt (c 27) N q = v at eb h33
  by_cases h : q < N ∧ 48 ≤ c 27 q ∧ c 27 q ≤ 57
  · rw [if_pos h] at hq
    have hv := eb.mpr h
    repeat' (first | (simp (disch := first | omega | exact Nat.le_of_ble_eq_true rfl | exact rfl | assumption | (simp (disch := omega) only [fr_ne, fr_same]; first | assumption | omega)) only [r41_0, r41_1, r41_2, v41_2_0, v41_2_2, r41_5i, r41_6, r41_7, r41_12, r41_13, r41_18, r41_19, r41_22, r41_23h, r41_23f, r41_23t, il_s, bl_s, bl_z, ll_s, is_s, bs_s, bs_z, ls_s, al_s, al_b, al_l, fr_ne, fr_same, fr_fr, Nat.reduceEqDiff, tc_gf3_s, tc_ql2_s, tc_ws_0, tc_ws_i, tc_ws_l, tc_ws_r, Nat.reduceLeDiff, Nat.reduceAdd, Nat.reduceLT, true_and, and_true, if_true, if_false, tc_K, Option.toList_some, Option.toList_none, List.nil_append, List.cons_append, ite_true, ite_false, Int.cast_ofNat_Int, reduceIte, i3_add_eq, i3_sub_eq, Int.add_sub_cancel, Int.add_neg_cancel_right, hO hLr hr, hOs hr, hB hL27 h27, h33]) | (simp only [r41_9, r41_15, i6_lt0, i6_0lt, i6_0le, i6_le0, i6_eq0, b10_0, ite_not, Int.reduceLT, Int.reduceLE, Int.reduceEq, Int.reduceNeg, if_true, if_false, ite_true, ite_false, reduceIte, eq_self, not_true, not_false_eq_true]; try refine tc_ite (fun _ => ?_) (fun _ => ?_) <;> try (exfalso; omega)))
    all_goals first
      | exact hq
      | omega
  · rw [if_neg h] at hq
    have hv : ¬ (48 ≤ v ∧ v ≤ 57) := fun q => h (eb.mp q)
    repeat' (first | (simp (disch := first | omega | exact Nat.le_of_ble_eq_true rfl | exact rfl | assumption | (simp (disch := omega) only [fr_ne, fr_same]; first | assumption | omega)) only [r41_0, r41_1, r41_2, v41_2_0, v41_2_2, r41_5i, r41_6, r41_7, r41_12, r41_13, r41_18, r41_19, r41_22, r41_23h, r41_23f, r41_23t, il_s, bl_s, bl_z, ll_s, is_s, bs_s, bs_z, ls_s, al_s, al_b, al_l, fr_ne, fr_same, fr_fr, Nat.reduceEqDiff, tc_gf3_s, tc_ql2_s, tc_ws_0, tc_ws_i, tc_ws_l, tc_ws_r, Nat.reduceLeDiff, Nat.reduceAdd, Nat.reduceLT, true_and, and_true, if_true, if_false, tc_K, Option.toList_some, Option.toList_none, List.nil_append, List.cons_append, ite_true, ite_false, Int.cast_ofNat_Int, reduceIte, i3_add_eq, i3_sub_eq, Int.add_sub_cancel, Int.add_neg_cancel_right, hO hLr hr, hOs hr, hB hL27 h27, h33]) | (simp only [r41_9, r41_15, i6_lt0, i6_0lt, i6_0le, i6_le0, i6_eq0, b10_0, ite_not, Int.reduceLT, Int.reduceLE, Int.reduceEq, Int.reduceNeg, if_true, if_false, ite_true, ite_false, reduceIte, eq_self, not_true, not_false_eq_true]; try refine tc_ite (fun _ => ?_) (fun _ => ?_) <;> try (exfalso; omega)))
    all_goals first
      | exact hq
      | omega
theorem c46_l (hr : sh 70 = (6, 2, [some 27, some 71, some 72, some 73])) (h27 : sh 27 = (1, 400, [])) (hL : 115 ≤ L) {N p ch : Int} (hTP : TP (c 27) N) (h1 : c 70 1 = N) (h2 : c 70 2 = p) (hp0 : 0 ≤ p ∧ p ≤ 500) : tc_C 46 [rf 70, .inl ch] (hp L sh c) n Q = Q (some (.inl (if byt (c 27) N (sk (c 27) N p) = ch then 1 else 0))) (hp L sh (fr c 70 (fu (c 70) 2 (if byt (c 27) N (sk (c 27) N p) = ch then sk (c 27) N p + 1 else sk (c 27) N p)))) n := tc_det fun Q hq => by
  have hLr : 70 < L := by omega
  have hL27 : 27 < L := by omega
  have hT1 := hTP.1
  have hsr := sk_rng (g := c 27) (n := N) (p := p)
  have h20 := fun Q => c20_l (c := c) (n := n) (Q := Q) hr h27 hL hTP h1 h2 (by omega)
  have h33 := fun Q => c33_l (c := fr c 70 (fu (c 70) 2 (sk (c 27) N p))) (n := n) (Q := Q) (N := N) (q := sk (c 27) N p) hr h27 hL (by rw [fr_ne (by omega)]; exact hTP) (by rw [fr_same, fu_ne (by omega), h1]) (by omega)
  rw [fr_ne (by omega : ¬ (27 : Nat) = 70)] at h33
  show tc_W 46 0 [rf 70, .inl ch] [] _ _ Q
  generalize sk (c 27) N p = q at hq h20 h33 hsr
  by_cases h : byt (c 27) N q = ch
  · rw [if_pos h, if_pos h] at hq
    repeat' (first | (simp (disch := first | omega | exact Nat.le_of_ble_eq_true rfl | exact rfl | assumption | (simp (disch := omega) only [fr_ne, fr_same]; first | assumption | omega)) only [r46_0, r46_1, v46_1_0, v46_1_2, r46_4, r46_5, r46_6, r46_9, v46_9_0, v46_9_2, r46_12, r46_16, r46_17h, r46_17f, r46_17t, r46_18, r46_19, r46_19A, r46_20, r46_23, r46_24, r46_25, r46_28, r46_29h, r46_29f, r46_29t, g12_19_0, g12_19_2, p12_19_0, p12_19_2, o0_len, o0_g2, o2_len, o2_g2, o0_s2, o2_s2, il_s, bl_s, bl_z, ll_s, is_s, bs_s, bs_z, ls_s, al_s, al_b, al_l, fr_ne, fr_same, fr_fr, Nat.reduceEqDiff, tc_gf3_s, tc_ql2_s, tc_ws_0, tc_ws_i, tc_ws_l, tc_ws_r, Nat.reduceLeDiff, Nat.reduceAdd, Nat.reduceLT, true_and, and_true, if_true, if_false, tc_K, Option.toList_some, Option.toList_none, List.nil_append, List.cons_append, ite_true, ite_false, Int.cast_ofNat_Int, reduceIte, i3_add_eq, i3_sub_eq, Int.add_sub_cancel, Int.add_neg_cancel_right, hO hLr hr, hOs hr, hB hL27 h27, h20, h33, fu_same, fu_fu, h]) | (simp only [r46_13, i6_lt0, i6_0lt, i6_0le, i6_le0, i6_eq0, b10_0, ite_not, Int.reduceLT, Int.reduceLE, Int.reduceEq, Int.reduceNeg, if_true, if_false, ite_true, ite_false, reduceIte, eq_self, not_true, not_false_eq_true]; try refine tc_ite (fun _ => ?_) (fun _ => ?_) <;> try (exfalso; omega)))
    all_goals first
      | exact hq
      | omega
  · rw [if_neg h, if_neg h] at hq
    repeat' (first | (simp (disch := first | omega | exact Nat.le_of_ble_eq_true rfl | exact rfl | assumption | (simp (disch := omega) only [fr_ne, fr_same]; first | assumption | omega)) only [r46_0, r46_1, v46_1_0, v46_1_2, r46_4, r46_5, r46_6, r46_9, v46_9_0, v46_9_2, r46_12, r46_16, r46_17h, r46_17f, r46_17t, r46_18, r46_19, r46_19A, r46_20, r46_23, r46_24, r46_25, r46_28, r46_29h, r46_29f, r46_29t, g12_19_0, g12_19_2, p12_19_0, p12_19_2, o0_len, o0_g2, o2_len, o2_g2, o0_s2, o2_s2, il_s, bl_s, bl_z, ll_s, is_s, bs_s, bs_z, ls_s, al_s, al_b, al_l, fr_ne, fr_same, fr_fr, Nat.reduceEqDiff, tc_gf3_s, tc_ql2_s, tc_ws_0, tc_ws_i, tc_ws_l, tc_ws_r, Nat.reduceLeDiff, Nat.reduceAdd, Nat.reduceLT, true_and, and_true, if_true, if_false, tc_K, Option.toList_some, Option.toList_none, List.nil_append, List.cons_append, ite_true, ite_false, Int.cast_ofNat_Int, reduceIte, i3_add_eq, i3_sub_eq, Int.add_sub_cancel, Int.add_neg_cancel_right, hO hLr hr, hOs hr, hB hL27 h27, h20, h33, fu_same, fu_fu]) | (simp only [r46_13, i6_lt0, i6_0lt, i6_0le, i6_le0, i6_eq0, b10_0, ite_not, Int.reduceLT, Int.reduceLE, Int.reduceEq, Int.reduceNeg, if_true, if_false, ite_true, ite_false, reduceIte, eq_self, not_true, not_false_eq_true]; try refine tc_ite (fun _ => ?_) (fun _ => ?_) <;> try (exfalso; omega)))
    all_goals first
      | exact hq
      | omega
end RD_l

/-! words read; whether a text goes on: both sides -/
def gon (g : Int → Int) (N p : Int) : Int := if p < N ∧ g p = 59 then 1 else 0
def gof (g : Int → Int) (N p : Int) : Int := if p < N ∧ ¬ g p = 59 then 1 + 8 * p else 0
theorem byt_is {g : Int → Int} {N p k : Int} (hT : TP g N) (hp0 : 0 ≤ p) (hk : 0 ≤ k ∧ k ≤ 127) : byt g N p = k ↔ p < N ∧ g p = k := by
  have h1 := hT.1
  unfold byt
  by_cases h : p < N
  · rw [if_pos h]
    have h2 := hT.2 p hp0 (by omega)
    split <;> omega
  · rw [if_neg h]
    omega
section GOR
variable {L : Nat} {sh : Nat → SH} {c : Nat → Int → Int} {n : Nat} {Q : Option AV → List SC → Nat → Prop}
theorem c196 (hS : MS L sh) {N p : Int} (hTP : TP (c 95) N) (h21 : c 75 21 = N) (h22 : c 75 22 = p) (hp0 : 0 ≤ p ∧ p ≤ 450) {a l : Nat} (ha : a < L ∧ ¬ a = 75) (hs : sh a = (9, l, [])) (hl : l ≤ 100) : tc_C 196 [rf 75, rf a] (hp L sh c) n Q = Q (some (.inl (stq (c 95) N (sk (c 95) N p) (c a) l))) (hp L sh (fr c 75 (fu (c 75) 22 (if stq (c 95) N (sk (c 95) N p) (c a) l = 1 then sk (c 95) N p + l else sk (c 95) N p)))) n := tc_det fun Q hq => by
  show tc_W 196 0 [rf 75, rf a, tc_nil] [] _ _ Q
  have h1 := hTP.1
  have hsr := sk_rng (g := c 95) (n := N) (p := p)
  have h171 := fun Q => c171q (c := c) (n := n) (Q := Q) hS hTP h21 h22 (by omega)
  generalize sk (c 95) N p = p1 at hq hsr h171
  have h174 := fun Q => c174 (c := fr c 75 (fu (c 75) 22 p1)) (n := n) (Q := Q) hS (N := N) (p := p1) hTP (by rw [fr_same, fu_ne (by omega), h21]) (by rw [fr_same, fu_same]) (by omega) ha.1 hs hl
  rw [fr_ne ha.2] at h174
  rw [show fr c 75 (fu (c 75) 22 p1) 95 = c 95 from rfl] at h174
  have h01 : stq (c 95) N p1 (c a) l = 0 ∨ stq (c 95) N p1 (c a) l = 1 := by
    unfold stq
    split <;> omega
  have hal := ha.1
  rcases h01 with h0 | h0
  · rw [h0, if_neg (by omega)] at hq
    simp only [h0] at h174
    repeat' (first | (simp (disch := first | omega | exact Nat.le_of_ble_eq_true rfl | exact rfl | assumption | (simp (disch := omega) only [fr_ne, fr_same]; first | assumption | omega)) only [r196_0, r196_1, v196_1_11, r196_4, r196_5, r196_6, v196_6_11, r196_9r, r196_10, r196_11, r196_11A, r196_12, r196_15, r196_19, r196_20, r196_23, r196_26, r196_27, r196_28, r196_31, r196_32h, r196_32f, r196_32t, g11_174_11, p11_174_11, mo_len, ms75 hS, mt75 hS, mo_g22, mo_s22, il_s, bl_s, bl_z, ll_s, is_s, bs_s, bs_z, ls_s, al_s, al_b, al_l, fr_ne, fr_same, fr_fr, Nat.reduceEqDiff, tc_gf3_s, tc_ql2_s, tc_ws_0, tc_ws_i, tc_ws_l, tc_ws_r, Nat.reduceLeDiff, Nat.reduceAdd, Nat.reduceLT, true_and, and_true, if_true, if_false, tc_K, Option.toList_some, Option.toList_none, List.nil_append, List.cons_append, ite_true, ite_false, Int.cast_ofNat_Int, reduceIte, i3_add_eq, i3_sub_eq, Int.add_sub_cancel, Int.add_neg_cancel_right, h171, h174, hT hal hs, sL_s, fu_same, fu_fu, Int.add_zero]) | (simp only [r196_16, i6_lt0, i6_0lt, i6_0le, i6_le0, i6_eq0, b10_0, ite_not, Int.reduceLT, Int.reduceLE, Int.reduceEq, Int.reduceNeg, if_true, if_false, ite_true, ite_false, reduceIte, eq_self, not_true, not_false_eq_true]; try refine tc_ite (fun _ => ?_) (fun _ => ?_) <;> try (exfalso; omega)))
    all_goals first
      | exact hq
      | omega
  · rw [h0, if_pos rfl] at hq
    simp only [h0] at h174
    repeat' (first | (simp (disch := first | omega | exact Nat.le_of_ble_eq_true rfl | exact rfl | assumption | (simp (disch := omega) only [fr_ne, fr_same]; first | assumption | omega)) only [r196_0, r196_1, v196_1_11, r196_4, r196_5, r196_6, v196_6_11, r196_9r, r196_10, r196_11, r196_11A, r196_12, r196_15, r196_19, r196_20, r196_23, r196_26, r196_27, r196_28, r196_31, r196_32h, r196_32f, r196_32t, g11_174_11, p11_174_11, mo_len, ms75 hS, mt75 hS, mo_g22, mo_s22, il_s, bl_s, bl_z, ll_s, is_s, bs_s, bs_z, ls_s, al_s, al_b, al_l, fr_ne, fr_same, fr_fr, Nat.reduceEqDiff, tc_gf3_s, tc_ql2_s, tc_ws_0, tc_ws_i, tc_ws_l, tc_ws_r, Nat.reduceLeDiff, Nat.reduceAdd, Nat.reduceLT, true_and, and_true, if_true, if_false, tc_K, Option.toList_some, Option.toList_none, List.nil_append, List.cons_append, ite_true, ite_false, Int.cast_ofNat_Int, reduceIte, i3_add_eq, i3_sub_eq, Int.add_sub_cancel, Int.add_neg_cancel_right, h171, h174, hT hal hs, sL_s, fu_same, fu_fu]) | (simp only [r196_16, i6_lt0, i6_0lt, i6_0le, i6_le0, i6_eq0, b10_0, ite_not, Int.reduceLT, Int.reduceLE, Int.reduceEq, Int.reduceNeg, if_true, if_false, ite_true, ite_false, reduceIte, eq_self, not_true, not_false_eq_true]; try refine tc_ite (fun _ => ?_) (fun _ => ?_) <;> try (exfalso; omega)))
    all_goals first
      | exact hq
      | omega
theorem c184 (hS : MS L sh) {N p : Int} (hTP : TP (c 95) N) (h21 : c 75 21 = N) (h22 : c 75 22 = p) (hp0 : 0 ≤ p ∧ p ≤ 450) (h23 : c 75 23 = 0) : tc_C 184 [rf 75] (hp L sh c) n Q = Q (some (.inl (gon (c 95) N (sk (c 95) N p)))) (hp L sh (fr c 75 (fu (fu (c 75) 23 (gof (c 95) N (sk (c 95) N p))) 22 (sk (c 95) N p + 1)))) n := tc_det fun Q hq => by
  show tc_W 184 0 [rf 75, tc_nil] [] _ _ Q
  have h1 := hTP.1
  have hsr := sk_rng (g := c 95) (n := N) (p := p)
  have h171 := fun Q => c171q (c := c) (n := n) (Q := Q) hS hTP h21 h22 (by omega)
  generalize sk (c 95) N p = p1 at hq hsr h171
  have h172 := fun Q => c172t (c := fr c 75 (fu (c 75) 22 p1)) (n := n) (Q := Q) hS (N := N) (p := p1) hTP (by rw [fr_same, fu_ne (by omega), h21]) (by rw [fr_same, fu_same]) (by omega)
  rw [show fr c 75 (fu (c 75) 22 p1) 95 = c 95 from rfl] at h172
  have hby := byt_is (k := 59) hTP (by omega : 0 ≤ p1) (by omega)
  have h175 := fun Q => c175 (c := fr c 75 (fu (c 75) 22 p1)) (n := n) (Q := Q) (k := 0) (p := p1) hS (by omega) (by omega)
  simp (disch := omega) only [fr_same, fu_ne, fr_fr, h23, if_true, Int.add_zero] at h175
  have cm : ∀ f, fu (fu (c 75) 22 p1) 23 f = fu (fu (c 75) 23 f) 22 p1 := fun f => by
    funext j
    simp only [fu_at]
    repeat' split
    all_goals first
      | rfl
      | omega
  have id0 : fu (c 75) 23 0 = c 75 := fu_idv h23
  unfold gon gof at hq
  generalize byt (c 95) N p1 = v at h172 hby
  by_cases hn : p1 < N
  · by_cases h59 : c 95 p1 = 59
    · have hv : v = 59 := hby.mpr ⟨hn, h59⟩
      rw [if_pos ⟨hn, h59⟩, if_neg (fun h => h.2 h59), id0] at hq
      repeat' (first | (simp (disch := first | omega | exact Nat.le_of_ble_eq_true rfl | exact rfl | assumption | (simp (disch := omega) only [fr_ne, fr_same]; first | assumption | omega)) only [r184_0, r184_1, v184_1_11, r184_4, r184_5, r184_11, r184_12, r184_15, r184_16, r184_22, r184_23, v184_23_11, r184_26, r184_31, r184_32, r184_33, r184_34, r184_37, v184_37_11, r184_40, r184_41, r184_47, r184_48, r184_51, r184_52, r184_58, r184_59, r184_62, r184_63r, r184_64, r184_65, r184_65A, r184_66, r184_69, r184_70, r184_71, r184_74, r184_75h, r184_75f, r184_75t, g11_171_11, g11_174_11, g11_149_11, p11_174_11, mo_len, ms75 hS, mt75 hS, mo_g23, mo_g22, mo_g21, mo_s22, il_s, bl_s, bl_z, ll_s, is_s, bs_s, bs_z, ls_s, al_s, al_b, al_l, fr_ne, fr_same, fr_fr, Nat.reduceEqDiff, tc_gf3_s, tc_ql2_s, tc_ws_0, tc_ws_i, tc_ws_l, tc_ws_r, Nat.reduceLeDiff, Nat.reduceAdd, Nat.reduceLT, true_and, and_true, if_true, if_false, tc_K, Option.toList_some, Option.toList_none, List.nil_append, List.cons_append, ite_true, ite_false, Int.cast_ofNat_Int, reduceIte, i3_add_eq, i3_sub_eq, Int.add_sub_cancel, Int.add_neg_cancel_right, h171, h172, h21, h23, fu_same, fu_ne, fu_fu, hv]) | (simp only [r184_8, r184_19, r184_28, r184_44, r184_55, i6_lt0, i6_0lt, i6_0le, i6_le0, i6_eq0, b10_0, ite_not, Int.reduceLT, Int.reduceLE, Int.reduceEq, Int.reduceNeg, if_true, if_false, ite_true, ite_false, reduceIte, eq_self, not_true, not_false_eq_true]; try refine tc_ite (fun _ => ?_) (fun _ => ?_) <;> try (exfalso; omega)))
      all_goals first
        | exact hq
        | omega
    · have hv : ¬ v = 59 := fun h => h59 (hby.mp h).2
      rw [if_neg (fun h => h59 h.2), if_pos ⟨hn, h59⟩] at hq
      repeat' (first | (simp (disch := first | omega | exact Nat.le_of_ble_eq_true rfl | exact rfl | assumption | (simp (disch := omega) only [fr_ne, fr_same]; first | assumption | omega)) only [r184_0, r184_1, v184_1_11, r184_4, r184_5, r184_11, r184_12, r184_15, r184_16, r184_22, r184_23, v184_23_11, r184_26, r184_31, r184_32, r184_33, r184_34, r184_37, v184_37_11, r184_40, r184_41, r184_47, r184_48, r184_51, r184_52, r184_58, r184_59, r184_62, r184_63r, r184_64, r184_65, r184_65A, r184_66, r184_69, r184_70, r184_71, r184_74, r184_75h, r184_75f, r184_75t, g11_171_11, g11_174_11, g11_149_11, p11_174_11, mo_len, ms75 hS, mt75 hS, mo_g23, mo_g22, mo_g21, mo_s22, il_s, bl_s, bl_z, ll_s, is_s, bs_s, bs_z, ls_s, al_s, al_b, al_l, fr_ne, fr_same, fr_fr, Nat.reduceEqDiff, tc_gf3_s, tc_ql2_s, tc_ws_0, tc_ws_i, tc_ws_l, tc_ws_r, Nat.reduceLeDiff, Nat.reduceAdd, Nat.reduceLT, true_and, and_true, if_true, if_false, tc_K, Option.toList_some, Option.toList_none, List.nil_append, List.cons_append, ite_true, ite_false, Int.cast_ofNat_Int, reduceIte, i3_add_eq, i3_sub_eq, Int.add_sub_cancel, Int.add_neg_cancel_right, h171, h172, h21, h23, fu_same, fu_ne, fu_fu, h175, cm]) | (simp only [r184_8, r184_19, r184_28, r184_44, r184_55, i6_lt0, i6_0lt, i6_0le, i6_le0, i6_eq0, b10_0, ite_not, Int.reduceLT, Int.reduceLE, Int.reduceEq, Int.reduceNeg, if_true, if_false, ite_true, ite_false, reduceIte, eq_self, not_true, not_false_eq_true]; try refine tc_ite (fun _ => ?_) (fun _ => ?_) <;> try (exfalso; omega)))
      all_goals first
        | exact hq
        | omega
  · rw [if_neg (fun h => hn h.1), if_neg (fun h => hn h.1), id0] at hq
    repeat' (first | (simp (disch := first | omega | exact Nat.le_of_ble_eq_true rfl | exact rfl | assumption | (simp (disch := omega) only [fr_ne, fr_same]; first | assumption | omega)) only [r184_0, r184_1, v184_1_11, r184_4, r184_5, r184_11, r184_12, r184_15, r184_16, r184_22, r184_23, v184_23_11, r184_26, r184_31, r184_32, r184_33, r184_34, r184_37, v184_37_11, r184_40, r184_41, r184_47, r184_48, r184_51, r184_52, r184_58, r184_59, r184_62, r184_63r, r184_64, r184_65, r184_65A, r184_66, r184_69, r184_70, r184_71, r184_74, r184_75h, r184_75f, r184_75t, g11_171_11, g11_174_11, g11_149_11, p11_174_11, mo_len, ms75 hS, mt75 hS, mo_g23, mo_g22, mo_g21, mo_s22, il_s, bl_s, bl_z, ll_s, is_s, bs_s, bs_z, ls_s, al_s, al_b, al_l, fr_ne, fr_same, fr_fr, Nat.reduceEqDiff, tc_gf3_s, tc_ql2_s, tc_ws_0, tc_ws_i, tc_ws_l, tc_ws_r, Nat.reduceLeDiff, Nat.reduceAdd, Nat.reduceLT, true_and, and_true, if_true, if_false, tc_K, Option.toList_some, Option.toList_none, List.nil_append, List.cons_append, ite_true, ite_false, Int.cast_ofNat_Int, reduceIte, i3_add_eq, i3_sub_eq, Int.add_sub_cancel, Int.add_neg_cancel_right, h171, h21, h23, fu_same, fu_ne, fu_fu]) | (simp only [r184_8, r184_19, r184_28, r184_44, r184_55, i6_lt0, i6_0lt, i6_0le, i6_le0, i6_eq0, b10_0, ite_not, Int.reduceLT, Int.reduceLE, Int.reduceEq, Int.reduceNeg, if_true, if_false, ite_true, ite_false, reduceIte, eq_self, not_true, not_false_eq_true]; try refine tc_ite (fun _ => ?_) (fun _ => ?_) <;> try (exfalso; omega)))
    all_goals first
      | exact hq
      | omega
theorem c184f (hS : MS L sh) {N p : Int} (hTP : TP (c 95) N) (h21 : c 75 21 = N) (h22 : c 75 22 = p) (hp0 : 0 ≤ p ∧ p ≤ 450) (h23 : ¬ c 75 23 = 0) : tc_C 184 [rf 75] (hp L sh c) n Q = Q (some (.inl 0)) (hp L sh (fr c 75 (fu (c 75) 22 (sk (c 95) N p + 1)))) n := tc_det fun Q hq => by
  show tc_W 184 0 [rf 75, tc_nil] [] _ _ Q
  have h1 := hTP.1
  have hsr := sk_rng (g := c 95) (n := N) (p := p)
  have h171 := fun Q => c171q (c := c) (n := n) (Q := Q) hS hTP h21 h22 (by omega)
  generalize sk (c 95) N p = p1 at hq hsr h171
  have e23 : fu (c 75) 22 p1 23 = c 75 23 := fu_ne (by omega)
  repeat' (first | (simp (disch := first | omega | exact Nat.le_of_ble_eq_true rfl | exact rfl | assumption | (simp (disch := omega) only [fr_ne, fr_same]; first | assumption | omega)) only [r184_0, r184_1, v184_1_11, r184_4, r184_5, r184_11, r184_12, r184_15, r184_16, r184_22, r184_23, v184_23_11, r184_26, r184_31, r184_32, r184_33, r184_34, r184_37, v184_37_11, r184_40, r184_41, r184_47, r184_48, r184_51, r184_52, r184_58, r184_59, r184_62, r184_63r, r184_64, r184_65, r184_65A, r184_66, r184_69, r184_70, r184_71, r184_74, r184_75h, r184_75f, r184_75t, g11_171_11, g11_174_11, g11_149_11, p11_174_11, mo_len, ms75 hS, mt75 hS, mo_g23, mo_g22, mo_g21, mo_s22, il_s, bl_s, bl_z, ll_s, is_s, bs_s, bs_z, ls_s, al_s, al_b, al_l, fr_ne, fr_same, fr_fr, Nat.reduceEqDiff, tc_gf3_s, tc_ql2_s, tc_ws_0, tc_ws_i, tc_ws_l, tc_ws_r, Nat.reduceLeDiff, Nat.reduceAdd, Nat.reduceLT, true_and, and_true, if_true, if_false, tc_K, Option.toList_some, Option.toList_none, List.nil_append, List.cons_append, ite_true, ite_false, Int.cast_ofNat_Int, reduceIte, i3_add_eq, i3_sub_eq, Int.add_sub_cancel, Int.add_neg_cancel_right, h171, e23, fu_same, fu_fu]) | (simp only [r184_8, r184_19, r184_28, r184_44, r184_55, i6_lt0, i6_0lt, i6_0le, i6_le0, i6_eq0, b10_0, ite_not, Int.reduceLT, Int.reduceLE, Int.reduceEq, Int.reduceNeg, if_true, if_false, ite_true, ite_false, reduceIte, eq_self, not_true, not_false_eq_true]; try refine tc_ite (fun _ => ?_) (fun _ => ?_) <;> try (exfalso; omega)))
  all_goals first
    | exact hq
    | omega
end GOR
section GOC_b
variable {L : Nat} {sh : Nat → SH} {c : Nat → Int → Int} {n : Nat} {Q : Option AV → List SC → Nat → Prop} {bs : Option Nat} 
theorem c45_b (hr : sh 69 = (6, 0, [some 27, bs])) (h27 : sh 27 = (1, 400, [])) (hL : 115 ≤ L) {N p : Int} (hTP : TP (c 27) N) (h1 : c 69 1 = N) (h2 : c 69 2 = p) (hp0 : 0 ≤ p ∧ p ≤ 450) (h4 : c 69 4 = 0) : tc_C 45 [rf 69] (hp L sh c) n Q = Q (some (.inl (gon (c 27) N (sk (c 27) N p)))) (hp L sh (fr c 69 (fu (fu (c 69) 4 (gof (c 27) N (sk (c 27) N p))) 2 (if gon (c 27) N (sk (c 27) N p) = 1 then sk (c 27) N p + 1 else sk (c 27) N p)))) n := tc_det fun Q hq => by
  have hLr : 69 < L := by omega
  have hL27 : 27 < L := by omega
  have hT1 := hTP.1
  have hsr := sk_rng (g := c 27) (n := N) (p := p)
  have h46 := fun Q => c46_b (c := c) (n := n) (Q := Q) (ch := 59) hr h27 hL hTP h1 h2 (by omega)
  generalize sk (c 27) N p = p1 at hq hsr h46
  have hby := byt_is (k := 59) hTP (by omega : 0 ≤ p1) (by omega)
  have h34 := fun Q => c34_b (c := fr c 69 (fu (c 69) 2 p1)) (n := n) (Q := Q) (a := p1) (k := 0) hr h27 hL (by omega) (by omega)
  simp (disch := omega) only [fr_same, fu_ne, fr_fr, h4, if_true, Int.add_zero] at h34
  have cm : ∀ f, fu (fu (c 69) 2 p1) 4 f = fu (fu (c 69) 4 f) 2 p1 := fun f => by
    funext j
    simp only [fu_at]
    repeat' split
    all_goals first
      | rfl
      | omega
  have id0 : fu (c 69) 4 0 = c 69 := fu_idv h4
  unfold gon gof at hq
  show tc_W 45 0 [rf 69] [] _ _ Q
  by_cases hn : p1 < N
  · by_cases h59 : c 27 p1 = 59
    · have hv := hby.mpr ⟨hn, h59⟩
      rw [if_pos ⟨hn, h59⟩, if_neg (fun h => h.2 h59), id0, if_pos rfl] at hq
      simp only [if_pos hv] at h46
      repeat' (first | (simp (disch := first | omega | exact Nat.le_of_ble_eq_true rfl | exact rfl | assumption | (simp (disch := omega) only [fr_ne, fr_same]; first | assumption | omega)) only [r45_0, r45_1, r45_7, r45_8, r45_10, v45_10_0, v45_10_2, r45_16, r45_17, r45_23, r45_24, r45_27, r45_28h, r45_28f, r45_28t, r45_29, r45_30, r45_33, r45_34, r45_40, r45_41, r45_42, r45_45, r45_46, v45_46_0, v45_46_2, r45_49, r45_50h, r45_50f, r45_50t, g12_25_0, g12_25_2, g12_19_0, g12_19_2, g12_15_0, g12_15_2, o0_len, o0_g4, o2_len, o2_g4, o0_g2, o2_g2, o0_g1, o2_g1, il_s, bl_s, bl_z, ll_s, is_s, bs_s, bs_z, ls_s, al_s, al_b, al_l, fr_ne, fr_same, fr_fr, Nat.reduceEqDiff, tc_gf3_s, tc_ql2_s, tc_ws_0, tc_ws_i, tc_ws_l, tc_ws_r, Nat.reduceLeDiff, Nat.reduceAdd, Nat.reduceLT, true_and, and_true, if_true, if_false, tc_K, Option.toList_some, Option.toList_none, List.nil_append, List.cons_append, ite_true, ite_false, Int.cast_ofNat_Int, reduceIte, i3_add_eq, i3_sub_eq, Int.add_sub_cancel, Int.add_neg_cancel_right, hO hLr hr, hOs hr, hB hL27 h27, h4, h46, h1, fu_same, fu_ne]) | (simp only [r45_4, r45_13, r45_20, r45_37, i6_lt0, i6_0lt, i6_0le, i6_le0, i6_eq0, b10_0, ite_not, Int.reduceLT, Int.reduceLE, Int.reduceEq, Int.reduceNeg, if_true, if_false, ite_true, ite_false, reduceIte, eq_self, not_true, not_false_eq_true]; try refine tc_ite (fun _ => ?_) (fun _ => ?_) <;> try (exfalso; omega)))
      all_goals first
        | exact hq
        | omega
    · have hv : ¬ byt (c 27) N p1 = 59 := fun h => h59 (hby.mp h).2
      rw [if_neg (fun h => h59 h.2), if_pos ⟨hn, h59⟩, if_neg (by omega)] at hq
      simp only [if_neg hv] at h46
      repeat' (first | (simp (disch := first | omega | exact Nat.le_of_ble_eq_true rfl | exact rfl | assumption | (simp (disch := omega) only [fr_ne, fr_same]; first | assumption | omega)) only [r45_0, r45_1, r45_7, r45_8, r45_10, v45_10_0, v45_10_2, r45_16, r45_17, r45_23, r45_24, r45_27, r45_28h, r45_28f, r45_28t, r45_29, r45_30, r45_33, r45_34, r45_40, r45_41, r45_42, r45_45, r45_46, v45_46_0, v45_46_2, r45_49, r45_50h, r45_50f, r45_50t, g12_25_0, g12_25_2, g12_19_0, g12_19_2, g12_15_0, g12_15_2, o0_len, o0_g4, o2_len, o2_g4, o0_g2, o2_g2, o0_g1, o2_g1, il_s, bl_s, bl_z, ll_s, is_s, bs_s, bs_z, ls_s, al_s, al_b, al_l, fr_ne, fr_same, fr_fr, Nat.reduceEqDiff, tc_gf3_s, tc_ql2_s, tc_ws_0, tc_ws_i, tc_ws_l, tc_ws_r, Nat.reduceLeDiff, Nat.reduceAdd, Nat.reduceLT, true_and, and_true, if_true, if_false, tc_K, Option.toList_some, Option.toList_none, List.nil_append, List.cons_append, ite_true, ite_false, Int.cast_ofNat_Int, reduceIte, i3_add_eq, i3_sub_eq, Int.add_sub_cancel, Int.add_neg_cancel_right, hO hLr hr, hOs hr, hB hL27 h27, h4, h46, h1, fu_same, fu_ne, h34, cm]) | (simp only [r45_4, r45_13, r45_20, r45_37, i6_lt0, i6_0lt, i6_0le, i6_le0, i6_eq0, b10_0, ite_not, Int.reduceLT, Int.reduceLE, Int.reduceEq, Int.reduceNeg, if_true, if_false, ite_true, ite_false, reduceIte, eq_self, not_true, not_false_eq_true]; try refine tc_ite (fun _ => ?_) (fun _ => ?_) <;> try (exfalso; omega)))
      all_goals first
        | exact hq
        | omega
  · have hv : ¬ byt (c 27) N p1 = 59 := fun h => hn (hby.mp h).1
    rw [if_neg (fun h => hn h.1), if_neg (fun h => hn h.1), id0, if_neg (by omega)] at hq
    simp only [if_neg hv] at h46
    repeat' (first | (simp (disch := first | omega | exact Nat.le_of_ble_eq_true rfl | exact rfl | assumption | (simp (disch := omega) only [fr_ne, fr_same]; first | assumption | omega)) only [r45_0, r45_1, r45_7, r45_8, r45_10, v45_10_0, v45_10_2, r45_16, r45_17, r45_23, r45_24, r45_27, r45_28h, r45_28f, r45_28t, r45_29, r45_30, r45_33, r45_34, r45_40, r45_41, r45_42, r45_45, r45_46, v45_46_0, v45_46_2, r45_49, r45_50h, r45_50f, r45_50t, g12_25_0, g12_25_2, g12_19_0, g12_19_2, g12_15_0, g12_15_2, o0_len, o0_g4, o2_len, o2_g4, o0_g2, o2_g2, o0_g1, o2_g1, il_s, bl_s, bl_z, ll_s, is_s, bs_s, bs_z, ls_s, al_s, al_b, al_l, fr_ne, fr_same, fr_fr, Nat.reduceEqDiff, tc_gf3_s, tc_ql2_s, tc_ws_0, tc_ws_i, tc_ws_l, tc_ws_r, Nat.reduceLeDiff, Nat.reduceAdd, Nat.reduceLT, true_and, and_true, if_true, if_false, tc_K, Option.toList_some, Option.toList_none, List.nil_append, List.cons_append, ite_true, ite_false, Int.cast_ofNat_Int, reduceIte, i3_add_eq, i3_sub_eq, Int.add_sub_cancel, Int.add_neg_cancel_right, hO hLr hr, hOs hr, hB hL27 h27, h4, h46, h1, fu_same, fu_ne]) | (simp only [r45_4, r45_13, r45_20, r45_37, i6_lt0, i6_0lt, i6_0le, i6_le0, i6_eq0, b10_0, ite_not, Int.reduceLT, Int.reduceLE, Int.reduceEq, Int.reduceNeg, if_true, if_false, ite_true, ite_false, reduceIte, eq_self, not_true, not_false_eq_true]; try refine tc_ite (fun _ => ?_) (fun _ => ?_) <;> try (exfalso; omega)))
    all_goals first
      | exact hq
      | omega
theorem c45f_b (hr : sh 69 = (6, 0, [some 27, bs])) (h27 : sh 27 = (1, 400, [])) (hL : 115 ≤ L) (h4 : ¬ c 69 4 = 0) : tc_C 45 [rf 69] (hp L sh c) n Q = Q (some (.inl 0)) (hp L sh c) n := tc_det fun Q hq => by
  have hLr : 69 < L := by omega
  have hL27 : 27 < L := by omega
  show tc_W 45 0 [rf 69] [] _ _ Q
  repeat' (first | (simp (disch := first | omega | exact Nat.le_of_ble_eq_true rfl | exact rfl | assumption | (simp (disch := omega) only [fr_ne, fr_same]; first | assumption | omega)) only [r45_0, r45_1, r45_7, r45_8, r45_10, v45_10_0, v45_10_2, r45_16, r45_17, r45_23, r45_24, r45_27, r45_28h, r45_28f, r45_28t, r45_29, r45_30, r45_33, r45_34, r45_40, r45_41, r45_42, r45_45, r45_46, v45_46_0, v45_46_2, r45_49, r45_50h, r45_50f, r45_50t, g12_25_0, g12_25_2, g12_19_0, g12_19_2, g12_15_0, g12_15_2, o0_len, o0_g4, o2_len, o2_g4, o0_g2, o2_g2, o0_g1, o2_g1, il_s, bl_s, bl_z, ll_s, is_s, bs_s, bs_z, ls_s, al_s, al_b, al_l, fr_ne, fr_same, fr_fr, Nat.reduceEqDiff, tc_gf3_s, tc_ql2_s, tc_ws_0, tc_ws_i, tc_ws_l, tc_ws_r, Nat.reduceLeDiff, Nat.reduceAdd, Nat.reduceLT, true_and, and_true, if_true, if_false, tc_K, Option.toList_some, Option.toList_none, List.nil_append, List.cons_append, ite_true, ite_false, Int.cast_ofNat_Int, reduceIte, i3_add_eq, i3_sub_eq, Int.add_sub_cancel, Int.add_neg_cancel_right, hO hLr hr, hOs hr, hB hL27 h27]) | (simp only [r45_4, r45_13, r45_20, r45_37, i6_lt0, i6_0lt, i6_0le, i6_le0, i6_eq0, b10_0, ite_not, Int.reduceLT, Int.reduceLE, Int.reduceEq, Int.reduceNeg, if_true, if_false, ite_true, ite_false, reduceIte, eq_self, not_true, not_false_eq_true]; try refine tc_ite (fun _ => ?_) (fun _ => ?_) <;> try (exfalso; omega)))
  all_goals first
    | exact hq
    | omega
theorem c21_b (hr : sh 69 = (6, 0, [some 27, bs])) (h27 : sh 27 = (1, 400, [])) (hL : 115 ≤ L) {N p : Int} (hTP : TP (c 27) N) (h1 : c 69 1 = N) (h2 : c 69 2 = p) (hp0 : 0 ≤ p ∧ p ≤ 440) {w tl : Nat} (hw : w < L ∧ ¬ w = 69) (hsw : sh w = (9, tl, [])) (htl : tl ≤ 100) {wl : List Nat} (hwl : wlen wl = tl) (hW : WLS (c w) 0 wl) : tc_C 21 [rf 69, rf w] (hp L sh c) n Q = Q (some (.inl (rwd (c 27) N (sk (c 27) N p) (c w) 0 0 wl))) (hp L sh (fr c 69 (fu (c 69) 2 (if rwd (c 27) N (sk (c 27) N p) (c w) 0 0 wl = -1 then sk (c 27) N p else rn (c 27) N (sk (c 27) N p))))) n := tc_det fun Q hq => by
  have hLr : 69 < L := by omega
  have hL27 : 27 < L := by omega
  have hT1 := hTP.1
  have hsr := sk_rng (g := c 27) (n := N) (p := p)
  have h20 := fun Q => c20_b (c := c) (n := n) (Q := Q) hr h27 hL hTP h1 h2 (by omega)
  generalize sk (c 27) N p = p1 at hq hsr h20
  generalize hd : fr c 69 (fu (c 69) 2 p1) = d at h20
  have d27 : d 27 = c 27 := by rw [← hd, fr_ne (by omega)]
  have dw : d w = c w := by rw [← hd, fr_ne hw.2]
  have dr1 : d 69 1 = N := by rw [← hd, fr_same, fu_ne (by omega), h1]
  have dr2 : d 69 2 = p1 := by rw [← hd, fr_same, fu_same]
  have hTd : TP (d 27) N := by rw [d27]; exact hTP
  have fin : ∀ a4 a5 a6 a7 : AV, tc_W 21 45 [rf 69, rf w, .inl (rn (c 27) N p1), tc_nil, a4, a5, a6, a7] [] (hp L sh d) n Q := by
    intro a4 a5 a6 a7
    have h := fun a6 a7 => c21w_b (c := d) (n := n) (Q := Q) (R := rn (c 27) N p1) hr h27 hL hTd dr1 dr2 (by omega) (by rw [d27]) hw.1 hsw htl wl 0 0 a6 a7 (by omega) (by rw [hwl]; omega) (by omega) (by omega) (by rw [dw]; exact hW) (by
      rw [d27, dw, ← hd, fr_same, fr_fr, fu_fu]
      exact hq)
    repeat' (first | (simp (disch := first | omega | exact Nat.le_of_ble_eq_true rfl | exact rfl | assumption | (simp (disch := omega) only [fr_ne, fr_same]; first | assumption | omega)) only [r21_0, r21_1, v21_1_0, v21_1_2, r21_4, r21_5, r21_8r, r21_10, r21_11, r21_17, r21_18, r21_21, r21_22, r21_23, r21_28, r21_29, r21_32, r21_33, r21_34, r21_39r, r21_42, r21_45, r21_46i, r21_47, r21_48i, r21_50, r21_51i, r21_55, r21_56, r21_62, r21_63, r21_65, r21_68i, r21_70, r21_72, r21_77, r21_79, r21_83, r21_84, r21_85, r21_88, r21_90, r21_91, v21_91_0, v21_91_2, r21_94, r21_99, r21_100, r21_103, r21_104i, r21_106, r21_111, r21_113, r21_114, r21_115, r21_118, r21_119i, r21_121, r21_124, r21_126, r21_127, r21_128, r21_131, r21_135, r21_136, r21_137, r21_140, r21_141, r21_142i, r21_145, r21_146i, r21_148i, r21_151, r21_154, r21_155, g12_19_0, g12_19_2, g12_15_0, g12_15_2, g12_9_0, g12_9_2, p12_19_0, p12_19_2, o0_len, o0_g2, o2_len, o2_g2, o0_g1, o2_g1, o0_g0, o2_g0, o0_s2, o2_s2, il_s, bl_s, bl_z, ll_s, is_s, bs_s, bs_z, ls_s, al_s, al_b, al_l, fr_ne, fr_same, fr_fr, Nat.reduceEqDiff, tc_gf3_s, tc_ql2_s, tc_ws_0, tc_ws_i, tc_ws_l, tc_ws_r, Nat.reduceLeDiff, Nat.reduceAdd, Nat.reduceLT, true_and, and_true, if_true, if_false, tc_K, Option.toList_some, Option.toList_none, List.nil_append, List.cons_append, ite_true, ite_false, Int.cast_ofNat_Int, reduceIte, i3_add_eq, i3_sub_eq, Int.add_sub_cancel, Int.add_neg_cancel_right]) | (simp only [r21_14, r21_25, r21_36, r21_59, r21_74, r21_80, r21_96, r21_108, r21_132, i6_lt0, i6_0lt, i6_0le, i6_le0, i6_eq0, b10_0, ite_not, Int.reduceLT, Int.reduceLE, Int.reduceEq, Int.reduceNeg, if_true, if_false, ite_true, ite_false, reduceIte, eq_self, not_true, not_false_eq_true]; try refine tc_ite (fun _ => ?_) (fun _ => ?_) <;> try (exfalso; omega)))
    exact h _ _
  have key : ∀ (k : Nat) (q : Int), N - q ≤ k → 0 ≤ q → q ≤ 1000 → rn (c 27) N q = rn (c 27) N p1 → tc_W 21 9 [rf 69, rf w, .inl q, tc_nil, tc_nil, tc_nil, tc_nil, tc_nil] [] (hp L sh d) n Q := by
    intro k
    induction k with
    | zero =>
      intro q hk hq0 hq2 he
      have e := rn_e (g := c 27) (n := N) (p := q)
      rw [if_neg (fun h => by omega), he] at e
      rw [e] at fin
      simp only [r21_9]
      repeat' (first | (simp (disch := first | omega | exact Nat.le_of_ble_eq_true rfl | exact rfl | assumption | (simp (disch := omega) only [fr_ne, fr_same]; first | assumption | omega)) only [r21_0, r21_1, v21_1_0, v21_1_2, r21_4, r21_5, r21_8r, r21_10, r21_11, r21_17, r21_18, r21_21, r21_22, r21_23, r21_28, r21_29, r21_32, r21_33, r21_34, r21_39r, r21_42, r21_46i, r21_47, r21_48i, r21_50, r21_51i, r21_55, r21_56, r21_62, r21_63, r21_65, r21_68i, r21_70, r21_72, r21_77, r21_79, r21_83, r21_84, r21_85, r21_88, r21_90, r21_91, v21_91_0, v21_91_2, r21_94, r21_99, r21_100, r21_103, r21_104i, r21_106, r21_111, r21_113, r21_114, r21_115, r21_118, r21_119i, r21_121, r21_124, r21_126, r21_127, r21_128, r21_131, r21_135, r21_136, r21_137, r21_140, r21_141, r21_142i, r21_145, r21_146i, r21_148i, r21_151, r21_154, r21_155, g12_19_0, g12_19_2, g12_15_0, g12_15_2, g12_9_0, g12_9_2, p12_19_0, p12_19_2, o0_len, o0_g2, o2_len, o2_g2, o0_g1, o2_g1, o0_g0, o2_g0, o0_s2, o2_s2, il_s, bl_s, bl_z, ll_s, is_s, bs_s, bs_z, ls_s, al_s, al_b, al_l, fr_ne, fr_same, fr_fr, Nat.reduceEqDiff, tc_gf3_s, tc_ql2_s, tc_ws_0, tc_ws_i, tc_ws_l, tc_ws_r, Nat.reduceLeDiff, Nat.reduceAdd, Nat.reduceLT, true_and, and_true, if_true, if_false, tc_K, Option.toList_some, Option.toList_none, List.nil_append, List.cons_append, ite_true, ite_false, Int.cast_ofNat_Int, reduceIte, i3_add_eq, i3_sub_eq, Int.add_sub_cancel, Int.add_neg_cancel_right, hO hLr hr, hOs hr, hB hL27 h27, dr1]) | (simp only [r21_14, r21_25, r21_36, r21_59, r21_74, r21_80, r21_96, r21_108, r21_132, i6_lt0, i6_0lt, i6_0le, i6_le0, i6_eq0, b10_0, ite_not, Int.reduceLT, Int.reduceLE, Int.reduceEq, Int.reduceNeg, if_true, if_false, ite_true, ite_false, reduceIte, eq_self, not_true, not_false_eq_true]; try refine tc_ite (fun _ => ?_) (fun _ => ?_) <;> try (exfalso; omega)))
      all_goals first
        | exact fin _ _ _ _
        | omega
    | succ k ih =>
      intro q hk hq0 hq2 he
      have e := rn_e (g := c 27) (n := N) (p := q)
      simp only [r21_9]
      by_cases h : q < N ∧ 97 ≤ c 27 q ∧ c 27 q ≤ 122
      · rw [if_pos h, he] at e
        repeat' (first | (simp (disch := first | omega | exact Nat.le_of_ble_eq_true rfl | exact rfl | assumption | (simp (disch := omega) only [fr_ne, fr_same]; first | assumption | omega)) only [r21_0, r21_1, v21_1_0, v21_1_2, r21_4, r21_5, r21_8r, r21_10, r21_11, r21_17, r21_18, r21_21, r21_22, r21_23, r21_28, r21_29, r21_32, r21_33, r21_34, r21_39r, r21_42, r21_46i, r21_47, r21_48i, r21_50, r21_51i, r21_55, r21_56, r21_62, r21_63, r21_65, r21_68i, r21_70, r21_72, r21_77, r21_79, r21_83, r21_84, r21_85, r21_88, r21_90, r21_91, v21_91_0, v21_91_2, r21_94, r21_99, r21_100, r21_103, r21_104i, r21_106, r21_111, r21_113, r21_114, r21_115, r21_118, r21_119i, r21_121, r21_124, r21_126, r21_127, r21_128, r21_131, r21_135, r21_136, r21_137, r21_140, r21_141, r21_142i, r21_145, r21_146i, r21_148i, r21_151, r21_154, r21_155, g12_19_0, g12_19_2, g12_15_0, g12_15_2, g12_9_0, g12_9_2, p12_19_0, p12_19_2, o0_len, o0_g2, o2_len, o2_g2, o0_g1, o2_g1, o0_g0, o2_g0, o0_s2, o2_s2, il_s, bl_s, bl_z, ll_s, is_s, bs_s, bs_z, ls_s, al_s, al_b, al_l, fr_ne, fr_same, fr_fr, Nat.reduceEqDiff, tc_gf3_s, tc_ql2_s, tc_ws_0, tc_ws_i, tc_ws_l, tc_ws_r, Nat.reduceLeDiff, Nat.reduceAdd, Nat.reduceLT, true_and, and_true, if_true, if_false, tc_K, Option.toList_some, Option.toList_none, List.nil_append, List.cons_append, ite_true, ite_false, Int.cast_ofNat_Int, reduceIte, i3_add_eq, i3_sub_eq, Int.add_sub_cancel, Int.add_neg_cancel_right, hO hLr hr, hOs hr, hB hL27 h27, dr1, d27]) | (simp only [r21_14, r21_25, r21_36, r21_59, r21_74, r21_80, r21_96, r21_108, r21_132, i6_lt0, i6_0lt, i6_0le, i6_le0, i6_eq0, b10_0, ite_not, Int.reduceLT, Int.reduceLE, Int.reduceEq, Int.reduceNeg, if_true, if_false, ite_true, ite_false, reduceIte, eq_self, not_true, not_false_eq_true]; try refine tc_ite (fun _ => ?_) (fun _ => ?_) <;> try (exfalso; omega)))
        all_goals first
          | exact ih (q + 1) (by omega) (by omega) (by omega) e.symm
          | omega
      · rw [if_neg h, he] at e
        rw [e] at fin
        repeat' (first | (simp (disch := first | omega | exact Nat.le_of_ble_eq_true rfl | exact rfl | assumption | (simp (disch := omega) only [fr_ne, fr_same]; first | assumption | omega)) only [r21_0, r21_1, v21_1_0, v21_1_2, r21_4, r21_5, r21_8r, r21_10, r21_11, r21_17, r21_18, r21_21, r21_22, r21_23, r21_28, r21_29, r21_32, r21_33, r21_34, r21_39r, r21_42, r21_46i, r21_47, r21_48i, r21_50, r21_51i, r21_55, r21_56, r21_62, r21_63, r21_65, r21_68i, r21_70, r21_72, r21_77, r21_79, r21_83, r21_84, r21_85, r21_88, r21_90, r21_91, v21_91_0, v21_91_2, r21_94, r21_99, r21_100, r21_103, r21_104i, r21_106, r21_111, r21_113, r21_114, r21_115, r21_118, r21_119i, r21_121, r21_124, r21_126, r21_127, r21_128, r21_131, r21_135, r21_136, r21_137, r21_140, r21_141, r21_142i, r21_145, r21_146i, r21_148i, r21_151, r21_154, r21_155, g12_19_0, g12_19_2, g12_15_0, g12_15_2, g12_9_0, g12_9_2, p12_19_0, p12_19_2, o0_len, o0_g2, o2_len, o2_g2, o0_g1, o2_g1, o0_g0, o2_g0, o0_s2, o2_s2, il_s, bl_s, bl_z, ll_s, is_s, bs_s, bs_z, ls_s, al_s, al_b, al_l, fr_ne, fr_same, fr_fr, Nat.reduceEqDiff, tc_gf3_s, tc_ql2_s, tc_ws_0, tc_ws_i, tc_ws_l, tc_ws_r, Nat.reduceLeDiff, Nat.reduceAdd, Nat.reduceLT, true_and, and_true, if_true, if_false, tc_K, Option.toList_some, Option.toList_none, List.nil_append, List.cons_append, ite_true, ite_false, Int.cast_ofNat_Int, reduceIte, i3_add_eq, i3_sub_eq, Int.add_sub_cancel, Int.add_neg_cancel_right, hO hLr hr, hOs hr, hB hL27 h27, dr1, d27]) | (simp only [r21_14, r21_25, r21_36, r21_59, r21_74, r21_80, r21_96, r21_108, r21_132, i6_lt0, i6_0lt, i6_0le, i6_le0, i6_eq0, b10_0, ite_not, Int.reduceLT, Int.reduceLE, Int.reduceEq, Int.reduceNeg, if_true, if_false, ite_true, ite_false, reduceIte, eq_self, not_true, not_false_eq_true]; try refine tc_ite (fun _ => ?_) (fun _ => ?_) <;> try (exfalso; omega)))
        all_goals first
          | exact fin _ _ _ _
          | omega
  show tc_W 21 0 [rf 69, rf w, tc_nil, tc_nil, tc_nil, tc_nil, tc_nil, tc_nil] [] _ _ Q
  repeat' (first | (simp (disch := first | omega | exact Nat.le_of_ble_eq_true rfl | exact rfl | assumption | (simp (disch := omega) only [fr_ne, fr_same]; first | assumption | omega)) only [r21_0, r21_1, v21_1_0, v21_1_2, r21_4, r21_5, r21_8r, r21_10, r21_11, r21_17, r21_18, r21_21, r21_22, r21_23, r21_28, r21_29, r21_32, r21_33, r21_34, r21_39r, r21_42, r21_45, r21_46i, r21_47, r21_48i, r21_50, r21_51i, r21_55, r21_56, r21_62, r21_63, r21_65, r21_68i, r21_70, r21_72, r21_77, r21_79, r21_83, r21_84, r21_85, r21_88, r21_90, r21_91, v21_91_0, v21_91_2, r21_94, r21_99, r21_100, r21_103, r21_104i, r21_106, r21_111, r21_113, r21_114, r21_115, r21_118, r21_119i, r21_121, r21_124, r21_126, r21_127, r21_128, r21_131, r21_135, r21_136, r21_137, r21_140, r21_141, r21_142i, r21_145, r21_146i, r21_148i, r21_151, r21_154, r21_155, g12_19_0, g12_19_2, g12_15_0, g12_15_2, g12_9_0, g12_9_2, p12_19_0, p12_19_2, o0_len, o0_g2, o2_len, o2_g2, o0_g1, o2_g1, o0_g0, o2_g0, o0_s2, o2_s2, il_s, bl_s, bl_z, ll_s, is_s, bs_s, bs_z, ls_s, al_s, al_b, al_l, fr_ne, fr_same, fr_fr, Nat.reduceEqDiff, tc_gf3_s, tc_ql2_s, tc_ws_0, tc_ws_i, tc_ws_l, tc_ws_r, Nat.reduceLeDiff, Nat.reduceAdd, Nat.reduceLT, true_and, and_true, if_true, if_false, tc_K, Option.toList_some, Option.toList_none, List.nil_append, List.cons_append, ite_true, ite_false, Int.cast_ofNat_Int, reduceIte, i3_add_eq, i3_sub_eq, Int.add_sub_cancel, Int.add_neg_cancel_right, hO hLr hr, hOs hr, hB hL27 h27, h20, dr2]) | (simp only [r21_14, r21_25, r21_36, r21_59, r21_74, r21_80, r21_96, r21_108, r21_132, i6_lt0, i6_0lt, i6_0le, i6_le0, i6_eq0, b10_0, ite_not, Int.reduceLT, Int.reduceLE, Int.reduceEq, Int.reduceNeg, if_true, if_false, ite_true, ite_false, reduceIte, eq_self, not_true, not_false_eq_true]; try refine tc_ite (fun _ => ?_) (fun _ => ?_) <;> try (exfalso; omega)))
  exact key (N - p1).toNat p1 (by omega) (by omega) (by omega) rfl
end GOC_b
section GOC_l
variable {L : Nat} {sh : Nat → SH} {c : Nat → Int → Int} {n : Nat} {Q : Option AV → List SC → Nat → Prop} 
theorem c45_l (hr : sh 70 = (6, 2, [some 27, some 71, some 72, some 73])) (h27 : sh 27 = (1, 400, [])) (hL : 115 ≤ L) {N p : Int} (hTP : TP (c 27) N) (h1 : c 70 1 = N) (h2 : c 70 2 = p) (hp0 : 0 ≤ p ∧ p ≤ 450) (h4 : c 70 4 = 0) : tc_C 45 [rf 70] (hp L sh c) n Q = Q (some (.inl (gon (c 27) N (sk (c 27) N p)))) (hp L sh (fr c 70 (fu (fu (c 70) 4 (gof (c 27) N (sk (c 27) N p))) 2 (if gon (c 27) N (sk (c 27) N p) = 1 then sk (c 27) N p + 1 else sk (c 27) N p)))) n := tc_det fun Q hq => by
  have hLr : 70 < L := by omega
  have hL27 : 27 < L := by omega
  have hT1 := hTP.1
  have hsr := sk_rng (g := c 27) (n := N) (p := p)
  have h46 := fun Q => c46_l (c := c) (n := n) (Q := Q) (ch := 59) hr h27 hL hTP h1 h2 (by omega)
  generalize sk (c 27) N p = p1 at hq hsr h46
  have hby := byt_is (k := 59) hTP (by omega : 0 ≤ p1) (by omega)
  have h34 := fun Q => c34_l (c := fr c 70 (fu (c 70) 2 p1)) (n := n) (Q := Q) (a := p1) (k := 0) hr h27 hL (by omega) (by omega)
  simp (disch := omega) only [fr_same, fu_ne, fr_fr, h4, if_true, Int.add_zero] at h34
  have cm : ∀ f, fu (fu (c 70) 2 p1) 4 f = fu (fu (c 70) 4 f) 2 p1 := fun f => by
    funext j
    simp only [fu_at]
    repeat' split
    all_goals first
      | rfl
      | omega
  have id0 : fu (c 70) 4 0 = c 70 := fu_idv h4
  unfold gon gof at hq
  show tc_W 45 0 [rf 70] [] _ _ Q
  by_cases hn : p1 < N
  · by_cases h59 : c 27 p1 = 59
    · have hv := hby.mpr ⟨hn, h59⟩
      rw [if_pos ⟨hn, h59⟩, if_neg (fun h => h.2 h59), id0, if_pos rfl] at hq
      simp only [if_pos hv] at h46
      repeat' (first | (simp (disch := first | omega | exact Nat.le_of_ble_eq_true rfl | exact rfl | assumption | (simp (disch := omega) only [fr_ne, fr_same]; first | assumption | omega)) only [r45_0, r45_1, r45_7, r45_8, r45_10, v45_10_0, v45_10_2, r45_16, r45_17, r45_23, r45_24, r45_27, r45_28h, r45_28f, r45_28t, r45_29, r45_30, r45_33, r45_34, r45_40, r45_41, r45_42, r45_45, r45_46, v45_46_0, v45_46_2, r45_49, r45_50h, r45_50f, r45_50t, g12_25_0, g12_25_2, g12_19_0, g12_19_2, g12_15_0, g12_15_2, o0_len, o0_g4, o2_len, o2_g4, o0_g2, o2_g2, o0_g1, o2_g1, il_s, bl_s, bl_z, ll_s, is_s, bs_s, bs_z, ls_s, al_s, al_b, al_l, fr_ne, fr_same, fr_fr, Nat.reduceEqDiff, tc_gf3_s, tc_ql2_s, tc_ws_0, tc_ws_i, tc_ws_l, tc_ws_r, Nat.reduceLeDiff, Nat.reduceAdd, Nat.reduceLT, true_and, and_true, if_true, if_false, tc_K, Option.toList_some, Option.toList_none, List.nil_append, List.cons_append, ite_true, ite_false, Int.cast_ofNat_Int, reduceIte, i3_add_eq, i3_sub_eq, Int.add_sub_cancel, Int.add_neg_cancel_right, hO hLr hr, hOs hr, hB hL27 h27, h4, h46, h1, fu_same, fu_ne]) | (simp only [r45_4, r45_13, r45_20, r45_37, i6_lt0, i6_0lt, i6_0le, i6_le0, i6_eq0, b10_0, ite_not, Int.reduceLT, Int.reduceLE, Int.reduceEq, Int.reduceNeg, if_true, if_false, ite_true, ite_false, reduceIte, eq_self, not_true, not_false_eq_true]; try refine tc_ite (fun _ => ?_) (fun _ => ?_) <;> try (exfalso; omega)))
      all_goals first
        | exact hq
        | omega
    · have hv : ¬ byt (c 27) N p1 = 59 := fun h => h59 (hby.mp h).2
      rw [if_neg (fun h => h59 h.2), if_pos ⟨hn, h59⟩, if_neg (by omega)] at hq
      simp only [if_neg hv] at h46
      repeat' (first | (simp (disch := first | omega | exact Nat.le_of_ble_eq_true rfl | exact rfl | assumption | (simp (disch := omega) only [fr_ne, fr_same]; first | assumption | omega)) only [r45_0, r45_1, r45_7, r45_8, r45_10, v45_10_0, v45_10_2, r45_16, r45_17, r45_23, r45_24, r45_27, r45_28h, r45_28f, r45_28t, r45_29, r45_30, r45_33, r45_34, r45_40, r45_41, r45_42, r45_45, r45_46, v45_46_0, v45_46_2, r45_49, r45_50h, r45_50f, r45_50t, g12_25_0, g12_25_2, g12_19_0, g12_19_2, g12_15_0, g12_15_2, o0_len, o0_g4, o2_len, o2_g4, o0_g2, o2_g2, o0_g1, o2_g1, il_s, bl_s, bl_z, ll_s, is_s, bs_s, bs_z, ls_s, al_s, al_b, al_l, fr_ne, fr_same, fr_fr, Nat.reduceEqDiff, tc_gf3_s, tc_ql2_s, tc_ws_0, tc_ws_i, tc_ws_l, tc_ws_r, Nat.reduceLeDiff, Nat.reduceAdd, Nat.reduceLT, true_and, and_true, if_true, if_false, tc_K, Option.toList_some, Option.toList_none, List.nil_append, List.cons_append, ite_true, ite_false, Int.cast_ofNat_Int, reduceIte, i3_add_eq, i3_sub_eq, Int.add_sub_cancel, Int.add_neg_cancel_right, hO hLr hr, hOs hr, hB hL27 h27, h4, h46, h1, fu_same, fu_ne, h34, cm]) | (simp only [r45_4, r45_13, r45_20, r45_37, i6_lt0, i6_0lt, i6_0le, i6_le0, i6_eq0, b10_0, ite_not, Int.reduceLT, Int.reduceLE, Int.reduceEq, Int.reduceNeg, if_true, if_false, ite_true, ite_false, reduceIte, eq_self, not_true, not_false_eq_true]; try refine tc_ite (fun _ => ?_) (fun _ => ?_) <;> try (exfalso; omega)))
      all_goals first
        | exact hq
        | omega
  · have hv : ¬ byt (c 27) N p1 = 59 := fun h => hn (hby.mp h).1
    rw [if_neg (fun h => hn h.1), if_neg (fun h => hn h.1), id0, if_neg (by omega)] at hq
    simp only [if_neg hv] at h46
    repeat' (first | (simp (disch := first | omega | exact Nat.le_of_ble_eq_true rfl | exact rfl | assumption | (simp (disch := omega) only [fr_ne, fr_same]; first | assumption | omega)) only [r45_0, r45_1, r45_7, r45_8, r45_10, v45_10_0, v45_10_2, r45_16, r45_17, r45_23, r45_24, r45_27, r45_28h, r45_28f, r45_28t, r45_29, r45_30, r45_33, r45_34, r45_40, r45_41, r45_42, r45_45, r45_46, v45_46_0, v45_46_2, r45_49, r45_50h, r45_50f, r45_50t, g12_25_0, g12_25_2, g12_19_0, g12_19_2, g12_15_0, g12_15_2, o0_len, o0_g4, o2_len, o2_g4, o0_g2, o2_g2, o0_g1, o2_g1, il_s, bl_s, bl_z, ll_s, is_s, bs_s, bs_z, ls_s, al_s, al_b, al_l, fr_ne, fr_same, fr_fr, Nat.reduceEqDiff, tc_gf3_s, tc_ql2_s, tc_ws_0, tc_ws_i, tc_ws_l, tc_ws_r, Nat.reduceLeDiff, Nat.reduceAdd, Nat.reduceLT, true_and, and_true, if_true, if_false, tc_K, Option.toList_some, Option.toList_none, List.nil_append, List.cons_append, ite_true, ite_false, Int.cast_ofNat_Int, reduceIte, i3_add_eq, i3_sub_eq, Int.add_sub_cancel, Int.add_neg_cancel_right, hO hLr hr, hOs hr, hB hL27 h27, h4, h46, h1, fu_same, fu_ne]) | (simp only [r45_4, r45_13, r45_20, r45_37, i6_lt0, i6_0lt, i6_0le, i6_le0, i6_eq0, b10_0, ite_not, Int.reduceLT, Int.reduceLE, Int.reduceEq, Int.reduceNeg, if_true, if_false, ite_true, ite_false, reduceIte, eq_self, not_true, not_false_eq_true]; try refine tc_ite (fun _ => ?_) (fun _ => ?_) <;> try (exfalso; omega)))
    all_goals first
      | exact hq
      | omega
theorem c45f_l (hr : sh 70 = (6, 2, [some 27, some 71, some 72, some 73])) (h27 : sh 27 = (1, 400, [])) (hL : 115 ≤ L) (h4 : ¬ c 70 4 = 0) : tc_C 45 [rf 70] (hp L sh c) n Q = Q (some (.inl 0)) (hp L sh c) n := tc_det fun Q hq => by
  have hLr : 70 < L := by omega
  have hL27 : 27 < L := by omega
  show tc_W 45 0 [rf 70] [] _ _ Q
  repeat' (first | (simp (disch := first | omega | exact Nat.le_of_ble_eq_true rfl | exact rfl | assumption | (simp (disch := omega) only [fr_ne, fr_same]; first | assumption | omega)) only [r45_0, r45_1, r45_7, r45_8, r45_10, v45_10_0, v45_10_2, r45_16, r45_17, r45_23, r45_24, r45_27, r45_28h, r45_28f, r45_28t, r45_29, r45_30, r45_33, r45_34, r45_40, r45_41, r45_42, r45_45, r45_46, v45_46_0, v45_46_2, r45_49, r45_50h, r45_50f, r45_50t, g12_25_0, g12_25_2, g12_19_0, g12_19_2, g12_15_0, g12_15_2, o0_len, o0_g4, o2_len, o2_g4, o0_g2, o2_g2, o0_g1, o2_g1, il_s, bl_s, bl_z, ll_s, is_s, bs_s, bs_z, ls_s, al_s, al_b, al_l, fr_ne, fr_same, fr_fr, Nat.reduceEqDiff, tc_gf3_s, tc_ql2_s, tc_ws_0, tc_ws_i, tc_ws_l, tc_ws_r, Nat.reduceLeDiff, Nat.reduceAdd, Nat.reduceLT, true_and, and_true, if_true, if_false, tc_K, Option.toList_some, Option.toList_none, List.nil_append, List.cons_append, ite_true, ite_false, Int.cast_ofNat_Int, reduceIte, i3_add_eq, i3_sub_eq, Int.add_sub_cancel, Int.add_neg_cancel_right, hO hLr hr, hOs hr, hB hL27 h27]) | (simp only [r45_4, r45_13, r45_20, r45_37, i6_lt0, i6_0lt, i6_0le, i6_le0, i6_eq0, b10_0, ite_not, Int.reduceLT, Int.reduceLE, Int.reduceEq, Int.reduceNeg, if_true, if_false, ite_true, ite_false, reduceIte, eq_self, not_true, not_false_eq_true]; try refine tc_ite (fun _ => ?_) (fun _ => ?_) <;> try (exfalso; omega)))
  all_goals first
    | exact hq
    | omega
theorem c21_l (hr : sh 70 = (6, 2, [some 27, some 71, some 72, some 73])) (h27 : sh 27 = (1, 400, [])) (hL : 115 ≤ L) {N p : Int} (hTP : TP (c 27) N) (h1 : c 70 1 = N) (h2 : c 70 2 = p) (hp0 : 0 ≤ p ∧ p ≤ 440) {w tl : Nat} (hw : w < L ∧ ¬ w = 70) (hsw : sh w = (9, tl, [])) (htl : tl ≤ 100) {wl : List Nat} (hwl : wlen wl = tl) (hW : WLS (c w) 0 wl) : tc_C 21 [rf 70, rf w] (hp L sh c) n Q = Q (some (.inl (rwd (c 27) N (sk (c 27) N p) (c w) 0 0 wl))) (hp L sh (fr c 70 (fu (c 70) 2 (if rwd (c 27) N (sk (c 27) N p) (c w) 0 0 wl = -1 then sk (c 27) N p else rn (c 27) N (sk (c 27) N p))))) n := tc_det fun Q hq => by
  have hLr : 70 < L := by omega
  have hL27 : 27 < L := by omega
  have hT1 := hTP.1
  have hsr := sk_rng (g := c 27) (n := N) (p := p)
  have h20 := fun Q => c20_l (c := c) (n := n) (Q := Q) hr h27 hL hTP h1 h2 (by omega)
  generalize sk (c 27) N p = p1 at hq hsr h20
  generalize hd : fr c 70 (fu (c 70) 2 p1) = d at h20
  have d27 : d 27 = c 27 := by rw [← hd, fr_ne (by omega)]
  have dw : d w = c w := by rw [← hd, fr_ne hw.2]
  have dr1 : d 70 1 = N := by rw [← hd, fr_same, fu_ne (by omega), h1]
  have dr2 : d 70 2 = p1 := by rw [← hd, fr_same, fu_same]
  have hTd : TP (d 27) N := by rw [d27]; exact hTP
  have fin : ∀ a4 a5 a6 a7 : AV, tc_W 21 45 [rf 70, rf w, .inl (rn (c 27) N p1), tc_nil, a4, a5, a6, a7] [] (hp L sh d) n Q := by
    intro a4 a5 a6 a7
    have h := fun a6 a7 => c21w_l (c := d) (n := n) (Q := Q) (R := rn (c 27) N p1) hr h27 hL hTd dr1 dr2 (by omega) (by rw [d27]) hw.1 hsw htl wl 0 0 a6 a7 (by omega) (by rw [hwl]; omega) (by omega) (by omega) (by rw [dw]; exact hW) (by
      rw [d27, dw, ← hd, fr_same, fr_fr, fu_fu]
      exact hq)
    repeat' (first | (simp (disch := first | omega | exact Nat.le_of_ble_eq_true rfl | exact rfl | assumption | (simp (disch := omega) only [fr_ne, fr_same]; first | assumption | omega)) only [r21_0, r21_1, v21_1_0, v21_1_2, r21_4, r21_5, r21_8r, r21_10, r21_11, r21_17, r21_18, r21_21, r21_22, r21_23, r21_28, r21_29, r21_32, r21_33, r21_34, r21_39r, r21_42, r21_45, r21_46i, r21_47, r21_48i, r21_50, r21_51i, r21_55, r21_56, r21_62, r21_63, r21_65, r21_68i, r21_70, r21_72, r21_77, r21_79, r21_83, r21_84, r21_85, r21_88, r21_90, r21_91, v21_91_0, v21_91_2, r21_94, r21_99, r21_100, r21_103, r21_104i, r21_106, r21_111, r21_113, r21_114, r21_115, r21_118, r21_119i, r21_121, r21_124, r21_126, r21_127, r21_128, r21_131, r21_135, r21_136, r21_137, r21_140, r21_141, r21_142i, r21_145, r21_146i, r21_148i, r21_151, r21_154, r21_155, g12_19_0, g12_19_2, g12_15_0, g12_15_2, g12_9_0, g12_9_2, p12_19_0, p12_19_2, o0_len, o0_g2, o2_len, o2_g2, o0_g1, o2_g1, o0_g0, o2_g0, o0_s2, o2_s2, il_s, bl_s, bl_z, ll_s, is_s, bs_s, bs_z, ls_s, al_s, al_b, al_l, fr_ne, fr_same, fr_fr, Nat.reduceEqDiff, tc_gf3_s, tc_ql2_s, tc_ws_0, tc_ws_i, tc_ws_l, tc_ws_r, Nat.reduceLeDiff, Nat.reduceAdd, Nat.reduceLT, true_and, and_true, if_true, if_false, tc_K, Option.toList_some, Option.toList_none, List.nil_append, List.cons_append, ite_true, ite_false, Int.cast_ofNat_Int, reduceIte, i3_add_eq, i3_sub_eq, Int.add_sub_cancel, Int.add_neg_cancel_right]) | (simp only [r21_14, r21_25, r21_36, r21_59, r21_74, r21_80, r21_96, r21_108, r21_132, i6_lt0, i6_0lt, i6_0le, i6_le0, i6_eq0, b10_0, ite_not, Int.reduceLT, Int.reduceLE, Int.reduceEq, Int.reduceNeg, if_true, if_false, ite_true, ite_false, reduceIte, eq_self, not_true, not_false_eq_true]; try refine tc_ite (fun _ => ?_) (fun _ => ?_) <;> try (exfalso; omega)))
    exact h _ _
  have key : ∀ (k : Nat) (q : Int), N - q ≤ k → 0 ≤ q → q ≤ 1000 → rn (c 27) N q = rn (c 27) N p1 → tc_W 21 9 [rf 70, rf w, .inl q, tc_nil, tc_nil, tc_nil, tc_nil, tc_nil] [] (hp L sh d) n Q := by
    intro k
    induction k with
    | zero =>
      intro q hk hq0 hq2 he
      have e := rn_e (g := c 27) (n := N) (p := q)
      rw [if_neg (fun h => by omega), he] at e
      rw [e] at fin
      simp only [r21_9]
      repeat' (first | (simp (disch := first | omega | exact Nat.le_of_ble_eq_true rfl | exact rfl | assumption | (simp (disch := omega) only [fr_ne, fr_same]; first | assumption | omega)) only [r21_0, r21_1, v21_1_0, v21_1_2, r21_4, r21_5, r21_8r, r21_10, r21_11, r21_17, r21_18, r21_21, r21_22, r21_23, r21_28, r21_29, r21_32, r21_33, r21_34, r21_39r, r21_42, r21_46i, r21_47, r21_48i, r21_50, r21_51i, r21_55, r21_56, r21_62, r21_63, r21_65, r21_68i, r21_70, r21_72, r21_77, r21_79, r21_83, r21_84, r21_85, r21_88, r21_90, r21_91, v21_91_0, v21_91_2, r21_94, r21_99, r21_100, r21_103, r21_104i, r21_106, r21_111, r21_113, r21_114, r21_115, r21_118, r21_119i, r21_121, r21_124, r21_126, r21_127, r21_128, r21_131, r21_135, r21_136, r21_137, r21_140, r21_141, r21_142i, r21_145, r21_146i, r21_148i, r21_151, r21_154, r21_155, g12_19_0, g12_19_2, g12_15_0, g12_15_2, g12_9_0, g12_9_2, p12_19_0, p12_19_2, o0_len, o0_g2, o2_len, o2_g2, o0_g1, o2_g1, o0_g0, o2_g0, o0_s2, o2_s2, il_s, bl_s, bl_z, ll_s, is_s, bs_s, bs_z, ls_s, al_s, al_b, al_l, fr_ne, fr_same, fr_fr, Nat.reduceEqDiff, tc_gf3_s, tc_ql2_s, tc_ws_0, tc_ws_i, tc_ws_l, tc_ws_r, Nat.reduceLeDiff, Nat.reduceAdd, Nat.reduceLT, true_and, and_true, if_true, if_false, tc_K, Option.toList_some, Option.toList_none, List.nil_append, List.cons_append, ite_true, ite_false, Int.cast_ofNat_Int, reduceIte, i3_add_eq, i3_sub_eq, Int.add_sub_cancel, Int.add_neg_cancel_right, hO hLr hr, hOs hr, hB hL27 h27, dr1]) | (simp only [r21_14, r21_25, r21_36, r21_59, r21_74, r21_80, r21_96, r21_108, r21_132, i6_lt0, i6_0lt, i6_0le, i6_le0, i6_eq0, b10_0, ite_not, Int.reduceLT, Int.reduceLE, Int.reduceEq, Int.reduceNeg, if_true, if_false, ite_true, ite_false, reduceIte, eq_self, not_true, not_false_eq_true]; try refine tc_ite (fun _ => ?_) (fun _ => ?_) <;> try (exfalso; omega)))
      all_goals first
        | exact fin _ _ _ _
        | omega
    | succ k ih =>
      intro q hk hq0 hq2 he
      have e := rn_e (g := c 27) (n := N) (p := q)
      simp only [r21_9]
      by_cases h : q < N ∧ 97 ≤ c 27 q ∧ c 27 q ≤ 122
      · rw [if_pos h, he] at e
        repeat' (first | (simp (disch := first | omega | exact Nat.le_of_ble_eq_true rfl | exact rfl | assumption | (simp (disch := omega) only [fr_ne, fr_same]; first | assumption | omega)) only [r21_0, r21_1, v21_1_0, v21_1_2, r21_4, r21_5, r21_8r, r21_10, r21_11, r21_17, r21_18, r21_21, r21_22, r21_23, r21_28, r21_29, r21_32, r21_33, r21_34, r21_39r, r21_42, r21_46i, r21_47, r21_48i, r21_50, r21_51i, r21_55, r21_56, r21_62, r21_63, r21_65, r21_68i, r21_70, r21_72, r21_77, r21_79, r21_83, r21_84, r21_85, r21_88, r21_90, r21_91, v21_91_0, v21_91_2, r21_94, r21_99, r21_100, r21_103, r21_104i, r21_106, r21_111, r21_113, r21_114, r21_115, r21_118, r21_119i, r21_121, r21_124, r21_126, r21_127, r21_128, r21_131, r21_135, r21_136, r21_137, r21_140, r21_141, r21_142i, r21_145, r21_146i, r21_148i, r21_151, r21_154, r21_155, g12_19_0, g12_19_2, g12_15_0, g12_15_2, g12_9_0, g12_9_2, p12_19_0, p12_19_2, o0_len, o0_g2, o2_len, o2_g2, o0_g1, o2_g1, o0_g0, o2_g0, o0_s2, o2_s2, il_s, bl_s, bl_z, ll_s, is_s, bs_s, bs_z, ls_s, al_s, al_b, al_l, fr_ne, fr_same, fr_fr, Nat.reduceEqDiff, tc_gf3_s, tc_ql2_s, tc_ws_0, tc_ws_i, tc_ws_l, tc_ws_r, Nat.reduceLeDiff, Nat.reduceAdd, Nat.reduceLT, true_and, and_true, if_true, if_false, tc_K, Option.toList_some, Option.toList_none, List.nil_append, List.cons_append, ite_true, ite_false, Int.cast_ofNat_Int, reduceIte, i3_add_eq, i3_sub_eq, Int.add_sub_cancel, Int.add_neg_cancel_right, hO hLr hr, hOs hr, hB hL27 h27, dr1, d27]) | (simp only [r21_14, r21_25, r21_36, r21_59, r21_74, r21_80, r21_96, r21_108, r21_132, i6_lt0, i6_0lt, i6_0le, i6_le0, i6_eq0, b10_0, ite_not, Int.reduceLT, Int.reduceLE, Int.reduceEq, Int.reduceNeg, if_true, if_false, ite_true, ite_false, reduceIte, eq_self, not_true, not_false_eq_true]; try refine tc_ite (fun _ => ?_) (fun _ => ?_) <;> try (exfalso; omega)))
        all_goals first
          | exact ih (q + 1) (by omega) (by omega) (by omega) e.symm
          | omega
      · rw [if_neg h, he] at e
        rw [e] at fin
        repeat' (first | (simp (disch := first | omega | exact Nat.le_of_ble_eq_true rfl | exact rfl | assumption | (simp (disch := omega) only [fr_ne, fr_same]; first | assumption | omega)) only [r21_0, r21_1, v21_1_0, v21_1_2, r21_4, r21_5, r21_8r, r21_10, r21_11, r21_17, r21_18, r21_21, r21_22, r21_23, r21_28, r21_29, r21_32, r21_33, r21_34, r21_39r, r21_42, r21_46i, r21_47, r21_48i, r21_50, r21_51i, r21_55, r21_56, r21_62, r21_63, r21_65, r21_68i, r21_70, r21_72, r21_77, r21_79, r21_83, r21_84, r21_85, r21_88, r21_90, r21_91, v21_91_0, v21_91_2, r21_94, r21_99, r21_100, r21_103, r21_104i, r21_106, r21_111, r21_113, r21_114, r21_115, r21_118, r21_119i, r21_121, r21_124, r21_126, r21_127, r21_128, r21_131, r21_135, r21_136, r21_137, r21_140, r21_141, r21_142i, r21_145, r21_146i, r21_148i, r21_151, r21_154, r21_155, g12_19_0, g12_19_2, g12_15_0, g12_15_2, g12_9_0, g12_9_2, p12_19_0, p12_19_2, o0_len, o0_g2, o2_len, o2_g2, o0_g1, o2_g1, o0_g0, o2_g0, o0_s2, o2_s2, il_s, bl_s, bl_z, ll_s, is_s, bs_s, bs_z, ls_s, al_s, al_b, al_l, fr_ne, fr_same, fr_fr, Nat.reduceEqDiff, tc_gf3_s, tc_ql2_s, tc_ws_0, tc_ws_i, tc_ws_l, tc_ws_r, Nat.reduceLeDiff, Nat.reduceAdd, Nat.reduceLT, true_and, and_true, if_true, if_false, tc_K, Option.toList_some, Option.toList_none, List.nil_append, List.cons_append, ite_true, ite_false, Int.cast_ofNat_Int, reduceIte, i3_add_eq, i3_sub_eq, Int.add_sub_cancel, Int.add_neg_cancel_right, hO hLr hr, hOs hr, hB hL27 h27, dr1, d27]) | (simp only [r21_14, r21_25, r21_36, r21_59, r21_74, r21_80, r21_96, r21_108, r21_132, i6_lt0, i6_0lt, i6_0le, i6_le0, i6_eq0, b10_0, ite_not, Int.reduceLT, Int.reduceLE, Int.reduceEq, Int.reduceNeg, if_true, if_false, ite_true, ite_false, reduceIte, eq_self, not_true, not_false_eq_true]; try refine tc_ite (fun _ => ?_) (fun _ => ?_) <;> try (exfalso; omega)))
        all_goals first
          | exact fin _ _ _ _
          | omega
  show tc_W 21 0 [rf 70, rf w, tc_nil, tc_nil, tc_nil, tc_nil, tc_nil, tc_nil] [] _ _ Q
  repeat' (first | (simp (disch := first | omega | exact Nat.le_of_ble_eq_true rfl | exact rfl | assumption | (simp (disch := omega) only [fr_ne, fr_same]; first | assumption | omega)) only [r21_0, r21_1, v21_1_0, v21_1_2, r21_4, r21_5, r21_8r, r21_10, r21_11, r21_17, r21_18, r21_21, r21_22, r21_23, r21_28, r21_29, r21_32, r21_33, r21_34, r21_39r, r21_42, r21_45, r21_46i, r21_47, r21_48i, r21_50, r21_51i, r21_55, r21_56, r21_62, r21_63, r21_65, r21_68i, r21_70, r21_72, r21_77, r21_79, r21_83, r21_84, r21_85, r21_88, r21_90, r21_91, v21_91_0, v21_91_2, r21_94, r21_99, r21_100, r21_103, r21_104i, r21_106, r21_111, r21_113, r21_114, r21_115, r21_118, r21_119i, r21_121, r21_124, r21_126, r21_127, r21_128, r21_131, r21_135, r21_136, r21_137, r21_140, r21_141, r21_142i, r21_145, r21_146i, r21_148i, r21_151, r21_154, r21_155, g12_19_0, g12_19_2, g12_15_0, g12_15_2, g12_9_0, g12_9_2, p12_19_0, p12_19_2, o0_len, o0_g2, o2_len, o2_g2, o0_g1, o2_g1, o0_g0, o2_g0, o0_s2, o2_s2, il_s, bl_s, bl_z, ll_s, is_s, bs_s, bs_z, ls_s, al_s, al_b, al_l, fr_ne, fr_same, fr_fr, Nat.reduceEqDiff, tc_gf3_s, tc_ql2_s, tc_ws_0, tc_ws_i, tc_ws_l, tc_ws_r, Nat.reduceLeDiff, Nat.reduceAdd, Nat.reduceLT, true_and, and_true, if_true, if_false, tc_K, Option.toList_some, Option.toList_none, List.nil_append, List.cons_append, ite_true, ite_false, Int.cast_ofNat_Int, reduceIte, i3_add_eq, i3_sub_eq, Int.add_sub_cancel, Int.add_neg_cancel_right, hO hLr hr, hOs hr, hB hL27 h27, h20, dr2]) | (simp only [r21_14, r21_25, r21_36, r21_59, r21_74, r21_80, r21_96, r21_108, r21_132, i6_lt0, i6_0lt, i6_0le, i6_le0, i6_eq0, b10_0, ite_not, Int.reduceLT, Int.reduceLE, Int.reduceEq, Int.reduceNeg, if_true, if_false, ite_true, ite_false, reduceIte, eq_self, not_true, not_false_eq_true]; try refine tc_ite (fun _ => ?_) (fun _ => ?_) <;> try (exfalso; omega)))
  exact key (N - p1).toNat p1 (by omega) (by omega) (by omega) rfl
end GOC_l

/-! the class: what the sea faces now -/
section FSS
variable {L : Nat} {sh : Nat → SH} {a r s m1 m2 : Nat} {x : SH} {s1 l1 : Option Nat}
theorem SanS_fs (h : SanS L sh r) (ha : a < r ∨ r + 3 < a) : SanS L (fs sh a x) r := ⟨h.1, by rw [fs_ne (by omega)]; exact h.2.1, by rw [fs_ne (by omega)]; exact h.2.2.1, by rw [fs_ne (by omega)]; exact h.2.2.2.1, by rw [fs_ne (by omega)]; exact h.2.2.2.2⟩
theorem LogS_fs (h : LogS L sh r) (ha : a < r ∨ r + 3 < a) : LogS L (fs sh a x) r := ⟨h.1, by rw [fs_ne (by omega)]; exact h.2.1, by rw [fs_ne (by omega)]; exact h.2.2.1, by rw [fs_ne (by omega)]; exact h.2.2.2.1, by rw [fs_ne (by omega)]; exact h.2.2.2.2⟩
theorem LawS_fs (h : LawS L sh r m1 m2) (ha : a < r ∨ r + 2 < a) : LawS L (fs sh a x) r m1 m2 := ⟨h.1, by rw [fs_ne (by omega)]; exact h.2.1, by rw [fs_ne (by omega)]; exact h.2.2.1, by rw [fs_ne (by omega)]; exact h.2.2.2⟩
theorem ShoS_fs (h : ShoS L sh s) (ha : a < s ∨ s + 7 < a) : ShoS L (fs sh a x) s := ⟨h.1, by rw [fs_ne (by omega)]; exact h.2.1, by rw [fs_ne (by omega)]; exact h.2.2.1, by rw [fs_ne (by omega)]; exact h.2.2.2.1, by rw [fs_ne (by omega)]; exact h.2.2.2.2.1, by rw [fs_ne (by omega)]; exact h.2.2.2.2.2.1, by rw [fs_ne (by omega)]; exact h.2.2.2.2.2.2.1, by rw [fs_ne (by omega)]; exact h.2.2.2.2.2.2.2.1, by rw [fs_ne (by omega)]; exact h.2.2.2.2.2.2.2.2⟩
theorem SeaS_fs (h : SeaS L sh s1 l1) (ha : a < 49 ∨ 55 < a) : SeaS L (fs sh a x) s1 l1 := ⟨h.1, by rw [fs_ne (by omega)]; exact h.2.1, by rw [fs_ne (by omega)]; exact h.2.2.1, by rw [fs_ne (by omega)]; exact h.2.2.2.1, by rw [fs_ne (by omega)]; exact h.2.2.2.2.1, by rw [fs_ne (by omega)]; exact h.2.2.2.2.2.1, by rw [fs_ne (by omega)]; exact h.2.2.2.2.2.2.1, by rw [fs_ne (by omega)]; exact h.2.2.2.2.2.2.2⟩
/-- the sea with other things to face -/
def seaf (sh : Nat → SH) (s l : Option Nat) : Nat → SH := fs sh 49 (6, 7, [s, l, some 50, some 51, some 52, some 53, some 54, some 55])
theorem SeaS_new (h : SeaS L sh s1 l1) (s2 l2 : Option Nat) : SeaS L (seaf sh s2 l2) s2 l2 := by
  unfold seaf
  exact ⟨h.1, fs_same _ _ _, by rw [fs_ne (by omega)]; exact h.2.2.1, by rw [fs_ne (by omega)]; exact h.2.2.2.1, by rw [fs_ne (by omega)]; exact h.2.2.2.2.1, by rw [fs_ne (by omega)]; exact h.2.2.2.2.2.1, by rw [fs_ne (by omega)]; exact h.2.2.2.2.2.2.1, by rw [fs_ne (by omega)]; exact h.2.2.2.2.2.2.2⟩
theorem MS_fs (h : MS L sh) (ha : a < 75 ∨ 114 < a) : MS L (fs sh a x) := ⟨h.1, fun b b1 b2 => by rw [fs_ne (by omega)]; exact h.2 b b1 b2⟩
theorem fs_fs (sh : Nat → SH) (a : Nat) (x y : SH) : fs (fs sh a x) a y = fs sh a y := by
  funext b
  unfold fs
  split <;> rfl
end FSS
section SEAN
variable {L : Nat} {sh : Nat → SH} {c : Nat → Int → Int} {n : Nat} {Q : Option AV → List SC → Nat → Prop} {s : Nat} {s1 l1 : Option Nat} {b σ : Nat → Int → Int} {k : Prop}
theorem c74 (hE : SeaS L sh s1 l1) {s2 l2 : Option Nat} : tc_C 74 [rf 49, .inr (.inr (.inl s2)), .inr (.inr (.inl l2))] (hp L sh c) n Q = Q none (hp L (seaf sh s2 l2) c) n := tc_det fun Q hq => by
  have hL49 : 49 < L := by have := hE.1; omega
  have h49 := hE.2.1
  have h49' : fs sh 49 (6, 7, [s2, l1, some 50, some 51, some 52, some 53, some 54, some 55]) 49 = (6, 7, [s2, l1, some 50, some 51, some 52, some 53, some 54, some 55]) := fs_same _ _ _
  show tc_W 74 0 [rf 49, .inr (.inr (.inl s2)), .inr (.inr (.inl l2))] [] _ _ Q
  unfold seaf at hq
  repeat' (simp (disch := first | omega | exact Nat.le_of_ble_eq_true rfl | exact rfl | assumption | (simp (disch := omega) only [fr_ne, fr_same]; first | assumption | omega)) only [r74_0, r74_1, r74_2, r74_5, r74_6, r74_7, r74_10, p7_9_7, p7_15_7, o7_len, o7_s0, o7_s1, il_s, bl_s, bl_z, ll_s, is_s, bs_s, bs_z, ls_s, al_s, al_b, al_l, fr_ne, fr_same, fr_fr, Nat.reduceEqDiff, tc_gf3_s, tc_ql2_s, tc_ws_0, tc_ws_i, tc_ws_l, tc_ws_r, Nat.reduceLeDiff, Nat.reduceAdd, Nat.reduceLT, true_and, and_true, if_true, if_false, tc_K, Option.toList_some, Option.toList_none, List.nil_append, List.cons_append, ite_true, ite_false, Int.cast_ofNat_Int, reduceIte, i3_add_eq, i3_sub_eq, Int.add_sub_cancel, Int.add_neg_cancel_right, hO hL49 h49, hO hL49 h49', hOr, fr_id, fs_fs])
  exact hq
/-- the main object and the scene -/
def MO (sh : Nat → SH) (s : Nat) : Prop := sh 26 = (6, 10, [some 27, some 28, some 29, some 48, some 49, some 56, some 60, some 69, some 70, some 74]) ∧ sh 29 = (6, 6, [some s, some 38, some 42, some 44])
theorem c73 (hM : MO sh s) (hL : 115 ≤ L) {lw : List (Option Nat)} {ci : Nat} (h28 : sh 28 = (4, ci, lw)) {m f : Int} (hm : c 26 3 = m) (hml : m ≤ lw.length) {v : Option Nat} (hv : v = if 0 ≤ f ∧ f < m then (lw.getD f.toNat none) else none) : tc_C 73 [rf 26, .inl f] (hp L sh c) n Q = Q (some (.inr (.inr (.inl v)))) (hp L sh c) n := tc_det fun Q hq => by
  have hL26 : 26 < L := by omega
  have hL28 : 28 < L := by omega
  have h26 := hM.1
  show tc_W 73 0 [rf 26, .inl f] [] _ _ Q
  by_cases hf : 0 ≤ f ∧ f < m
  · rw [if_pos hf] at hv
    have hg : lw[f.toNat]? = some v := by
      rw [hv, List.getD_eq_getElem?_getD, List.getElem?_eq_getElem (by omega)]
      rfl
    repeat' (first | (simp (disch := first | omega | exact Nat.le_of_ble_eq_true rfl | exact rfl | assumption | (simp (disch := omega) only [fr_ne, fr_same]; first | assumption | omega)) only [r73_0, r73_4, r73_5, r73_6, r73_12, r73_13, r73_16, r73_17, r73_18, r73_21, r73_22, g10_23_10, g10_19_10, o10_len, o10_g3, o10_g2, il_s, bl_s, bl_z, ll_s, is_s, bs_s, bs_z, ls_s, al_s, al_b, al_l, fr_ne, fr_same, fr_fr, Nat.reduceEqDiff, tc_gf3_s, tc_ql2_s, tc_ws_0, tc_ws_i, tc_ws_l, tc_ws_r, Nat.reduceLeDiff, Nat.reduceAdd, Nat.reduceLT, true_and, and_true, if_true, if_false, tc_K, Option.toList_some, Option.toList_none, List.nil_append, List.cons_append, ite_true, ite_false, Int.cast_ofNat_Int, reduceIte, i3_add_eq, i3_sub_eq, Int.add_sub_cancel, Int.add_neg_cancel_right, hO hL26 h26, hQ hL28 h28, hm, tc_ql_s, hg]) | (simp only [r73_1, r73_9, i6_lt0, i6_0lt, i6_0le, i6_le0, i6_eq0, b10_0, ite_not, Int.reduceLT, Int.reduceLE, Int.reduceEq, Int.reduceNeg, if_true, if_false, ite_true, ite_false, reduceIte, eq_self, not_true, not_false_eq_true]; try refine tc_ite (fun _ => ?_) (fun _ => ?_) <;> try (exfalso; omega)))
    all_goals first
      | exact hq
      | omega
  · rw [if_neg hf] at hv
    subst hv
    repeat' (first | (simp (disch := first | omega | exact Nat.le_of_ble_eq_true rfl | exact rfl | assumption | (simp (disch := omega) only [fr_ne, fr_same]; first | assumption | omega)) only [r73_0, r73_4, r73_5, r73_6, r73_12, r73_13, r73_16, r73_17, r73_18, r73_21, r73_22, g10_23_10, g10_19_10, o10_len, o10_g3, o10_g2, il_s, bl_s, bl_z, ll_s, is_s, bs_s, bs_z, ls_s, al_s, al_b, al_l, fr_ne, fr_same, fr_fr, Nat.reduceEqDiff, tc_gf3_s, tc_ql2_s, tc_ws_0, tc_ws_i, tc_ws_l, tc_ws_r, Nat.reduceLeDiff, Nat.reduceAdd, Nat.reduceLT, true_and, and_true, if_true, if_false, tc_K, Option.toList_some, Option.toList_none, List.nil_append, List.cons_append, ite_true, ite_false, Int.cast_ofNat_Int, reduceIte, i3_add_eq, i3_sub_eq, Int.add_sub_cancel, Int.add_neg_cancel_right, hO hL26 h26, hQ hL28 h28, hm]) | (simp only [r73_1, r73_9, i6_lt0, i6_0lt, i6_0le, i6_le0, i6_eq0, b10_0, ite_not, Int.reduceLT, Int.reduceLE, Int.reduceEq, Int.reduceNeg, if_true, if_false, ite_true, ite_false, reduceIte, eq_self, not_true, not_false_eq_true]; try refine tc_ite (fun _ => ?_) (fun _ => ?_) <;> try (exfalso; omega)))
    all_goals first
      | exact hq
      | omega
theorem c72 (hM : MO sh s) (hE : SeaS L sh s1 l1) {lw : List (Option Nat)} {ci : Nat} (h28 : sh 28 = (4, ci, lw)) {m f : Int} (hm : c 26 3 = m) (hml : m ≤ lw.length) (hf : c 29 4 = f) {v : Option Nat} (hv : v = if 0 ≤ f ∧ f < m then (lw.getD f.toNat none) else none) : tc_C 72 [rf 26] (hp L sh c) n Q = Q (some (rf 49)) (hp L (seaf sh (some s) v) c) n := tc_det fun Q hq => by
  have hL := hE.1
  have hL26 : 26 < L := by omega
  have hL29 : 29 < L := by omega
  have hL49 : 49 < L := by omega
  obtain ⟨h26, h29⟩ := id hM
  have h73 := fun Q => c73 (c := c) (n := n) (Q := Q) hM hL h28 hm hml hv
  have h74 := fun Q => c74 (c := c) (n := n) (Q := Q) hE (s2 := some s) (l2 := v)
  have h26' : seaf sh (some s) v 26 = (6, 10, [some 27, some 28, some 29, some 48, some 49, some 56, some 60, some 69, some 70, some 74]) := by
    unfold seaf
    rw [fs_ne (by omega)]
    exact h26
  show tc_W 72 0 [rf 26] [] _ _ Q
  repeat' (simp (disch := first | omega | exact Nat.le_of_ble_eq_true rfl | exact rfl | assumption | (simp (disch := omega) only [fr_ne, fr_same]; first | assumption | omega)) only [r72_0, r72_1, r72_4, r72_5, r72_8, r72_11, r72_12, r72_13, r72_16, r72_19, v72_19_10, r72_22, v72_22_7, r72_25, r72_26, r72_29, g10_45_10, g10_34_10, g10_131_6, g10_102_6, o10_len, o10_g6, o10_g4, o6_len, o6_g0, o6_g4, il_s, bl_s, bl_z, ll_s, is_s, bs_s, bs_z, ls_s, al_s, al_b, al_l, fr_ne, fr_same, fr_fr, Nat.reduceEqDiff, tc_gf3_s, tc_ql2_s, tc_ws_0, tc_ws_i, tc_ws_l, tc_ws_r, Nat.reduceLeDiff, Nat.reduceAdd, Nat.reduceLT, true_and, and_true, if_true, if_false, tc_K, Option.toList_some, Option.toList_none, List.nil_append, List.cons_append, ite_true, ite_false, Int.cast_ofNat_Int, reduceIte, i3_add_eq, i3_sub_eq, Int.add_sub_cancel, Int.add_neg_cancel_right, hO hL26 h26, hO hL29 h29, hO hL49 hE.2.1, hf, h73, h74, hO hL26 h26'])
  exact hq
theorem c75 (hM : MO sh s) (hSh : ShoS L sh s) (h38 : SanS L sh 38) (hL : 115 ≤ L) (hb : WB b) (hB : SHO b s c) (hσ : SAN k b 38 c σ) (hw : WS b σ) : tc_C 75 [rf 26] (hp L sh c) n Q = Q (some (.inl (tof b (σ 4 0)))) (hp L sh c) n := tc_det fun Q hq => by
  have hL26 : 26 < L := by omega
  have hL29 : 29 < L := by omega
  obtain ⟨h26, h29⟩ := id hM
  have e6 : c 38 6 = σ 4 0 := hσ.2.2.2.2.2
  have h4 := hw.2.2.2
  have h76 := fun Q => c76b (c := c) (n := n) (Q := Q) hSh hb hB (w := σ 4 0) (by omega)
  show tc_W 75 0 [rf 26] [] _ _ Q
  repeat' (simp (disch := first | omega | exact Nat.le_of_ble_eq_true rfl | exact rfl | assumption | (simp (disch := omega) only [fr_ne, fr_same]; first | assumption | omega)) only [r75_0, r75_1, r75_4, r75_7, r75_8, r75_11, r75_14, r75_17, v75_17_8, r75_20, g10_34_10, g10_131_6, g10_109_6, g10_151_5, o10_len, o10_g4, o6_len, o6_g0, o6_g1, o5_len, o5_g6, il_s, bl_s, bl_z, ll_s, is_s, bs_s, bs_z, ls_s, al_s, al_b, al_l, fr_ne, fr_same, fr_fr, Nat.reduceEqDiff, tc_gf3_s, tc_ql2_s, tc_ws_0, tc_ws_i, tc_ws_l, tc_ws_r, Nat.reduceLeDiff, Nat.reduceAdd, Nat.reduceLT, true_and, and_true, if_true, if_false, tc_K, Option.toList_some, Option.toList_none, List.nil_append, List.cons_append, ite_true, ite_false, Int.cast_ofNat_Int, reduceIte, i3_add_eq, i3_sub_eq, Int.add_sub_cancel, Int.add_neg_cancel_right, hO hL26 h26, hO hL29 h29, SanS_g0 h38, SanS_s0 h38, SanS_g1 h38, SanS_s1 h38, SanS_g2 h38, SanS_s2 h38, SanS_g3 h38, SanS_s3 h38, ShoS_g0 hSh, ShoS_s0 hSh, ShoS_g1 hSh, ShoS_s1 hSh, ShoS_g2 hSh, ShoS_s2 hSh, ShoS_g3 hSh, ShoS_s3 hSh, ShoS_g4 hSh, ShoS_s4 hSh, ShoS_g5 hSh, ShoS_s5 hSh, ShoS_g6 hSh, ShoS_s6 hSh, ShoS_g7 hSh, ShoS_s7 hSh, e6, h76])
  exact hq
end SEAN

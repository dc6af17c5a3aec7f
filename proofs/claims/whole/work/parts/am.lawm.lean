/-! the reference: a rule read -/
theorem sg_app {u v : Int → Int} : ∀ (m : Nat) (a : Int), sg u v a (m + 1) = sg u v a m ++ [(u (a + m), v (a + m))] := by
  intro m
  induction m with
  | zero =>
    intro a
    show [(u a, v a)] = [(u (a + 0), v (a + 0))]
    rw [Int.add_zero]
  | succ m ih =>
    intro a
    show (u a, v a) :: sg u v (a + 1) (m + 1) = (u a, v a) :: (sg u v (a + 1) m ++ [(u (a + ((m + 1 : Nat) : Int)), v (a + ((m + 1 : Nat) : Int)))])
    rw [ih (a + 1), show a + ((m + 1 : Nat) : Int) = a + 1 + m by omega]
theorem sg_ex {u v u' v' : Int → Int} : ∀ (m : Nat) (a : Int), (∀ j, a ≤ j → j < a + m → u j = u' j ∧ v j = v' j) → sg u v a m = sg u' v' a m := by
  intro m
  induction m with
  | zero => intro a _; rfl
  | succ m ih =>
    intro a hh
    have h0 := hh a (by omega) (by omega)
    show (u a, v a) :: sg u v (a + 1) m = (u' a, v' a) :: sg u' v' (a + 1) m
    rw [h0.1, h0.2, ih (a + 1) fun j j1 j2 => hh j (by omega) (by omega)]
def MD (c : Nat → Int → Int) (g : Int → Int) (N p m s z : Int) (T : List Tk) : Prop := c 95 = g ∧ c 75 21 = N ∧ c 75 22 = p ∧ c 75 23 = 0 ∧ c 75 24 = s ∧ c 75 26 = z + T.length ∧ c 75 28 = m ∧ sg (c 96) (c 97) (300 * s + z) T.length = T
def MLQ (c e : Nat → Int → Int) (Z : Int) : Prop := (∀ a, ¬ a = 75 → ¬ a = 96 → ¬ a = 97 → e a = c a) ∧ (∀ i, i < Z → e 96 i = c 96 i ∧ e 97 i = c 97 i) ∧ ∀ i, ¬ i = 22 → ¬ i = 23 → ¬ i = 26 → ¬ i = 28 → e 75 i = c 75 i
def RN (e : Nat → Int → Int) (N K : Int) : Prop := (0 ≤ e 75 22 ∧ e 75 22 ≤ N) ∧ 0 ≤ e 75 28 ∧ e 75 28 ≤ K
theorem amf_dfl (g : Int → Int) (N p hi : Int) : amf g N p 0 hi = dfl g N p hi := by
  have hv := dgt_v g N p
  unfold amf dfl
  by_cases h1 : (dgt g N p).1 = p
  · rw [if_pos h1, if_pos h1]
  · rw [if_neg h1, if_neg h1]
    by_cases h2 : 5 < (dgt g N p).1 - p ∨ hi < (dgt g N p).2
    · rw [if_pos h2, if_pos (by omega)]
    · rw [if_neg h2, if_neg (by omega)]
def wcl (w : Int) : Nat := if w = 0 then 13 else if w = 1 then 14 else if w = 2 then 15 else if w = 3 then 16 else if w = 4 then 17 else if w = 5 then 10 else if w = 6 then 18 else if w = 7 then 19 else 20
section LAWM
variable {L : Nat} {sh : Nat → SH} {c : Nat → Int → Int} {n : Nat} {Q : Option AV → List SC → Nat → Prop} {g : Int → Int} {N p m s z f p' m' : Int} {T T' : List Tk}
theorem MLQ.refl {Z : Int} : MLQ c c Z := ⟨fun _ _ _ _ => rfl, fun _ _ => ⟨rfl, rfl⟩, fun _ _ _ _ _ => rfl⟩
theorem MLQ.trans {d e : Nat → Int → Int} {Z Z' : Int} (h : MLQ c d Z) (k : MLQ d e Z') (hZ : Z ≤ Z') : MLQ c e Z := ⟨fun a a1 a2 a3 => (k.1 a a1 a2 a3).trans (h.1 a a1 a2 a3), fun i i1 => ⟨((k.2.1 i (by omega)).1).trans (h.2.1 i i1).1, ((k.2.1 i (by omega)).2).trans (h.2.1 i i1).2⟩, fun i i1 i2 i3 i4 => (k.2.2 i i1 i2 i3 i4).trans (h.2.2 i i1 i2 i3 i4)⟩
theorem MLQ.of75 {e : Nat → Int → Int} {Z : Int} (h : ∀ a, ¬ a = 75 → e a = c a) (h1 : ∀ i, ¬ i = 22 → ¬ i = 23 → ¬ i = 26 → ¬ i = 28 → e 75 i = c 75 i) : MLQ c e Z := ⟨fun a a1 _ _ => h a a1, fun i _ => ⟨by rw [h 96 (by omega)], by rw [h 97 (by omega)]⟩, h1⟩
theorem m193 (hS : MS L sh) {q : Int} (hq0 : 0 ≤ q ∧ q ≤ 1000) (h28 : c 75 28 = m) (hm : 0 ≤ m ∧ m ≤ 100) : tc_C 193 [rf 75, .inl q] (hp L sh c) n Q = Q none (hp L sh (if m = 60 then fr c 75 (fu (fu (c 75) 23 (if c 75 23 = 0 then 1 + 8 * q + 3 else c 75 23)) 28 (m + 1)) else fr c 75 (fu (c 75) 28 (m + 1)))) n := tc_det fun Q hq => by
  have h175 := fun Q => c175 (c := c) (n := n) (Q := Q) (k := 3) (p := q) hS (by omega) (by omega)
  show tc_W 193 0 [rf 75, .inl q] [] _ _ Q
  by_cases h : m = 60
  · rw [if_pos h] at hq
    repeat' (first | (simp (disch := first | omega | exact Nat.le_of_ble_eq_true rfl | exact rfl | assumption | (simp only [fr_at, Nat.reduceEqDiff, if_false, if_true, reduceIte]; first | assumption | omega)) only [r193_0, r193_1, r193_4, r193_9, r193_10, r193_11, r193_12, v193_12_11, r193_15, r193_16, r193_16A, r193_17, r193_20, r193_21, r193_22, r193_25, g11_206_11, p11_206_11, mo_len, ms75 hS, mt75 hS, mo_g28, mo_s28, il_s, bl_s, bl_z, ll_s, is_s, bs_s, bs_z, ls_s, al_s, al_b, al_l, fr_at, fr_fr, Nat.reduceEqDiff, tc_gf3_s, tc_ql2_s, tc_ws_0, tc_ws_i, tc_ws_l, tc_ws_r, Nat.reduceLeDiff, Nat.reduceAdd, Nat.reduceLT, true_and, and_true, if_true, if_false, tc_K, Option.toList_some, Option.toList_none, List.nil_append, List.cons_append, ite_true, ite_false, Int.cast_ofNat_Int, reduceIte, i3_add_eq, i3_sub_eq, Int.add_sub_cancel, Int.add_neg_cancel_right, h28, h175, fu_ne]) | (simp only [r193_6, i6_lt0, i6_0lt, i6_0le, i6_le0, i6_eq0, b10_0, ite_not, Int.reduceLT, Int.reduceLE, Int.reduceEq, Int.reduceNeg, if_true, if_false, ite_true, ite_false, reduceIte, eq_self, not_true, not_false_eq_true]; try refine tc_ite (fun _ => ?_) (fun _ => ?_) <;> try (exfalso; omega)))
    all_goals first
      | exact hq
      | omega
  · rw [if_neg h] at hq
    repeat' (first | (simp (disch := first | omega | exact Nat.le_of_ble_eq_true rfl | exact rfl | assumption | (simp only [fr_at, Nat.reduceEqDiff, if_false, if_true, reduceIte]; first | assumption | omega)) only [r193_0, r193_1, r193_4, r193_9, r193_10, r193_11, r193_12, v193_12_11, r193_15, r193_16, r193_16A, r193_17, r193_20, r193_21, r193_22, r193_25, g11_206_11, p11_206_11, mo_len, ms75 hS, mt75 hS, mo_g28, mo_s28, il_s, bl_s, bl_z, ll_s, is_s, bs_s, bs_z, ls_s, al_s, al_b, al_l, fr_at, fr_fr, Nat.reduceEqDiff, tc_gf3_s, tc_ql2_s, tc_ws_0, tc_ws_i, tc_ws_l, tc_ws_r, Nat.reduceLeDiff, Nat.reduceAdd, Nat.reduceLT, true_and, and_true, if_true, if_false, tc_K, Option.toList_some, Option.toList_none, List.nil_append, List.cons_append, ite_true, ite_false, Int.cast_ofNat_Int, reduceIte, i3_add_eq, i3_sub_eq, Int.add_sub_cancel, Int.add_neg_cancel_right, h28]) | (simp only [r193_6, i6_lt0, i6_0lt, i6_0le, i6_le0, i6_eq0, b10_0, ite_not, Int.reduceLT, Int.reduceLE, Int.reduceEq, Int.reduceNeg, if_true, if_false, ite_true, ite_false, reduceIte, eq_self, not_true, not_false_eq_true]; try refine tc_ite (fun _ => ?_) (fun _ => ?_) <;> try (exfalso; omega)))
    all_goals first
      | exact hq
      | omega
theorem m194 (hS : MS L sh) {Z k v : Int} (h23 : c 75 23 = 0) (h24 : c 75 24 = s) (h26 : c 75 26 = Z) (hs : 0 ≤ s ∧ s ≤ 5) (hZ : 0 ≤ Z ∧ Z < 300) : tc_C 194 [rf 75, .inl k, .inl v] (hp L sh c) n Q = Q none (hp L sh (fr (fr (fr c 96 (fu (c 96) (300 * s + Z) k)) 97 (fu (c 97) (300 * s + Z) v)) 75 (fu (c 75) 26 (Z + 1)))) n := tc_det fun Q hq => by
  show tc_W 194 0 [rf 75, .inl k, .inl v] [] _ _ Q
  repeat' (first | (simp (disch := first | omega | exact Nat.le_of_ble_eq_true rfl | exact rfl | assumption | (simp only [fr_at, Nat.reduceEqDiff, if_false, if_true, reduceIte]; first | assumption | omega)) only [r194_0, r194_1, r194_7, r194_8, r194_11, r194_14, r194_15, r194_18, r194_19, r194_20, r194_23, r194_24, r194_25, r194_26, r194_27, r194_30, r194_33, r194_34, r194_37, r194_38, r194_39, r194_42, r194_43, r194_44, r194_45, r194_46, r194_46A, r194_47, r194_50, r194_51, r194_52, r194_55, g11_171_11, g11_75_11, g11_200_11, g11_203_11, g11_78_11, p11_203_11, mo_len, ms75 hS, mt75 hS, mo_g23, mo_g32, ms96 hS, mt96 hS, mo_g24, mo_g26, mo_g33, ms97 hS, mt97 hS, mo_s26, il_s, bl_s, bl_z, ll_s, is_s, bs_s, bs_z, ls_s, al_s, al_b, al_l, fr_at, fr_fr, Nat.reduceEqDiff, tc_gf3_s, tc_ql2_s, tc_ws_0, tc_ws_i, tc_ws_l, tc_ws_r, Nat.reduceLeDiff, Nat.reduceAdd, Nat.reduceLT, true_and, and_true, if_true, if_false, tc_K, Option.toList_some, Option.toList_none, List.nil_append, List.cons_append, ite_true, ite_false, Int.cast_ofNat_Int, reduceIte, i3_add_eq, i3_sub_eq, Int.add_sub_cancel, Int.add_neg_cancel_right, h23, h24, h26, i3_mul_eq]) | (simp only [r194_4, i6_lt0, i6_0lt, i6_0le, i6_le0, i6_eq0, b10_0, ite_not, Int.reduceLT, Int.reduceLE, Int.reduceEq, Int.reduceNeg, if_true, if_false, ite_true, ite_false, reduceIte, eq_self, not_true, not_false_eq_true]; try refine tc_ite (fun _ => ?_) (fun _ => ?_) <;> try (exfalso; omega)))
  all_goals first
    | exact hq
    | omega
theorem m194f (hS : MS L sh) {F k v : Int} (h23 : c 75 23 = F) (hF : ¬ F = 0) : tc_C 194 [rf 75, .inl k, .inl v] (hp L sh c) n Q = Q none (hp L sh c) n := tc_det fun Q hq => by
  show tc_W 194 0 [rf 75, .inl k, .inl v] [] _ _ Q
  repeat' (first | (simp (disch := first | omega | exact Nat.le_of_ble_eq_true rfl | exact rfl | assumption | (simp only [fr_at, Nat.reduceEqDiff, if_false, if_true, reduceIte]; first | assumption | omega)) only [r194_0, r194_1, r194_7, r194_8, r194_11, r194_14, r194_15, r194_18, r194_19, r194_20, r194_23, r194_24, r194_25, r194_26, r194_27, r194_30, r194_33, r194_34, r194_37, r194_38, r194_39, r194_42, r194_43, r194_44, r194_45, r194_46, r194_46A, r194_47, r194_50, r194_51, r194_52, r194_55, g11_171_11, g11_75_11, g11_200_11, g11_203_11, g11_78_11, p11_203_11, mo_len, ms75 hS, mt75 hS, mo_g23, mo_g32, ms96 hS, mt96 hS, mo_g24, mo_g26, mo_g33, ms97 hS, mt97 hS, mo_s26, il_s, bl_s, bl_z, ll_s, is_s, bs_s, bs_z, ls_s, al_s, al_b, al_l, fr_at, fr_fr, Nat.reduceEqDiff, tc_gf3_s, tc_ql2_s, tc_ws_0, tc_ws_i, tc_ws_l, tc_ws_r, Nat.reduceLeDiff, Nat.reduceAdd, Nat.reduceLT, true_and, and_true, if_true, if_false, tc_K, Option.toList_some, Option.toList_none, List.nil_append, List.cons_append, ite_true, ite_false, Int.cast_ofNat_Int, reduceIte, i3_add_eq, i3_sub_eq, Int.add_sub_cancel, Int.add_neg_cancel_right, h23]) | (simp only [r194_4, i6_lt0, i6_0lt, i6_0le, i6_le0, i6_eq0, b10_0, ite_not, Int.reduceLT, Int.reduceLE, Int.reduceEq, Int.reduceNeg, if_true, if_false, ite_true, ite_false, reduceIte, eq_self, not_true, not_false_eq_true]; try refine tc_ite (fun _ => ?_) (fun _ => ?_) <;> try (exfalso; omega)))
  all_goals first
    | exact hq
    | omega
theorem MD.push (h : MD c g N p m s z T) {k v : Int} (hz : 0 ≤ z) : MD (fr (fr (fr c 96 (fu (c 96) (300 * s + (z + T.length)) k)) 97 (fu (c 97) (300 * s + (z + T.length)) v)) 75 (fu (c 75) 26 (z + T.length + 1))) g N p m s z (T ++ [(k, v)]) ∧ MLQ c (fr (fr (fr c 96 (fu (c 96) (300 * s + (z + T.length)) k)) 97 (fu (c 97) (300 * s + (z + T.length)) v)) 75 (fu (c 75) 26 (z + T.length + 1))) (300 * s + (z + T.length)) := by
  obtain ⟨h1, h2, h3, h4, h5, h6, h7, h8⟩ := h
  refine ⟨⟨h1, ?_, ?_, ?_, ?_, ?_, ?_, ?_⟩, ⟨fun a a1 a2 a3 => ?_, fun i hi => ⟨?_, ?_⟩, fun i i1 i2 i3 i4 => ?_⟩⟩
  · rw [fr_same, fu_ne (by omega)]
    exact h2
  · rw [fr_same, fu_ne (by omega)]
    exact h3
  · rw [fr_same, fu_ne (by omega)]
    exact h4
  · rw [fr_same, fu_ne (by omega)]
    exact h5
  · rw [fr_same, fu_same, len_app]
    omega
  · rw [fr_same, fu_ne (by omega)]
    exact h7
  · rw [fr_ne (show ¬ 96 = 75 by omega), fr_ne (show ¬ 96 = 97 by omega), fr_same, fr_ne (show ¬ 97 = 75 by omega), fr_same, List.length_append, show T.length + [(k, v)].length = T.length + 1 from rfl, sg_app, show 300 * s + z + (T.length : Int) = 300 * s + (z + T.length) by omega, fu_same, fu_same, sg_ex (u' := c 96) (v' := c 97) _ _ fun j j1 j2 => ⟨fu_ne (by omega), fu_ne (by omega)⟩, h8]
  · rw [fr_ne a1, fr_ne a3, fr_ne a2]
  · rw [fr_ne (by omega), fr_ne (by omega), fr_same, fu_ne (by omega)]
  · rw [fr_ne (by omega), fr_same, fu_ne (by omega)]
  · rw [fr_same, fu_ne i3]
theorem m195 {h : List SC} {w : Int} (hw : 0 ≤ w ∧ w ≤ 8) : tc_C 195 [.inl w] h n Q = Q (some (rf (wcl w))) h n := tc_det fun Q hq => by
  show tc_W 195 0 [.inl w] [] _ _ Q
  rcases (by omega : w = 0 ∨ w = 1 ∨ w = 2 ∨ w = 3 ∨ w = 4 ∨ w = 5 ∨ w = 6 ∨ w = 7 ∨ w = 8) with rfl | rfl | rfl | rfl | rfl | rfl | rfl | rfl | rfl
  all_goals
    repeat' (simp (disch := first | omega | exact Nat.le_of_ble_eq_true rfl | exact rfl | assumption | (simp only [fr_at, Nat.reduceEqDiff, if_false, if_true, reduceIte]; first | assumption | omega)) only [r195_0, r195_1_0, r195_1_1, r195_1_2, r195_1_3, r195_1_4, r195_1_5, r195_1_6, r195_1_7, r195_1_d, r195_48, r195_50, r195_51, r195_53, r195_54, r195_56, r195_57, r195_59, r195_60, r195_62, r195_63, r195_65, r195_66, r195_68, r195_69, r195_71, r195_72, r195_74, il_s, bl_s, bl_z, ll_s, is_s, bs_s, bs_z, ls_s, al_s, al_b, al_l, fr_at, fr_fr, Nat.reduceEqDiff, tc_gf3_s, tc_ql2_s, tc_ws_0, tc_ws_i, tc_ws_l, tc_ws_r, Nat.reduceLeDiff, Nat.reduceAdd, Nat.reduceLT, true_and, and_true, if_true, if_false, tc_K, Option.toList_some, Option.toList_none, List.nil_append, List.cons_append, ite_true, ite_false, Int.cast_ofNat_Int, reduceIte, i3_add_eq, i3_sub_eq, Int.add_sub_cancel, Int.add_neg_cancel_right])
    exact hq
theorem wcl_len {w : Int} (hw : 0 ≤ w ∧ w ≤ 8) : wcl w < 25 ∧ (((tc_chs.getD (wcl w) []).length : Nat) : Int) = wl9 w := by
  rcases (by omega : w = 0 ∨ w = 1 ∨ w = 2 ∨ w = 3 ∨ w = 4 ∨ w = 5 ∨ w = 6 ∨ w = 7 ∨ w = 8) with rfl | rfl | rfl | rfl | rfl | rfl | rfl | rfl | rfl <;> exact ⟨by decide, rfl⟩
/-- which word stands -/
theorem wd9_st {w : Int} {q : Int} (hw : 0 ≤ w ∧ w ≤ 8) : (wd9 g N q = w ∨ ¬ wd9 g N q = w) ∧ ((∀ v, 0 ≤ v → v < w → ¬ stq g N q (chs (wcl v)) (tc_chs.getD (wcl v) []).length = 1) → stq g N q (chs (wcl w)) (tc_chs.getD (wcl w) []).length = 1 → wd9 g N q = w) := by
  refine ⟨Decidable.em _, fun h1 h2 => ?_⟩
  rw [wd9_stq]
  have n0 : 0 < w → ¬ stq g N q (chs 13) 4 = 1 := fun x => h1 0 (by omega) x
  have n1 : 1 < w → ¬ stq g N q (chs 14) 6 = 1 := fun x => h1 1 (by omega) x
  have n2 : 2 < w → ¬ stq g N q (chs 15) 8 = 1 := fun x => h1 2 (by omega) x
  have n3 : 3 < w → ¬ stq g N q (chs 16) 3 = 1 := fun x => h1 3 (by omega) x
  have n4 : 4 < w → ¬ stq g N q (chs 17) 5 = 1 := fun x => h1 4 (by omega) x
  have n5 : 5 < w → ¬ stq g N q (chs 10) 4 = 1 := fun x => h1 5 (by omega) x
  have n6 : 6 < w → ¬ stq g N q (chs 18) 5 = 1 := fun x => h1 6 (by omega) x
  have n7 : 7 < w → ¬ stq g N q (chs 19) 3 = 1 := fun x => h1 7 (by omega) x
  rcases (by omega : w = 0 ∨ w = 1 ∨ w = 2 ∨ w = 3 ∨ w = 4 ∨ w = 5 ∨ w = 6 ∨ w = 7 ∨ w = 8) with rfl | rfl | rfl | rfl | rfl | rfl | rfl | rfl | rfl
  · rw [if_pos (show stq g N q (chs 13) 4 = 1 from h2)]
  · rw [if_neg (n0 (by omega)), if_pos (show stq g N q (chs 14) 6 = 1 from h2)]
  · rw [if_neg (n0 (by omega)), if_neg (n1 (by omega)), if_pos (show stq g N q (chs 15) 8 = 1 from h2)]
  · rw [if_neg (n0 (by omega)), if_neg (n1 (by omega)), if_neg (n2 (by omega)), if_pos (show stq g N q (chs 16) 3 = 1 from h2)]
  · rw [if_neg (n0 (by omega)), if_neg (n1 (by omega)), if_neg (n2 (by omega)), if_neg (n3 (by omega)), if_pos (show stq g N q (chs 17) 5 = 1 from h2)]
  · rw [if_neg (n0 (by omega)), if_neg (n1 (by omega)), if_neg (n2 (by omega)), if_neg (n3 (by omega)), if_neg (n4 (by omega)), if_pos (show stq g N q (chs 10) 4 = 1 from h2)]
  · rw [if_neg (n0 (by omega)), if_neg (n1 (by omega)), if_neg (n2 (by omega)), if_neg (n3 (by omega)), if_neg (n4 (by omega)), if_neg (n5 (by omega)), if_pos (show stq g N q (chs 18) 5 = 1 from h2)]
  · rw [if_neg (n0 (by omega)), if_neg (n1 (by omega)), if_neg (n2 (by omega)), if_neg (n3 (by omega)), if_neg (n4 (by omega)), if_neg (n5 (by omega)), if_neg (n6 (by omega)), if_pos (show stq g N q (chs 19) 3 = 1 from h2)]
  · rw [if_neg (n0 (by omega)), if_neg (n1 (by omega)), if_neg (n2 (by omega)), if_neg (n3 (by omega)), if_neg (n4 (by omega)), if_neg (n5 (by omega)), if_neg (n6 (by omega)), if_neg (n7 (by omega)), if_pos (show stq g N q (chs 20) 4 = 1 from h2)]
theorem wd9_no {q : Int} (h : ∀ v, 0 ≤ v → v < 9 → ¬ stq g N q (chs (wcl v)) (tc_chs.getD (wcl v) []).length = 1) : wd9 g N q = -1 := by
  rw [wd9_stq]
  have n0 : ¬ stq g N q (chs 13) 4 = 1 := h 0 (by omega) (by omega)
  have n1 : ¬ stq g N q (chs 14) 6 = 1 := h 1 (by omega) (by omega)
  have n2 : ¬ stq g N q (chs 15) 8 = 1 := h 2 (by omega) (by omega)
  have n3 : ¬ stq g N q (chs 16) 3 = 1 := h 3 (by omega) (by omega)
  have n4 : ¬ stq g N q (chs 17) 5 = 1 := h 4 (by omega) (by omega)
  have n5 : ¬ stq g N q (chs 10) 4 = 1 := h 5 (by omega) (by omega)
  have n6 : ¬ stq g N q (chs 18) 5 = 1 := h 6 (by omega) (by omega)
  have n7 : ¬ stq g N q (chs 19) 3 = 1 := h 7 (by omega) (by omega)
  have n8 : ¬ stq g N q (chs 20) 4 = 1 := h 8 (by omega) (by omega)
  rw [if_neg n0, if_neg n1, if_neg n2, if_neg n3, if_neg n4, if_neg n5, if_neg n6, if_neg n7, if_neg n8]
end LAWM

/-! the reference: TIDES -/
theorem i6_mul_eq {a b : Int} (h1 : -9223372036854775808 ≤ a * b) (h2 : a * b < 9223372036854775808) : i6_mul a b = a * b := by
  unfold i6_mul
  rw [show tc_6 a * tc_6 b = tc_6 (a * b) from (Int64.ofInt_mul a b).symm, tc_6_to ⟨h1, h2⟩]
theorem i6_add_eq {a b : Int} (h1 : -9223372036854775808 ≤ a + b) (h2 : a + b < 9223372036854775808) : i6_add a b = a + b := by
  unfold i6_add
  rw [show tc_6 a + tc_6 b = tc_6 (a + b) from (Int64.ofInt_add a b).symm, tc_6_to ⟨h1, h2⟩]
theorem i6_i_nn {a : Int} (h1 : -2147483648 ≤ a) (h2 : a < 2147483648) : i6_i a = a := by
  unfold i6_i
  rw [show (tc_6 a).toInt32 = tc_3 a from Int64.toInt32_ofInt, tc_3_to ⟨h1, h2⟩]
theorem i6_rem_nn {a b : Int} (ha : 0 ≤ a) (ha2 : a < 9223372036854775808) (hb : 0 < b) (hb2 : b < 9223372036854775808) : i6_rem a b = a % b := by
  unfold i6_rem
  have h0 : (tc_6 a / tc_6 b).toInt = a / b := by
    rw [Int64.toInt_div_of_ne_right (tc_6 a) (tc_6 b) (fun h => by
      have h2 : tc_6 b = tc_6 (-1) := h
      rw [tc_6_eq ⟨by omega, hb2⟩ ⟨by omega, by omega⟩] at h2
      omega), tc_6_to ⟨by omega, ha2⟩, tc_6_to ⟨by omega, hb2⟩, Int.tdiv_eq_ediv_of_nonneg ha]
  have h1 : tc_6 a / tc_6 b = tc_6 (a / b) := by
    rw [← h0, tc_6_of]
  have h2 : 0 ≤ a / b := Int.ediv_nonneg ha (by omega)
  have h3 : a / b * b ≤ a := Int.ediv_mul_le a (by omega)
  have h4 : a % b = a - a / b * b := by
    have := Int.emod_add_mul_ediv a b
    rw [Int.mul_comm] at this
    omega
  have h5 : 0 ≤ a % b := Int.emod_nonneg a (by omega)
  have h6 : a % b < b := Int.emod_lt_of_pos a hb
  rw [h1, show tc_6 (a / b) * tc_6 b = tc_6 (a / b * b) from (Int64.ofInt_mul _ _).symm, show tc_6 a - tc_6 (a / b * b) = tc_6 (a - a / b * b) from (Int64.ofInt_sub _ _).symm, tc_6_to ⟨by omega, by omega⟩, h4]
/-- the next number drawn -/
def nxd (x : Int) : Int := (x * 1103515245 + 12345) % 2147483648
theorem nxd_rng (x : Int) : 0 ≤ nxd x ∧ nxd x < 2147483648 := by
  unfold nxd
  omega
/-- the force that is drawn -/
def dfo (b : Nat → Int → Int) (w x : Int) : Int := if x / 65536 % (b 0 5 + b 0 6 + b 0 7) < b 0 5 then (if 0 < tof b w then tof b w - 1 else 0) else if x / 65536 % (b 0 5 + b 0 6 + b 0 7) < b 0 5 + b 0 6 then tof b w else tof b w + 1
theorem dfo_rng {b : Nat → Int → Int} (hb : WB b) (w x : Int) : 0 ≤ dfo b w x ∧ dfo b w x ≤ 21 := by
  have := tof_rng hb w
  unfold dfo
  repeat' split
  all_goals omega
noncomputable def tdr (b : Nat → Int → Int) (la : Option Law) (s : Nat → Int → Int) (x : Int) : Nat → (Nat → Int → Int) × Int
  | 0 => (s, x)
  | k + 1 => (stp b (tdr b la s x k).1 la (dfo b ((tdr b la s x k).1 4 0) (nxd (tdr b la s x k).2)), nxd (tdr b la s x k).2)
noncomputable def tdm (b : Nat → Int → Int) (la : Option Law) (s : Nat → Int → Int) (m : Nat) (x : Int) : Nat → Int × Int × Int
  | 0 => (x, 0, 0)
  | i + 1 => ((tdr b la s (tdm b la s m x i).1 m).2, (tdm b la s m x i).2.1 + ((tdr b la s (tdm b la s m x i).1 m).1 4 1 - s 4 1), (tdm b la s m x i).2.2 + (cn (stn (s 3)) (b 0 2).toNat - cn (stn ((tdr b la s (tdm b la s m x i).1 m).1 3)) (b 0 2).toNat))
theorem tdr_w {b s : Nat → Int → Int} {la : Option Law} {x : Int} : ∀ k : Nat, (tdr b la s x k).1 4 0 = s 4 0 + k := by
  intro k
  induction k with
  | zero => show s 4 0 = s 4 0 + 0; omega
  | succ k ih =>
    show (tdr b la s x k).1 4 0 + 1 = _
    rw [ih]
    omega
theorem tdr_ws {b s : Nat → Int → Int} {la : Option Law} {x : Int} (hb : WB b) (hw : WS b s) : ∀ k : Nat, s 4 0 + k ≤ 900 → WS b (tdr b la s x k).1 := by
  intro k
  induction k with
  | zero => intro _; exact hw
  | succ k ih =>
    intro h
    exact stp_ws hb (ih (by omega)) (by rw [tdr_w]; omega)
theorem tdr_x {b s : Nat → Int → Int} {la : Option Law} {x : Int} (hx : 0 ≤ x ∧ x < 2147483648) : ∀ k : Nat, 0 ≤ (tdr b la s x k).2 ∧ (tdr b la s x k).2 < 2147483648 := by
  intro k
  cases k with
  | zero => exact hx
  | succ k => exact nxd_rng _
section MOD21
variable {L : Nat} {sh : Nat → SH} {c : Nat → Int → Int} {n : Nat} {Q : Option AV → List SC → Nat → Prop}
theorem c274 (hS : MS L sh) {x o : Int} (h11 : c 76 11 = x) (hx : 0 ≤ x ∧ x < 2147483648) (ho : 0 < o ∧ o < 1000) : tc_C 274 [rf 75, .inl o] (hp L sh c) n Q = Q (some (.inl (nxd x / 65536 % o))) (hp L sh (fr c 76 (fu (c 76) 11 (nxd x)))) n := tc_det fun Q hq => by
  show tc_W 274 0 [rf 75, .inl o] [] _ _ Q
  have hr := nxd_rng x
  have e1 : i6_i (i6_rem (i6_add (i6_mul x 1103515245) 12345) 2147483648) = nxd x := by
    rw [i6_mul_eq (by omega) (by omega), i6_add_eq (by omega) (by omega), i6_rem_nn (by omega) (by omega) (by omega) (by omega)]
    exact i6_i_nn (by omega) (by omega)
  generalize nxd x = y at hq hr e1
  repeat' (simp (disch := first | omega | exact Nat.le_of_ble_eq_true rfl | exact rfl | assumption | (simp only [fr_at, Nat.reduceEqDiff, if_false, if_true, reduceIte]; first | assumption | omega)) only [r274_0, r274_1, r274_4, r274_6, r274_7, r274_10, r274_12, r274_13, r274_14, r274_17, r274_18, r274_21, r274_22, r274_25, r274_26, r274_27, r274_28, r274_29, r274_32, r274_34, r274_35, r274_38, r274_39, r274_40, r274_41, g11_9_11, mo_len, ms75 hS, mt75 hS, mo_g1, ms76 hS, mt76 hS, il_s, bl_s, bl_z, ll_s, is_s, bs_s, bs_z, ls_s, al_s, al_b, al_l, fr_at, fr_fr, Nat.reduceEqDiff, tc_gf3_s, tc_ql2_s, tc_ws_0, tc_ws_i, tc_ws_l, tc_ws_r, Nat.reduceLeDiff, Nat.reduceAdd, Nat.reduceLT, true_and, and_true, if_true, if_false, tc_K, Option.toList_some, Option.toList_none, List.nil_append, List.cons_append, ite_true, ite_false, Int.cast_ofNat_Int, reduceIte, i3_add_eq, i3_sub_eq, Int.add_sub_cancel, Int.add_neg_cancel_right, h11, e1, fu_same, i3_div_nn, i3_rem_nn])
  exact hq
theorem c273 (hS : MS L sh) (hb : WB (bm c)) {d : Nat → Int → Int} (hd : QG c d) {x w : Int} (h11 : d 76 11 = x) (hx : 0 ≤ x ∧ x < 2147483648) (hw : d 76 8 = w) (hw2 : 0 ≤ w ∧ w ≤ 900) : tc_C 273 [rf 75] (hp L sh d) n Q = Q (some (.inl (dfo (bm c) w (nxd x)))) (hp L sh (fr d 76 (fu (d 76) 11 (nxd x)))) n := tc_det fun Q hq => by
  show tc_W 273 0 [rf 75, tc_nil] [] _ _ Q
  obtain ⟨_, _, ⟨o1, o2, o3, o4, o5, o6, o7⟩, _⟩ := id hb
  simp only [show bm c 0 = c 76 from rfl] at o1 o2 o3 o4 o5 o6 o7
  have r5 := hd.2.1 5 (by omega) (by omega) (by omega) (by omega)
  have r6 := hd.2.1 6 (by omega) (by omega) (by omega) (by omega)
  have r7 := hd.2.1 7 (by omega) (by omega) (by omega) (by omega)
  have h263 := fun Q => c263 (c := d) (n := n) (Q := Q) hS ⟨by omega, by omega, by omega, by omega, by omega, by omega⟩
  simp only [r5, r6, r7] at h263
  have h274 := fun Q => c274 (c := d) (n := n) (Q := Q) (o := c 76 5 + c 76 6 + c 76 7) hS h11 hx (by omega)
  generalize he : fr d 76 (fu (d 76) 11 (nxd x)) = e at hq h274
  have ge : QG c e := by
    obtain ⟨q1, q2, q3, q4, q5⟩ := hd
    rw [← he]
    exact ⟨fun a a1 a2 a3 a4 a5 a6 a7 => (fr_ne a2).trans (q1 a a1 a2 a3 a4 a5 a6 a7), fun i i1 i2 i3 i4 => by rw [fr_same, fu_ne i3]; exact q2 i i1 i2 i3 i4, fun i i1 i2 i3 i4 => by rw [fr_ne (by omega)]; exact q3 i i1 i2 i3 i4, fun j j1 => by rw [fr_ne (by omega)]; exact q4 j j1, fun j j1 j2 => by rw [fr_ne (by omega)]; exact q5 j j1 j2⟩
  have s5 := ge.2.1 5 (by omega) (by omega) (by omega) (by omega)
  have s6 := ge.2.1 6 (by omega) (by omega) (by omega) (by omega)
  have s8 : e 76 8 = w := by rw [← he, fr_same, fu_ne (by omega), hw]
  have h207 := fun Q => c207q (n := n) (Q := Q) hS hb ge s8 (by omega)
  have htf := tof_rng hb w
  have hdf : dfo (bm c) w (nxd x) = if nxd x / 65536 % (c 76 5 + c 76 6 + c 76 7) < c 76 5 then (if 0 < tof (bm c) w then tof (bm c) w - 1 else 0) else if nxd x / 65536 % (c 76 5 + c 76 6 + c 76 7) < c 76 5 + c 76 6 then tof (bm c) w else tof (bm c) w + 1 := rfl
  rw [hdf] at hq
  have hz := Int.emod_nonneg (nxd x / 65536) (by omega : c 76 5 + c 76 6 + c 76 7 ≠ 0)
  have hz2 := Int.emod_lt_of_pos (nxd x / 65536) (by omega : 0 < c 76 5 + c 76 6 + c 76 7)
  generalize nxd x / 65536 % (c 76 5 + c 76 6 + c 76 7) = z at hq h274 hz hz2
  generalize tof (bm c) w = T at hq h207 htf
  by_cases h1 : z < c 76 5
  · rw [if_pos h1] at hq
    repeat' (first | (simp (disch := first | omega | exact Nat.le_of_ble_eq_true rfl | exact rfl | assumption | (simp only [fr_at, Nat.reduceEqDiff, if_false, if_true, reduceIte]; first | assumption | omega)) only [r273_0, r273_1, r273_2, v273_2_11, r273_5, v273_5_11, r273_8r, r273_9, r273_10, r273_11, r273_14, r273_15, r273_19, r273_20, r273_21, v273_21_11, r273_24, v273_24_11, r273_27, r273_28, r273_29, r273_30, r273_33, r273_34, r273_35, r273_36, r273_39, r273_41, r273_42, r273_46, r273_47, v273_47_11, r273_50, r273_53, r273_54, v273_54_11, r273_57, r273_58, r273_59, g11_9_11, mo_len, ms75 hS, mt75 hS, mo_g1, ms76 hS, mt76 hS, il_s, bl_s, bl_z, ll_s, is_s, bs_s, bs_z, ls_s, al_s, al_b, al_l, fr_at, fr_fr, Nat.reduceEqDiff, tc_gf3_s, tc_ql2_s, tc_ws_0, tc_ws_i, tc_ws_l, tc_ws_r, Nat.reduceLeDiff, Nat.reduceAdd, Nat.reduceLT, true_and, and_true, if_true, if_false, tc_K, Option.toList_some, Option.toList_none, List.nil_append, List.cons_append, ite_true, ite_false, Int.cast_ofNat_Int, reduceIte, i3_add_eq, i3_sub_eq, Int.add_sub_cancel, Int.add_neg_cancel_right, h263, h274, s5, s6, h207, c261 hS]) | (simp only [r273_16, r273_43, i6_lt0, i6_0lt, i6_0le, i6_le0, i6_eq0, b10_0, ite_not, Int.reduceLT, Int.reduceLE, Int.reduceEq, Int.reduceNeg, if_true, if_false, ite_true, ite_false, reduceIte, eq_self, not_true, not_false_eq_true]; try refine tc_ite (fun _ => ?_) (fun _ => ?_) <;> try (exfalso; omega)))
    all_goals first
      | exact hq
      | omega
  · rw [if_neg h1] at hq
    by_cases h2 : z < c 76 5 + c 76 6
    · rw [if_pos h2] at hq
      repeat' (first | (simp (disch := first | omega | exact Nat.le_of_ble_eq_true rfl | exact rfl | assumption | (simp only [fr_at, Nat.reduceEqDiff, if_false, if_true, reduceIte]; first | assumption | omega)) only [r273_0, r273_1, r273_2, v273_2_11, r273_5, v273_5_11, r273_8r, r273_9, r273_10, r273_11, r273_14, r273_15, r273_19, r273_20, r273_21, v273_21_11, r273_24, v273_24_11, r273_27, r273_28, r273_29, r273_30, r273_33, r273_34, r273_35, r273_36, r273_39, r273_41, r273_42, r273_46, r273_47, v273_47_11, r273_50, r273_53, r273_54, v273_54_11, r273_57, r273_58, r273_59, g11_9_11, mo_len, ms75 hS, mt75 hS, mo_g1, ms76 hS, mt76 hS, il_s, bl_s, bl_z, ll_s, is_s, bs_s, bs_z, ls_s, al_s, al_b, al_l, fr_at, fr_fr, Nat.reduceEqDiff, tc_gf3_s, tc_ql2_s, tc_ws_0, tc_ws_i, tc_ws_l, tc_ws_r, Nat.reduceLeDiff, Nat.reduceAdd, Nat.reduceLT, true_and, and_true, if_true, if_false, tc_K, Option.toList_some, Option.toList_none, List.nil_append, List.cons_append, ite_true, ite_false, Int.cast_ofNat_Int, reduceIte, i3_add_eq, i3_sub_eq, Int.add_sub_cancel, Int.add_neg_cancel_right, h263, h274, s5, s6, h207]) | (simp only [r273_16, r273_43, i6_lt0, i6_0lt, i6_0le, i6_le0, i6_eq0, b10_0, ite_not, Int.reduceLT, Int.reduceLE, Int.reduceEq, Int.reduceNeg, if_true, if_false, ite_true, ite_false, reduceIte, eq_self, not_true, not_false_eq_true]; try refine tc_ite (fun _ => ?_) (fun _ => ?_) <;> try (exfalso; omega)))
      all_goals first
        | exact hq
        | omega
    · rw [if_neg h2] at hq
      repeat' (first | (simp (disch := first | omega | exact Nat.le_of_ble_eq_true rfl | exact rfl | assumption | (simp only [fr_at, Nat.reduceEqDiff, if_false, if_true, reduceIte]; first | assumption | omega)) only [r273_0, r273_1, r273_2, v273_2_11, r273_5, v273_5_11, r273_8r, r273_9, r273_10, r273_11, r273_14, r273_15, r273_19, r273_20, r273_21, v273_21_11, r273_24, v273_24_11, r273_27, r273_28, r273_29, r273_30, r273_33, r273_34, r273_35, r273_36, r273_39, r273_41, r273_42, r273_46, r273_47, v273_47_11, r273_50, r273_53, r273_54, v273_54_11, r273_57, r273_58, r273_59, g11_9_11, mo_len, ms75 hS, mt75 hS, mo_g1, ms76 hS, mt76 hS, il_s, bl_s, bl_z, ll_s, is_s, bs_s, bs_z, ls_s, al_s, al_b, al_l, fr_at, fr_fr, Nat.reduceEqDiff, tc_gf3_s, tc_ql2_s, tc_ws_0, tc_ws_i, tc_ws_l, tc_ws_r, Nat.reduceLeDiff, Nat.reduceAdd, Nat.reduceLT, true_and, and_true, if_true, if_false, tc_K, Option.toList_some, Option.toList_none, List.nil_append, List.cons_append, ite_true, ite_false, Int.cast_ofNat_Int, reduceIte, i3_add_eq, i3_sub_eq, Int.add_sub_cancel, Int.add_neg_cancel_right, h263, h274, s5, s6, h207]) | (simp only [r273_16, r273_43, i6_lt0, i6_0lt, i6_0le, i6_le0, i6_eq0, b10_0, ite_not, Int.reduceLT, Int.reduceLE, Int.reduceEq, Int.reduceNeg, if_true, if_false, ite_true, ite_false, reduceIte, eq_self, not_true, not_false_eq_true]; try refine tc_ite (fun _ => ?_) (fun _ => ?_) <;> try (exfalso; omega)))
      all_goals first
        | exact hq
        | omega
theorem c245q (hS : MS L sh) (hb : WB (bm c)) {d t : Nat → Int → Int} (hd : QG c d) (he : SEq (bm c) (pm d) t) : tc_C 245 [rf 75] (hp L sh d) n Q = Q (some (.inl (mk (stn (t 3)) (c 76 2).toNat : Nat))) (hp L sh d) n := by
  rw [c245 (c := d) hS (hd.dm hb.dm.1)]
  rw [hd.2.1 2 (by omega) (by omega) (by omega) (by omega), mk_ext (p := stn (d 82)) (q := stn (t 3)) fun j j1 j2 => by
    unfold stn
    rw [show d 82 j = t 3 j from (he.2.1 j j1 (by show j < c 76 2; omega)).2]]
theorem c272 (hS : MS L sh) (hb : WB (bm c)) (hw : WS (bm c) (pm c)) (hla : LF c) (h9 : c 76 8 ≤ 700) (hx : 0 ≤ c 76 11 ∧ c 76 11 < 2147483648) {m k w : Int} (hm : 1 ≤ m ∧ m ≤ 10) (hk : 1 ≤ k ∧ k ≤ 60) (hw2 : w = 0 ∨ w = 1)
    (hq : ∀ e, QX c e → Q (some (.inl (if w = 0 then (tdm (bm c) (lm c) (pm c) k.toNat (c 76 11) m.toNat).2.1 else (tdm (bm c) (lm c) (pm c) k.toNat (c 76 11) m.toNat).2.2))) (hp L sh e) n) : tc_C 272 [rf 75, .inl m, .inl k, .inl w] (hp L sh c) n Q := by
  show tc_W 272 0 [rf 75, .inl m, .inl k, .inl w, tc_nil, tc_nil, tc_nil, tc_nil, tc_nil, tc_nil] [] _ _ Q
  obtain ⟨hd, hbd⟩ := hb.dm
  have hd2 := hd.2
  have h0 : 0 < c 76 0 := by have := hbd.1; omega
  repeat' (first | (simp (disch := first | omega | exact Nat.le_of_ble_eq_true rfl | exact rfl | assumption | (simp only [fr_at, Nat.reduceEqDiff, if_false, if_true, reduceIte]; first | assumption | omega)) only [r272_0, r272_1, v272_1_11, r272_7, r272_8, r272_9, r272_10, r272_13, r272_19, r272_20, r272_21, r272_22, r272_25, r272_31, r272_32, r272_33, r272_34, r272_35, r272_41, r272_42, r272_43, r272_44, r272_47, r272_49, r272_50i, r272_52, r272_54i, r272_56, r272_57i, r272_59, r272_60i, r272_62, r272_63, v272_63_11, r272_66, r272_67i, r272_71, r272_75, r272_76, r272_79, r272_81, r272_83, r272_84, r272_86, r272_87, r272_90, r272_92, r272_93, r272_94i, r272_96, r272_98, r272_99, v272_99_11, r272_102, r272_105, r272_106i, r272_108, r272_109i, r272_113, r272_117, r272_118, r272_119, v272_119_11, r272_122, v272_122_11, r272_125, r272_125A, r272_126i, r272_129, r272_132, r272_134, r272_135, r272_138, r272_140, r272_141, r272_142i, r272_144, r272_146, r272_147, v272_147_11, r272_150, r272_153, r272_154i, r272_156, r272_157, r272_160, r272_162, r272_163i, r272_165, r272_166, v272_166_11, r272_169i, r272_172, r272_175, r272_176, r272_179, r272_181, r272_183, r272_184, r272_188, r272_190, r272_193, r272_195, g11_9_11, mo_len, ms75 hS, mt75 hS, mo_g1, ms76 hS, mt76 hS, il_s, bl_s, bl_z, ll_s, is_s, bs_s, bs_z, ls_s, al_s, al_b, al_l, fr_at, fr_fr, Nat.reduceEqDiff, tc_gf3_s, tc_ql2_s, tc_ws_0, tc_ws_i, tc_ws_l, tc_ws_r, Nat.reduceLeDiff, Nat.reduceAdd, Nat.reduceLT, true_and, and_true, if_true, if_false, tc_K, Option.toList_some, Option.toList_none, List.nil_append, List.cons_append, ite_true, ite_false, Int.cast_ofNat_Int, reduceIte, i3_add_eq, i3_sub_eq, Int.add_sub_cancel, Int.add_neg_cancel_right, c217 hS, c181]) | (simp only [r272_4, r272_16, r272_28, r272_38, r272_72, r272_114, r272_185, i6_lt0, i6_0lt, i6_0le, i6_le0, i6_eq0, b10_0, ite_not, Int.reduceLT, Int.reduceLE, Int.reduceEq, Int.reduceNeg, if_true, if_false, ite_true, ite_false, reduceIte, eq_self, not_true, not_false_eq_true]; try refine tc_ite (fun _ => ?_) (fun _ => ?_) <;> try (exfalso; omega)))
  refine c241q hS ?_
  intro e h1 _
  repeat' (first | (simp (disch := first | omega | exact Nat.le_of_ble_eq_true rfl | exact rfl | assumption | (simp only [fr_at, Nat.reduceEqDiff, if_false, if_true, reduceIte]; first | assumption | omega)) only [r272_0, r272_1, v272_1_11, r272_7, r272_8, r272_9, r272_10, r272_13, r272_19, r272_20, r272_21, r272_22, r272_25, r272_31, r272_32, r272_33, r272_34, r272_35, r272_41, r272_42, r272_43, r272_44, r272_47, r272_49, r272_50i, r272_52, r272_54i, r272_56, r272_57i, r272_59, r272_60i, r272_62, r272_63, v272_63_11, r272_66, r272_67i, r272_71, r272_75, r272_76, r272_79, r272_81, r272_83, r272_84, r272_86, r272_87, r272_90, r272_92, r272_93, r272_94i, r272_96, r272_98, r272_99, v272_99_11, r272_102, r272_105, r272_106i, r272_108, r272_109i, r272_113, r272_117, r272_118, r272_119, v272_119_11, r272_122, v272_122_11, r272_125, r272_125A, r272_126i, r272_129, r272_132, r272_134, r272_135, r272_138, r272_140, r272_141, r272_142i, r272_144, r272_146, r272_147, v272_147_11, r272_150, r272_153, r272_154i, r272_156, r272_157, r272_160, r272_162, r272_163i, r272_165, r272_166, v272_166_11, r272_169i, r272_172, r272_175, r272_176, r272_179, r272_181, r272_183, r272_184, r272_188, r272_190, r272_193, r272_195, g11_9_11, mo_len, ms75 hS, mt75 hS, mo_g1, ms76 hS, mt76 hS, il_s, bl_s, bl_z, ll_s, is_s, bs_s, bs_z, ls_s, al_s, al_b, al_l, fr_at, fr_fr, Nat.reduceEqDiff, tc_gf3_s, tc_ql2_s, tc_ws_0, tc_ws_i, tc_ws_l, tc_ws_r, Nat.reduceLeDiff, Nat.reduceAdd, Nat.reduceLT, true_and, and_true, if_true, if_false, tc_K, Option.toList_some, Option.toList_none, List.nil_append, List.cons_append, ite_true, ite_false, Int.cast_ofNat_Int, reduceIte, i3_add_eq, i3_sub_eq, Int.add_sub_cancel, Int.add_neg_cancel_right]) | (simp only [r272_4, r272_16, r272_28, r272_38, r272_72, r272_114, r272_185, i6_lt0, i6_0lt, i6_0le, i6_le0, i6_eq0, b10_0, ite_not, Int.reduceLT, Int.reduceLE, Int.reduceEq, Int.reduceNeg, if_true, if_false, ite_true, ite_false, reduceIte, eq_self, not_true, not_false_eq_true]; try refine tc_ite (fun _ => ?_) (fun _ => ?_) <;> try (exfalso; omega)))
  have hcn := cn_rng (stn (c 82)) (c 76 2).toNat
  have hmk0 : 0 ≤ c 76 9 ∧ c 76 9 ≤ 300 * c 76 8 := ⟨hw.2.2.2.2.2.1, hw.2.2.2.2.2.2⟩
  refine lq_2 (N := m) (P := fun i (d : Nat → Int → Int) (a9 : AV) => tc_W 272 69 [rf 75, .inl m, .inl k, .inl w, .inl (c 76 11), .inl (tdm (bm c) (lm c) (pm c) k.toNat (c 76 11) i.toNat).1, .inl (tdm (bm c) (lm c) (pm c) k.toNat (c 76 11) i.toNat).2.1, .inl (tdm (bm c) (lm c) (pm c) k.toNat (c 76 11) i.toNat).2.2, .inl i, a9] [] (hp L sh d) n Q) (I := fun i d _ => QR c d ∧ (0 ≤ (tdm (bm c) (lm c) (pm c) k.toNat (c 76 11) i.toNat).1 ∧ (tdm (bm c) (lm c) (pm c) k.toNat (c 76 11) i.toNat).1 < 2147483648) ∧ (-300000 * i ≤ (tdm (bm c) (lm c) (pm c) k.toNat (c 76 11) i.toNat).2.1 ∧ (tdm (bm c) (lm c) (pm c) k.toNat (c 76 11) i.toNat).2.1 ≤ 300000 * i) ∧ (-6 * i ≤ (tdm (bm c) (lm c) (pm c) k.toNat (c 76 11) i.toNat).2.2 ∧ (tdm (bm c) (lm c) (pm c) k.toNat (c 76 11) i.toNat).2.2 ≤ 6 * i)) ?_ ?_ 0 e tc_nil (by omega) (by omega) ⟨h1, hx, by show (-300000 * 0 : Int) ≤ 0 ∧ (0 : Int) ≤ 300000 * 0; omega, by show (-6 * 0 : Int) ≤ 0 ∧ (0 : Int) ≤ 6 * 0; omega⟩
  · intro i d a9 hi hi2 ⟨hr, hxr, hmr, hfr⟩ ih
    have e1 : tdm (bm c) (lm c) (pm c) k.toNat (c 76 11) (i + 1).toNat = ((tdr (bm c) (lm c) (pm c) (tdm (bm c) (lm c) (pm c) k.toNat (c 76 11) i.toNat).1 k.toNat).2, (tdm (bm c) (lm c) (pm c) k.toNat (c 76 11) i.toNat).2.1 + ((tdr (bm c) (lm c) (pm c) (tdm (bm c) (lm c) (pm c) k.toNat (c 76 11) i.toNat).1 k.toNat).1 4 1 - c 76 9), (tdm (bm c) (lm c) (pm c) k.toNat (c 76 11) i.toNat).2.2 + (cn (stn (c 82)) (c 76 2).toNat - cn (stn ((tdr (bm c) (lm c) (pm c) (tdm (bm c) (lm c) (pm c) k.toNat (c 76 11) i.toNat).1 k.toNat).1 3)) (c 76 2).toNat)) := by
      rw [show (i + 1).toNat = i.toNat + 1 by omega]
      rfl
    rw [e1] at ih
    generalize tdm (bm c) (lm c) (pm c) k.toNat (c 76 11) i.toNat = R at ih hxr hmr hfr
    have r76 := hr.2.1
    generalize hd1 : fr d 76 (fu (c 76) 11 R.1) = d1
    have o1 : ∀ a, ¬ a = 76 → d1 a = d a := fun a a1 => by rw [← hd1, fr_ne a1]
    have p1 : ∀ i, ¬ i = 11 → d1 76 i = c 76 i := fun i i1 => by rw [← hd1, fr_same, fu_ne i1]
    have p11 : d1 76 11 = R.1 := by rw [← hd1, fr_same, fu_same]
    have g1 : QG c d1 := by
      obtain ⟨⟨q1, q2, q3, q4, q5⟩, _⟩ := hr
      exact ⟨fun a a1 a2 a3 a4 a5 a6 a7 => (o1 a a2).trans (q1 a a1 a2 a3 a4 a5 a6 a7), fun i i1 i2 i3 i4 => p1 i i3, fun i i1 i2 i3 i4 => by rw [o1 75 (by omega)]; exact q3 i i1 i2 i3 i4, fun j j1 => by rw [o1 113 (by omega)]; exact q4 j j1, fun j j1 j2 => by rw [o1 113 (by omega)]; exact q5 j j1 j2⟩
    have s1 : SEq (bm c) (pm d1) (pm c) := by
      refine ⟨fun x _ _ => ⟨?_, ?_⟩, fun f _ _ => ⟨?_, ?_⟩, ?_, ?_⟩
      · show d1 77 x = c 77 x
        rw [o1 77 (by omega), hr.2.2.1]
      · show d1 78 x = c 78 x
        rw [o1 78 (by omega), hr.2.2.2.1]
      · show d1 79 f = c 79 f
        rw [o1 79 (by omega), hr.2.2.2.2.1]
      · show d1 82 f = c 82 f
        rw [o1 82 (by omega), hr.2.2.2.2.2]
      · exact p1 8 (by omega)
      · exact p1 9 (by omega)
    have h245 := fun Q => c245q (n := n) (Q := Q) hS hb g1 s1
    have h226 := fun h Q => c226 (n := n) (Q := Q) (h := h) (p := stn (c 82)) (N := (c 76 2).toNat) (by omega)
    have p9 := p1 9 (by omega)
    simp only [show pm c 3 = c 82 from rfl] at h245
    simp only [r272_69]
    repeat' (first | (simp (disch := first | omega | exact Nat.le_of_ble_eq_true rfl | exact rfl | assumption | (simp only [fr_at, Nat.reduceEqDiff, if_false, if_true, reduceIte]; first | assumption | omega)) only [r272_0, r272_1, v272_1_11, r272_7, r272_8, r272_9, r272_10, r272_13, r272_19, r272_20, r272_21, r272_22, r272_25, r272_31, r272_32, r272_33, r272_34, r272_35, r272_41, r272_42, r272_43, r272_44, r272_47, r272_49, r272_50i, r272_52, r272_54i, r272_56, r272_57i, r272_59, r272_60i, r272_62, r272_63, v272_63_11, r272_66, r272_67i, r272_71, r272_75, r272_76, r272_79, r272_81, r272_83, r272_84, r272_86, r272_87, r272_90, r272_92, r272_93, r272_94i, r272_96, r272_98, r272_99, v272_99_11, r272_102, r272_105, r272_106i, r272_108, r272_109i, r272_113, r272_117, r272_118, r272_119, v272_119_11, r272_122, v272_122_11, r272_125, r272_125A, r272_126i, r272_129, r272_132, r272_134, r272_135, r272_138, r272_140, r272_141, r272_142i, r272_144, r272_146, r272_147, v272_147_11, r272_150, r272_153, r272_154i, r272_156, r272_157, r272_160, r272_162, r272_163i, r272_165, r272_166, v272_166_11, r272_169i, r272_172, r272_175, r272_176, r272_179, r272_181, r272_183, r272_184, r272_188, r272_190, r272_193, r272_195, g11_9_11, mo_len, ms75 hS, mt75 hS, mo_g1, ms76 hS, mt76 hS, il_s, bl_s, bl_z, ll_s, is_s, bs_s, bs_z, ls_s, al_s, al_b, al_l, fr_at, fr_fr, Nat.reduceEqDiff, tc_gf3_s, tc_ql2_s, tc_ws_0, tc_ws_i, tc_ws_l, tc_ws_r, Nat.reduceLeDiff, Nat.reduceAdd, Nat.reduceLT, true_and, and_true, if_true, if_false, tc_K, Option.toList_some, Option.toList_none, List.nil_append, List.cons_append, ite_true, ite_false, Int.cast_ofNat_Int, reduceIte, i3_add_eq, i3_sub_eq, Int.add_sub_cancel, Int.add_neg_cancel_right, r76, hd1, p9, h245, h226]) | (simp only [r272_4, r272_16, r272_28, r272_38, r272_72, r272_114, r272_185, i6_lt0, i6_0lt, i6_0le, i6_le0, i6_eq0, b10_0, ite_not, Int.reduceLT, Int.reduceLE, Int.reduceEq, Int.reduceNeg, if_true, if_false, ite_true, ite_false, reduceIte, eq_self, not_true, not_false_eq_true]; try refine tc_ite (fun _ => ?_) (fun _ => ?_) <;> try (exfalso; omega)))
    have hlp := lq_1 (N := k) (P := fun j (d : Nat → Int → Int) => tc_W 272 111 [rf 75, .inl m, .inl k, .inl w, .inl (c 76 11), .inl R.1, .inl (R.2.1 - c 76 9), .inl (R.2.2 + cn (stn (c 82)) (c 76 2).toNat), .inl i, .inl j] [] (hp L sh d) n Q) (I := fun j d => QG c d ∧ d 76 12 = c 76 12 ∧ d 76 11 = (tdr (bm c) (lm c) (pm c) R.1 j.toNat).2 ∧ SEq (bm c) (pm d) (tdr (bm c) (lm c) (pm c) R.1 j.toNat).1) ?_ ?_ 0 d1 (by omega) (by omega) ⟨g1, p1 12 (by omega), p11, s1⟩
    · exact hlp
    · intro j d2 hj hj2 ⟨g2, h12, h11, s2⟩ ih2
      have hx2 := tdr_x (b := bm c) (s := pm c) (la := lm c) hxr j.toNat
      have hw1 := tdr_w (b := bm c) (s := pm c) (la := lm c) (x := R.1) j.toNat
      have hws := tdr_ws (la := lm c) (x := R.1) hb hw j.toNat (by show c 76 8 + _ ≤ _; omega)
      have h8 : d2 76 8 = (tdr (bm c) (lm c) (pm c) R.1 j.toNat).1 4 0 := s2.2.2.1
      rw [show pm c 4 0 = c 76 8 from rfl] at hw1
      have hw80 : 0 ≤ c 76 8 := hw.2.2.2.1
      have e2 : tdr (bm c) (lm c) (pm c) R.1 (j + 1).toNat = (stp (bm c) (tdr (bm c) (lm c) (pm c) R.1 j.toNat).1 (lm c) (dfo (bm c) ((tdr (bm c) (lm c) (pm c) R.1 j.toNat).1 4 0) (nxd (tdr (bm c) (lm c) (pm c) R.1 j.toNat).2)), nxd (tdr (bm c) (lm c) (pm c) R.1 j.toNat).2) := by
        rw [show (j + 1).toNat = j.toNat + 1 by omega]
        rfl
      have h273 := fun Q => c273 (n := n) (Q := Q) hS hb g2 h11 hx2 h8 (by omega)
      rw [e2] at ih2
      generalize tdr (bm c) (lm c) (pm c) R.1 j.toNat = T at h273 ih2 hx2 hw1 hws h8 s2 h11
      generalize he3 : fr d2 76 (fu (d2 76) 11 (nxd T.2)) = d3 at h273
      have g3 : QG c d3 := by
        obtain ⟨q1, q2, q3, q4, q5⟩ := g2
        rw [← he3]
        exact ⟨fun a a1 a2 a3 a4 a5 a6 a7 => (fr_ne a2).trans (q1 a a1 a2 a3 a4 a5 a6 a7), fun i i1 i2 i3 i4 => by rw [fr_same, fu_ne i3]; exact q2 i i1 i2 i3 i4, fun i i1 i2 i3 i4 => by rw [fr_ne (by omega)]; exact q3 i i1 i2 i3 i4, fun j j1 => by rw [fr_ne (by omega)]; exact q4 j j1, fun j j1 j2 => by rw [fr_ne (by omega)]; exact q5 j j1 j2⟩
      have s3 : SEq (bm c) (pm d3) T.1 := by
        rw [← he3]
        exact s2
      have h123 : d3 76 12 = c 76 12 := by rw [← he3, fr_same, fu_ne (by omega), h12]
      have h113 : d3 76 11 = nxd T.2 := by rw [← he3, fr_same, fu_same]
      have hdr := dfo_rng hb (T.1 4 0) (nxd T.2)
      simp only [r272_111]
      repeat' (first | (simp (disch := first | omega | exact Nat.le_of_ble_eq_true rfl | exact rfl | assumption | (simp only [fr_at, Nat.reduceEqDiff, if_false, if_true, reduceIte]; first | assumption | omega)) only [r272_0, r272_1, v272_1_11, r272_7, r272_8, r272_9, r272_10, r272_13, r272_19, r272_20, r272_21, r272_22, r272_25, r272_31, r272_32, r272_33, r272_34, r272_35, r272_41, r272_42, r272_43, r272_44, r272_47, r272_49, r272_50i, r272_52, r272_54i, r272_56, r272_57i, r272_59, r272_60i, r272_62, r272_63, v272_63_11, r272_66, r272_67i, r272_71, r272_75, r272_76, r272_79, r272_81, r272_83, r272_84, r272_86, r272_87, r272_90, r272_92, r272_93, r272_94i, r272_96, r272_98, r272_99, v272_99_11, r272_102, r272_105, r272_106i, r272_108, r272_109i, r272_113, r272_117, r272_118, r272_119, v272_119_11, r272_122, v272_122_11, r272_125, r272_125A, r272_126i, r272_129, r272_132, r272_134, r272_135, r272_138, r272_140, r272_141, r272_142i, r272_144, r272_146, r272_147, v272_147_11, r272_150, r272_153, r272_154i, r272_156, r272_157, r272_160, r272_162, r272_163i, r272_165, r272_166, v272_166_11, r272_169i, r272_172, r272_175, r272_176, r272_179, r272_181, r272_183, r272_184, r272_188, r272_190, r272_193, r272_195, g11_9_11, mo_len, ms75 hS, mt75 hS, mo_g1, ms76 hS, mt76 hS, il_s, bl_s, bl_z, ll_s, is_s, bs_s, bs_z, ls_s, al_s, al_b, al_l, fr_at, fr_fr, Nat.reduceEqDiff, tc_gf3_s, tc_ql2_s, tc_ws_0, tc_ws_i, tc_ws_l, tc_ws_r, Nat.reduceLeDiff, Nat.reduceAdd, Nat.reduceLT, true_and, and_true, if_true, if_false, tc_K, Option.toList_some, Option.toList_none, List.nil_append, List.cons_append, ite_true, ite_false, Int.cast_ofNat_Int, reduceIte, i3_add_eq, i3_sub_eq, Int.add_sub_cancel, Int.add_neg_cancel_right, h273]) | (simp only [r272_4, r272_16, r272_28, r272_38, r272_72, r272_114, r272_185, i6_lt0, i6_0lt, i6_0le, i6_le0, i6_eq0, b10_0, ite_not, Int.reduceLT, Int.reduceLE, Int.reduceEq, Int.reduceNeg, if_true, if_false, ite_true, ite_false, reduceIte, eq_self, not_true, not_false_eq_true]; try refine tc_ite (fun _ => ?_) (fun _ => ?_) <;> try (exfalso; omega)))
      refine c224q (c := c) hS hb g3 (LF_ext g3.lr h123 hla) hws s3 (by omega) (by omega) ?_
      intro e4 g4 _ f4 s4
      rw [lm_ext g3.lr h123] at s4
      repeat' (first | (simp (disch := first | omega | exact Nat.le_of_ble_eq_true rfl | exact rfl | assumption | (simp only [fr_at, Nat.reduceEqDiff, if_false, if_true, reduceIte]; first | assumption | omega)) only [r272_0, r272_1, v272_1_11, r272_7, r272_8, r272_9, r272_10, r272_13, r272_19, r272_20, r272_21, r272_22, r272_25, r272_31, r272_32, r272_33, r272_34, r272_35, r272_41, r272_42, r272_43, r272_44, r272_47, r272_49, r272_50i, r272_52, r272_54i, r272_56, r272_57i, r272_59, r272_60i, r272_62, r272_63, v272_63_11, r272_66, r272_67i, r272_71, r272_75, r272_76, r272_79, r272_81, r272_83, r272_84, r272_86, r272_87, r272_90, r272_92, r272_93, r272_94i, r272_96, r272_98, r272_99, v272_99_11, r272_102, r272_105, r272_106i, r272_108, r272_109i, r272_113, r272_117, r272_118, r272_119, v272_119_11, r272_122, v272_122_11, r272_125, r272_125A, r272_126i, r272_129, r272_132, r272_134, r272_135, r272_138, r272_140, r272_141, r272_142i, r272_144, r272_146, r272_147, v272_147_11, r272_150, r272_153, r272_154i, r272_156, r272_157, r272_160, r272_162, r272_163i, r272_165, r272_166, v272_166_11, r272_169i, r272_172, r272_175, r272_176, r272_179, r272_181, r272_183, r272_184, r272_188, r272_190, r272_193, r272_195, g11_9_11, mo_len, ms75 hS, mt75 hS, mo_g1, ms76 hS, mt76 hS, il_s, bl_s, bl_z, ll_s, is_s, bs_s, bs_z, ls_s, al_s, al_b, al_l, fr_at, fr_fr, Nat.reduceEqDiff, tc_gf3_s, tc_ql2_s, tc_ws_0, tc_ws_i, tc_ws_l, tc_ws_r, Nat.reduceLeDiff, Nat.reduceAdd, Nat.reduceLT, true_and, and_true, if_true, if_false, tc_K, Option.toList_some, Option.toList_none, List.nil_append, List.cons_append, ite_true, ite_false, Int.cast_ofNat_Int, reduceIte, i3_add_eq, i3_sub_eq, Int.add_sub_cancel, Int.add_neg_cancel_right]) | (simp only [r272_4, r272_16, r272_28, r272_38, r272_72, r272_114, r272_185, i6_lt0, i6_0lt, i6_0le, i6_le0, i6_eq0, b10_0, ite_not, Int.reduceLT, Int.reduceLE, Int.reduceEq, Int.reduceNeg, if_true, if_false, ite_true, ite_false, reduceIte, eq_self, not_true, not_false_eq_true]; try refine tc_ite (fun _ => ?_) (fun _ => ?_) <;> try (exfalso; omega)))
      exact ih2 e4 ⟨g4, (f4.2 12 (by omega) (by omega)).trans h123, (f4.2 11 (by omega) (by omega)).trans h113, s4⟩
    · intro d2 ⟨g2, h12, h11, s2⟩
      have hx2 := tdr_x (b := bm c) (s := pm c) (la := lm c) hxr k.toNat
      have hw1 := tdr_w (b := bm c) (s := pm c) (la := lm c) (x := R.1) k.toNat
      have hws := tdr_ws (la := lm c) (x := R.1) hb hw k.toNat (by show c 76 8 + _ ≤ _; omega)
      rw [show pm c 4 0 = c 76 8 from rfl] at hw1
      have hws4 := hws.2.2.2
      have hcn2 := cn_rng (stn ((tdr (bm c) (lm c) (pm c) R.1 k.toNat).1 3)) (c 76 2).toNat
      have h245 := fun Q => c245q (n := n) (Q := Q) hS hb g2 s2
      have h9' : d2 76 9 = (tdr (bm c) (lm c) (pm c) R.1 k.toNat).1 4 1 := s2.2.2.2
      have h226 := fun h Q => c226 (n := n) (Q := Q) (h := h) (p := stn ((tdr (bm c) (lm c) (pm c) R.1 k.toNat).1 3)) (N := (c 76 2).toNat) (by omega)
      generalize tdr (bm c) (lm c) (pm c) R.1 k.toNat = T at ih hx2 hw1 hws hws4 hcn2 h245 h9' h226 h11 s2
      simp only [r272_111]
      repeat' (first | (simp (disch := first | omega | exact Nat.le_of_ble_eq_true rfl | exact rfl | assumption | (simp only [fr_at, Nat.reduceEqDiff, if_false, if_true, reduceIte]; first | assumption | omega)) only [r272_0, r272_1, v272_1_11, r272_7, r272_8, r272_9, r272_10, r272_13, r272_19, r272_20, r272_21, r272_22, r272_25, r272_31, r272_32, r272_33, r272_34, r272_35, r272_41, r272_42, r272_43, r272_44, r272_47, r272_49, r272_50i, r272_52, r272_54i, r272_56, r272_57i, r272_59, r272_60i, r272_62, r272_63, v272_63_11, r272_66, r272_67i, r272_71, r272_75, r272_76, r272_79, r272_81, r272_83, r272_84, r272_86, r272_87, r272_90, r272_92, r272_93, r272_94i, r272_96, r272_98, r272_99, v272_99_11, r272_102, r272_105, r272_106i, r272_108, r272_109i, r272_113, r272_117, r272_118, r272_119, v272_119_11, r272_122, v272_122_11, r272_125, r272_125A, r272_126i, r272_129, r272_132, r272_134, r272_135, r272_138, r272_140, r272_141, r272_142i, r272_144, r272_146, r272_147, v272_147_11, r272_150, r272_153, r272_154i, r272_156, r272_157, r272_160, r272_162, r272_163i, r272_165, r272_166, v272_166_11, r272_169i, r272_172, r272_175, r272_176, r272_179, r272_181, r272_183, r272_184, r272_188, r272_190, r272_193, r272_195, g11_9_11, mo_len, ms75 hS, mt75 hS, mo_g1, ms76 hS, mt76 hS, il_s, bl_s, bl_z, ll_s, is_s, bs_s, bs_z, ls_s, al_s, al_b, al_l, fr_at, fr_fr, Nat.reduceEqDiff, tc_gf3_s, tc_ql2_s, tc_ws_0, tc_ws_i, tc_ws_l, tc_ws_r, Nat.reduceLeDiff, Nat.reduceAdd, Nat.reduceLT, true_and, and_true, if_true, if_false, tc_K, Option.toList_some, Option.toList_none, List.nil_append, List.cons_append, ite_true, ite_false, Int.cast_ofNat_Int, reduceIte, i3_add_eq, i3_sub_eq, Int.add_sub_cancel, Int.add_neg_cancel_right, h9', h245, h226, h11]) | (simp only [r272_4, r272_16, r272_28, r272_38, r272_72, r272_114, r272_185, i6_lt0, i6_0lt, i6_0le, i6_le0, i6_eq0, b10_0, ite_not, Int.reduceLT, Int.reduceLE, Int.reduceEq, Int.reduceNeg, if_true, if_false, ite_true, ite_false, reduceIte, eq_self, not_true, not_false_eq_true]; try refine tc_ite (fun _ => ?_) (fun _ => ?_) <;> try (exfalso; omega)))
      refine c246q (c := c) hS g2 ?_
      intro e5 g5 _
      repeat' (first | (simp (disch := first | omega | exact Nat.le_of_ble_eq_true rfl | exact rfl | assumption | (simp only [fr_at, Nat.reduceEqDiff, if_false, if_true, reduceIte]; first | assumption | omega)) only [r272_0, r272_1, v272_1_11, r272_7, r272_8, r272_9, r272_10, r272_13, r272_19, r272_20, r272_21, r272_22, r272_25, r272_31, r272_32, r272_33, r272_34, r272_35, r272_41, r272_42, r272_43, r272_44, r272_47, r272_49, r272_50i, r272_52, r272_54i, r272_56, r272_57i, r272_59, r272_60i, r272_62, r272_63, v272_63_11, r272_66, r272_67i, r272_71, r272_75, r272_76, r272_79, r272_81, r272_83, r272_84, r272_86, r272_87, r272_90, r272_92, r272_93, r272_94i, r272_96, r272_98, r272_99, v272_99_11, r272_102, r272_105, r272_106i, r272_108, r272_109i, r272_113, r272_117, r272_118, r272_119, v272_119_11, r272_122, v272_122_11, r272_125, r272_125A, r272_126i, r272_129, r272_132, r272_134, r272_135, r272_138, r272_140, r272_141, r272_142i, r272_144, r272_146, r272_147, v272_147_11, r272_150, r272_153, r272_154i, r272_156, r272_157, r272_160, r272_162, r272_163i, r272_165, r272_166, v272_166_11, r272_169i, r272_172, r272_175, r272_176, r272_179, r272_181, r272_183, r272_184, r272_188, r272_190, r272_193, r272_195, g11_9_11, mo_len, ms75 hS, mt75 hS, mo_g1, ms76 hS, mt76 hS, il_s, bl_s, bl_z, ll_s, is_s, bs_s, bs_z, ls_s, al_s, al_b, al_l, fr_at, fr_fr, Nat.reduceEqDiff, tc_gf3_s, tc_ql2_s, tc_ws_0, tc_ws_i, tc_ws_l, tc_ws_r, Nat.reduceLeDiff, Nat.reduceAdd, Nat.reduceLT, true_and, and_true, if_true, if_false, tc_K, Option.toList_some, Option.toList_none, List.nil_append, List.cons_append, ite_true, ite_false, Int.cast_ofNat_Int, reduceIte, i3_add_eq, i3_sub_eq, Int.add_sub_cancel, Int.add_neg_cancel_right]) | (simp only [r272_4, r272_16, r272_28, r272_38, r272_72, r272_114, r272_185, i6_lt0, i6_0lt, i6_0le, i6_le0, i6_eq0, b10_0, ite_not, Int.reduceLT, Int.reduceLE, Int.reduceEq, Int.reduceNeg, if_true, if_false, ite_true, ite_false, reduceIte, eq_self, not_true, not_false_eq_true]; try refine tc_ite (fun _ => ?_) (fun _ => ?_) <;> try (exfalso; omega)))
      have ih2 := fun a9 => ih e5 a9 ⟨g5, hx2, by
        show -300000 * (i + 1) ≤ R.2.1 + (T.1 4 1 - c 76 9) ∧ R.2.1 + (T.1 4 1 - c 76 9) ≤ 300000 * (i + 1)
        omega, by
        show -6 * (i + 1) ≤ R.2.2 + (cn (stn (c 82)) (c 76 2).toNat - cn (stn (T.1 3)) (c 76 2).toNat) ∧ R.2.2 + (cn (stn (c 82)) (c 76 2).toNat - cn (stn (T.1 3)) (c 76 2).toNat) ≤ 6 * (i + 1)
        omega⟩
      rw [show R.2.1 - c 76 9 + T.1 4 1 = R.2.1 + (T.1 4 1 - c 76 9) by omega, show R.2.2 + cn (stn (c 82)) (c 76 2).toNat - cn (stn (T.1 3)) (c 76 2).toNat = R.2.2 + (cn (stn (c 82)) (c 76 2).toNat - cn (stn (T.1 3)) (c 76 2).toNat) by omega]
      exact ih2 _
  · intro d a9 ⟨hr, _, _, _⟩
    have r76 := hr.2.1
    have e76 : fu (c 76) 11 (c 76 11) = c 76 := fu_id _ _
    have hx3 : QX c (fr d 76 (c 76)) := by
      have h := hr.x
      refine ⟨fun a a1 a2 => ?_, fun i i1 i2 i3 i4 => ?_, fun j j1 => ?_⟩
      · by_cases h7 : a = 76
        · rw [h7, fr_same]
        · rw [fr_ne h7]
          exact h.1 a a1 a2
      · rw [fr_ne (by omega)]
        exact h.2.1 i i1 i2 i3 i4
      · rw [fr_ne (by omega)]
        exact h.2.2 j j1
    simp only [r272_69]
    rcases hw2 with rfl | rfl
    · repeat' (first | (simp (disch := first | omega | exact Nat.le_of_ble_eq_true rfl | exact rfl | assumption | (simp only [fr_at, Nat.reduceEqDiff, if_false, if_true, reduceIte]; first | assumption | omega)) only [r272_0, r272_1, v272_1_11, r272_7, r272_8, r272_9, r272_10, r272_13, r272_19, r272_20, r272_21, r272_22, r272_25, r272_31, r272_32, r272_33, r272_34, r272_35, r272_41, r272_42, r272_43, r272_44, r272_47, r272_49, r272_50i, r272_52, r272_54i, r272_56, r272_57i, r272_59, r272_60i, r272_62, r272_63, v272_63_11, r272_66, r272_67i, r272_71, r272_75, r272_76, r272_79, r272_81, r272_83, r272_84, r272_86, r272_87, r272_90, r272_92, r272_93, r272_94i, r272_96, r272_98, r272_99, v272_99_11, r272_102, r272_105, r272_106i, r272_108, r272_109i, r272_113, r272_117, r272_118, r272_119, v272_119_11, r272_122, v272_122_11, r272_125, r272_125A, r272_126i, r272_129, r272_132, r272_134, r272_135, r272_138, r272_140, r272_141, r272_142i, r272_144, r272_146, r272_147, v272_147_11, r272_150, r272_153, r272_154i, r272_156, r272_157, r272_160, r272_162, r272_163i, r272_165, r272_166, v272_166_11, r272_169i, r272_172, r272_175, r272_176, r272_179, r272_181, r272_183, r272_184, r272_188, r272_190, r272_193, r272_195, g11_9_11, mo_len, ms75 hS, mt75 hS, mo_g1, ms76 hS, mt76 hS, il_s, bl_s, bl_z, ll_s, is_s, bs_s, bs_z, ls_s, al_s, al_b, al_l, fr_at, fr_fr, Nat.reduceEqDiff, tc_gf3_s, tc_ql2_s, tc_ws_0, tc_ws_i, tc_ws_l, tc_ws_r, Nat.reduceLeDiff, Nat.reduceAdd, Nat.reduceLT, true_and, and_true, if_true, if_false, tc_K, Option.toList_some, Option.toList_none, List.nil_append, List.cons_append, ite_true, ite_false, Int.cast_ofNat_Int, reduceIte, i3_add_eq, i3_sub_eq, Int.add_sub_cancel, Int.add_neg_cancel_right, r76, e76]) | (simp only [r272_4, r272_16, r272_28, r272_38, r272_72, r272_114, r272_185, i6_lt0, i6_0lt, i6_0le, i6_le0, i6_eq0, b10_0, ite_not, Int.reduceLT, Int.reduceLE, Int.reduceEq, Int.reduceNeg, if_true, if_false, ite_true, ite_false, reduceIte, eq_self, not_true, not_false_eq_true]; try refine tc_ite (fun _ => ?_) (fun _ => ?_) <;> try (exfalso; omega)))
      exact hq _ hx3
    · repeat' (first | (simp (disch := first | omega | exact Nat.le_of_ble_eq_true rfl | exact rfl | assumption | (simp only [fr_at, Nat.reduceEqDiff, if_false, if_true, reduceIte]; first | assumption | omega)) only [r272_0, r272_1, v272_1_11, r272_7, r272_8, r272_9, r272_10, r272_13, r272_19, r272_20, r272_21, r272_22, r272_25, r272_31, r272_32, r272_33, r272_34, r272_35, r272_41, r272_42, r272_43, r272_44, r272_47, r272_49, r272_50i, r272_52, r272_54i, r272_56, r272_57i, r272_59, r272_60i, r272_62, r272_63, v272_63_11, r272_66, r272_67i, r272_71, r272_75, r272_76, r272_79, r272_81, r272_83, r272_84, r272_86, r272_87, r272_90, r272_92, r272_93, r272_94i, r272_96, r272_98, r272_99, v272_99_11, r272_102, r272_105, r272_106i, r272_108, r272_109i, r272_113, r272_117, r272_118, r272_119, v272_119_11, r272_122, v272_122_11, r272_125, r272_125A, r272_126i, r272_129, r272_132, r272_134, r272_135, r272_138, r272_140, r272_141, r272_142i, r272_144, r272_146, r272_147, v272_147_11, r272_150, r272_153, r272_154i, r272_156, r272_157, r272_160, r272_162, r272_163i, r272_165, r272_166, v272_166_11, r272_169i, r272_172, r272_175, r272_176, r272_179, r272_181, r272_183, r272_184, r272_188, r272_190, r272_193, r272_195, g11_9_11, mo_len, ms75 hS, mt75 hS, mo_g1, ms76 hS, mt76 hS, il_s, bl_s, bl_z, ll_s, is_s, bs_s, bs_z, ls_s, al_s, al_b, al_l, fr_at, fr_fr, Nat.reduceEqDiff, tc_gf3_s, tc_ql2_s, tc_ws_0, tc_ws_i, tc_ws_l, tc_ws_r, Nat.reduceLeDiff, Nat.reduceAdd, Nat.reduceLT, true_and, and_true, if_true, if_false, tc_K, Option.toList_some, Option.toList_none, List.nil_append, List.cons_append, ite_true, ite_false, Int.cast_ofNat_Int, reduceIte, i3_add_eq, i3_sub_eq, Int.add_sub_cancel, Int.add_neg_cancel_right, r76, e76]) | (simp only [r272_4, r272_16, r272_28, r272_38, r272_72, r272_114, r272_185, i6_lt0, i6_0lt, i6_0le, i6_le0, i6_eq0, b10_0, ite_not, Int.reduceLT, Int.reduceLE, Int.reduceEq, Int.reduceNeg, if_true, if_false, ite_true, ite_false, reduceIte, eq_self, not_true, not_false_eq_true]; try refine tc_ite (fun _ => ?_) (fun _ => ?_) <;> try (exfalso; omega)))
      exact hq _ hx3
end MOD21

/-! the reference: by which RULE -/
/-- what was told lies on the beach -/
def LGI (c : Nat → Int → Int) : Prop := 0 ≤ c 76 10 ∧ c 76 10 ≤ 10 ∧ ∀ k, 0 ≤ k → k < c 76 10 → (0 ≤ c 85 k ∧ c 85 k < c 76 0 * c 76 1) ∧ (0 ≤ c 84 k ∧ c 84 k ≤ 60) ∧ (0 ≤ c 86 k ∧ c 86 k ≤ 9)
/-- how many rules are so, and the first -/
def rld (g : Int → Int) : Nat → Int × Int
  | 0 => (0, -2)
  | k + 1 => if g ((k : Int) - 1) = 1 then ((rld g k).1 + 1, if (rld g k).1 = 0 then (k : Int) - 1 else (rld g k).2) else rld g k
theorem rld_rng (g : Int → Int) : ∀ k : Nat, 0 ≤ (rld g k).1 ∧ (rld g k).1 ≤ k := by
  intro k
  induction k with
  | zero => exact ⟨Int.le_refl 0, Int.le_refl 0⟩
  | succ k ih =>
    unfold rld
    split
    · show 0 ≤ (rld g k).1 + 1 ∧ (rld g k).1 + 1 ≤ ((k + 1 : Nat) : Int)
      omega
    · omega
theorem lgo_ext {lw lc lh ht ht' : Int → Int} {w : Int} : ∀ {k : Nat}, (∀ j : Int, 0 ≤ j → j < k → ht (lc j) = ht' (lc j)) → lgo lw lc lh ht w k = lgo lw lc lh ht' w k := by
  intro k
  induction k with
  | zero => intro _; rfl
  | succ k ih =>
    intro h
    unfold lgo
    rw [ih fun j j1 j2 => h j j1 (by omega), h k (by omega) (by omega)]
section MOD19
variable {L : Nat} {sh : Nat → SH} {c : Nat → Int → Int} {n : Nat} {Q : Option AV → List SC → Nat → Prop}
theorem c269 (hS : MS L sh) (hl : LGI c) (hN : 0 ≤ c 76 0 * c 76 1 ∧ c 76 0 * c 76 1 ≤ 25) {w : Int} : tc_C 269 [rf 75, .inl w] (hp L sh c) n Q = Q (some (.inl (lgo (c 84) (c 85) (c 86) (c 77) w (c 76 10).toNat))) (hp L sh c) n := tc_det fun Q hq => by
  show tc_W 269 0 [rf 75, .inl w, tc_nil, tc_nil] [] _ _ Q
  obtain ⟨hl1, hl2, hl3⟩ := hl
  repeat' (first | (simp (disch := first | omega | exact Nat.le_of_ble_eq_true rfl | exact rfl | assumption | (simp only [fr_at, Nat.reduceEqDiff, if_false, if_true, reduceIte]; first | assumption | omega)) only [r269_0, r269_1i, r269_2, r269_3i, r269_5, r269_6, r269_9, r269_11, r269_15, r269_19, r269_20, r269_23, r269_24, r269_25, r269_29, r269_30, r269_33, r269_34, r269_37, r269_38, r269_39, r269_40, r269_41, r269_44, r269_45, r269_49, r269_50, r269_53, r269_54i, r269_55i, r269_58, r269_61, r269_62h, r269_62f, r269_62t, g11_9_11, g11_34_11, g11_13_11, g11_37_11, g11_40_11, mo_len, ms75 hS, mt75 hS, mo_g1, ms76 hS, mt76 hS, mo_g9, ms84 hS, mt84 hS, mo_g2, ms77 hS, mt77 hS, mo_g10, ms85 hS, mt85 hS, mo_g11, ms86 hS, mt86 hS, il_s, bl_s, bl_z, ll_s, is_s, bs_s, bs_z, ls_s, al_s, al_b, al_l, fr_at, fr_fr, Nat.reduceEqDiff, tc_gf3_s, tc_ql2_s, tc_ws_0, tc_ws_i, tc_ws_l, tc_ws_r, Nat.reduceLeDiff, Nat.reduceAdd, Nat.reduceLT, true_and, and_true, if_true, if_false, tc_K, Option.toList_some, Option.toList_none, List.nil_append, List.cons_append, ite_true, ite_false, Int.cast_ofNat_Int, reduceIte, i3_add_eq, i3_sub_eq, Int.add_sub_cancel, Int.add_neg_cancel_right]) | (simp only [r269_12, r269_16, r269_26, r269_46, i6_lt0, i6_0lt, i6_0le, i6_le0, i6_eq0, b10_0, ite_not, Int.reduceLT, Int.reduceLE, Int.reduceEq, Int.reduceNeg, if_true, if_false, ite_true, ite_false, reduceIte, eq_self, not_true, not_false_eq_true]; try refine tc_ite (fun _ => ?_) (fun _ => ?_) <;> try (exfalso; omega)))
  refine upI (N := c 76 10) (P := fun k => tc_W 269 4 [rf 75, .inl w, .inl (lgo (c 84) (c 85) (c 86) (c 77) w k.toNat), .inl k] [] (hp L sh c) n Q) hl1 ?_ ?_
  · intro k hk hk2 ih
    have e1 : lgo (c 84) (c 85) (c 86) (c 77) w (k + 1).toNat = if lgo (c 84) (c 85) (c 86) (c 77) w k.toNat = 1 ∧ (¬ c 84 k = w ∨ c 77 (c 85 k) = c 86 k) then 1 else 0 := by
      rw [show (k + 1).toNat = k.toNat + 1 by omega]
      show (if lgo (c 84) (c 85) (c 86) (c 77) w k.toNat = 1 ∧ (¬ c 84 (k.toNat : Int) = w ∨ c 77 (c 85 (k.toNat : Int)) = c 86 (k.toNat : Int)) then 1 else 0) = _
      rw [Int.toNat_of_nonneg hk]
    rw [e1] at ih
    have h01 := lgo_01 (c 84) (c 85) (c 86) (c 77) w k.toNat
    have h3 := hl3 k hk hk2
    generalize lgo (c 84) (c 85) (c 86) (c 77) w k.toNat = z at ih h01
    simp only [r269_4]
    repeat' (first | (simp (disch := first | omega | exact Nat.le_of_ble_eq_true rfl | exact rfl | assumption | (simp only [fr_at, Nat.reduceEqDiff, if_false, if_true, reduceIte]; first | assumption | omega)) only [r269_0, r269_1i, r269_2, r269_3i, r269_5, r269_6, r269_9, r269_11, r269_15, r269_19, r269_20, r269_23, r269_24, r269_25, r269_29, r269_30, r269_33, r269_34, r269_37, r269_38, r269_39, r269_40, r269_41, r269_44, r269_45, r269_49, r269_50, r269_53, r269_54i, r269_55i, r269_58, r269_61, r269_62h, r269_62f, r269_62t, g11_9_11, g11_34_11, g11_13_11, g11_37_11, g11_40_11, mo_len, ms75 hS, mt75 hS, mo_g1, ms76 hS, mt76 hS, mo_g9, ms84 hS, mt84 hS, mo_g2, ms77 hS, mt77 hS, mo_g10, ms85 hS, mt85 hS, mo_g11, ms86 hS, mt86 hS, il_s, bl_s, bl_z, ll_s, is_s, bs_s, bs_z, ls_s, al_s, al_b, al_l, fr_at, fr_fr, Nat.reduceEqDiff, tc_gf3_s, tc_ql2_s, tc_ws_0, tc_ws_i, tc_ws_l, tc_ws_r, Nat.reduceLeDiff, Nat.reduceAdd, Nat.reduceLT, true_and, and_true, if_true, if_false, tc_K, Option.toList_some, Option.toList_none, List.nil_append, List.cons_append, ite_true, ite_false, Int.cast_ofNat_Int, reduceIte, i3_add_eq, i3_sub_eq, Int.add_sub_cancel, Int.add_neg_cancel_right]) | (simp only [r269_12, r269_16, r269_26, r269_46, i6_lt0, i6_0lt, i6_0le, i6_le0, i6_eq0, b10_0, ite_not, Int.reduceLT, Int.reduceLE, Int.reduceEq, Int.reduceNeg, if_true, if_false, ite_true, ite_false, reduceIte, eq_self, not_true, not_false_eq_true]; try refine tc_ite (fun _ => ?_) (fun _ => ?_) <;> try (exfalso; omega)))
    all_goals
      simp (disch := omega) only [if_pos, if_neg] at ih
      exact ih
  · simp only [r269_4]
    rcases lgo_01 (c 84) (c 85) (c 86) (c 77) w (c 76 10).toNat with h | h
    · rw [h] at hq ⊢
      repeat' (first | (simp (disch := first | omega | exact Nat.le_of_ble_eq_true rfl | exact rfl | assumption | (simp only [fr_at, Nat.reduceEqDiff, if_false, if_true, reduceIte]; first | assumption | omega)) only [r269_0, r269_1i, r269_2, r269_3i, r269_5, r269_6, r269_9, r269_11, r269_15, r269_19, r269_20, r269_23, r269_24, r269_25, r269_29, r269_30, r269_33, r269_34, r269_37, r269_38, r269_39, r269_40, r269_41, r269_44, r269_45, r269_49, r269_50, r269_53, r269_54i, r269_55i, r269_58, r269_61, r269_62h, r269_62f, r269_62t, g11_9_11, g11_34_11, g11_13_11, g11_37_11, g11_40_11, mo_len, ms75 hS, mt75 hS, mo_g1, ms76 hS, mt76 hS, mo_g9, ms84 hS, mt84 hS, mo_g2, ms77 hS, mt77 hS, mo_g10, ms85 hS, mt85 hS, mo_g11, ms86 hS, mt86 hS, il_s, bl_s, bl_z, ll_s, is_s, bs_s, bs_z, ls_s, al_s, al_b, al_l, fr_at, fr_fr, Nat.reduceEqDiff, tc_gf3_s, tc_ql2_s, tc_ws_0, tc_ws_i, tc_ws_l, tc_ws_r, Nat.reduceLeDiff, Nat.reduceAdd, Nat.reduceLT, true_and, and_true, if_true, if_false, tc_K, Option.toList_some, Option.toList_none, List.nil_append, List.cons_append, ite_true, ite_false, Int.cast_ofNat_Int, reduceIte, i3_add_eq, i3_sub_eq, Int.add_sub_cancel, Int.add_neg_cancel_right]) | (simp only [r269_12, r269_16, r269_26, r269_46, i6_lt0, i6_0lt, i6_0le, i6_le0, i6_eq0, b10_0, ite_not, Int.reduceLT, Int.reduceLE, Int.reduceEq, Int.reduceNeg, if_true, if_false, ite_true, ite_false, reduceIte, eq_self, not_true, not_false_eq_true]; try refine tc_ite (fun _ => ?_) (fun _ => ?_) <;> try (exfalso; omega)))
      exact hq
    · rw [h] at hq ⊢
      repeat' (first | (simp (disch := first | omega | exact Nat.le_of_ble_eq_true rfl | exact rfl | assumption | (simp only [fr_at, Nat.reduceEqDiff, if_false, if_true, reduceIte]; first | assumption | omega)) only [r269_0, r269_1i, r269_2, r269_3i, r269_5, r269_6, r269_9, r269_11, r269_15, r269_19, r269_20, r269_23, r269_24, r269_25, r269_29, r269_30, r269_33, r269_34, r269_37, r269_38, r269_39, r269_40, r269_41, r269_44, r269_45, r269_49, r269_50, r269_53, r269_54i, r269_55i, r269_58, r269_61, r269_62h, r269_62f, r269_62t, g11_9_11, g11_34_11, g11_13_11, g11_37_11, g11_40_11, mo_len, ms75 hS, mt75 hS, mo_g1, ms76 hS, mt76 hS, mo_g9, ms84 hS, mt84 hS, mo_g2, ms77 hS, mt77 hS, mo_g10, ms85 hS, mt85 hS, mo_g11, ms86 hS, mt86 hS, il_s, bl_s, bl_z, ll_s, is_s, bs_s, bs_z, ls_s, al_s, al_b, al_l, fr_at, fr_fr, Nat.reduceEqDiff, tc_gf3_s, tc_ql2_s, tc_ws_0, tc_ws_i, tc_ws_l, tc_ws_r, Nat.reduceLeDiff, Nat.reduceAdd, Nat.reduceLT, true_and, and_true, if_true, if_false, tc_K, Option.toList_some, Option.toList_none, List.nil_append, List.cons_append, ite_true, ite_false, Int.cast_ofNat_Int, reduceIte, i3_add_eq, i3_sub_eq, Int.add_sub_cancel, Int.add_neg_cancel_right]) | (simp only [r269_12, r269_16, r269_26, r269_46, i6_lt0, i6_0lt, i6_0le, i6_le0, i6_eq0, b10_0, ite_not, Int.reduceLT, Int.reduceLE, Int.reduceEq, Int.reduceNeg, if_true, if_false, ite_true, ite_false, reduceIte, eq_self, not_true, not_false_eq_true]; try refine tc_ite (fun _ => ?_) (fun _ => ?_) <;> try (exfalso; omega)))
      exact hq
theorem c268 (hS : MS L sh) (hb : WB (bm c)) (hl : LGI c) {r sa : Int} (hr : r = -1 ∨ (0 ≤ r ∧ r ≤ 5 ∧ LW c r)) (hsa : -1 ≤ sa ∧ sa ≤ 60) {d0 : Nat → Int → Int} (hd0 : QR c d0)
    (hq : ∀ e, QR c e → e 109 = d0 109 → e 110 = d0 110 → e 112 = d0 112 → (0 ≤ sa → ∀ x, 0 ≤ x → x < c 76 0 * c 76 1 → e 111 x = gos (bm c) (lmr c r) (bgn (bm c)) sa.toNat 0 x) → Q (some (.inl (crn (bm c) (lmr c r) (c 84) (c 85) (c 86) (c 76 10).toNat 61))) (hp L sh e) n) : tc_C 268 [rf 75, .inl r, .inl sa] (hp L sh d0) n Q := by
  show tc_W 268 0 [rf 75, .inl r, .inl sa, tc_nil, tc_nil] [] _ _ Q
  obtain ⟨hd, hbd⟩ := hb.dm
  have hN := hd.m.1
  repeat' (first | (simp (disch := first | omega | exact Nat.le_of_ble_eq_true rfl | exact rfl | assumption | (simp only [fr_at, Nat.reduceEqDiff, if_false, if_true, reduceIte]; first | assumption | omega)) only [r268_0, r268_1, r268_4, r268_6, r268_7, r268_8, r268_9, v268_9_11, r268_12, r268_13i, r268_14, r268_15i, r268_19, r268_24, r268_28, r268_29, r268_31, v268_31_11, r268_37, r268_38, r268_41, r268_42i, r268_43, r268_45, r268_49, r268_50, r268_53, r268_54, r268_57, r268_60, r268_61, r268_62, v268_62_11, r268_65, v268_65_11, r268_68, r268_68A, r268_69i, r268_72, r268_75, r268_76, v268_76_11, r268_79, r268_80h, r268_80f, r268_80t, g11_9_11, g11_13_11, g11_121_11, mo_len, ms75 hS, mt75 hS, mo_g1, ms76 hS, mt76 hS, mo_g2, ms77 hS, mt77 hS, mo_g52, ms111 hS, mt111 hS, il_s, bl_s, bl_z, ll_s, is_s, bs_s, bs_z, ls_s, al_s, al_b, al_l, fr_at, fr_fr, Nat.reduceEqDiff, tc_gf3_s, tc_ql2_s, tc_ws_0, tc_ws_i, tc_ws_l, tc_ws_r, Nat.reduceLeDiff, Nat.reduceAdd, Nat.reduceLT, true_and, and_true, if_true, if_false, tc_K, Option.toList_some, Option.toList_none, List.nil_append, List.cons_append, ite_true, ite_false, Int.cast_ofNat_Int, reduceIte, i3_add_eq, i3_sub_eq, Int.add_sub_cancel, Int.add_neg_cancel_right]) | (simp only [r268_21, r268_25, r268_34, r268_46, i6_lt0, i6_0lt, i6_0le, i6_le0, i6_eq0, b10_0, ite_not, Int.reduceLT, Int.reduceLE, Int.reduceEq, Int.reduceNeg, if_true, if_false, ite_true, ite_false, reduceIte, eq_self, not_true, not_false_eq_true]; try refine tc_ite (fun _ => ?_) (fun _ => ?_) <;> try (exfalso; omega)))
  generalize hd1 : fr d0 76 (fu (d0 76) 12 r) = d1
  have o1 : ∀ a, ¬ a = 76 → d1 a = d0 a := fun a a1 => by rw [← hd1, fr_ne a1]
  have p1 : ∀ i, ¬ i = 12 → d1 76 i = c 76 i := fun i i1 => by rw [← hd1, fr_same, fu_ne i1, hd0.2.1]
  have p12 : d1 76 12 = r := by rw [← hd1, fr_same, fu_same]
  have g1 : QG c d1 := by
    obtain ⟨⟨q1, q2, q3, q4, q5⟩, _⟩ := hd0
    exact ⟨fun a a1 a2 a3 a4 a5 a6 a7 => (o1 a a2).trans (q1 a a1 a2 a3 a4 a5 a6 a7), fun i i1 i2 i3 i4 => p1 i i4, fun i i1 i2 i3 i4 => by rw [o1 75 (by omega)]; exact q3 i i1 i2 i3 i4, fun j j1 => by rw [o1 113 (by omega)]; exact q4 j j1, fun j j1 j2 => by rw [o1 113 (by omega)]; exact q5 j j1 j2⟩
  refine c186 (c := d1) hS ?_
  intro e1 k1 k2 k3 k4 k5 k6
  have ge : QG c e1 := by
    obtain ⟨q1, q2, q3, q4, q5⟩ := g1
    exact ⟨fun a a1 a2 a3 a4 a5 a6 a7 => (k1 a a2 a3 a4 a5 a6).trans (q1 a a1 a2 a3 a4 a5 a6 a7), fun i i1 i2 i3 i4 => (k2 i i1 i2).trans (q2 i i1 i2 i3 i4), fun i i1 i2 i3 i4 => by rw [k1 75 (by omega) (by omega) (by omega) (by omega) (by omega)]; exact q3 i i1 i2 i3 i4, fun j j1 => by rw [k1 113 (by omega) (by omega) (by omega) (by omega) (by omega)]; exact q4 j j1, fun j j1 j2 => by rw [k1 113 (by omega) (by omega) (by omega) (by omega) (by omega)]; exact q5 j j1 j2⟩
  have e12 : e1 76 12 = r := (k2 12 (by omega) (by omega)).trans p12
  have hse : SEq (bm c) (pm e1) (bgn (bm c)) := by
    have r87 := g1.1 87 (by omega) (by omega) (by omega) (by omega) (by omega) (by omega) (by omega)
    have r88 := g1.1 88 (by omega) (by omega) (by omega) (by omega) (by omega) (by omega) (by omega)
    refine ⟨fun x x1 x2 => ?_, fun f f1 f2 => ?_, k3, k4⟩
    · have := k5 x x1 (by have : x < c 76 0 * c 76 1 := x2; omega)
      rw [r87] at this
      exact this
    · have h2 := hb.2.1
      have := k6 f f1 (by omega)
      rw [r88] at this
      exact this
  have ke : ∀ a, (a = 109 ∨ a = 110 ∨ a = 112) → e1 a = d0 a := fun a ha => (k1 a (by omega) (by omega) (by omega) (by omega) (by omega)).trans (o1 a (by omega))
  have hlm : ∀ d, QG c d → d 76 12 = r → lm d = lmr c r ∧ LF d := by
    intro d g h12
    constructor
    · unfold lm lmr
      rw [h12, mlaw_ext g.lr]
    · unfold LF
      rw [h12]
      rcases hr with h | h
      · exact Or.inl h
      · exact Or.inr ⟨h.1, h.2.1, LW_ext g.lr h.2.2⟩
  have hwb := bgn_ws hb
  repeat' (first | (simp (disch := first | omega | exact Nat.le_of_ble_eq_true rfl | exact rfl | assumption | (simp only [fr_at, Nat.reduceEqDiff, if_false, if_true, reduceIte]; first | assumption | omega)) only [r268_0, r268_1, r268_4, r268_6, r268_7, r268_8, r268_9, v268_9_11, r268_12, r268_13i, r268_14, r268_15i, r268_19, r268_24, r268_28, r268_29, r268_31, v268_31_11, r268_37, r268_38, r268_41, r268_42i, r268_43, r268_45, r268_49, r268_50, r268_53, r268_54, r268_57, r268_60, r268_61, r268_62, v268_62_11, r268_65, v268_65_11, r268_68, r268_68A, r268_69i, r268_72, r268_75, r268_76, v268_76_11, r268_79, r268_80h, r268_80f, r268_80t, g11_9_11, g11_13_11, g11_121_11, mo_len, ms75 hS, mt75 hS, mo_g1, ms76 hS, mt76 hS, mo_g2, ms77 hS, mt77 hS, mo_g52, ms111 hS, mt111 hS, il_s, bl_s, bl_z, ll_s, is_s, bs_s, bs_z, ls_s, al_s, al_b, al_l, fr_at, fr_fr, Nat.reduceEqDiff, tc_gf3_s, tc_ql2_s, tc_ws_0, tc_ws_i, tc_ws_l, tc_ws_r, Nat.reduceLeDiff, Nat.reduceAdd, Nat.reduceLT, true_and, and_true, if_true, if_false, tc_K, Option.toList_some, Option.toList_none, List.nil_append, List.cons_append, ite_true, ite_false, Int.cast_ofNat_Int, reduceIte, i3_add_eq, i3_sub_eq, Int.add_sub_cancel, Int.add_neg_cancel_right]) | (simp only [r268_21, r268_25, r268_34, r268_46, i6_lt0, i6_0lt, i6_0le, i6_le0, i6_eq0, b10_0, ite_not, Int.reduceLT, Int.reduceLE, Int.reduceEq, Int.reduceNeg, if_true, if_false, ite_true, ite_false, reduceIte, eq_self, not_true, not_false_eq_true]; try refine tc_ite (fun _ => ?_) (fun _ => ?_) <;> try (exfalso; omega)))
  have hlp := lq_1 (N := 61) (P := fun k (d : Nat → Int → Int) => tc_W 268 17 [rf 75, .inl r, .inl sa, .inl (crn (bm c) (lmr c r) (c 84) (c 85) (c 86) (c 76 10).toNat k.toNat), .inl k] [] (hp L sh d) n Q) (I := fun k d => QG c d ∧ d 76 12 = r ∧ SEq (bm c) (pm d) (gos (bm c) (lmr c r) (bgn (bm c)) k.toNat) ∧ (∀ a, (a = 109 ∨ a = 110 ∨ a = 112) → d a = d0 a) ∧ (0 ≤ sa → sa < k → ∀ x, 0 ≤ x → x < c 76 0 * c 76 1 → d 111 x = gos (bm c) (lmr c r) (bgn (bm c)) sa.toNat 0 x)) ?_ ?_ 0 e1 (by omega) (by omega) ⟨ge, e12, hse, ke, fun h1 h2 => by omega⟩
  · exact hlp
  · intro k d hk hk2 ⟨g, h12, he, hke, hsh⟩ ih
    have e10 : d 76 10 = c 76 10 := g.2.1 10 (by omega) (by omega) (by omega) (by omega)
    have r84 := g.1 84 (by omega) (by omega) (by omega) (by omega) (by omega) (by omega) (by omega)
    have r85 := g.1 85 (by omega) (by omega) (by omega) (by omega) (by omega) (by omega) (by omega)
    have r86 := g.1 86 (by omega) (by omega) (by omega) (by omega) (by omega) (by omega) (by omega)
    have r0 := g.2.1 0 (by omega) (by omega) (by omega) (by omega)
    have r1 := g.2.1 1 (by omega) (by omega) (by omega) (by omega)
    have hld : LGI d := by
      unfold LGI
      rw [e10, r84, r85, r86, r0, r1]
      exact hl
    have e1 : crn (bm c) (lmr c r) (c 84) (c 85) (c 86) (c 76 10).toNat (k + 1).toNat = if crn (bm c) (lmr c r) (c 84) (c 85) (c 86) (c 76 10).toNat k.toNat = 1 ∧ lgo (c 84) (c 85) (c 86) (gos (bm c) (lmr c r) (bgn (bm c)) k.toNat 0) k (c 76 10).toNat = 1 then 1 else 0 := by
      rw [show (k + 1).toNat = k.toNat + 1 by omega]
      show (if crn (bm c) (lmr c r) (c 84) (c 85) (c 86) (c 76 10).toNat k.toNat = 1 ∧ lgo (c 84) (c 85) (c 86) (gos (bm c) (lmr c r) (bgn (bm c)) k.toNat 0) (k.toNat : Int) (c 76 10).toNat = 1 then 1 else 0) = _
      rw [Int.toNat_of_nonneg hk]
    have elg : lgo (d 84) (d 85) (d 86) (d 77) k (d 76 10).toNat = lgo (c 84) (c 85) (c 86) (gos (bm c) (lmr c r) (bgn (bm c)) k.toNat 0) k (c 76 10).toNat := by
      rw [e10, r84, r85, r86]
      refine lgo_ext fun j j1 j2 => ?_
      have h3 := (hl.2.2 j j1 (by have := hl.1; omega)).1
      exact (he.1 (c 85 j) h3.1 h3.2).1
    have h269 := fun Q => c269 (c := d) (n := n) (Q := Q) (w := k) hS hld (by rw [r0, r1]; exact hN)
    simp only [elg] at h269
    have h01 := crn_01 (bm c) (lmr c r) (c 84) (c 85) (c 86) (c 76 10).toNat k.toNat
    have h02 := lgo_01 (c 84) (c 85) (c 86) (gos (bm c) (lmr c r) (bgn (bm c)) k.toNat 0) k (c 76 10).toNat
    have h4 : d 76 8 = gos (bm c) (lmr c r) (bgn (bm c)) k.toNat 4 0 := he.2.2.1
    have hgw := gos_w (b := bm c) (s := bgn (bm c)) (la := lmr c r) k.toNat
    have hb40 : bgn (bm c) 4 0 = 0 := rfl
    rw [hb40] at hgw
    have htf := tof_rng hb (gos (bm c) (lmr c r) (bgn (bm c)) k.toNat 4 0)
    have hws := gos_ws (la := lmr c r) hb hwb k.toNat (by rw [hb40]; omega)
    have go : ∀ (z : Int) (d2 : Nat → Int → Int), QG c d2 → d2 76 12 = r → SEq (bm c) (pm d2) (gos (bm c) (lmr c r) (bgn (bm c)) k.toNat) → (∀ a, (a = 109 ∨ a = 110 ∨ a = 112) → d2 a = d0 a) → (0 ≤ sa → sa ≤ k → ∀ x, 0 ≤ x → x < c 76 0 * c 76 1 → d2 111 x = gos (bm c) (lmr c r) (bgn (bm c)) sa.toNat 0 x) → z = crn (bm c) (lmr c r) (c 84) (c 85) (c 86) (c 76 10).toNat (k + 1).toNat → tc_W 268 60 [rf 75, .inl r, .inl sa, .inl z, .inl k] [] (hp L sh d2) n Q := by
      intro z d2 g2 h122 he2 hke2 hsh2 hz
      have h42 : d2 76 8 = gos (bm c) (lmr c r) (bgn (bm c)) k.toNat 4 0 := he2.2.2.1
      have h207 := fun Q => c207q (n := n) (Q := Q) hS hb g2 h42 (by omega)
      have hl2 := hlm d2 g2 h122
      repeat' (first | (simp (disch := first | omega | exact Nat.le_of_ble_eq_true rfl | exact rfl | assumption | (simp only [fr_at, Nat.reduceEqDiff, if_false, if_true, reduceIte]; first | assumption | omega)) only [r268_0, r268_1, r268_4, r268_6, r268_7, r268_8, r268_9, v268_9_11, r268_12, r268_13i, r268_14, r268_15i, r268_19, r268_24, r268_28, r268_29, r268_31, v268_31_11, r268_37, r268_38, r268_41, r268_42i, r268_43, r268_45, r268_49, r268_50, r268_53, r268_54, r268_57, r268_60, r268_61, r268_62, v268_62_11, r268_65, v268_65_11, r268_68, r268_68A, r268_69i, r268_72, r268_75, r268_76, v268_76_11, r268_79, r268_80h, r268_80f, r268_80t, g11_9_11, g11_13_11, g11_121_11, mo_len, ms75 hS, mt75 hS, mo_g1, ms76 hS, mt76 hS, mo_g2, ms77 hS, mt77 hS, mo_g52, ms111 hS, mt111 hS, il_s, bl_s, bl_z, ll_s, is_s, bs_s, bs_z, ls_s, al_s, al_b, al_l, fr_at, fr_fr, Nat.reduceEqDiff, tc_gf3_s, tc_ql2_s, tc_ws_0, tc_ws_i, tc_ws_l, tc_ws_r, Nat.reduceLeDiff, Nat.reduceAdd, Nat.reduceLT, true_and, and_true, if_true, if_false, tc_K, Option.toList_some, Option.toList_none, List.nil_append, List.cons_append, ite_true, ite_false, Int.cast_ofNat_Int, reduceIte, i3_add_eq, i3_sub_eq, Int.add_sub_cancel, Int.add_neg_cancel_right, h207]) | (simp only [r268_21, r268_25, r268_34, r268_46, i6_lt0, i6_0lt, i6_0le, i6_le0, i6_eq0, b10_0, ite_not, Int.reduceLT, Int.reduceLE, Int.reduceEq, Int.reduceNeg, if_true, if_false, ite_true, ite_false, reduceIte, eq_self, not_true, not_false_eq_true]; try refine tc_ite (fun _ => ?_) (fun _ => ?_) <;> try (exfalso; omega)))
      refine c224q (c := c) hS hb g2 hl2.2 hws he2 (by omega) (by omega) ?_
      intro e3 g3 k3 f3 s3
      rw [hl2.1] at s3
      repeat' (first | (simp (disch := first | omega | exact Nat.le_of_ble_eq_true rfl | exact rfl | assumption | (simp only [fr_at, Nat.reduceEqDiff, if_false, if_true, reduceIte]; first | assumption | omega)) only [r268_0, r268_1, r268_4, r268_6, r268_7, r268_8, r268_9, v268_9_11, r268_12, r268_13i, r268_14, r268_15i, r268_19, r268_24, r268_28, r268_29, r268_31, v268_31_11, r268_37, r268_38, r268_41, r268_42i, r268_43, r268_45, r268_49, r268_50, r268_53, r268_54, r268_57, r268_60, r268_61, r268_62, v268_62_11, r268_65, v268_65_11, r268_68, r268_68A, r268_69i, r268_72, r268_75, r268_76, v268_76_11, r268_79, r268_80h, r268_80f, r268_80t, g11_9_11, g11_13_11, g11_121_11, mo_len, ms75 hS, mt75 hS, mo_g1, ms76 hS, mt76 hS, mo_g2, ms77 hS, mt77 hS, mo_g52, ms111 hS, mt111 hS, il_s, bl_s, bl_z, ll_s, is_s, bs_s, bs_z, ls_s, al_s, al_b, al_l, fr_at, fr_fr, Nat.reduceEqDiff, tc_gf3_s, tc_ql2_s, tc_ws_0, tc_ws_i, tc_ws_l, tc_ws_r, Nat.reduceLeDiff, Nat.reduceAdd, Nat.reduceLT, true_and, and_true, if_true, if_false, tc_K, Option.toList_some, Option.toList_none, List.nil_append, List.cons_append, ite_true, ite_false, Int.cast_ofNat_Int, reduceIte, i3_add_eq, i3_sub_eq, Int.add_sub_cancel, Int.add_neg_cancel_right]) | (simp only [r268_21, r268_25, r268_34, r268_46, i6_lt0, i6_0lt, i6_0le, i6_le0, i6_eq0, b10_0, ite_not, Int.reduceLT, Int.reduceLE, Int.reduceEq, Int.reduceNeg, if_true, if_false, ite_true, ite_false, reduceIte, eq_self, not_true, not_false_eq_true]; try refine tc_ite (fun _ => ?_) (fun _ => ?_) <;> try (exfalso; omega)))
      rw [hz]
      refine ih e3 ⟨g3, (f3.2 12 (by omega) (by omega)).trans h122, ?_, fun a ha => ?_, fun h1 h2 x x1 x2 => ?_⟩
      · rw [show (k + 1).toNat = k.toNat + 1 by omega]
        exact s3
      · rw [k3.1 a (by omega)]
        exact hke2 a ha
      · rw [k3.1 111 (by omega)]
        exact hsh2 h1 (by omega) x x1 x2
    have show60 : ∀ z, z = crn (bm c) (lmr c r) (c 84) (c 85) (c 86) (c 76 10).toNat (k + 1).toNat → tc_W 268 43 [rf 75, .inl r, .inl sa, .inl z, .inl k] [] (hp L sh d) n Q := by
      intro z hz
      by_cases hks : k = sa
      · have h185 := fun Q => c185 (c := d) (n := n) (Q := Q) (a := 77) (b := 111) (m := 25) (L := L) (sh := sh) (by have := hS.1; omega) (hS.2 77 (by omega) (by omega)) (hS.2 111 (by omega) (by omega)) (by omega) (by omega)
        repeat' (first | (simp (disch := first | omega | exact Nat.le_of_ble_eq_true rfl | exact rfl | assumption | (simp only [fr_at, Nat.reduceEqDiff, if_false, if_true, reduceIte]; first | assumption | omega)) only [r268_0, r268_1, r268_4, r268_6, r268_7, r268_8, r268_9, v268_9_11, r268_12, r268_13i, r268_14, r268_15i, r268_19, r268_24, r268_28, r268_29, r268_31, v268_31_11, r268_37, r268_38, r268_41, r268_42i, r268_43, r268_45, r268_49, r268_50, r268_53, r268_54, r268_57, r268_61, r268_62, v268_62_11, r268_65, v268_65_11, r268_68, r268_68A, r268_69i, r268_72, r268_75, r268_76, v268_76_11, r268_79, r268_80h, r268_80f, r268_80t, g11_9_11, g11_13_11, g11_121_11, mo_len, ms75 hS, mt75 hS, mo_g1, ms76 hS, mt76 hS, mo_g2, ms77 hS, mt77 hS, mo_g52, ms111 hS, mt111 hS, il_s, bl_s, bl_z, ll_s, is_s, bs_s, bs_z, ls_s, al_s, al_b, al_l, fr_at, fr_fr, Nat.reduceEqDiff, tc_gf3_s, tc_ql2_s, tc_ws_0, tc_ws_i, tc_ws_l, tc_ws_r, Nat.reduceLeDiff, Nat.reduceAdd, Nat.reduceLT, true_and, and_true, if_true, if_false, tc_K, Option.toList_some, Option.toList_none, List.nil_append, List.cons_append, ite_true, ite_false, Int.cast_ofNat_Int, reduceIte, i3_add_eq, i3_sub_eq, Int.add_sub_cancel, Int.add_neg_cancel_right, h185]) | (simp only [r268_21, r268_25, r268_34, r268_46, i6_lt0, i6_0lt, i6_0le, i6_le0, i6_eq0, b10_0, ite_not, Int.reduceLT, Int.reduceLE, Int.reduceEq, Int.reduceNeg, if_true, if_false, ite_true, ite_false, reduceIte, eq_self, not_true, not_false_eq_true]; try refine tc_ite (fun _ => ?_) (fun _ => ?_) <;> try (exfalso; omega)))
        refine go z _ ?_ ?_ ?_ ?_ ?_ hz
        · obtain ⟨q1, q2, q3, q4, q5⟩ := g
          exact ⟨fun a a1 a2 a3 a4 a5 a6 a7 => (fr_ne (by omega)).trans (q1 a a1 a2 a3 a4 a5 a6 a7), fun i i1 i2 i3 i4 => by rw [fr_ne (by omega)]; exact q2 i i1 i2 i3 i4, fun i i1 i2 i3 i4 => by rw [fr_ne (by omega)]; exact q3 i i1 i2 i3 i4, fun j j1 => by rw [fr_ne (by omega)]; exact q4 j j1, fun j j1 j2 => by rw [fr_ne (by omega)]; exact q5 j j1 j2⟩
        · rw [fr_ne (by omega)]
          exact h12
        · exact he
        · intro a ha
          rw [fr_ne (by omega)]
          exact hke a ha
        · intro _ _ x x1 x2
          rw [fr_same, lay_in (by omega), ← hks]
          exact (he.1 x x1 x2).1
      · repeat' (first | (simp (disch := first | omega | exact Nat.le_of_ble_eq_true rfl | exact rfl | assumption | (simp only [fr_at, Nat.reduceEqDiff, if_false, if_true, reduceIte]; first | assumption | omega)) only [r268_0, r268_1, r268_4, r268_6, r268_7, r268_8, r268_9, v268_9_11, r268_12, r268_13i, r268_14, r268_15i, r268_19, r268_24, r268_28, r268_29, r268_31, v268_31_11, r268_37, r268_38, r268_41, r268_42i, r268_43, r268_45, r268_49, r268_50, r268_53, r268_54, r268_57, r268_61, r268_62, v268_62_11, r268_65, v268_65_11, r268_68, r268_68A, r268_69i, r268_72, r268_75, r268_76, v268_76_11, r268_79, r268_80h, r268_80f, r268_80t, g11_9_11, g11_13_11, g11_121_11, mo_len, ms75 hS, mt75 hS, mo_g1, ms76 hS, mt76 hS, mo_g2, ms77 hS, mt77 hS, mo_g52, ms111 hS, mt111 hS, il_s, bl_s, bl_z, ll_s, is_s, bs_s, bs_z, ls_s, al_s, al_b, al_l, fr_at, fr_fr, Nat.reduceEqDiff, tc_gf3_s, tc_ql2_s, tc_ws_0, tc_ws_i, tc_ws_l, tc_ws_r, Nat.reduceLeDiff, Nat.reduceAdd, Nat.reduceLT, true_and, and_true, if_true, if_false, tc_K, Option.toList_some, Option.toList_none, List.nil_append, List.cons_append, ite_true, ite_false, Int.cast_ofNat_Int, reduceIte, i3_add_eq, i3_sub_eq, Int.add_sub_cancel, Int.add_neg_cancel_right]) | (simp only [r268_21, r268_25, r268_34, r268_46, i6_lt0, i6_0lt, i6_0le, i6_le0, i6_eq0, b10_0, ite_not, Int.reduceLT, Int.reduceLE, Int.reduceEq, Int.reduceNeg, if_true, if_false, ite_true, ite_false, reduceIte, eq_self, not_true, not_false_eq_true]; try refine tc_ite (fun _ => ?_) (fun _ => ?_) <;> try (exfalso; omega)))
        refine go z d g h12 he hke (fun h1 h2 => hsh h1 (by omega)) hz
    simp only [r268_17]
    generalize crn (bm c) (lmr c r) (c 84) (c 85) (c 86) (c 76 10).toNat k.toNat = z1 at e1 h01
    generalize lgo (c 84) (c 85) (c 86) (gos (bm c) (lmr c r) (bgn (bm c)) k.toNat 0) k (c 76 10).toNat = z2 at e1 h269 h02
    repeat' (first | (simp (disch := first | omega | exact Nat.le_of_ble_eq_true rfl | exact rfl | assumption | (simp only [fr_at, Nat.reduceEqDiff, if_false, if_true, reduceIte]; first | assumption | omega)) only [r268_0, r268_1, r268_4, r268_6, r268_7, r268_8, r268_9, v268_9_11, r268_12, r268_13i, r268_14, r268_15i, r268_19, r268_24, r268_28, r268_29, r268_31, v268_31_11, r268_37, r268_38, r268_41, r268_42i, r268_45, r268_49, r268_50, r268_53, r268_54, r268_57, r268_60, r268_61, r268_62, v268_62_11, r268_65, v268_65_11, r268_68, r268_68A, r268_69i, r268_72, r268_75, r268_76, v268_76_11, r268_79, r268_80h, r268_80f, r268_80t, g11_9_11, g11_13_11, g11_121_11, mo_len, ms75 hS, mt75 hS, mo_g1, ms76 hS, mt76 hS, mo_g2, ms77 hS, mt77 hS, mo_g52, ms111 hS, mt111 hS, il_s, bl_s, bl_z, ll_s, is_s, bs_s, bs_z, ls_s, al_s, al_b, al_l, fr_at, fr_fr, Nat.reduceEqDiff, tc_gf3_s, tc_ql2_s, tc_ws_0, tc_ws_i, tc_ws_l, tc_ws_r, Nat.reduceLeDiff, Nat.reduceAdd, Nat.reduceLT, true_and, and_true, if_true, if_false, tc_K, Option.toList_some, Option.toList_none, List.nil_append, List.cons_append, ite_true, ite_false, Int.cast_ofNat_Int, reduceIte, i3_add_eq, i3_sub_eq, Int.add_sub_cancel, Int.add_neg_cancel_right, h269]) | (simp only [r268_21, r268_25, r268_34, r268_46, i6_lt0, i6_0lt, i6_0le, i6_le0, i6_eq0, b10_0, ite_not, Int.reduceLT, Int.reduceLE, Int.reduceEq, Int.reduceNeg, if_true, if_false, ite_true, ite_false, reduceIte, eq_self, not_true, not_false_eq_true]; try refine tc_ite (fun _ => ?_) (fun _ => ?_) <;> try (exfalso; omega)))
    all_goals
      refine show60 _ ?_
      rw [e1]
      split <;> omega
  · intro d ⟨g, h12, he, hke, hsh⟩
    simp only [r268_17]
    repeat' (first | (simp (disch := first | omega | exact Nat.le_of_ble_eq_true rfl | exact rfl | assumption | (simp only [fr_at, Nat.reduceEqDiff, if_false, if_true, reduceIte]; first | assumption | omega)) only [r268_0, r268_1, r268_4, r268_6, r268_7, r268_8, r268_9, v268_9_11, r268_12, r268_13i, r268_14, r268_15i, r268_19, r268_24, r268_28, r268_29, r268_31, v268_31_11, r268_37, r268_38, r268_41, r268_42i, r268_45, r268_49, r268_50, r268_53, r268_54, r268_57, r268_60, r268_61, r268_62, v268_62_11, r268_65, v268_65_11, r268_68, r268_68A, r268_69i, r268_72, r268_75, r268_76, v268_76_11, r268_79, r268_80h, r268_80f, r268_80t, g11_9_11, g11_13_11, g11_121_11, mo_len, ms75 hS, mt75 hS, mo_g1, ms76 hS, mt76 hS, mo_g2, ms77 hS, mt77 hS, mo_g52, ms111 hS, mt111 hS, il_s, bl_s, bl_z, ll_s, is_s, bs_s, bs_z, ls_s, al_s, al_b, al_l, fr_at, fr_fr, Nat.reduceEqDiff, tc_gf3_s, tc_ql2_s, tc_ws_0, tc_ws_i, tc_ws_l, tc_ws_r, Nat.reduceLeDiff, Nat.reduceAdd, Nat.reduceLT, true_and, and_true, if_true, if_false, tc_K, Option.toList_some, Option.toList_none, List.nil_append, List.cons_append, ite_true, ite_false, Int.cast_ofNat_Int, reduceIte, i3_add_eq, i3_sub_eq, Int.add_sub_cancel, Int.add_neg_cancel_right]) | (simp only [r268_21, r268_25, r268_34, r268_46, i6_lt0, i6_0lt, i6_0le, i6_le0, i6_eq0, b10_0, ite_not, Int.reduceLT, Int.reduceLE, Int.reduceEq, Int.reduceNeg, if_true, if_false, ite_true, ite_false, reduceIte, eq_self, not_true, not_false_eq_true]; try refine tc_ite (fun _ => ?_) (fun _ => ?_) <;> try (exfalso; omega)))
    refine c246q (c := c) hS g ?_
    intro e2 g2 k2
    have fin : Q (some (.inl (crn (bm c) (lmr c r) (c 84) (c 85) (c 86) (c 76 10).toNat 61))) (hp L sh e2) n → tc_K 268 79 [rf 75, .inl r, .inl sa, .inl (crn (bm c) (lmr c r) (c 84) (c 85) (c 86) (c 76 10).toNat (61 : Int).toNat), .inl 61] [] Q none (hp L sh e2) n := by
      rw [show (61 : Int).toNat = 61 from rfl]
      rcases crn_01 (bm c) (lmr c r) (c 84) (c 85) (c 86) (c 76 10).toNat 61 with h | h
      · rw [h]
        intro hq
        repeat' (first | (simp (disch := first | omega | exact Nat.le_of_ble_eq_true rfl | exact rfl | assumption | (simp only [fr_at, Nat.reduceEqDiff, if_false, if_true, reduceIte]; first | assumption | omega)) only [r268_0, r268_1, r268_4, r268_6, r268_7, r268_8, r268_9, v268_9_11, r268_12, r268_13i, r268_14, r268_15i, r268_19, r268_24, r268_28, r268_29, r268_31, v268_31_11, r268_37, r268_38, r268_41, r268_42i, r268_45, r268_49, r268_50, r268_53, r268_54, r268_57, r268_60, r268_61, r268_62, v268_62_11, r268_65, v268_65_11, r268_68, r268_68A, r268_69i, r268_72, r268_75, r268_76, v268_76_11, r268_79, r268_80h, r268_80f, r268_80t, g11_9_11, g11_13_11, g11_121_11, mo_len, ms75 hS, mt75 hS, mo_g1, ms76 hS, mt76 hS, mo_g2, ms77 hS, mt77 hS, mo_g52, ms111 hS, mt111 hS, il_s, bl_s, bl_z, ll_s, is_s, bs_s, bs_z, ls_s, al_s, al_b, al_l, fr_at, fr_fr, Nat.reduceEqDiff, tc_gf3_s, tc_ql2_s, tc_ws_0, tc_ws_i, tc_ws_l, tc_ws_r, Nat.reduceLeDiff, Nat.reduceAdd, Nat.reduceLT, true_and, and_true, if_true, if_false, tc_K, Option.toList_some, Option.toList_none, List.nil_append, List.cons_append, ite_true, ite_false, Int.cast_ofNat_Int, reduceIte, i3_add_eq, i3_sub_eq, Int.add_sub_cancel, Int.add_neg_cancel_right]) | (simp only [r268_21, r268_25, r268_34, r268_46, i6_lt0, i6_0lt, i6_0le, i6_le0, i6_eq0, b10_0, ite_not, Int.reduceLT, Int.reduceLE, Int.reduceEq, Int.reduceNeg, if_true, if_false, ite_true, ite_false, reduceIte, eq_self, not_true, not_false_eq_true]; try refine tc_ite (fun _ => ?_) (fun _ => ?_) <;> try (exfalso; omega)))
        exact hq
      · rw [h]
        intro hq
        repeat' (first | (simp (disch := first | omega | exact Nat.le_of_ble_eq_true rfl | exact rfl | assumption | (simp only [fr_at, Nat.reduceEqDiff, if_false, if_true, reduceIte]; first | assumption | omega)) only [r268_0, r268_1, r268_4, r268_6, r268_7, r268_8, r268_9, v268_9_11, r268_12, r268_13i, r268_14, r268_15i, r268_19, r268_24, r268_28, r268_29, r268_31, v268_31_11, r268_37, r268_38, r268_41, r268_42i, r268_45, r268_49, r268_50, r268_53, r268_54, r268_57, r268_60, r268_61, r268_62, v268_62_11, r268_65, v268_65_11, r268_68, r268_68A, r268_69i, r268_72, r268_75, r268_76, v268_76_11, r268_79, r268_80h, r268_80f, r268_80t, g11_9_11, g11_13_11, g11_121_11, mo_len, ms75 hS, mt75 hS, mo_g1, ms76 hS, mt76 hS, mo_g2, ms77 hS, mt77 hS, mo_g52, ms111 hS, mt111 hS, il_s, bl_s, bl_z, ll_s, is_s, bs_s, bs_z, ls_s, al_s, al_b, al_l, fr_at, fr_fr, Nat.reduceEqDiff, tc_gf3_s, tc_ql2_s, tc_ws_0, tc_ws_i, tc_ws_l, tc_ws_r, Nat.reduceLeDiff, Nat.reduceAdd, Nat.reduceLT, true_and, and_true, if_true, if_false, tc_K, Option.toList_some, Option.toList_none, List.nil_append, List.cons_append, ite_true, ite_false, Int.cast_ofNat_Int, reduceIte, i3_add_eq, i3_sub_eq, Int.add_sub_cancel, Int.add_neg_cancel_right]) | (simp only [r268_21, r268_25, r268_34, r268_46, i6_lt0, i6_0lt, i6_0le, i6_le0, i6_eq0, b10_0, ite_not, Int.reduceLT, Int.reduceLE, Int.reduceEq, Int.reduceNeg, if_true, if_false, ite_true, ite_false, reduceIte, eq_self, not_true, not_false_eq_true]; try refine tc_ite (fun _ => ?_) (fun _ => ?_) <;> try (exfalso; omega)))
        exact hq
    refine fin (hq e2 g2 ?_ ?_ ?_ ?_)
    · rw [k2.1 109 (by omega)]
      exact hke 109 (by omega)
    · rw [k2.1 110 (by omega)]
      exact hke 110 (by omega)
    · rw [k2.1 112 (by omega)]
      exact hke 112 (by omega)
    · intro h1 x x1 x2
      rw [k2.1 111 (by omega)]
      exact hsh h1 (by omega) x x1 x2
theorem c267 (hS : MS L sh) (hb : WB (bm c)) (hl : LGI c) (hrs : 0 ≤ c 75 25 ∧ c 75 25 ≤ 6) (hlw : ∀ r, 0 ≤ r → r < c 75 25 → LW c r) {w : Int} (hw2 : w = 0 ∨ w = 1) {g : Int → Int} (hg : ∀ r, g r = crn (bm c) (lmr c r) (c 84) (c 85) (c 86) (c 76 10).toNat 61)
    (hq : ∀ e, QX c e → Q (some (.inl (if w = 0 then (rld g (c 75 25 + 1).toNat).1 else (rld g (c 75 25 + 1).toNat).2))) (hp L sh e) n) : tc_C 267 [rf 75, .inl w] (hp L sh c) n Q := by
  show tc_W 267 0 [rf 75, .inl w, tc_nil, tc_nil, tc_nil] [] _ _ Q
  obtain ⟨hd, hbd⟩ := hb.dm
  have hN := hd.m.1
  have h0 : 0 < c 76 0 := by have := hbd.1; omega
  repeat' (first | (simp (disch := first | omega | exact Nat.le_of_ble_eq_true rfl | exact rfl | assumption | (simp only [fr_at, Nat.reduceEqDiff, if_false, if_true, reduceIte]; first | assumption | omega)) only [r267_0, r267_1, v267_1_11, r267_7, r267_8, r267_9, r267_10, r267_11, r267_17, r267_19, r267_20, r267_21, v267_21_11, r267_24, r267_25i, r267_26, r267_28i, r267_29, r267_30i, r267_34, r267_35, r267_41, r267_42, r267_44, r267_45, v267_45_11, r267_51, r267_55, r267_57, r267_60, r267_61i, r267_62i, r267_65i, r267_68, r267_71, r267_75, r267_76, r267_79, r267_80, g11_331_11, mo_len, ms75 hS, mt75 hS, mo_g25, il_s, bl_s, bl_z, ll_s, is_s, bs_s, bs_z, ls_s, al_s, al_b, al_l, fr_at, fr_fr, Nat.reduceEqDiff, tc_gf3_s, tc_ql2_s, tc_ws_0, tc_ws_i, tc_ws_l, tc_ws_r, Nat.reduceLeDiff, Nat.reduceAdd, Nat.reduceLT, true_and, and_true, if_true, if_false, tc_K, Option.toList_some, Option.toList_none, List.nil_append, List.cons_append, ite_true, ite_false, Int.cast_ofNat_Int, reduceIte, i3_add_eq, i3_sub_eq, Int.add_sub_cancel, Int.add_neg_cancel_right, c217 hS, c181]) | (simp only [r267_4, r267_14, r267_38, r267_48, r267_52, r267_72, i6_lt0, i6_0lt, i6_0le, i6_le0, i6_eq0, b10_0, ite_not, Int.reduceLT, Int.reduceLE, Int.reduceEq, Int.reduceNeg, if_true, if_false, ite_true, ite_false, reduceIte, eq_self, not_true, not_false_eq_true]; try refine tc_ite (fun _ => ?_) (fun _ => ?_) <;> try (exfalso; omega)))
  refine c241q hS ?_
  intro e h1 _
  repeat' (first | (simp (disch := first | omega | exact Nat.le_of_ble_eq_true rfl | exact rfl | assumption | (simp only [fr_at, Nat.reduceEqDiff, if_false, if_true, reduceIte]; first | assumption | omega)) only [r267_0, r267_1, v267_1_11, r267_7, r267_8, r267_9, r267_10, r267_11, r267_17, r267_19, r267_20, r267_21, v267_21_11, r267_24, r267_25i, r267_26, r267_28i, r267_29, r267_30i, r267_34, r267_35, r267_41, r267_42, r267_44, r267_45, v267_45_11, r267_51, r267_55, r267_57, r267_60, r267_61i, r267_62i, r267_65i, r267_68, r267_71, r267_75, r267_76, r267_79, r267_80, g11_331_11, mo_len, ms75 hS, mt75 hS, mo_g25, il_s, bl_s, bl_z, ll_s, is_s, bs_s, bs_z, ls_s, al_s, al_b, al_l, fr_at, fr_fr, Nat.reduceEqDiff, tc_gf3_s, tc_ql2_s, tc_ws_0, tc_ws_i, tc_ws_l, tc_ws_r, Nat.reduceLeDiff, Nat.reduceAdd, Nat.reduceLT, true_and, and_true, if_true, if_false, tc_K, Option.toList_some, Option.toList_none, List.nil_append, List.cons_append, ite_true, ite_false, Int.cast_ofNat_Int, reduceIte, i3_add_eq, i3_sub_eq, Int.add_sub_cancel, Int.add_neg_cancel_right]) | (simp only [r267_4, r267_14, r267_38, r267_48, r267_52, r267_72, i6_lt0, i6_0lt, i6_0le, i6_le0, i6_eq0, b10_0, ite_not, Int.reduceLT, Int.reduceLE, Int.reduceEq, Int.reduceNeg, if_true, if_false, ite_true, ite_false, reduceIte, eq_self, not_true, not_false_eq_true]; try refine tc_ite (fun _ => ?_) (fun _ => ?_) <;> try (exfalso; omega)))
  have hlp := lq_1 (N := c 75 25 + 1) (P := fun k (d : Nat → Int → Int) => tc_W 267 32 [rf 75, .inl w, .inl (rld g k.toNat).1, .inl (rld g k.toNat).2, .inl (k - 1)] [] (hp L sh d) n Q) (I := fun k d => QR c d) ?_ ?_ 0 e (by omega) (by omega) h1
  · exact hlp
  · intro k d hk hk2 hr ih
    have e25 : d 75 25 = c 75 25 := hr.1.2.2.1 25 (by omega) (by omega) (by omega) (by omega)
    have e1 : rld g (k + 1).toNat = if g (k - 1) = 1 then ((rld g k.toNat).1 + 1, if (rld g k.toNat).1 = 0 then k - 1 else (rld g k.toNat).2) else rld g k.toNat := by
      rw [show (k + 1).toNat = k.toNat + 1 by omega]
      show (if g ((k.toNat : Int) - 1) = 1 then ((rld g k.toNat).1 + 1, if (rld g k.toNat).1 = 0 then (k.toNat : Int) - 1 else (rld g k.toNat).2) else rld g k.toNat) = _
      rw [Int.toNat_of_nonneg hk]
    rw [e1] at ih
    have hrn := rld_rng g k.toNat
    generalize rld g k.toNat = R at ih hrn
    have h01 : g (k - 1) = 0 ∨ g (k - 1) = 1 := by
      rw [hg]
      exact crn_01 _ _ _ _ _ _ _
    simp only [r267_32]
    repeat' (first | (simp (disch := first | omega | exact Nat.le_of_ble_eq_true rfl | exact rfl | assumption | (simp only [fr_at, Nat.reduceEqDiff, if_false, if_true, reduceIte]; first | assumption | omega)) only [r267_0, r267_1, v267_1_11, r267_7, r267_8, r267_9, r267_10, r267_11, r267_17, r267_19, r267_20, r267_21, v267_21_11, r267_24, r267_25i, r267_26, r267_28i, r267_29, r267_30i, r267_34, r267_35, r267_41, r267_42, r267_44, r267_45, v267_45_11, r267_51, r267_55, r267_57, r267_60, r267_61i, r267_62i, r267_65i, r267_68, r267_71, r267_75, r267_76, r267_79, r267_80, g11_331_11, mo_len, ms75 hS, mt75 hS, mo_g25, il_s, bl_s, bl_z, ll_s, is_s, bs_s, bs_z, ls_s, al_s, al_b, al_l, fr_at, fr_fr, Nat.reduceEqDiff, tc_gf3_s, tc_ql2_s, tc_ws_0, tc_ws_i, tc_ws_l, tc_ws_r, Nat.reduceLeDiff, Nat.reduceAdd, Nat.reduceLT, true_and, and_true, if_true, if_false, tc_K, Option.toList_some, Option.toList_none, List.nil_append, List.cons_append, ite_true, ite_false, Int.cast_ofNat_Int, reduceIte, i3_add_eq, i3_sub_eq, Int.add_sub_cancel, Int.add_neg_cancel_right, e25]) | (simp only [r267_4, r267_14, r267_38, r267_48, r267_52, r267_72, i6_lt0, i6_0lt, i6_0le, i6_le0, i6_eq0, b10_0, ite_not, Int.reduceLT, Int.reduceLE, Int.reduceEq, Int.reduceNeg, if_true, if_false, ite_true, ite_false, reduceIte, eq_self, not_true, not_false_eq_true]; try refine tc_ite (fun _ => ?_) (fun _ => ?_) <;> try (exfalso; omega)))
    refine c268 (c := c) hS hb hl (r := k - 1) (sa := -1) ?_ (by omega) hr ?_
    · by_cases h : k = 0
      · exact Or.inl (by omega)
      · exact Or.inr ⟨by omega, by omega, hlw (k - 1) (by omega) (by omega)⟩
    intro e2 g2 _ _ _ _
    rw [← hg]
    have ih2 := ih e2 g2
    rcases h01 with h | h
    · rw [if_neg (by omega)] at ih2
      repeat' (first | (simp (disch := first | omega | exact Nat.le_of_ble_eq_true rfl | exact rfl | assumption | (simp only [fr_at, Nat.reduceEqDiff, if_false, if_true, reduceIte]; first | assumption | omega)) only [r267_0, r267_1, v267_1_11, r267_7, r267_8, r267_9, r267_10, r267_11, r267_17, r267_19, r267_20, r267_21, v267_21_11, r267_24, r267_25i, r267_26, r267_28i, r267_29, r267_30i, r267_34, r267_35, r267_41, r267_42, r267_44, r267_45, v267_45_11, r267_51, r267_55, r267_57, r267_60, r267_61i, r267_62i, r267_65i, r267_68, r267_71, r267_75, r267_76, r267_79, r267_80, g11_331_11, mo_len, ms75 hS, mt75 hS, mo_g25, il_s, bl_s, bl_z, ll_s, is_s, bs_s, bs_z, ls_s, al_s, al_b, al_l, fr_at, fr_fr, Nat.reduceEqDiff, tc_gf3_s, tc_ql2_s, tc_ws_0, tc_ws_i, tc_ws_l, tc_ws_r, Nat.reduceLeDiff, Nat.reduceAdd, Nat.reduceLT, true_and, and_true, if_true, if_false, tc_K, Option.toList_some, Option.toList_none, List.nil_append, List.cons_append, ite_true, ite_false, Int.cast_ofNat_Int, reduceIte, i3_add_eq, i3_sub_eq, Int.add_sub_cancel, Int.add_neg_cancel_right, h, Int.sub_add_cancel]) | (simp only [r267_4, r267_14, r267_38, r267_48, r267_52, r267_72, i6_lt0, i6_0lt, i6_0le, i6_le0, i6_eq0, b10_0, ite_not, Int.reduceLT, Int.reduceLE, Int.reduceEq, Int.reduceNeg, if_true, if_false, ite_true, ite_false, reduceIte, eq_self, not_true, not_false_eq_true]; try refine tc_ite (fun _ => ?_) (fun _ => ?_) <;> try (exfalso; omega)))
      rw [show k + 1 - 1 = k by omega] at ih2
      exact ih2
    · rw [if_pos h] at ih2
      by_cases hR : R.1 = 0
      · rw [if_pos hR] at ih2
        repeat' (first | (simp (disch := first | omega | exact Nat.le_of_ble_eq_true rfl | exact rfl | assumption | (simp only [fr_at, Nat.reduceEqDiff, if_false, if_true, reduceIte]; first | assumption | omega)) only [r267_0, r267_1, v267_1_11, r267_7, r267_8, r267_9, r267_10, r267_11, r267_17, r267_19, r267_20, r267_21, v267_21_11, r267_24, r267_25i, r267_26, r267_28i, r267_29, r267_30i, r267_34, r267_35, r267_41, r267_42, r267_44, r267_45, v267_45_11, r267_51, r267_55, r267_57, r267_60, r267_61i, r267_62i, r267_65i, r267_68, r267_71, r267_75, r267_76, r267_79, r267_80, g11_331_11, mo_len, ms75 hS, mt75 hS, mo_g25, il_s, bl_s, bl_z, ll_s, is_s, bs_s, bs_z, ls_s, al_s, al_b, al_l, fr_at, fr_fr, Nat.reduceEqDiff, tc_gf3_s, tc_ql2_s, tc_ws_0, tc_ws_i, tc_ws_l, tc_ws_r, Nat.reduceLeDiff, Nat.reduceAdd, Nat.reduceLT, true_and, and_true, if_true, if_false, tc_K, Option.toList_some, Option.toList_none, List.nil_append, List.cons_append, ite_true, ite_false, Int.cast_ofNat_Int, reduceIte, i3_add_eq, i3_sub_eq, Int.add_sub_cancel, Int.add_neg_cancel_right, h, hR, Int.sub_add_cancel]) | (simp only [r267_4, r267_14, r267_38, r267_48, r267_52, r267_72, i6_lt0, i6_0lt, i6_0le, i6_le0, i6_eq0, b10_0, ite_not, Int.reduceLT, Int.reduceLE, Int.reduceEq, Int.reduceNeg, if_true, if_false, ite_true, ite_false, reduceIte, eq_self, not_true, not_false_eq_true]; try refine tc_ite (fun _ => ?_) (fun _ => ?_) <;> try (exfalso; omega)))
        rw [show k + 1 - 1 = k by omega, hR] at ih2
        exact ih2
      · rw [if_neg hR] at ih2
        repeat' (first | (simp (disch := first | omega | exact Nat.le_of_ble_eq_true rfl | exact rfl | assumption | (simp only [fr_at, Nat.reduceEqDiff, if_false, if_true, reduceIte]; first | assumption | omega)) only [r267_0, r267_1, v267_1_11, r267_7, r267_8, r267_9, r267_10, r267_11, r267_17, r267_19, r267_20, r267_21, v267_21_11, r267_24, r267_25i, r267_26, r267_28i, r267_29, r267_30i, r267_34, r267_35, r267_41, r267_42, r267_44, r267_45, v267_45_11, r267_51, r267_55, r267_57, r267_60, r267_61i, r267_62i, r267_65i, r267_68, r267_71, r267_75, r267_76, r267_79, r267_80, g11_331_11, mo_len, ms75 hS, mt75 hS, mo_g25, il_s, bl_s, bl_z, ll_s, is_s, bs_s, bs_z, ls_s, al_s, al_b, al_l, fr_at, fr_fr, Nat.reduceEqDiff, tc_gf3_s, tc_ql2_s, tc_ws_0, tc_ws_i, tc_ws_l, tc_ws_r, Nat.reduceLeDiff, Nat.reduceAdd, Nat.reduceLT, true_and, and_true, if_true, if_false, tc_K, Option.toList_some, Option.toList_none, List.nil_append, List.cons_append, ite_true, ite_false, Int.cast_ofNat_Int, reduceIte, i3_add_eq, i3_sub_eq, Int.add_sub_cancel, Int.add_neg_cancel_right, h, Int.sub_add_cancel]) | (simp only [r267_4, r267_14, r267_38, r267_48, r267_52, r267_72, i6_lt0, i6_0lt, i6_0le, i6_le0, i6_eq0, b10_0, ite_not, Int.reduceLT, Int.reduceLE, Int.reduceEq, Int.reduceNeg, if_true, if_false, ite_true, ite_false, reduceIte, eq_self, not_true, not_false_eq_true]; try refine tc_ite (fun _ => ?_) (fun _ => ?_) <;> try (exfalso; omega)))
        rw [show k + 1 - 1 = k by omega] at ih2
        exact ih2
  · intro d hr
    have e25 : d 75 25 = c 75 25 := hr.1.2.2.1 25 (by omega) (by omega) (by omega) (by omega)
    simp only [r267_32]
    rcases hw2 with rfl | rfl
    · repeat' (first | (simp (disch := first | omega | exact Nat.le_of_ble_eq_true rfl | exact rfl | assumption | (simp only [fr_at, Nat.reduceEqDiff, if_false, if_true, reduceIte]; first | assumption | omega)) only [r267_0, r267_1, v267_1_11, r267_7, r267_8, r267_9, r267_10, r267_11, r267_17, r267_19, r267_20, r267_21, v267_21_11, r267_24, r267_25i, r267_26, r267_28i, r267_29, r267_30i, r267_34, r267_35, r267_41, r267_42, r267_44, r267_45, v267_45_11, r267_51, r267_55, r267_57, r267_60, r267_61i, r267_62i, r267_65i, r267_68, r267_71, r267_75, r267_76, r267_79, r267_80, g11_331_11, mo_len, ms75 hS, mt75 hS, mo_g25, il_s, bl_s, bl_z, ll_s, is_s, bs_s, bs_z, ls_s, al_s, al_b, al_l, fr_at, fr_fr, Nat.reduceEqDiff, tc_gf3_s, tc_ql2_s, tc_ws_0, tc_ws_i, tc_ws_l, tc_ws_r, Nat.reduceLeDiff, Nat.reduceAdd, Nat.reduceLT, true_and, and_true, if_true, if_false, tc_K, Option.toList_some, Option.toList_none, List.nil_append, List.cons_append, ite_true, ite_false, Int.cast_ofNat_Int, reduceIte, i3_add_eq, i3_sub_eq, Int.add_sub_cancel, Int.add_neg_cancel_right, e25]) | (simp only [r267_4, r267_14, r267_38, r267_48, r267_52, r267_72, i6_lt0, i6_0lt, i6_0le, i6_le0, i6_eq0, b10_0, ite_not, Int.reduceLT, Int.reduceLE, Int.reduceEq, Int.reduceNeg, if_true, if_false, ite_true, ite_false, reduceIte, eq_self, not_true, not_false_eq_true]; try refine tc_ite (fun _ => ?_) (fun _ => ?_) <;> try (exfalso; omega)))
      exact hq d hr.x
    · repeat' (first | (simp (disch := first | omega | exact Nat.le_of_ble_eq_true rfl | exact rfl | assumption | (simp only [fr_at, Nat.reduceEqDiff, if_false, if_true, reduceIte]; first | assumption | omega)) only [r267_0, r267_1, v267_1_11, r267_7, r267_8, r267_9, r267_10, r267_11, r267_17, r267_19, r267_20, r267_21, v267_21_11, r267_24, r267_25i, r267_26, r267_28i, r267_29, r267_30i, r267_34, r267_35, r267_41, r267_42, r267_44, r267_45, v267_45_11, r267_51, r267_55, r267_57, r267_60, r267_61i, r267_62i, r267_65i, r267_68, r267_71, r267_75, r267_76, r267_79, r267_80, g11_331_11, mo_len, ms75 hS, mt75 hS, mo_g25, il_s, bl_s, bl_z, ll_s, is_s, bs_s, bs_z, ls_s, al_s, al_b, al_l, fr_at, fr_fr, Nat.reduceEqDiff, tc_gf3_s, tc_ql2_s, tc_ws_0, tc_ws_i, tc_ws_l, tc_ws_r, Nat.reduceLeDiff, Nat.reduceAdd, Nat.reduceLT, true_and, and_true, if_true, if_false, tc_K, Option.toList_some, Option.toList_none, List.nil_append, List.cons_append, ite_true, ite_false, Int.cast_ofNat_Int, reduceIte, i3_add_eq, i3_sub_eq, Int.add_sub_cancel, Int.add_neg_cancel_right, e25]) | (simp only [r267_4, r267_14, r267_38, r267_48, r267_52, r267_72, i6_lt0, i6_0lt, i6_0le, i6_le0, i6_eq0, b10_0, ite_not, Int.reduceLT, Int.reduceLE, Int.reduceEq, Int.reduceNeg, if_true, if_false, ite_true, ite_false, reduceIte, eq_self, not_true, not_false_eq_true]; try refine tc_ite (fun _ => ?_) (fun _ => ?_) <;> try (exfalso; omega)))
      exact hq d hr.x
end MOD19

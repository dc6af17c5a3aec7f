/-! the reference: how high; the begin; what was told -/
/-- the sand at the begin -/
def bgn (b : Nat → Int → Int) : Nat → Int → Int := fun a => if a = 0 then b 4 else if a = 1 then fun _ => 0 else if a = 2 then b 5 else if a = 3 then fun _ => -1 else fun _ => 0
theorem bgn_ws {b : Nat → Int → Int} (hb : WB b) : WS b (bgn b) := by
  refine ⟨hb.2.2.2.2.2, fun x _ _ => Or.inl rfl, fun f f1 f2 => ?_, ?_⟩
  · have h := hb.2.2.2.1 f f1 f2
    show 0 ≤ b 5 f ∧ b 5 f < b 0 0 * b 0 1 ∧ (-1 : Int) ≤ -1 ∧ (-1 : Int) ≤ 900
    omega
  · show (0 : Int) ≤ 0 ∧ (0 : Int) ≤ 900 ∧ (0 : Int) ≤ 0 ∧ (0 : Int) ≤ 300 * 0
    omega
theorem bgn_beq {b b' : Nat → Int → Int} (h : BEq b b') : bgn b = bgn b' := by
  unfold bgn
  rw [h.2 4 (by omega), h.2 5 (by omega)]
/-- whether what was told of a wave is so -/
def lgo (lw lc lh ht : Int → Int) (w : Int) : Nat → Int
  | 0 => 1
  | k + 1 => if lgo lw lc lh ht w k = 1 ∧ (¬ lw k = w ∨ ht (lc k) = lh k) then 1 else 0
theorem lgo_01 (lw lc lh ht : Int → Int) (w : Int) (k : Nat) : lgo lw lc lh ht w k = 0 ∨ lgo lw lc lh ht w k = 1 := by
  cases k with
  | zero => exact Or.inr rfl
  | succ k =>
    unfold lgo
    split <;> omega
/-- whether all that was told is so by a rule -/
noncomputable def crn (b : Nat → Int → Int) (la : Option Law) (lw lc lh : Int → Int) (m : Nat) : Nat → Int
  | 0 => 1
  | k + 1 => if crn b la lw lc lh m k = 1 ∧ lgo lw lc lh (gos b la (bgn b) k 0) k m = 1 then 1 else 0
theorem crn_01 (b : Nat → Int → Int) (la : Option Law) (lw lc lh : Int → Int) (m k : Nat) : crn b la lw lc lh m k = 0 ∨ crn b la lw lc lh m k = 1 := by
  cases k with
  | zero => exact Or.inr rfl
  | succ k =>
    unfold crn
    split <;> omega
noncomputable def lmr (c : Nat → Int → Int) (r : Int) : Option Law := if r = -1 then none else some (mlaw c r)
section MOD18
variable {L : Nat} {sh : Nat → SH} {c : Nat → Int → Int} {n : Nat} {Q : Option AV → List SC → Nat → Prop}
theorem c254 (hS : MS L sh) (hb : WB (bm c)) (hw : WS (bm c) (pm c)) {g : (Int → Bool) → Int} {f w : Int} (hf : 0 ≤ f ∧ f < c 76 2) (h3 : c 82 f = -1) (hw2 : w = 0 ∨ w = 1) (hg : g = wdr (c 76 0) (c 76 0 * c 76 1) (c 77) (tof (bm c) (c 76 8)) (c 79 f))
    (hq : ∀ (R : Int) e, QX c e → WSP (c 76 0 * c 76 1) (c 79 f) g R → Q (some (.inl (if R = -2 then -2 else if w = 1 then R else cn (fun j => R.toNat.testBit j.toNat) 25))) (hp L sh e) n) : tc_C 254 [rf 75, .inl f, .inl w] (hp L sh c) n Q := by
  show tc_W 254 0 [rf 75, .inl f, .inl w, tc_nil] [] _ _ Q
  obtain ⟨hd, hbd⟩ := hb.dm
  have hd2 := hd.2
  have hw3 := hw.2.2.1 f hf.1 hf.2
  have ha : 0 ≤ c 79 f ∧ c 79 f < c 76 0 * c 76 1 := ⟨hw3.1, hw3.2.1⟩
  have h8 : 0 ≤ c 76 8 ∧ c 76 8 ≤ 900 := ⟨hw.2.2.2.1, hw.2.2.2.2.1⟩
  repeat' (first | (simp (disch := first | omega | exact Nat.le_of_ble_eq_true rfl | exact rfl | assumption | (simp only [fr_at, Nat.reduceEqDiff, if_false, if_true, reduceIte]; first | assumption | omega)) only [r254_0, r254_1, r254_2, v254_2_11, r254_8, r254_9, r254_10, r254_11, r254_12, r254_18, r254_19, r254_20, r254_21, r254_22, r254_25, r254_26, r254_27, v254_27_11, r254_30i, r254_31, r254_32, r254_37, r254_38, r254_42, r254_43, r254_46, r254_47, r254_50, g11_19_11, mo_len, ms75 hS, mt75 hS, mo_g4, ms79 hS, mt79 hS, il_s, bl_s, bl_z, ll_s, is_s, bs_s, bs_z, ls_s, al_s, al_b, al_l, fr_at, fr_fr, Nat.reduceEqDiff, tc_gf3_s, tc_ql2_s, tc_ws_0, tc_ws_i, tc_ws_l, tc_ws_r, Nat.reduceLeDiff, Nat.reduceAdd, Nat.reduceLT, true_and, and_true, if_true, if_false, tc_K, Option.toList_some, Option.toList_none, List.nil_append, List.cons_append, ite_true, ite_false, Int.cast_ofNat_Int, reduceIte, i3_add_eq, i3_sub_eq, Int.add_sub_cancel, Int.add_neg_cancel_right, c235 hS hd, h3, c181]) | (simp only [r254_5, r254_15, r254_34, r254_39, i6_lt0, i6_0lt, i6_0le, i6_le0, i6_eq0, b10_0, ite_not, Int.reduceLT, Int.reduceLE, Int.reduceEq, Int.reduceNeg, if_true, if_false, ite_true, ite_false, reduceIte, eq_self, not_true, not_false_eq_true]; try refine tc_ite (fun _ => ?_) (fun _ => ?_) <;> try (exfalso; omega)))
  refine c255 (c := c) (g := g) hS hb hw.1 h8 ha.1 ha.2 hg ?_
  intro R e he hR
  have hq' := hq R e he hR
  have key : R = -2 ∨ ∃ p, R = (mk p 25 : Nat) := by
    rcases hR with h | ⟨_, a, h⟩ | ⟨_, _, a, b, h⟩ | ⟨_, _, _, a, b, d, h⟩ | h
    · exact Or.inr ⟨s0, by rw [mk_s0]; exact h.1⟩
    · exact Or.inr ⟨s1 a, h.2.2.2.2.1⟩
    · exact Or.inr ⟨s2 a b, h.2.2.2.2.2.2.1⟩
    · exact Or.inr ⟨s3 a b d, h.2.2.2.2.2.2.2.2.1⟩
    · exact Or.inl h.2.2.2.2
  rcases key with rfl | ⟨p, rfl⟩
  · rw [if_pos rfl] at hq'
    repeat' (first | (simp (disch := first | omega | exact Nat.le_of_ble_eq_true rfl | exact rfl | assumption | (simp only [fr_at, Nat.reduceEqDiff, if_false, if_true, reduceIte]; first | assumption | omega)) only [r254_0, r254_1, r254_2, v254_2_11, r254_8, r254_9, r254_10, r254_11, r254_12, r254_18, r254_19, r254_20, r254_21, r254_22, r254_25, r254_26, r254_27, v254_27_11, r254_30i, r254_31, r254_32, r254_37, r254_38, r254_42, r254_43, r254_46, r254_47, r254_50, g11_19_11, mo_len, ms75 hS, mt75 hS, mo_g4, ms79 hS, mt79 hS, il_s, bl_s, bl_z, ll_s, is_s, bs_s, bs_z, ls_s, al_s, al_b, al_l, fr_at, fr_fr, Nat.reduceEqDiff, tc_gf3_s, tc_ql2_s, tc_ws_0, tc_ws_i, tc_ws_l, tc_ws_r, Nat.reduceLeDiff, Nat.reduceAdd, Nat.reduceLT, true_and, and_true, if_true, if_false, tc_K, Option.toList_some, Option.toList_none, List.nil_append, List.cons_append, ite_true, ite_false, Int.cast_ofNat_Int, reduceIte, i3_add_eq, i3_sub_eq, Int.add_sub_cancel, Int.add_neg_cancel_right]) | (simp only [r254_5, r254_15, r254_34, r254_39, i6_lt0, i6_0lt, i6_0le, i6_le0, i6_eq0, b10_0, ite_not, Int.reduceLT, Int.reduceLE, Int.reduceEq, Int.reduceNeg, if_true, if_false, ite_true, ite_false, reduceIte, eq_self, not_true, not_false_eq_true]; try refine tc_ite (fun _ => ?_) (fun _ => ?_) <;> try (exfalso; omega)))
    exact hq'
  · rw [if_neg (by omega)] at hq'
    have ep : cn (fun j => (((mk p 25 : Nat) : Int)).toNat.testBit j.toNat) 25 = cn p 25 := cn_ext fun j j1 j2 => by
      rw [Int.toNat_natCast, mk_bit, decide_eq_true (by omega), Bool.true_and, Int.toNat_of_nonneg j1]
    rw [ep] at hq'
    have h226 := fun h Q => c226 (n := n) (Q := Q) (h := h) (p := p) (N := 25) (by omega)
    rcases hw2 with rfl | rfl
    · rw [if_neg (by omega)] at hq'
      repeat' (first | (simp (disch := first | omega | exact Nat.le_of_ble_eq_true rfl | exact rfl | assumption | (simp only [fr_at, Nat.reduceEqDiff, if_false, if_true, reduceIte]; first | assumption | omega)) only [r254_0, r254_1, r254_2, v254_2_11, r254_8, r254_9, r254_10, r254_11, r254_12, r254_18, r254_19, r254_20, r254_21, r254_22, r254_25, r254_26, r254_27, v254_27_11, r254_30i, r254_31, r254_32, r254_37, r254_38, r254_42, r254_43, r254_46, r254_47, r254_50, g11_19_11, mo_len, ms75 hS, mt75 hS, mo_g4, ms79 hS, mt79 hS, il_s, bl_s, bl_z, ll_s, is_s, bs_s, bs_z, ls_s, al_s, al_b, al_l, fr_at, fr_fr, Nat.reduceEqDiff, tc_gf3_s, tc_ql2_s, tc_ws_0, tc_ws_i, tc_ws_l, tc_ws_r, Nat.reduceLeDiff, Nat.reduceAdd, Nat.reduceLT, true_and, and_true, if_true, if_false, tc_K, Option.toList_some, Option.toList_none, List.nil_append, List.cons_append, ite_true, ite_false, Int.cast_ofNat_Int, reduceIte, i3_add_eq, i3_sub_eq, Int.add_sub_cancel, Int.add_neg_cancel_right, h226]) | (simp only [r254_5, r254_15, r254_34, r254_39, i6_lt0, i6_0lt, i6_0le, i6_le0, i6_eq0, b10_0, ite_not, Int.reduceLT, Int.reduceLE, Int.reduceEq, Int.reduceNeg, if_true, if_false, ite_true, ite_false, reduceIte, eq_self, not_true, not_false_eq_true]; try refine tc_ite (fun _ => ?_) (fun _ => ?_) <;> try (exfalso; omega)))
      all_goals first
        | exact hq'
        | omega
    · rw [if_pos rfl] at hq'
      repeat' (first | (simp (disch := first | omega | exact Nat.le_of_ble_eq_true rfl | exact rfl | assumption | (simp only [fr_at, Nat.reduceEqDiff, if_false, if_true, reduceIte]; first | assumption | omega)) only [r254_0, r254_1, r254_2, v254_2_11, r254_8, r254_9, r254_10, r254_11, r254_12, r254_18, r254_19, r254_20, r254_21, r254_22, r254_25, r254_26, r254_27, v254_27_11, r254_30i, r254_31, r254_32, r254_37, r254_38, r254_42, r254_43, r254_46, r254_47, r254_50, g11_19_11, mo_len, ms75 hS, mt75 hS, mo_g4, ms79 hS, mt79 hS, il_s, bl_s, bl_z, ll_s, is_s, bs_s, bs_z, ls_s, al_s, al_b, al_l, fr_at, fr_fr, Nat.reduceEqDiff, tc_gf3_s, tc_ql2_s, tc_ws_0, tc_ws_i, tc_ws_l, tc_ws_r, Nat.reduceLeDiff, Nat.reduceAdd, Nat.reduceLT, true_and, and_true, if_true, if_false, tc_K, Option.toList_some, Option.toList_none, List.nil_append, List.cons_append, ite_true, ite_false, Int.cast_ofNat_Int, reduceIte, i3_add_eq, i3_sub_eq, Int.add_sub_cancel, Int.add_neg_cancel_right, h226]) | (simp only [r254_5, r254_15, r254_34, r254_39, i6_lt0, i6_0lt, i6_0le, i6_le0, i6_eq0, b10_0, ite_not, Int.reduceLT, Int.reduceLE, Int.reduceEq, Int.reduceNeg, if_true, if_false, ite_true, ite_false, reduceIte, eq_self, not_true, not_false_eq_true]; try refine tc_ite (fun _ => ?_) (fun _ => ?_) <;> try (exfalso; omega)))
      all_goals first
        | exact hq'
        | omega
theorem c259_l (hS : MS L sh) (hb : WB (bm c)) (hw : WS (bm c) (pm c)) {f x T : Int} (hf : 0 ≤ f ∧ f < c 76 2) (hx : 0 ≤ x ∧ x < c 76 0 * c 76 1) (hT : tof (bm c) (c 76 8) = T) {g : Int → Int} (hg : ∀ h, g h = stg (c 76 0) (c 76 0 * c 76 1) (fu (c 77) x h) (T + 1) (c 79 f)) : ∀ (m : Nat) (h : Int) (d : Nat → Int → Int), 0 ≤ h → h + m = 10 → (∀ a, ¬ a = 77 → ¬ a = 105 → d a = c a) → (∀ y, ¬ y = x → d 77 y = c 77 y) → (∀ e, QX c e → Q (some (.inl (hgx g m h))) (hp L sh e) n) → tc_W 259 42 [rf 75, .inl f, .inl x, .inl (c 77 x), .inl (-2), .inl h] [] (hp L sh d) n Q := by
  obtain ⟨hd, hbd⟩ := hb.dm
  have hN := hd.m.1
  have hd2 := hd.2
  have hW : 2 ≤ c 76 0 ∧ c 76 0 ≤ 5 := ⟨hbd.1, hbd.2.1⟩
  have hT2 : 0 ≤ T ∧ T ≤ 20 := hT ▸ tof_rng hb (c 76 8)
  have hw3 := hw.2.2.1 f hf.1 hf.2
  have ha : 0 ≤ c 79 f ∧ c 79 f < c 76 0 * c 76 1 := ⟨hw3.1, hw3.2.1⟩
  have h8 : 0 ≤ c 76 8 ∧ c 76 8 ≤ 900 := ⟨hw.2.2.2.1, hw.2.2.2.2.1⟩
  have fin : ∀ (z a5 : Int) (d : Nat → Int → Int), (∀ a, ¬ a = 77 → ¬ a = 105 → d a = c a) → (∀ y, ¬ y = x → d 77 y = c 77 y) → (∀ e, QX c e → Q (some (.inl z)) (hp L sh e) n) → tc_W 259 103 [rf 75, .inl f, .inl x, .inl (c 77 x), .inl z, .inl a5] [] (hp L sh d) n Q := by
    intro z a5 d hdo hdx hq
    have e77 : fu (d 77) x (c 77 x) = c 77 := by
      funext y
      rw [fu_at]
      split
      · rename_i h
        rw [h]
      · rename_i h
        exact hdx y h
    repeat' (first | (simp (disch := first | omega | exact Nat.le_of_ble_eq_true rfl | exact rfl | assumption | (simp only [fr_at, Nat.reduceEqDiff, if_false, if_true, reduceIte]; first | assumption | omega)) only [r259_0, r259_1, r259_2, v259_2_11, r259_8, r259_9, r259_10, v259_10_11, r259_16, r259_17, r259_20, r259_21, r259_22, r259_26, r259_27, r259_28, r259_29, r259_32, r259_33, r259_34i, r259_35, r259_37i, r259_39, r259_40i, r259_44, r259_49, r259_51, r259_56, r259_57, r259_60, r259_61, r259_63, r259_64, r259_65, r259_66, v259_66_11, r259_69, r259_70, r259_71, v259_71_11, r259_74, r259_75, r259_78, r259_79, r259_82, r259_83, r259_84, r259_88, r259_90, r259_93, r259_95i, r259_97i, r259_100, r259_103, r259_104, r259_107, r259_108, r259_109, r259_110, r259_112, g11_19_11, g11_13_11, g11_103_11, mo_len, ms75 hS, mt75 hS, mo_g4, ms79 hS, mt79 hS, mo_g2, ms77 hS, mt77 hS, mo_g41, ms105 hS, mt105 hS, il_s, bl_s, bl_z, ll_s, is_s, bs_s, bs_z, ls_s, al_s, al_b, al_l, fr_at, fr_fr, Nat.reduceEqDiff, tc_gf3_s, tc_ql2_s, tc_ws_0, tc_ws_i, tc_ws_l, tc_ws_r, Nat.reduceLeDiff, Nat.reduceAdd, Nat.reduceLT, true_and, and_true, if_true, if_false, tc_K, Option.toList_some, Option.toList_none, List.nil_append, List.cons_append, ite_true, ite_false, Int.cast_ofNat_Int, reduceIte, i3_add_eq, i3_sub_eq, Int.add_sub_cancel, Int.add_neg_cancel_right, e77]) | (simp only [r259_5, r259_13, r259_23, r259_46, r259_53, r259_85, i6_lt0, i6_0lt, i6_0le, i6_le0, i6_eq0, b10_0, ite_not, Int.reduceLT, Int.reduceLE, Int.reduceEq, Int.reduceNeg, if_true, if_false, ite_true, ite_false, reduceIte, eq_self, not_true, not_false_eq_true]; try refine tc_ite (fun _ => ?_) (fun _ => ?_) <;> try (exfalso; omega)))
    refine hq _ ⟨fun a a1 a2 => ?_, fun i _ _ _ _ => ?_, fun j _ => ?_⟩
    · by_cases h : a = 77
      · rw [h, fr_same]
      · rw [fr_ne h]
        exact hdo a h (by omega)
    · rw [fr_ne (by omega), hdo 75 (by omega) (by omega)]
    · rw [fr_ne (by omega), hdo 113 (by omega) (by omega)]
  intro m
  induction m with
  | zero =>
    intro h d h0 h1 hdo hdx hq
    simp only [r259_42]
    repeat' (first | (simp (disch := first | omega | exact Nat.le_of_ble_eq_true rfl | exact rfl | assumption | (simp only [fr_at, Nat.reduceEqDiff, if_false, if_true, reduceIte]; first | assumption | omega)) only [r259_0, r259_1, r259_2, v259_2_11, r259_8, r259_9, r259_10, v259_10_11, r259_16, r259_17, r259_20, r259_21, r259_22, r259_26, r259_27, r259_28, r259_29, r259_32, r259_33, r259_34i, r259_35, r259_37i, r259_39, r259_40i, r259_44, r259_49, r259_51, r259_56, r259_57, r259_60, r259_61, r259_63, r259_64, r259_65, r259_66, v259_66_11, r259_69, r259_70, r259_71, v259_71_11, r259_74, r259_75, r259_78, r259_79, r259_82, r259_83, r259_84, r259_88, r259_90, r259_93, r259_95i, r259_97i, r259_100, r259_104, r259_107, r259_108, r259_109, r259_110, r259_112, g11_19_11, g11_13_11, g11_103_11, mo_len, ms75 hS, mt75 hS, mo_g4, ms79 hS, mt79 hS, mo_g2, ms77 hS, mt77 hS, mo_g41, ms105 hS, mt105 hS, il_s, bl_s, bl_z, ll_s, is_s, bs_s, bs_z, ls_s, al_s, al_b, al_l, fr_at, fr_fr, Nat.reduceEqDiff, tc_gf3_s, tc_ql2_s, tc_ws_0, tc_ws_i, tc_ws_l, tc_ws_r, Nat.reduceLeDiff, Nat.reduceAdd, Nat.reduceLT, true_and, and_true, if_true, if_false, tc_K, Option.toList_some, Option.toList_none, List.nil_append, List.cons_append, ite_true, ite_false, Int.cast_ofNat_Int, reduceIte, i3_add_eq, i3_sub_eq, Int.add_sub_cancel, Int.add_neg_cancel_right]) | (simp only [r259_5, r259_13, r259_23, r259_46, r259_53, r259_85, i6_lt0, i6_0lt, i6_0le, i6_le0, i6_eq0, b10_0, ite_not, Int.reduceLT, Int.reduceLE, Int.reduceEq, Int.reduceNeg, if_true, if_false, ite_true, ite_false, reduceIte, eq_self, not_true, not_false_eq_true]; try refine tc_ite (fun _ => ?_) (fun _ => ?_) <;> try (exfalso; omega)))
    exact fin (-2) h d hdo hdx hq
  | succ m ih =>
    intro h d h0 h1 hdo hdx hq
    have e1 : hgx g (m + 1) h = if g h = 0 then h else hgx g m (h + 1) := rfl
    rw [e1] at hq
    have e77 : fu (d 77) x h = fu (c 77) x h := by
      funext y
      rw [fu_at, fu_at]
      split
      · rfl
      · rename_i hy
        exact hdx y hy
    generalize hd' : fr d 77 (fu (c 77) x h) = d'
    have p77 : d' 77 = fu (c 77) x h := by rw [← hd', fr_same]
    have po : ∀ a, ¬ a = 77 → ¬ a = 105 → d' a = c a := fun a a1 a2 => by
      rw [← hd', fr_ne a1]
      exact hdo a a1 a2
    have r76 := po 76 (by omega) (by omega)
    have r79 := po 79 (by omega) (by omega)
    have hbm : bm d' = bm c := bm_ext r76 (po _ (by omega) (by omega)) (po _ (by omega) (by omega)) (po _ (by omega) (by omega)) (po _ (by omega) (by omega)) (po _ (by omega) (by omega))
    have hht : HT (c 76 0 * c 76 1) (fu (c 77) x h) := fun y y1 y2 => by
      have := hw.1 y y1 y2
      rw [fu_at]
      split
      · omega
      · exact this
    have h207 := fun Q => c207n (c := d') (d := d') (n := n) (Q := Q) hS (by rw [hbm]; exact hb) (GF.refl d') (w := c 76 8) (by rw [r76]) (by omega)
    have h209 := fun Q => c209 (c := d') (n := n) (Q := Q) hS (by rw [r76]; exact hd) (by rw [r76]; exact hbd) (by rw [r76, p77]; exact hht) (F := T + 1) (by omega)
    simp only [r76, hbm, hT, p77] at h207 h209
    generalize hG : lay (c 76 0 * c 76 1) (stg (c 76 0) (c 76 0 * c 76 1) (fu (c 77) x h) (T + 1)) (d' 105) = G at h209
    have egk : G (c 79 f) = g h := by
      rw [← hG, hg]
      exact lay_in ha
    simp only [r259_42]
    by_cases hz : g h = 0
    · rw [if_pos hz] at hq
      repeat' (first | (simp (disch := first | omega | exact Nat.le_of_ble_eq_true rfl | exact rfl | assumption | (simp only [fr_at, Nat.reduceEqDiff, if_false, if_true, reduceIte]; first | assumption | omega)) only [r259_0, r259_1, r259_2, v259_2_11, r259_8, r259_9, r259_10, v259_10_11, r259_16, r259_17, r259_20, r259_21, r259_22, r259_26, r259_27, r259_28, r259_29, r259_32, r259_33, r259_34i, r259_35, r259_37i, r259_39, r259_40i, r259_44, r259_49, r259_51, r259_56, r259_57, r259_60, r259_61, r259_63, r259_64, r259_65, r259_66, v259_66_11, r259_69, r259_70, r259_71, v259_71_11, r259_74, r259_75, r259_78, r259_79, r259_82, r259_83, r259_84, r259_88, r259_90, r259_93, r259_95i, r259_97i, r259_100, r259_104, r259_107, r259_108, r259_109, r259_110, r259_112, g11_19_11, g11_13_11, g11_103_11, mo_len, ms75 hS, mt75 hS, mo_g4, ms79 hS, mt79 hS, mo_g2, ms77 hS, mt77 hS, mo_g41, ms105 hS, mt105 hS, il_s, bl_s, bl_z, ll_s, is_s, bs_s, bs_z, ls_s, al_s, al_b, al_l, fr_at, fr_fr, Nat.reduceEqDiff, tc_gf3_s, tc_ql2_s, tc_ws_0, tc_ws_i, tc_ws_l, tc_ws_r, Nat.reduceLeDiff, Nat.reduceAdd, Nat.reduceLT, true_and, and_true, if_true, if_false, tc_K, Option.toList_some, Option.toList_none, List.nil_append, List.cons_append, ite_true, ite_false, Int.cast_ofNat_Int, reduceIte, i3_add_eq, i3_sub_eq, Int.add_sub_cancel, Int.add_neg_cancel_right, e77, hd', h207, h209, r79, egk, hz]) | (simp only [r259_5, r259_13, r259_23, r259_46, r259_53, r259_85, i6_lt0, i6_0lt, i6_0le, i6_le0, i6_eq0, b10_0, ite_not, Int.reduceLT, Int.reduceLE, Int.reduceEq, Int.reduceNeg, if_true, if_false, ite_true, ite_false, reduceIte, eq_self, not_true, not_false_eq_true]; try refine tc_ite (fun _ => ?_) (fun _ => ?_) <;> try (exfalso; omega)))
      simp only [r259_42]
      repeat' (first | (simp (disch := first | omega | exact Nat.le_of_ble_eq_true rfl | exact rfl | assumption | (simp only [fr_at, Nat.reduceEqDiff, if_false, if_true, reduceIte]; first | assumption | omega)) only [r259_0, r259_1, r259_2, v259_2_11, r259_8, r259_9, r259_10, v259_10_11, r259_16, r259_17, r259_20, r259_21, r259_22, r259_26, r259_27, r259_28, r259_29, r259_32, r259_33, r259_34i, r259_35, r259_37i, r259_39, r259_40i, r259_44, r259_49, r259_51, r259_56, r259_57, r259_60, r259_61, r259_63, r259_64, r259_65, r259_66, v259_66_11, r259_69, r259_70, r259_71, v259_71_11, r259_74, r259_75, r259_78, r259_79, r259_82, r259_83, r259_84, r259_88, r259_90, r259_93, r259_95i, r259_97i, r259_100, r259_104, r259_107, r259_108, r259_109, r259_110, r259_112, g11_19_11, g11_13_11, g11_103_11, mo_len, ms75 hS, mt75 hS, mo_g4, ms79 hS, mt79 hS, mo_g2, ms77 hS, mt77 hS, mo_g41, ms105 hS, mt105 hS, il_s, bl_s, bl_z, ll_s, is_s, bs_s, bs_z, ls_s, al_s, al_b, al_l, fr_at, fr_fr, Nat.reduceEqDiff, tc_gf3_s, tc_ql2_s, tc_ws_0, tc_ws_i, tc_ws_l, tc_ws_r, Nat.reduceLeDiff, Nat.reduceAdd, Nat.reduceLT, true_and, and_true, if_true, if_false, tc_K, Option.toList_some, Option.toList_none, List.nil_append, List.cons_append, ite_true, ite_false, Int.cast_ofNat_Int, reduceIte, i3_add_eq, i3_sub_eq, Int.add_sub_cancel, Int.add_neg_cancel_right]) | (simp only [r259_5, r259_13, r259_23, r259_46, r259_53, r259_85, i6_lt0, i6_0lt, i6_0le, i6_le0, i6_eq0, b10_0, ite_not, Int.reduceLT, Int.reduceLE, Int.reduceEq, Int.reduceNeg, if_true, if_false, ite_true, ite_false, reduceIte, eq_self, not_true, not_false_eq_true]; try refine tc_ite (fun _ => ?_) (fun _ => ?_) <;> try (exfalso; omega)))
      all_goals exact fin h (h + 1) _ (fun a a1 a2 => by rw [fr_ne a2]; exact po a a1 a2) (fun y hy => by rw [fr_ne (by omega), p77, fu_ne hy]) hq
    · rw [if_neg hz] at hq
      repeat' (first | (simp (disch := first | omega | exact Nat.le_of_ble_eq_true rfl | exact rfl | assumption | (simp only [fr_at, Nat.reduceEqDiff, if_false, if_true, reduceIte]; first | assumption | omega)) only [r259_0, r259_1, r259_2, v259_2_11, r259_8, r259_9, r259_10, v259_10_11, r259_16, r259_17, r259_20, r259_21, r259_22, r259_26, r259_27, r259_28, r259_29, r259_32, r259_33, r259_34i, r259_35, r259_37i, r259_39, r259_40i, r259_44, r259_49, r259_51, r259_56, r259_57, r259_60, r259_61, r259_63, r259_64, r259_65, r259_66, v259_66_11, r259_69, r259_70, r259_71, v259_71_11, r259_74, r259_75, r259_78, r259_79, r259_82, r259_83, r259_84, r259_88, r259_90, r259_93, r259_95i, r259_97i, r259_100, r259_104, r259_107, r259_108, r259_109, r259_110, r259_112, g11_19_11, g11_13_11, g11_103_11, mo_len, ms75 hS, mt75 hS, mo_g4, ms79 hS, mt79 hS, mo_g2, ms77 hS, mt77 hS, mo_g41, ms105 hS, mt105 hS, il_s, bl_s, bl_z, ll_s, is_s, bs_s, bs_z, ls_s, al_s, al_b, al_l, fr_at, fr_fr, Nat.reduceEqDiff, tc_gf3_s, tc_ql2_s, tc_ws_0, tc_ws_i, tc_ws_l, tc_ws_r, Nat.reduceLeDiff, Nat.reduceAdd, Nat.reduceLT, true_and, and_true, if_true, if_false, tc_K, Option.toList_some, Option.toList_none, List.nil_append, List.cons_append, ite_true, ite_false, Int.cast_ofNat_Int, reduceIte, i3_add_eq, i3_sub_eq, Int.add_sub_cancel, Int.add_neg_cancel_right, e77, hd', h207, h209, r79, egk]) | (simp only [r259_5, r259_13, r259_23, r259_46, r259_53, r259_85, i6_lt0, i6_0lt, i6_0le, i6_le0, i6_eq0, b10_0, ite_not, Int.reduceLT, Int.reduceLE, Int.reduceEq, Int.reduceNeg, if_true, if_false, ite_true, ite_false, reduceIte, eq_self, not_true, not_false_eq_true]; try refine tc_ite (fun _ => ?_) (fun _ => ?_) <;> try (exfalso; omega)))
      all_goals exact ih (h + 1) _ (by omega) (by omega) (fun a a1 a2 => by rw [fr_ne a2]; exact po a a1 a2) (fun y hy => by rw [fr_ne (by omega), p77, fu_ne hy]) hq
theorem c259 (hS : MS L sh) (hb : WB (bm c)) (hw : WS (bm c) (pm c)) {f x T : Int} (hf : 0 ≤ f ∧ f < c 76 2) (h3 : c 82 f = -1) (hx : 0 ≤ x ∧ x < c 76 0 * c 76 1) (hne : ¬ c 79 f = x) (hT : tof (bm c) (c 76 8) = T) {g : Int → Int} (hg : ∀ h, g h = stg (c 76 0) (c 76 0 * c 76 1) (fu (c 77) x h) (T + 1) (c 79 f))
    (hq : ∀ e, QX c e → Q (some (.inl (hgx g (10 - c 77 x).toNat (c 77 x)))) (hp L sh e) n) : tc_C 259 [rf 75, .inl f, .inl x] (hp L sh c) n Q := by
  show tc_W 259 0 [rf 75, .inl f, .inl x, tc_nil, tc_nil, tc_nil] [] _ _ Q
  obtain ⟨hd, hbd⟩ := hb.dm
  have hN := hd.m.1
  have hd2 := hd.2
  have hh : 0 ≤ c 77 x ∧ c 77 x ≤ 9 := hw.1 x hx.1 hx.2
  repeat' (first | (simp (disch := first | omega | exact Nat.le_of_ble_eq_true rfl | exact rfl | assumption | (simp only [fr_at, Nat.reduceEqDiff, if_false, if_true, reduceIte]; first | assumption | omega)) only [r259_0, r259_1, r259_2, v259_2_11, r259_8, r259_9, r259_10, v259_10_11, r259_16, r259_17, r259_20, r259_21, r259_22, r259_26, r259_27, r259_28, r259_29, r259_32, r259_33, r259_34i, r259_35, r259_37i, r259_39, r259_40i, r259_44, r259_49, r259_51, r259_56, r259_57, r259_60, r259_61, r259_63, r259_64, r259_65, r259_66, v259_66_11, r259_69, r259_70, r259_71, v259_71_11, r259_74, r259_75, r259_78, r259_79, r259_82, r259_83, r259_84, r259_88, r259_90, r259_93, r259_95i, r259_97i, r259_100, r259_103, r259_104, r259_107, r259_108, r259_109, r259_110, r259_112, g11_19_11, g11_13_11, g11_103_11, mo_len, ms75 hS, mt75 hS, mo_g4, ms79 hS, mt79 hS, mo_g2, ms77 hS, mt77 hS, mo_g41, ms105 hS, mt105 hS, il_s, bl_s, bl_z, ll_s, is_s, bs_s, bs_z, ls_s, al_s, al_b, al_l, fr_at, fr_fr, Nat.reduceEqDiff, tc_gf3_s, tc_ql2_s, tc_ws_0, tc_ws_i, tc_ws_l, tc_ws_r, Nat.reduceLeDiff, Nat.reduceAdd, Nat.reduceLT, true_and, and_true, if_true, if_false, tc_K, Option.toList_some, Option.toList_none, List.nil_append, List.cons_append, ite_true, ite_false, Int.cast_ofNat_Int, reduceIte, i3_add_eq, i3_sub_eq, Int.add_sub_cancel, Int.add_neg_cancel_right, c235 hS hd, c205 hS hd, h3]) | (simp only [r259_5, r259_13, r259_23, r259_46, r259_53, r259_85, i6_lt0, i6_0lt, i6_0le, i6_le0, i6_eq0, b10_0, ite_not, Int.reduceLT, Int.reduceLE, Int.reduceEq, Int.reduceNeg, if_true, if_false, ite_true, ite_false, reduceIte, eq_self, not_true, not_false_eq_true]; try refine tc_ite (fun _ => ?_) (fun _ => ?_) <;> try (exfalso; omega)))
  exact c259_l hS hb hw hf hx hT hg (10 - c 77 x).toNat (c 77 x) c (by omega) (by omega) (fun _ _ _ => rfl) (fun _ _ => rfl) hq
theorem c186 (hS : MS L sh) (hq : ∀ e, (∀ a, ¬ a = 76 → ¬ a = 77 → ¬ a = 78 → ¬ a = 79 → ¬ a = 82 → e a = c a) → (∀ i, ¬ i = 8 → ¬ i = 9 → e 76 i = c 76 i) → e 76 8 = 0 → e 76 9 = 0 → (∀ x, 0 ≤ x → x < 25 → e 77 x = c 87 x ∧ e 78 x = 0) → (∀ f, 0 ≤ f → f < 6 → e 79 f = c 88 f ∧ e 82 f = -1) → Q none (hp L sh e) n) : tc_C 186 [rf 75] (hp L sh c) n Q := by
  show tc_W 186 0 [rf 75, tc_nil] [] _ _ Q
  have h185a := fun Q => c185 (c := c) (n := n) (Q := Q) (a := 87) (b := 77) (m := 25) (L := L) (sh := sh) (by have := hS.1; omega) (hS.2 87 (by omega) (by omega)) (hS.2 77 (by omega) (by omega)) (by omega) (by omega)
  generalize hd1 : fr c 77 (lay ((25 : Nat) : Int) (c 87) (c 77)) = d1 at h185a
  have h185b := fun Q => c185 (c := d1) (n := n) (Q := Q) (a := 88) (b := 79) (m := 6) (L := L) (sh := sh) (by have := hS.1; omega) (hS.2 88 (by omega) (by omega)) (hS.2 79 (by omega) (by omega)) (by omega) (by omega)
  generalize hd2 : fr d1 79 (lay ((6 : Nat) : Int) (d1 88) (d1 79)) = d2 at h185b
  have o2 : ∀ a, ¬ a = 77 → ¬ a = 79 → d2 a = c a := fun a a1 a2 => by rw [← hd2, fr_ne a2, ← hd1, fr_ne a1]
  have v77 : ∀ x, 0 ≤ x → x < 25 → d2 77 x = c 87 x := fun x x1 x2 => by
    rw [← hd2, fr_ne (by omega), ← hd1, fr_same]
    exact lay_in (by omega)
  have v79 : ∀ x, 0 ≤ x → x < 6 → d2 79 x = c 88 x := fun x x1 x2 => by
    rw [← hd2, fr_same, ← hd1, fr_ne (by omega)]
    exact lay_in (by omega)
  repeat' (first | (simp (disch := first | omega | exact Nat.le_of_ble_eq_true rfl | exact rfl | assumption | (simp only [fr_at, Nat.reduceEqDiff, if_false, if_true, reduceIte]; first | assumption | omega)) only [r186_0, r186_1, r186_4, r186_5, r186_8, r186_11, r186_12, r186_15, r186_16, r186_19, r186_22, r186_23r, r186_25, r186_30, r186_31, r186_34, r186_35, r186_36, r186_37r, r186_40, r186_43, r186_44r, r186_46, r186_51, r186_52, r186_55, r186_56, r186_57, r186_58r, r186_61, r186_64, r186_65, r186_68, r186_70, r186_71, r186_72, r186_73, r186_76, r186_78, r186_79, r186_80, g11_43_11, g11_13_11, g11_46_11, g11_19_11, g11_16_11, g11_28_11, g11_9_11, mo_len, ms75 hS, mt75 hS, mo_g12, ms87 hS, mt87 hS, mo_g2, ms77 hS, mt77 hS, mo_g13, ms88 hS, mt88 hS, mo_g4, ms79 hS, mt79 hS, mo_g3, ms78 hS, mt78 hS, mo_g7, ms82 hS, mt82 hS, mo_g1, ms76 hS, mt76 hS, il_s, bl_s, bl_z, ll_s, is_s, bs_s, bs_z, ls_s, al_s, al_b, al_l, fr_at, fr_fr, Nat.reduceEqDiff, tc_gf3_s, tc_ql2_s, tc_ws_0, tc_ws_i, tc_ws_l, tc_ws_r, Nat.reduceLeDiff, Nat.reduceAdd, Nat.reduceLT, true_and, and_true, if_true, if_false, tc_K, Option.toList_some, Option.toList_none, List.nil_append, List.cons_append, ite_true, ite_false, Int.cast_ofNat_Int, reduceIte, i3_add_eq, i3_sub_eq, Int.add_sub_cancel, Int.add_neg_cancel_right, h185a, h185b]) | (simp only [r186_27, r186_48, i6_lt0, i6_0lt, i6_0le, i6_le0, i6_eq0, b10_0, ite_not, Int.reduceLT, Int.reduceLE, Int.reduceEq, Int.reduceNeg, if_true, if_false, ite_true, ite_false, reduceIte, eq_self, not_true, not_false_eq_true]; try refine tc_ite (fun _ => ?_) (fun _ => ?_) <;> try (exfalso; omega)))
  have hlp := upI (N := 25) (P := fun x => tc_W 186 24 [rf 75, .inl x] [] (hp L sh (fr d2 78 (lay x (fun _ => 0) (d2 78)))) n Q) (by omega) ?_ ?_
  · rw [lay_0, fr_id] at hlp
    exact hlp
  · intro x hx hx2 ih
    simp only [r186_24]
    repeat' (first | (simp (disch := first | omega | exact Nat.le_of_ble_eq_true rfl | exact rfl | assumption | (simp only [fr_at, Nat.reduceEqDiff, if_false, if_true, reduceIte]; first | assumption | omega)) only [r186_0, r186_1, r186_4, r186_5, r186_8, r186_11, r186_12, r186_15, r186_16, r186_19, r186_22, r186_23r, r186_25, r186_30, r186_31, r186_34, r186_35, r186_36, r186_37r, r186_40, r186_43, r186_44r, r186_46, r186_51, r186_52, r186_55, r186_56, r186_57, r186_58r, r186_61, r186_64, r186_65, r186_68, r186_70, r186_71, r186_72, r186_73, r186_76, r186_78, r186_79, r186_80, g11_43_11, g11_13_11, g11_46_11, g11_19_11, g11_16_11, g11_28_11, g11_9_11, mo_len, ms75 hS, mt75 hS, mo_g12, ms87 hS, mt87 hS, mo_g2, ms77 hS, mt77 hS, mo_g13, ms88 hS, mt88 hS, mo_g4, ms79 hS, mt79 hS, mo_g3, ms78 hS, mt78 hS, mo_g7, ms82 hS, mt82 hS, mo_g1, ms76 hS, mt76 hS, il_s, bl_s, bl_z, ll_s, is_s, bs_s, bs_z, ls_s, al_s, al_b, al_l, fr_at, fr_fr, Nat.reduceEqDiff, tc_gf3_s, tc_ql2_s, tc_ws_0, tc_ws_i, tc_ws_l, tc_ws_r, Nat.reduceLeDiff, Nat.reduceAdd, Nat.reduceLT, true_and, and_true, if_true, if_false, tc_K, Option.toList_some, Option.toList_none, List.nil_append, List.cons_append, ite_true, ite_false, Int.cast_ofNat_Int, reduceIte, i3_add_eq, i3_sub_eq, Int.add_sub_cancel, Int.add_neg_cancel_right]) | (simp only [r186_27, r186_48, i6_lt0, i6_0lt, i6_0le, i6_le0, i6_eq0, b10_0, ite_not, Int.reduceLT, Int.reduceLE, Int.reduceEq, Int.reduceNeg, if_true, if_false, ite_true, ite_false, reduceIte, eq_self, not_true, not_false_eq_true]; try refine tc_ite (fun _ => ?_) (fun _ => ?_) <;> try (exfalso; omega)))
    rw [lay_upv (f := fun _ => 0) hx rfl]
    exact ih
  · simp only [r186_24]
    repeat' (first | (simp (disch := first | omega | exact Nat.le_of_ble_eq_true rfl | exact rfl | assumption | (simp only [fr_at, Nat.reduceEqDiff, if_false, if_true, reduceIte]; first | assumption | omega)) only [r186_0, r186_1, r186_4, r186_5, r186_8, r186_11, r186_12, r186_15, r186_16, r186_19, r186_22, r186_23r, r186_25, r186_30, r186_31, r186_34, r186_35, r186_36, r186_37r, r186_40, r186_43, r186_44r, r186_46, r186_51, r186_52, r186_55, r186_56, r186_57, r186_58r, r186_61, r186_64, r186_65, r186_68, r186_70, r186_71, r186_72, r186_73, r186_76, r186_78, r186_79, r186_80, g11_43_11, g11_13_11, g11_46_11, g11_19_11, g11_16_11, g11_28_11, g11_9_11, mo_len, ms75 hS, mt75 hS, mo_g12, ms87 hS, mt87 hS, mo_g2, ms77 hS, mt77 hS, mo_g13, ms88 hS, mt88 hS, mo_g4, ms79 hS, mt79 hS, mo_g3, ms78 hS, mt78 hS, mo_g7, ms82 hS, mt82 hS, mo_g1, ms76 hS, mt76 hS, il_s, bl_s, bl_z, ll_s, is_s, bs_s, bs_z, ls_s, al_s, al_b, al_l, fr_at, fr_fr, Nat.reduceEqDiff, tc_gf3_s, tc_ql2_s, tc_ws_0, tc_ws_i, tc_ws_l, tc_ws_r, Nat.reduceLeDiff, Nat.reduceAdd, Nat.reduceLT, true_and, and_true, if_true, if_false, tc_K, Option.toList_some, Option.toList_none, List.nil_append, List.cons_append, ite_true, ite_false, Int.cast_ofNat_Int, reduceIte, i3_add_eq, i3_sub_eq, Int.add_sub_cancel, Int.add_neg_cancel_right]) | (simp only [r186_27, r186_48, i6_lt0, i6_0lt, i6_0le, i6_le0, i6_eq0, b10_0, ite_not, Int.reduceLT, Int.reduceLE, Int.reduceEq, Int.reduceNeg, if_true, if_false, ite_true, ite_false, reduceIte, eq_self, not_true, not_false_eq_true]; try refine tc_ite (fun _ => ?_) (fun _ => ?_) <;> try (exfalso; omega)))
    generalize hd3 : fr d2 78 (lay 25 (fun _ => 0) (d2 78)) = d3
    have hlp := upI (N := 6) (P := fun x => tc_W 186 45 [rf 75, .inl x] [] (hp L sh (fr d3 82 (lay x (fun _ => -1) (d3 82)))) n Q) (by omega) ?_ ?_
    · rw [lay_0, fr_id] at hlp
      exact hlp
    · intro x hx hx2 ih
      simp only [r186_45]
      repeat' (first | (simp (disch := first | omega | exact Nat.le_of_ble_eq_true rfl | exact rfl | assumption | (simp only [fr_at, Nat.reduceEqDiff, if_false, if_true, reduceIte]; first | assumption | omega)) only [r186_0, r186_1, r186_4, r186_5, r186_8, r186_11, r186_12, r186_15, r186_16, r186_19, r186_22, r186_23r, r186_25, r186_30, r186_31, r186_34, r186_35, r186_36, r186_37r, r186_40, r186_43, r186_44r, r186_46, r186_51, r186_52, r186_55, r186_56, r186_57, r186_58r, r186_61, r186_64, r186_65, r186_68, r186_70, r186_71, r186_72, r186_73, r186_76, r186_78, r186_79, r186_80, g11_43_11, g11_13_11, g11_46_11, g11_19_11, g11_16_11, g11_28_11, g11_9_11, mo_len, ms75 hS, mt75 hS, mo_g12, ms87 hS, mt87 hS, mo_g2, ms77 hS, mt77 hS, mo_g13, ms88 hS, mt88 hS, mo_g4, ms79 hS, mt79 hS, mo_g3, ms78 hS, mt78 hS, mo_g7, ms82 hS, mt82 hS, mo_g1, ms76 hS, mt76 hS, il_s, bl_s, bl_z, ll_s, is_s, bs_s, bs_z, ls_s, al_s, al_b, al_l, fr_at, fr_fr, Nat.reduceEqDiff, tc_gf3_s, tc_ql2_s, tc_ws_0, tc_ws_i, tc_ws_l, tc_ws_r, Nat.reduceLeDiff, Nat.reduceAdd, Nat.reduceLT, true_and, and_true, if_true, if_false, tc_K, Option.toList_some, Option.toList_none, List.nil_append, List.cons_append, ite_true, ite_false, Int.cast_ofNat_Int, reduceIte, i3_add_eq, i3_sub_eq, Int.add_sub_cancel, Int.add_neg_cancel_right]) | (simp only [r186_27, r186_48, i6_lt0, i6_0lt, i6_0le, i6_le0, i6_eq0, b10_0, ite_not, Int.reduceLT, Int.reduceLE, Int.reduceEq, Int.reduceNeg, if_true, if_false, ite_true, ite_false, reduceIte, eq_self, not_true, not_false_eq_true]; try refine tc_ite (fun _ => ?_) (fun _ => ?_) <;> try (exfalso; omega)))
      rw [lay_upv (f := fun _ => -1) hx rfl]
      exact ih
    · simp only [r186_45]
      repeat' (first | (simp (disch := first | omega | exact Nat.le_of_ble_eq_true rfl | exact rfl | assumption | (simp only [fr_at, Nat.reduceEqDiff, if_false, if_true, reduceIte]; first | assumption | omega)) only [r186_0, r186_1, r186_4, r186_5, r186_8, r186_11, r186_12, r186_15, r186_16, r186_19, r186_22, r186_23r, r186_25, r186_30, r186_31, r186_34, r186_35, r186_36, r186_37r, r186_40, r186_43, r186_44r, r186_46, r186_51, r186_52, r186_55, r186_56, r186_57, r186_58r, r186_61, r186_64, r186_65, r186_68, r186_70, r186_71, r186_72, r186_73, r186_76, r186_78, r186_79, r186_80, g11_43_11, g11_13_11, g11_46_11, g11_19_11, g11_16_11, g11_28_11, g11_9_11, mo_len, ms75 hS, mt75 hS, mo_g12, ms87 hS, mt87 hS, mo_g2, ms77 hS, mt77 hS, mo_g13, ms88 hS, mt88 hS, mo_g4, ms79 hS, mt79 hS, mo_g3, ms78 hS, mt78 hS, mo_g7, ms82 hS, mt82 hS, mo_g1, ms76 hS, mt76 hS, il_s, bl_s, bl_z, ll_s, is_s, bs_s, bs_z, ls_s, al_s, al_b, al_l, fr_at, fr_fr, Nat.reduceEqDiff, tc_gf3_s, tc_ql2_s, tc_ws_0, tc_ws_i, tc_ws_l, tc_ws_r, Nat.reduceLeDiff, Nat.reduceAdd, Nat.reduceLT, true_and, and_true, if_true, if_false, tc_K, Option.toList_some, Option.toList_none, List.nil_append, List.cons_append, ite_true, ite_false, Int.cast_ofNat_Int, reduceIte, i3_add_eq, i3_sub_eq, Int.add_sub_cancel, Int.add_neg_cancel_right]) | (simp only [r186_27, r186_48, i6_lt0, i6_0lt, i6_0le, i6_le0, i6_eq0, b10_0, ite_not, Int.reduceLT, Int.reduceLE, Int.reduceEq, Int.reduceNeg, if_true, if_false, ite_true, ite_false, reduceIte, eq_self, not_true, not_false_eq_true]; try refine tc_ite (fun _ => ?_) (fun _ => ?_) <;> try (exfalso; omega)))
      refine hq _ (fun a a1 a2 a3 a4 a5 => ?_) (fun i i1 i2 => ?_) ?_ ?_ (fun x x1 x2 => ⟨?_, ?_⟩) (fun x x1 x2 => ⟨?_, ?_⟩)
      · rw [fr_ne a1, fr_ne a5, ← hd3, fr_ne a3]
        exact o2 a a2 a4
      · rw [fr_same, fu_ne i2, fu_ne i1, ← hd3, fr_ne (by omega), o2 76 (by omega) (by omega)]
      · rw [fr_same, fu_ne (by omega), fu_same]
      · rw [fr_same, fu_same]
      · rw [fr_ne (by omega), fr_ne (by omega), ← hd3, fr_ne (by omega)]
        exact v77 x x1 x2
      · rw [fr_ne (by omega), fr_ne (by omega), ← hd3, fr_same]
        exact lay_in ⟨x1, x2⟩
      · rw [fr_ne (by omega), fr_ne (by omega), ← hd3, fr_ne (by omega)]
        exact v79 x x1 x2
      · rw [fr_ne (by omega), fr_same]
        exact lay_in ⟨x1, x2⟩
end MOD18

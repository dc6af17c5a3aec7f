/-! the class: a WAVE comes -/
theorem fu_id (f : Int → Int) (k : Int) : fu f k (f k) = f := by
  funext j
  unfold fu
  split
  · rename_i h
    rw [h]
  · rfl
theorem fu_idv {f : Int → Int} {k v : Int} (h : f k = v) : fu f k v = f := h ▸ fu_id f k
/-- a Sand and a Shore lie apart -/
def AP (r s : Nat) : Prop := (r + 3 < 49 ∨ 55 < r) ∧ (r + 3 < s ∨ s + 7 < r)
theorem cn_sm {p : Int → Bool} {f : Int → Int} : ∀ {N : Nat}, (∀ j : Int, 0 ≤ j → j < N → f j = if p j = true then 1 else 0) → cn p N = sm f N := by
  intro N
  induction N with
  | zero => intro _; rfl
  | succ k ih =>
    intro h
    show cn p k + (if p k = true then 1 else 0) = sm f k + f k
    rw [ih fun j h1 h2 => h j h1 (by omega), h k (by omega) (by omega)]
section CWAVE3
variable {L : Nat} {sh : Nat → SH} {c : Nat → Int → Int} {n : Nat} {Q : Option AV → List SC → Nat → Prop} {r s : Nat} {lo : Option Nat}
theorem c100 (hE : SeaS L sh (some s) lo) (hO : ShoS L sh s) (hs : s = 30 ∨ 115 ≤ s) (hR : SanS L sh r) (hr : AP r s) {p : Int → Bool} {m N : Int} (hm : 0 ≤ m ∧ m ≤ 6) (hN : N ≤ 25) (hs3 : c s 3 = m) (h3 : c r 3 = (mk p m.toNat : Nat)) (hat : ∀ f, 0 ≤ f → f < m → 0 ≤ c (r + 2) f ∧ c (r + 2) f < N) {fl : Int → Bool} (hfl : ∀ f, 0 ≤ f → f < m → fl f = decide (c (s + 3) f ≤ c 50 (c (r + 2) f) ∨ c (r + 1) (c (r + 2) f) = 0)) : tc_C 100 [rf 49, rf r] (hp L sh c) n Q = Q none (hp L sh (fr (fr c r (fu (c r) 3 (mk (fun f => p f && !fl f) m.toNat : Nat))) (r + 3) (lay m (fun f => if p f = true ∧ fl f = true then c r 6 else c (r + 3) f) (c (r + 3))))) n := tc_det fun Q hq => by
  obtain ⟨hr1, hr2⟩ := hr
  show tc_W 100 0 [rf 49, rf r, tc_nil, tc_nil] [] _ _ Q
  repeat' (first | (simp (disch := first | omega | exact Nat.le_of_ble_eq_true rfl | exact rfl | assumption | (simp (disch := omega) only [fr_ne, fr_same]; first | assumption | omega)) only [r100_0, r100_1r, r100_3, r100_4, r100_7, r100_13, r100_14, r100_17, r100_18, r100_19i, r100_20, r100_21, r100_22, v100_22_5, r100_28, r100_29, r100_32, r100_33, r100_34, r100_35, r100_38, r100_41, r100_42, r100_46, r100_47, r100_50, r100_51, r100_55, r100_56, r100_57, v100_57_5, r100_60r, r100_63, r100_66, g7_9_7, g7_117_8, g7_120_5, g7_19_7, g7_127_8, g7_79_5, o7_len, o7_g0, o8_len, o8_g3, o5_len, o5_g1, o7_g2, o8_g7, o5_g0, il_s, bl_s, bl_z, ll_s, is_s, bs_s, bs_z, ls_s, al_s, al_b, al_l, fr_ne, fr_same, fr_fr, Nat.reduceEqDiff, tc_gf3_s, tc_ql2_s, tc_ws_0, tc_ws_i, tc_ws_l, tc_ws_r, Nat.reduceLeDiff, Nat.reduceAdd, Nat.reduceLT, true_and, and_true, if_true, if_false, tc_K, Option.toList_some, Option.toList_none, List.nil_append, List.cons_append, ite_true, ite_false, Int.cast_ofNat_Int, reduceIte, i3_add_eq, i3_sub_eq, Int.add_sub_cancel, Int.add_neg_cancel_right]) | (simp only [r100_10, r100_25, r100_43, r100_52, i6_lt0, i6_0lt, i6_0le, i6_le0, i6_eq0, b10_0, ite_not, Int.reduceLT, Int.reduceLE, Int.reduceEq, Int.reduceNeg, if_true, if_false, ite_true, ite_false, reduceIte, eq_self, not_true, not_false_eq_true]; try refine tc_ite (fun _ => ?_) (fun _ => ?_) <;> try (exfalso; omega)))
  have hlp := upI (N := m) (P := fun k => ∀ a3 : AV, tc_W 100 2 [rf 49, rf r, .inl k, a3] [] (hp L sh (fr (fr c r (fu (c r) 3 (mk (fun f => p f && !(fl f && decide (f < k))) m.toNat : Nat))) (r + 3) (lay k (fun f => if p f = true ∧ fl f = true then c r 6 else c (r + 3) f) (c (r + 3))))) n Q) hm.1 ?_ ?_ tc_nil
  · have e : mk (fun f => p f && !(fl f && decide (f < 0))) m.toNat = mk p m.toNat := mk_ext fun j h1 h2 => by
      rw [decide_eq_false (by omega), Bool.and_false, Bool.not_false, Bool.and_true]
    rw [e, lay_0, fu_idv h3, fr_id, fr_id] at hlp
    exact hlp
  · intro k hk hk2 ih a3
    have hak := hat k hk hk2
    have hfk := hfl k hk hk2
    have h70 := fun Q => c70 (c := fr (fr c r (fu (c r) 3 (mk (fun f => p f && !(fl f && decide (f < k))) m.toNat : Nat))) (r + 3) (lay k (fun f => if p f = true ∧ fl f = true then c r 6 else c (r + 3) f) (c (r + 3)))) (n := n) (Q := Q) hR (p := fun f => p f && !(fl f && decide (f < k))) (m := m.toNat) (by omega) (by rw [fr_ne (by omega), fr_same, fu_same]) (f := k) hk (by omega)
    have ek : (p k && !(fl k && decide (k < k))) = p k := by
      rw [decide_eq_false (by omega), Bool.and_false, Bool.not_false, Bool.and_true]
    simp only [ek] at h70
    simp only [r100_2]
    by_cases h1 : p k = true ∧ fl k = true
    · simp only [h1.1, if_true] at h70
      rw [h1.2] at hfk
      have hor := of_decide_eq_true hfk.symm
      have e1 : i3_and ((mk (fun f => p f && !(fl f && decide (f < k))) m.toNat : Nat) : Int) (i3_xor (i3_shl 1 k) (-1)) = ((mk (fun f => p f && !(fl f && decide (f < k + 1))) m.toNat : Nat) : Int) := by
        rw [mk_clear (by omega) hk (by omega)]
        congr 1
        refine mk_ext fun j h5 h6 => ?_
        by_cases h7 : j = k
        · rw [h7, h1.2, decide_eq_true (rfl : k = k), decide_eq_true (by omega : k < k + 1)]
          simp only [Bool.not_true, Bool.and_false, Bool.and_true, Bool.true_and]
        · rw [decide_eq_false h7, Bool.not_false, Bool.and_true]
          by_cases h8 : j < k
          · rw [decide_eq_true h8, decide_eq_true (by omega)]
          · rw [decide_eq_false h8, decide_eq_false (by omega)]
      have e2 : fu (lay k (fun f => if p f = true ∧ fl f = true then c r 6 else c (r + 3) f) (c (r + 3))) k (c r 6) = lay (k + 1) (fun f => if p f = true ∧ fl f = true then c r 6 else c (r + 3) f) (c (r + 3)) := lay_upv hk (if_pos h1).symm
      have h101 := fun Q => c101 (c := fr (fr c r (fu (c r) 3 (mk (fun f => p f && !(fl f && decide (f < k))) m.toNat : Nat))) (r + 3) (lay k (fun f => if p f = true ∧ fl f = true then c r 6 else c (r + 3) f) (c (r + 3)))) (n := n) (Q := Q) hR (f := k) hk (by omega)
      simp (disch := omega) only [fr_ne, fr_same, fu_same, fu_ne, fu_fu] at h101
      simp only [e1, e2] at h101
      rw [fr_cm (a := r + 3) (b := r) (by omega), fr_fr, fr_fr] at h101
      by_cases h2 : c (s + 3) k ≤ c 50 (c (r + 2) k)
      · repeat' (first | (simp (disch := first | omega | exact Nat.le_of_ble_eq_true rfl | exact rfl | assumption | (simp (disch := omega) only [fr_ne, fr_same]; first | assumption | omega)) only [r100_0, r100_1r, r100_3, r100_4, r100_7, r100_13, r100_14, r100_17, r100_18, r100_19i, r100_20, r100_21, r100_22, v100_22_5, r100_28, r100_29, r100_32, r100_33, r100_34, r100_35, r100_38, r100_41, r100_42, r100_46, r100_47, r100_50, r100_51, r100_55, r100_56, r100_57, v100_57_5, r100_60r, r100_63, r100_66, g7_9_7, g7_117_8, g7_120_5, g7_19_7, g7_127_8, g7_79_5, o7_len, o7_g0, o8_len, o8_g3, o5_len, o5_g1, o7_g2, o8_g7, o5_g0, il_s, bl_s, bl_z, ll_s, is_s, bs_s, bs_z, ls_s, al_s, al_b, al_l, fr_ne, fr_same, fr_fr, Nat.reduceEqDiff, tc_gf3_s, tc_ql2_s, tc_ws_0, tc_ws_i, tc_ws_l, tc_ws_r, Nat.reduceLeDiff, Nat.reduceAdd, Nat.reduceLT, true_and, and_true, if_true, if_false, tc_K, Option.toList_some, Option.toList_none, List.nil_append, List.cons_append, ite_true, ite_false, Int.cast_ofNat_Int, reduceIte, i3_add_eq, i3_sub_eq, Int.add_sub_cancel, Int.add_neg_cancel_right, SeaS_g0 hE, SeaS_s0 hE, SeaS_g1 hE, SeaS_s1 hE, SeaS_g2 hE, SeaS_s2 hE, SeaS_g3 hE, SeaS_s3 hE, SeaS_g4 hE, SeaS_s4 hE, SeaS_g5 hE, SeaS_s5 hE, SeaS_g6 hE, SeaS_s6 hE, ShoS_g0 hO, ShoS_s0 hO, ShoS_g1 hO, ShoS_s1 hO, ShoS_g2 hO, ShoS_s2 hO, ShoS_g3 hO, ShoS_s3 hO, ShoS_g4 hO, ShoS_s4 hO, ShoS_g5 hO, ShoS_s5 hO, ShoS_g6 hO, ShoS_s6 hO, ShoS_g7 hO, ShoS_s7 hO, SanS_g0 hR, SanS_s0 hR, SanS_g1 hR, SanS_s1 hR, SanS_g2 hR, SanS_s2 hR, SanS_g3 hR, SanS_s3 hR, hs3, h70, h101]) | (simp only [r100_10, r100_25, r100_43, r100_52, i6_lt0, i6_0lt, i6_0le, i6_le0, i6_eq0, b10_0, ite_not, Int.reduceLT, Int.reduceLE, Int.reduceEq, Int.reduceNeg, if_true, if_false, ite_true, ite_false, reduceIte, eq_self, not_true, not_false_eq_true]; try refine tc_ite (fun _ => ?_) (fun _ => ?_) <;> try (exfalso; omega)))
        exact ih _
      · have h3' : c (r + 1) (c (r + 2) k) = 0 := by
          rcases hor with h | h
          · exact absurd h h2
          · exact h
        repeat' (first | (simp (disch := first | omega | exact Nat.le_of_ble_eq_true rfl | exact rfl | assumption | (simp (disch := omega) only [fr_ne, fr_same]; first | assumption | omega)) only [r100_0, r100_1r, r100_3, r100_4, r100_7, r100_13, r100_14, r100_17, r100_18, r100_19i, r100_20, r100_21, r100_22, v100_22_5, r100_28, r100_29, r100_32, r100_33, r100_34, r100_35, r100_38, r100_41, r100_42, r100_46, r100_47, r100_50, r100_51, r100_55, r100_56, r100_57, v100_57_5, r100_60r, r100_63, r100_66, g7_9_7, g7_117_8, g7_120_5, g7_19_7, g7_127_8, g7_79_5, o7_len, o7_g0, o8_len, o8_g3, o5_len, o5_g1, o7_g2, o8_g7, o5_g0, il_s, bl_s, bl_z, ll_s, is_s, bs_s, bs_z, ls_s, al_s, al_b, al_l, fr_ne, fr_same, fr_fr, Nat.reduceEqDiff, tc_gf3_s, tc_ql2_s, tc_ws_0, tc_ws_i, tc_ws_l, tc_ws_r, Nat.reduceLeDiff, Nat.reduceAdd, Nat.reduceLT, true_and, and_true, if_true, if_false, tc_K, Option.toList_some, Option.toList_none, List.nil_append, List.cons_append, ite_true, ite_false, Int.cast_ofNat_Int, reduceIte, i3_add_eq, i3_sub_eq, Int.add_sub_cancel, Int.add_neg_cancel_right, SeaS_g0 hE, SeaS_s0 hE, SeaS_g1 hE, SeaS_s1 hE, SeaS_g2 hE, SeaS_s2 hE, SeaS_g3 hE, SeaS_s3 hE, SeaS_g4 hE, SeaS_s4 hE, SeaS_g5 hE, SeaS_s5 hE, SeaS_g6 hE, SeaS_s6 hE, ShoS_g0 hO, ShoS_s0 hO, ShoS_g1 hO, ShoS_s1 hO, ShoS_g2 hO, ShoS_s2 hO, ShoS_g3 hO, ShoS_s3 hO, ShoS_g4 hO, ShoS_s4 hO, ShoS_g5 hO, ShoS_s5 hO, ShoS_g6 hO, ShoS_s6 hO, ShoS_g7 hO, ShoS_s7 hO, SanS_g0 hR, SanS_s0 hR, SanS_g1 hR, SanS_s1 hR, SanS_g2 hR, SanS_s2 hR, SanS_g3 hR, SanS_s3 hR, hs3, h70, h101, h3']) | (simp only [r100_10, r100_25, r100_43, r100_52, i6_lt0, i6_0lt, i6_0le, i6_le0, i6_eq0, b10_0, ite_not, Int.reduceLT, Int.reduceLE, Int.reduceEq, Int.reduceNeg, if_true, if_false, ite_true, ite_false, reduceIte, eq_self, not_true, not_false_eq_true]; try refine tc_ite (fun _ => ?_) (fun _ => ?_) <;> try (exfalso; omega)))
        exact ih _
    · have e1 : mk (fun f => p f && !(fl f && decide (f < k + 1))) m.toNat = mk (fun f => p f && !(fl f && decide (f < k))) m.toNat := by
        refine mk_ext fun j h5 h6 => ?_
        by_cases h7 : j = k
        · rw [h7, decide_eq_false (by omega : ¬ k < k), decide_eq_true (by omega : k < k + 1), Bool.and_true, Bool.and_false, Bool.not_false, Bool.and_true]
          cases hp : p k with
          | false => rfl
          | true =>
            cases hf : fl k with
            | false => rfl
            | true => exact absurd ⟨hp, hf⟩ h1
        · by_cases h8 : j < k
          · rw [decide_eq_true h8, decide_eq_true (by omega)]
          · rw [decide_eq_false h8, decide_eq_false (by omega)]
      have e2 : lay (k + 1) (fun f => if p f = true ∧ fl f = true then c r 6 else c (r + 3) f) (c (r + 3)) = lay k (fun f => if p f = true ∧ fl f = true then c r 6 else c (r + 3) f) (c (r + 3)) := (lay_keep hk (if_neg h1).symm).symm
      rw [e1, e2] at ih
      by_cases h2 : p k = true
      · have h4 : fl k = false := eq_false_of_ne_true fun h => h1 ⟨h2, h⟩
        rw [h4] at hfk
        have hno := of_decide_eq_false hfk.symm
        have hn1 : ¬ c (s + 3) k ≤ c 50 (c (r + 2) k) := fun h => hno (Or.inl h)
        have hn2 : ¬ c (r + 1) (c (r + 2) k) = 0 := fun h => hno (Or.inr h)
        simp only [h2, if_true] at h70
        repeat' (first | (simp (disch := first | omega | exact Nat.le_of_ble_eq_true rfl | exact rfl | assumption | (simp (disch := omega) only [fr_ne, fr_same]; first | assumption | omega)) only [r100_0, r100_1r, r100_3, r100_4, r100_7, r100_13, r100_14, r100_17, r100_18, r100_19i, r100_20, r100_21, r100_22, v100_22_5, r100_28, r100_29, r100_32, r100_33, r100_34, r100_35, r100_38, r100_41, r100_42, r100_46, r100_47, r100_50, r100_51, r100_55, r100_56, r100_57, v100_57_5, r100_60r, r100_63, r100_66, g7_9_7, g7_117_8, g7_120_5, g7_19_7, g7_127_8, g7_79_5, o7_len, o7_g0, o8_len, o8_g3, o5_len, o5_g1, o7_g2, o8_g7, o5_g0, il_s, bl_s, bl_z, ll_s, is_s, bs_s, bs_z, ls_s, al_s, al_b, al_l, fr_ne, fr_same, fr_fr, Nat.reduceEqDiff, tc_gf3_s, tc_ql2_s, tc_ws_0, tc_ws_i, tc_ws_l, tc_ws_r, Nat.reduceLeDiff, Nat.reduceAdd, Nat.reduceLT, true_and, and_true, if_true, if_false, tc_K, Option.toList_some, Option.toList_none, List.nil_append, List.cons_append, ite_true, ite_false, Int.cast_ofNat_Int, reduceIte, i3_add_eq, i3_sub_eq, Int.add_sub_cancel, Int.add_neg_cancel_right, SeaS_g0 hE, SeaS_s0 hE, SeaS_g1 hE, SeaS_s1 hE, SeaS_g2 hE, SeaS_s2 hE, SeaS_g3 hE, SeaS_s3 hE, SeaS_g4 hE, SeaS_s4 hE, SeaS_g5 hE, SeaS_s5 hE, SeaS_g6 hE, SeaS_s6 hE, ShoS_g0 hO, ShoS_s0 hO, ShoS_g1 hO, ShoS_s1 hO, ShoS_g2 hO, ShoS_s2 hO, ShoS_g3 hO, ShoS_s3 hO, ShoS_g4 hO, ShoS_s4 hO, ShoS_g5 hO, ShoS_s5 hO, ShoS_g6 hO, ShoS_s6 hO, ShoS_g7 hO, ShoS_s7 hO, SanS_g0 hR, SanS_s0 hR, SanS_g1 hR, SanS_s1 hR, SanS_g2 hR, SanS_s2 hR, SanS_g3 hR, SanS_s3 hR, hs3, h70]) | (simp only [r100_10, r100_25, r100_43, r100_52, i6_lt0, i6_0lt, i6_0le, i6_le0, i6_eq0, b10_0, ite_not, Int.reduceLT, Int.reduceLE, Int.reduceEq, Int.reduceNeg, if_true, if_false, ite_true, ite_false, reduceIte, eq_self, not_true, not_false_eq_true]; try refine tc_ite (fun _ => ?_) (fun _ => ?_) <;> try (exfalso; omega)))
        exact ih _
      · simp only [eq_false_of_ne_true h2, Bool.false_eq_true, if_false] at h70
        repeat' (first | (simp (disch := first | omega | exact Nat.le_of_ble_eq_true rfl | exact rfl | assumption | (simp (disch := omega) only [fr_ne, fr_same]; first | assumption | omega)) only [r100_0, r100_1r, r100_3, r100_4, r100_7, r100_13, r100_14, r100_17, r100_18, r100_19i, r100_20, r100_21, r100_22, v100_22_5, r100_28, r100_29, r100_32, r100_33, r100_34, r100_35, r100_38, r100_41, r100_42, r100_46, r100_47, r100_50, r100_51, r100_55, r100_56, r100_57, v100_57_5, r100_60r, r100_63, r100_66, g7_9_7, g7_117_8, g7_120_5, g7_19_7, g7_127_8, g7_79_5, o7_len, o7_g0, o8_len, o8_g3, o5_len, o5_g1, o7_g2, o8_g7, o5_g0, il_s, bl_s, bl_z, ll_s, is_s, bs_s, bs_z, ls_s, al_s, al_b, al_l, fr_ne, fr_same, fr_fr, Nat.reduceEqDiff, tc_gf3_s, tc_ql2_s, tc_ws_0, tc_ws_i, tc_ws_l, tc_ws_r, Nat.reduceLeDiff, Nat.reduceAdd, Nat.reduceLT, true_and, and_true, if_true, if_false, tc_K, Option.toList_some, Option.toList_none, List.nil_append, List.cons_append, ite_true, ite_false, Int.cast_ofNat_Int, reduceIte, i3_add_eq, i3_sub_eq, Int.add_sub_cancel, Int.add_neg_cancel_right, SeaS_g0 hE, SeaS_s0 hE, SeaS_g1 hE, SeaS_s1 hE, SeaS_g2 hE, SeaS_s2 hE, SeaS_g3 hE, SeaS_s3 hE, SeaS_g4 hE, SeaS_s4 hE, SeaS_g5 hE, SeaS_s5 hE, SeaS_g6 hE, SeaS_s6 hE, ShoS_g0 hO, ShoS_s0 hO, ShoS_g1 hO, ShoS_s1 hO, ShoS_g2 hO, ShoS_s2 hO, ShoS_g3 hO, ShoS_s3 hO, ShoS_g4 hO, ShoS_s4 hO, ShoS_g5 hO, ShoS_s5 hO, ShoS_g6 hO, ShoS_s6 hO, ShoS_g7 hO, ShoS_s7 hO, SanS_g0 hR, SanS_s0 hR, SanS_g1 hR, SanS_s1 hR, SanS_g2 hR, SanS_s2 hR, SanS_g3 hR, SanS_s3 hR, hs3, h70]) | (simp only [r100_10, r100_25, r100_43, r100_52, i6_lt0, i6_0lt, i6_0le, i6_le0, i6_eq0, b10_0, ite_not, Int.reduceLT, Int.reduceLE, Int.reduceEq, Int.reduceNeg, if_true, if_false, ite_true, ite_false, reduceIte, eq_self, not_true, not_false_eq_true]; try refine tc_ite (fun _ => ?_) (fun _ => ?_) <;> try (exfalso; omega)))
        exact ih _
  · intro a3
    have e : mk (fun f => p f && !(fl f && decide (f < m))) m.toNat = mk (fun f => p f && !fl f) m.toNat := mk_ext fun j h1 h2 => by
      rw [decide_eq_true (by omega), Bool.and_true]
    rw [e]
    simp only [r100_2]
    repeat' (first | (simp (disch := first | omega | exact Nat.le_of_ble_eq_true rfl | exact rfl | assumption | (simp (disch := omega) only [fr_ne, fr_same]; first | assumption | omega)) only [r100_0, r100_1r, r100_3, r100_4, r100_7, r100_13, r100_14, r100_17, r100_18, r100_19i, r100_20, r100_21, r100_22, v100_22_5, r100_28, r100_29, r100_32, r100_33, r100_34, r100_35, r100_38, r100_41, r100_42, r100_46, r100_47, r100_50, r100_51, r100_55, r100_56, r100_57, v100_57_5, r100_60r, r100_63, r100_66, g7_9_7, g7_117_8, g7_120_5, g7_19_7, g7_127_8, g7_79_5, o7_len, o7_g0, o8_len, o8_g3, o5_len, o5_g1, o7_g2, o8_g7, o5_g0, il_s, bl_s, bl_z, ll_s, is_s, bs_s, bs_z, ls_s, al_s, al_b, al_l, fr_ne, fr_same, fr_fr, Nat.reduceEqDiff, tc_gf3_s, tc_ql2_s, tc_ws_0, tc_ws_i, tc_ws_l, tc_ws_r, Nat.reduceLeDiff, Nat.reduceAdd, Nat.reduceLT, true_and, and_true, if_true, if_false, tc_K, Option.toList_some, Option.toList_none, List.nil_append, List.cons_append, ite_true, ite_false, Int.cast_ofNat_Int, reduceIte, i3_add_eq, i3_sub_eq, Int.add_sub_cancel, Int.add_neg_cancel_right, SeaS_g0 hE, SeaS_s0 hE, SeaS_g1 hE, SeaS_s1 hE, SeaS_g2 hE, SeaS_s2 hE, SeaS_g3 hE, SeaS_s3 hE, SeaS_g4 hE, SeaS_s4 hE, SeaS_g5 hE, SeaS_s5 hE, SeaS_g6 hE, SeaS_s6 hE, ShoS_g0 hO, ShoS_s0 hO, ShoS_g1 hO, ShoS_s1 hO, ShoS_g2 hO, ShoS_s2 hO, ShoS_g3 hO, ShoS_s3 hO, ShoS_g4 hO, ShoS_s4 hO, ShoS_g5 hO, ShoS_s5 hO, ShoS_g6 hO, ShoS_s6 hO, ShoS_g7 hO, ShoS_s7 hO, SanS_g0 hR, SanS_s0 hR, SanS_g1 hR, SanS_s1 hR, SanS_g2 hR, SanS_s2 hR, SanS_g3 hR, SanS_s3 hR, hs3]) | (simp only [r100_10, r100_25, r100_43, r100_52, i6_lt0, i6_0lt, i6_0le, i6_le0, i6_eq0, b10_0, ite_not, Int.reduceLT, Int.reduceLE, Int.reduceEq, Int.reduceNeg, if_true, if_false, ite_true, ite_false, reduceIte, eq_self, not_true, not_false_eq_true]; try refine tc_ite (fun _ => ?_) (fun _ => ?_) <;> try (exfalso; omega)))
    all_goals first | exact hq | exact q_i (by omega) hq | (simp (disch := omega) only [if_pos, if_neg] at hq; exact hq)
theorem c91 {lr : Nat} {l : Law} (hE : SeaS L sh (some s) (some lr)) (hO : ShoS L sh s) (hs : s = 30 ∨ 115 ≤ s) (hR : SanS L sh r) (hr : AP r s) {b σ : Nat → Int → Int} (hb : WB b) (hw : WS b σ) (hl : CL L sh c lr l) (hB : SB c s (b 0 0) (b 0 1)) (hs3 : c s 3 = b 0 2) (h0 : σ 0 = c (r + 1)) (h2 : σ 2 = c (r + 2)) (h3 : c r 3 = (mk (stn (σ 3)) (b 0 2).toNat : Nat)) (h4 : c r 4 = (mk (fun x => decide (σ 1 x = 1)) (b 0 0 * b 0 1).toNat : Nat)) (h6 : c r 6 = σ 4 0) {x F : Int} (hx : 0 ≤ x) (hx2 : x < b 0 0 * b 0 1)
    (hq : ∀ g, (∀ w, (∃ q ∈ l, ((1, w) : Tk) ∈ q.1 ∨ ((1, w) : Tk) ∈ q.2) → g w = wds b σ F (c 50) x w) → Q (some (rf 54)) (hp L sh (fr c 54 g)) n) : tc_C 91 [rf 49, rf r, .inl x, .inl F] (hp L sh c) n Q := by
  obtain ⟨hr1, hr2⟩ := hr
  obtain ⟨hlr, m1, k, hLS, _, _, _, _, hlk, _, hask⟩ := hl
  have hW : 2 ≤ b 0 0 ∧ b 0 0 ≤ 5 := ⟨hb.1.1, hb.1.2.1⟩
  have hD : 0 ≤ b 0 0 * b 0 1 ∧ b 0 0 * b 0 1 ≤ 25 := by
    have h1 := hb.1
    have h3 : b 0 0 * b 0 1 ≤ 5 * 5 := Int.mul_le_mul h1.2.1 h1.2.2.2 (by omega) (by omega)
    have h4 := Int.mul_nonneg (show 0 ≤ b 0 0 by omega) (show 0 ≤ b 0 1 by omega)
    omega
  have hm := hb.2.1
  have hh : HT (b 0 0 * b 0 1) (c (r + 1)) := h0 ▸ hw.1
  have hwet : i3_and (i3_shr (c r 4) x) 1 = σ 1 x := by
    rw [h4, mk_i3bit (by omega) hx (by omega)]
    rcases hw.2.1 x hx hx2 with h | h
    · rw [h, if_neg (by rintro ⟨_, h⟩; simp only [decide_eq_true_eq] at h; omega)]
    · rw [h, if_pos ⟨by omega, by simp only [decide_eq_true_eq]⟩]
  have h93 := fun g Q => c93 (c := fr c 54 g) (n := n) (Q := Q) hE hO hR (fe := σ 3) (m := b 0 2) (x := x) (by omega) (by rw [fr_ne (by omega)]; exact hs3) (by rw [fr_ne (by omega)]; exact h3)
  have h94 := fun g Q => c94 (c := fr c 54 g) (n := n) (Q := Q) hE hO hR (W := b 0 0) (D := b 0 1) (x := x) hW hD (by unfold SB; rw [fr_ne (by omega), fr_ne (by omega)]; exact hB) (by rw [fr_ne (by omega)]; exact hh) hx hx2
  simp (disch := omega) only [fr_fr, fr_same, fr_ne] at h93 h94
  have hwr : ∀ w, (∃ q ∈ l, ((1, w) : Tk) ∈ q.1 ∨ ((1, w) : Tk) ∈ q.2) → 0 ≤ w ∧ w ≤ 8 := by
    rintro w ⟨q, hq1, hq2 | hq2⟩
    · exact Kds_w (hlk q hq1).1 w hq2
    · rcases (hlk q hq1).2 with h | h
      · rw [h] at hq2
        cases hq2
      · exact Kds_w h w hq2
  have k6 := hask 6 (by omega) (by omega)
  have k7 := hask 7 (by omega) (by omega)
  have k8 := hask 8 (by omega) (by omega)
  show tc_W 91 0 [rf 49, rf r, .inl x, .inl F] [] _ _ Q
  repeat' (first | (simp (disch := first | omega | exact Nat.le_of_ble_eq_true rfl | exact rfl | assumption | (simp (disch := omega) only [fr_ne, fr_same]; first | assumption | omega)) only [r91_0, r91_1, r91_4, r91_5, r91_6, r91_7, r91_8, r91_9, r91_12, r91_13, r91_14, r91_17, r91_18, r91_19, r91_20, r91_21, r91_22, r91_25, r91_26, r91_27, r91_30, r91_31, r91_32, r91_33, r91_34, r91_35, r91_38, r91_39, r91_40, r91_43, r91_44, r91_45, r91_46, r91_47, r91_48, r91_49, r91_50, r91_53, r91_54, r91_55, r91_56, r91_57, r91_58, r91_61, r91_62, r91_63, r91_66, r91_67, r91_68, r91_69, r91_72, r91_74, v91_74_1, r91_80, r91_81, r91_82, r91_83, v91_83_7, r91_86, r91_87, r91_90, r91_92, v91_92_1, r91_98, r91_99, r91_102, r91_104, v91_104_1, r91_110, r91_111, r91_112, r91_113, v91_113_7, r91_116, r91_117, r91_120, g7_34_7, g7_79_5, g7_19_7, g7_106_5, g7_66_5, g7_15_7, o7_len, o7_g6, o5_len, o5_g0, o7_g2, o5_g4, o5_g6, o7_g1, il_s, bl_s, bl_z, ll_s, is_s, bs_s, bs_z, ls_s, al_s, al_b, al_l, fr_ne, fr_same, fr_fr, Nat.reduceEqDiff, tc_gf3_s, tc_ql2_s, tc_ws_0, tc_ws_i, tc_ws_l, tc_ws_r, Nat.reduceLeDiff, Nat.reduceAdd, Nat.reduceLT, true_and, and_true, if_true, if_false, tc_K, Option.toList_some, Option.toList_none, List.nil_append, List.cons_append, ite_true, ite_false, Int.cast_ofNat_Int, reduceIte, i3_add_eq, i3_sub_eq, Int.add_sub_cancel, Int.add_neg_cancel_right, SeaS_g0 hE, SeaS_s0 hE, SeaS_g1 hE, SeaS_s1 hE, SeaS_g2 hE, SeaS_s2 hE, SeaS_g3 hE, SeaS_s3 hE, SeaS_g4 hE, SeaS_s4 hE, SeaS_g5 hE, SeaS_s5 hE, SeaS_g6 hE, SeaS_s6 hE, ShoS_g0 hO, ShoS_s0 hO, ShoS_g1 hO, ShoS_s1 hO, ShoS_g2 hO, ShoS_s2 hO, ShoS_g3 hO, ShoS_s3 hO, ShoS_g4 hO, ShoS_s4 hO, ShoS_g5 hO, ShoS_s5 hO, ShoS_g6 hO, ShoS_s6 hO, ShoS_g7 hO, ShoS_s7 hO, SanS_g0 hR, SanS_s0 hR, SanS_g1 hR, SanS_s1 hR, SanS_g2 hR, SanS_s2 hR, SanS_g3 hR, SanS_s3 hR, LawS_g0 hLS, LawS_s0 hLS, LawS_g1 hLS, LawS_s1 hLS, LawS_g2 hLS, LawS_s2 hLS, hwet, c92 hLS, h93, h94]) | (simp only [r91_77, r91_95, r91_107, i6_lt0, i6_0lt, i6_0le, i6_le0, i6_eq0, b10_0, ite_not, Int.reduceLT, Int.reduceLE, Int.reduceEq, Int.reduceNeg, if_true, if_false, ite_true, ite_false, reduceIte, eq_self, not_true, not_false_eq_true]; try refine tc_ite (fun _ => ?_) (fun _ => ?_) <;> try (exfalso; omega)))
  all_goals
    refine hq _ fun w hw1 => ?_
    have hw2 := hwr w hw1
    rcases (by omega : w = 0 ∨ w = 1 ∨ w = 2 ∨ w = 3 ∨ w = 4 ∨ w = 5 ∨ w = 6 ∨ w = 7 ∨ w = 8) with rfl | rfl | rfl | rfl | rfl | rfl | rfl | rfl | rfl
    all_goals first
      | (exact absurd (k6 hw1) (by assumption))
      | (exact absurd (k7 hw1) (by assumption))
      | (exact absurd (k8 hw1) (by assumption))
      | (simp only [wds, fu_at, Int.reduceEq, if_true, if_false, reduceIte, h0, h2, h6]; done)
end CWAVE3

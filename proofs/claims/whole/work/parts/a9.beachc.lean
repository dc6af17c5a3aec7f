/-! the class: a beach read -/
theorem rwf_st {g : Int → Int} {N p : Int} (hp : 0 ≤ p) {j : Nat} (h0 : rwf g N p j = 0) (h1 : ¬ isdg g N (p + j) = 1) : ∀ d : Nat, rwf g N p (j + 1 + d) = 1 + 8 * (p + j) := by
  intro d
  induction d with
  | zero =>
    show (if ¬ rwf g N p j = 0 then rwf g N p j else if isdg g N (p + j) = 1 then 0 else 1 + 8 * (p + j)) = _
    rw [if_neg (fun q => q h0), if_neg h1]
  | succ d ih =>
    show (if ¬ rwf g N p (j + 1 + d) = 0 then rwf g N p (j + 1 + d) else _) = _
    rw [if_pos (by rw [ih]; omega), ih]
def BRd (L : Nat) (sh : Nat → SH) (s : Nat) : Prop := 115 ≤ L ∧ sh 69 = (6, 0, [some 27, some s]) ∧ sh 27 = (1, 400, []) ∧ ShoS L sh s ∧ 115 ≤ s
def RB (c : Nat → Int → Int) (s : Nat) (B : Nat → Int → Int) (R : Int) : Prop := c 69 6 = R ∧ c 69 7 = B 0 4 ∧ SHO B s c
def RD (c : Nat → Int → Int) (g : Int → Int) (N p : Int) : Prop := c 27 = g ∧ c 69 1 = N ∧ c 69 2 = p ∧ c 69 4 = 0
def BF (c e : Nat → Int → Int) (s : Nat) : Prop := ∀ a, ¬ a = 69 → (a < s ∨ s + 7 < a) → e a = c a
section BEACHC
variable {L : Nat} {sh : Nat → SH} {c : Nat → Int → Int} {n : Nat} {Q : Option AV → List SC → Nat → Prop} {s : Nat} {g : Int → Int} {N p R f p' R' k : Int} {B B' : Nat → Int → Int}
theorem BF.refl : BF c c s := fun _ _ _ => rfl
theorem BF.trans {d e : Nat → Int → Int} (h : BF c d s) (k : BF d e s) : BF c e s := fun a a1 a2 => (k a a1 a2).trans (h a a1 a2)
theorem BF.of69 {e : Nat → Int → Int} (h : ∀ a, ¬ a = 69 → e a = c a) : BF c e s := fun a a1 _ => h a a1
/-- a number that is as told -/
theorem c38k (hB : BRd L sh s) (hT : TP g N) (hR : RD c g N p) (hp0 : 0 ≤ p ∧ p ≤ N) {lo hi : Int} (h0 : nmf g N p lo hi = 0) : ∃ d, (∀ n Q, tc_C 38 [rf 69, .inl lo, .inl hi] (hp L sh c) n Q = Q (some (.inl (nmv g N p))) (hp L sh d) n) ∧ RD d g N (nmp g N p) ∧ (∀ a, ¬ a = 69 → d a = c a) ∧ d 69 6 = c 69 6 ∧ d 69 7 = c 69 7 ∧ d 69 3 = sk g N p := by
  obtain ⟨hL, h69, h27, _, _⟩ := hB
  obtain ⟨rfl, r1, r2, r4⟩ := hR
  have hN := hT.1
  refine ⟨fr c 69 (fu (fu (fu (c 69) 3 (sk (c 27) N p)) 2 (dgt (c 27) N (sk (c 27) N p)).1) 4 (amf (c 27) N (sk (c 27) N p) lo hi)), fun n Q => ?_, ⟨?_, ?_, ?_, ?_⟩, fun a ha => fr_ne ha, ?_, ?_, ?_⟩
  · rw [c38_b h69 h27 hL hT r1 r2 (by omega) r4]
    have h0' : amf (c 27) N (sk (c 27) N p) lo hi = 0 := h0
    rw [if_pos h0']
    rfl
  · rw [fr_ne (by omega)]
  · rw [fr_same]; simp (disch := omega) only [fu_ne, fu_same]; exact r1
  · rw [fr_same]; simp (disch := omega) only [fu_ne, fu_same]; rfl
  · rw [fr_same, fu_same]; exact h0
  · rw [fr_same]; simp (disch := omega) only [fu_ne]
  · rw [fr_same]; simp (disch := omega) only [fu_ne]
  · rw [fr_same]; simp (disch := omega) only [fu_ne, fu_same]
theorem c38x (hB : BRd L sh s) (hT : TP g N) (hR : RD c g N p) (hp0 : 0 ≤ p ∧ p ≤ N) {lo hi F : Int} (hF : nmf g N p lo hi = F) (h0 : ¬ F = 0) : ∃ d, (∀ n Q, tc_C 38 [rf 69, .inl lo, .inl hi] (hp L sh c) n Q = Q (some (.inl (-1))) (hp L sh d) n) ∧ (∀ a, ¬ a = 69 → d a = c a) ∧ d 69 1 = N ∧ d 69 4 = F := by
  obtain ⟨hL, h69, h27, _, _⟩ := hB
  obtain ⟨rfl, r1, r2, r4⟩ := hR
  have hN := hT.1
  refine ⟨fr c 69 (fu (fu (fu (c 69) 3 (sk (c 27) N p)) 2 (dgt (c 27) N (sk (c 27) N p)).1) 4 (amf (c 27) N (sk (c 27) N p) lo hi)), fun n Q => ?_, fun a ha => fr_ne ha, ?_, ?_⟩
  · rw [c38_b h69 h27 hL hT r1 r2 (by omega) r4]
    have h0' : ¬ amf (c 27) N (sk (c 27) N p) lo hi = 0 := fun q => h0 (hF ▸ q)
    rw [if_neg h0']
  · rw [fr_same]; simp (disch := omega) only [fu_ne]; exact r1
  · rw [fr_same, fu_same]; exact hF
theorem c37 (hB : BRd L sh s) (hT : TP g N) (hR : RD c g N p) (hp0 : 0 ≤ p ∧ p ≤ N) (hRB : RB c s B R) (hB2 : B 0 2 = 0) (h42 : ∀ x, 0 ≤ x → x < 25 → B 4 x = 2) (hb : bpt g N 0 p R B = (f, p', R', B'))
    (hq : ∀ e, BF c e s → e 69 1 = N → e 69 4 = f → (f = 0 → e 69 2 = p' ∧ RB e s B' R') → Q none (hp L sh e) n) : tc_C 37 [rf 69] (hp L sh c) n Q := by
  obtain ⟨hL, h69, h27, hSh, hs⟩ := id hB
  have hL69 : 69 < L := by omega
  have r1 := nm_rng (g := g) hp0
  unfold bpt at hb
  rw [if_pos rfl] at hb
  show tc_W 37 0 [rf 69, tc_nil, tc_nil] [] _ _ Q
  by_cases f1 : nmf g N p 2 5 = 0
  · rw [if_neg (fun q => q f1)] at hb
    obtain ⟨d1, a1, a2, a3, a4, a5, a6⟩ := c38k hB hT hR hp0 f1
    have v1 := nmf_0 f1 hp0.1
    by_cases f2 : nmf g N (nmp g N p) 2 5 = 0
    · rw [if_neg (fun q => q f2)] at hb
      obtain ⟨h1, h2, h3, h4⟩ := pr4 hb
      obtain ⟨d2, b1, b2, b3, b4, b5, b6⟩ := c38k hB hT a2 ⟨r1.1, r1.2.1⟩ f2
      have v2 := nmf_0 f2 r1.1
      generalize nmv g N p = V1 at *
      generalize nmv g N (nmp g N p) = V2 at *
      have e4 : d2 69 4 = 0 := b2.2.2.2
      repeat' (first | (simp (disch := first | omega | exact Nat.le_of_ble_eq_true rfl | exact rfl | assumption | (simp (disch := omega) only [fr_ne, fr_same]; first | assumption | omega)) only [r37_0, r37_1, r37_2, r37_3, v37_3_0, r37_6r, r37_7, r37_8, r37_9, r37_10, v37_10_0, r37_13i, r37_14, r37_15, r37_21, r37_22, r37_25, r37_26, r37_27, v37_27_8, r37_30, g0_38_0, g0_38_2, g0_9_0, o0_len, o0_g4, o2_len, o2_g4, o0_g5, il_s, bl_s, bl_z, ll_s, is_s, bs_s, bs_z, ls_s, al_s, al_b, al_l, fr_ne, fr_same, fr_fr, Nat.reduceEqDiff, tc_gf3_s, tc_ql2_s, tc_ws_0, tc_ws_i, tc_ws_l, tc_ws_r, Nat.reduceLeDiff, Nat.reduceAdd, Nat.reduceLT, true_and, and_true, if_true, if_false, tc_K, Option.toList_some, Option.toList_none, List.nil_append, List.cons_append, ite_true, ite_false, Int.cast_ofNat_Int, reduceIte, i3_add_eq, i3_sub_eq, Int.add_sub_cancel, Int.add_neg_cancel_right, hO hL69 h69, a1, b1, e4, ShoS_g0 hSh, ShoS_s0 hSh, ShoS_g1 hSh, ShoS_s1 hSh, ShoS_g2 hSh, ShoS_s2 hSh, ShoS_g3 hSh, ShoS_s3 hSh, ShoS_g4 hSh, ShoS_s4 hSh, ShoS_g5 hSh, ShoS_s5 hSh, ShoS_g6 hSh, ShoS_s6 hSh, ShoS_g7 hSh, ShoS_s7 hSh]) | (simp only [r37_18, i6_lt0, i6_0lt, i6_0le, i6_le0, i6_eq0, b10_0, ite_not, Int.reduceLT, Int.reduceLE, Int.reduceEq, Int.reduceNeg, if_true, if_false, ite_true, ite_false, reduceIte, eq_self, not_true, not_false_eq_true]; try refine tc_ite (fun _ => ?_) (fun _ => ?_) <;> try (exfalso; omega)))
      refine c39 hSh (W := V1) (D := V2) (by omega) (by omega) ?_
      intro e k1 k2 k3 k4 k5 k6 k7
      have kd : ∀ a, ¬ a = 69 → ¬ a = s → ¬ a = s + 1 → ¬ a = s + 7 → e a = c a := fun a q0 q1 q2 q3 => by rw [k1 a q1 q2 q3, b3 a q0, a3 a q0]
      have k69 : e 69 = d2 69 := k1 69 (by omega) (by omega) (by omega)
      repeat' (first | (simp (disch := first | omega | exact Nat.le_of_ble_eq_true rfl | exact rfl | assumption | (simp (disch := omega) only [fr_ne, fr_same]; first | assumption | omega)) only [r37_0, r37_1, r37_2, r37_3, v37_3_0, r37_6r, r37_7, r37_8, r37_9, r37_10, v37_10_0, r37_13i, r37_14, r37_15, r37_21, r37_22, r37_25, r37_26, r37_27, v37_27_8, r37_30, g0_38_0, g0_38_2, g0_9_0, o0_len, o0_g4, o2_len, o2_g4, o0_g5, il_s, bl_s, bl_z, ll_s, is_s, bs_s, bs_z, ls_s, al_s, al_b, al_l, fr_ne, fr_same, fr_fr, Nat.reduceEqDiff, tc_gf3_s, tc_ql2_s, tc_ws_0, tc_ws_i, tc_ws_l, tc_ws_r, Nat.reduceLeDiff, Nat.reduceAdd, Nat.reduceLT, true_and, and_true, if_true, if_false, tc_K, Option.toList_some, Option.toList_none, List.nil_append, List.cons_append, ite_true, ite_false, Int.cast_ofNat_Int, reduceIte, i3_add_eq, i3_sub_eq, Int.add_sub_cancel, Int.add_neg_cancel_right]) | (simp only [r37_18, i6_lt0, i6_0lt, i6_0le, i6_le0, i6_eq0, b10_0, ite_not, Int.reduceLT, Int.reduceLE, Int.reduceEq, Int.reduceNeg, if_true, if_false, ite_true, ite_false, reduceIte, eq_self, not_true, not_false_eq_true]; try refine tc_ite (fun _ => ?_) (fun _ => ?_) <;> try (exfalso; omega)))
      obtain ⟨w1, w2, w3, w4, w5, w6, w7, w8⟩ := hRB
      have hN25 : V1 * V2 ≤ 25 := by
        have := Int.mul_le_mul v1.2 v2.2 (by omega) (by omega)
        omega
      have ds : ∀ i, d2 s i = c s i := fun i => by rw [b3 s (by omega), a3 s (by omega)]
      refine hq e (fun a q1 q2 => kd a q1 (by omega) (by omega) (by omega)) (by rw [k69]; exact b2.2.1) (by rw [k69, ← h1]; exact e4) fun _ => ⟨by rw [k69, b2.2.2.1, ← h2], ?_, ?_, ?_⟩
      · rw [k69, b4, a4, ← h3]
        exact w1
      · rw [k69, b5, a5, w2, ← h4, fr_same]
        simp (disch := omega) only [fu_ne]
      · have e0 : B' 0 = fu (fu (B 0) 0 V1) 1 V2 := by rw [← h4, fr_same]
        have eo : ∀ a, ¬ a = 0 → B' a = B a := fun a ha => by rw [← h4, fr_ne ha]
        unfold SHO
        rw [e0, eo 1 (by omega), eo 2 (by omega), eo 3 (by omega), eo 4 (by omega), eo 5 (by omega)]
        simp (disch := omega) only [fu_same, fu_ne]
        refine ⟨⟨k2, k4, k7⟩, ⟨k3, ?_, ?_⟩, fun f q1 q2 => by omega, fun j q1 q2 => ?_, ?_, fun x x1 x2 => ?_⟩
        · rw [k5 3 (by omega) (by omega) (by omega), ds]
          exact w4.2.1
        · rw [k5 4 (by omega) (by omega) (by omega), ds]
          exact w4.2.2
        · rw [kd (s + 5) (by omega) (by omega) (by omega) (by omega)]
          exact w6 j q1 q2
        · rw [kd (s + 6) (by omega) (by omega) (by omega) (by omega)]
          exact w7
        · rw [k6, lay_in (by omega)]
          exact (h42 x x1 (by omega)).symm
    · rw [if_pos f2] at hb
      obtain ⟨h1, _⟩ := pr4 hb
      obtain ⟨d2, b1, b2, b3, b4⟩ := c38x hB hT a2 ⟨r1.1, r1.2.1⟩ h1 (fun q => f2 (h1.trans q))
      have hf : ¬ f = 0 := fun q => f2 (h1.trans q)
      repeat' (first | (simp (disch := first | omega | exact Nat.le_of_ble_eq_true rfl | exact rfl | assumption | (simp (disch := omega) only [fr_ne, fr_same]; first | assumption | omega)) only [r37_0, r37_1, r37_2, r37_3, v37_3_0, r37_6r, r37_7, r37_8, r37_9, r37_10, v37_10_0, r37_13i, r37_14, r37_15, r37_21, r37_22, r37_25, r37_26, r37_27, v37_27_8, r37_30, g0_38_0, g0_38_2, g0_9_0, o0_len, o0_g4, o2_len, o2_g4, o0_g5, il_s, bl_s, bl_z, ll_s, is_s, bs_s, bs_z, ls_s, al_s, al_b, al_l, fr_ne, fr_same, fr_fr, Nat.reduceEqDiff, tc_gf3_s, tc_ql2_s, tc_ws_0, tc_ws_i, tc_ws_l, tc_ws_r, Nat.reduceLeDiff, Nat.reduceAdd, Nat.reduceLT, true_and, and_true, if_true, if_false, tc_K, Option.toList_some, Option.toList_none, List.nil_append, List.cons_append, ite_true, ite_false, Int.cast_ofNat_Int, reduceIte, i3_add_eq, i3_sub_eq, Int.add_sub_cancel, Int.add_neg_cancel_right, hO hL69 h69, a1, b1, b4]) | (simp only [r37_18, i6_lt0, i6_0lt, i6_0le, i6_le0, i6_eq0, b10_0, ite_not, Int.reduceLT, Int.reduceLE, Int.reduceEq, Int.reduceNeg, if_true, if_false, ite_true, ite_false, reduceIte, eq_self, not_true, not_false_eq_true]; try refine tc_ite (fun _ => ?_) (fun _ => ?_) <;> try (exfalso; omega)))
      all_goals first
        | exact hq d2 (BF.of69 fun a ha => (b2 a ha).trans (a3 a ha)) b3 b4 fun q => absurd q hf
        | omega
  · rw [if_pos f1] at hb
    obtain ⟨h1, _⟩ := pr4 hb
    have hf : ¬ f = 0 := fun q => f1 (h1.trans q)
    obtain ⟨d1, a1, a2, a3, a4⟩ := c38x hB hT hR hp0 h1 hf
    have h2 := fun n Q => c38f_b (c := d1) (n := n) (Q := Q) (lo := 2) (hi := 5) h69 h27 hL (by rw [a4]; exact hf)
    repeat' (first | (simp (disch := first | omega | exact Nat.le_of_ble_eq_true rfl | exact rfl | assumption | (simp (disch := omega) only [fr_ne, fr_same]; first | assumption | omega)) only [r37_0, r37_1, r37_2, r37_3, v37_3_0, r37_6r, r37_7, r37_8, r37_9, r37_10, v37_10_0, r37_13i, r37_14, r37_15, r37_21, r37_22, r37_25, r37_26, r37_27, v37_27_8, r37_30, g0_38_0, g0_38_2, g0_9_0, o0_len, o0_g4, o2_len, o2_g4, o0_g5, il_s, bl_s, bl_z, ll_s, is_s, bs_s, bs_z, ls_s, al_s, al_b, al_l, fr_ne, fr_same, fr_fr, Nat.reduceEqDiff, tc_gf3_s, tc_ql2_s, tc_ws_0, tc_ws_i, tc_ws_l, tc_ws_r, Nat.reduceLeDiff, Nat.reduceAdd, Nat.reduceLT, true_and, and_true, if_true, if_false, tc_K, Option.toList_some, Option.toList_none, List.nil_append, List.cons_append, ite_true, ite_false, Int.cast_ofNat_Int, reduceIte, i3_add_eq, i3_sub_eq, Int.add_sub_cancel, Int.add_neg_cancel_right, hO hL69 h69, a1, h2, a4]) | (simp only [r37_18, i6_lt0, i6_0lt, i6_0le, i6_le0, i6_eq0, b10_0, ite_not, Int.reduceLT, Int.reduceLE, Int.reduceEq, Int.reduceNeg, if_true, if_false, ite_true, ite_false, reduceIte, eq_self, not_true, not_false_eq_true]; try refine tc_ite (fun _ => ?_) (fun _ => ?_) <;> try (exfalso; omega)))
    all_goals first
      | exact hq d1 (BF.of69 a2) a3 a4 fun q => absurd q hf
      | omega
theorem c43 (hB : BRd L sh s) (hT : TP g N) (hR : RD c g N p) (hp0 : 0 ≤ p ∧ p ≤ N) (hRB : RB c s B R) (hB3 : 0 ≤ B 0 3 ∧ B 0 3 < 12) (hb : bpt g N 3 p R B = (f, p', R', B'))
    (hq : ∀ e, BF c e s → e 69 1 = N → e 69 4 = f → (f = 0 → e 69 2 = p' ∧ RB e s B' R') → Q none (hp L sh e) n) : tc_C 43 [rf 69] (hp L sh c) n Q := by
  obtain ⟨hL, h69, h27, hSh, hs⟩ := id hB
  have hL69 : 69 < L := by omega
  unfold bpt at hb
  rw [if_neg (by omega), if_neg (by omega), if_neg (by omega), if_pos rfl] at hb
  obtain ⟨w1, w2, w3, w4, w5, w6, w7, w8⟩ := hRB
  show tc_W 43 0 [rf 69, tc_nil] [] _ _ Q
  by_cases f1 : nmf g N p 0 20 = 0
  · rw [if_neg (fun q => q f1)] at hb
    obtain ⟨h1, h2, h3, h4⟩ := pr4 hb
    obtain ⟨d1, a1, a2, a3, a4, a5, a6⟩ := c38k hB hT hR hp0 f1
    have e4 : d1 69 4 = 0 := a2.2.2.2
    have es4 : d1 s 4 = B 0 3 := by rw [a3 s (by omega)]; exact w4.2.2
    generalize nmv g N p = V1 at *
    repeat' (first | (simp (disch := first | omega | exact Nat.le_of_ble_eq_true rfl | exact rfl | assumption | (simp (disch := omega) only [fr_ne, fr_same]; first | assumption | omega)) only [r43_0, r43_1, r43_2, r43_4, v43_4_0, r43_7r, r43_8, r43_9, r43_15, r43_16, r43_19, r43_22, r43_23, r43_26, r43_29, r43_30, r43_31, r43_32, r43_35, r43_35A, r43_36, r43_39, r43_40, r43_41, r43_44, g0_38_0, g0_38_2, g0_9_0, g0_122_8, g0_70_8, p0_70_8, o0_len, o0_g4, o2_len, o2_g4, o0_g5, o8_len, o8_g9, o8_g4, o8_s4, il_s, bl_s, bl_z, ll_s, is_s, bs_s, bs_z, ls_s, al_s, al_b, al_l, fr_ne, fr_same, fr_fr, Nat.reduceEqDiff, tc_gf3_s, tc_ql2_s, tc_ws_0, tc_ws_i, tc_ws_l, tc_ws_r, Nat.reduceLeDiff, Nat.reduceAdd, Nat.reduceLT, true_and, and_true, if_true, if_false, tc_K, Option.toList_some, Option.toList_none, List.nil_append, List.cons_append, ite_true, ite_false, Int.cast_ofNat_Int, reduceIte, i3_add_eq, i3_sub_eq, Int.add_sub_cancel, Int.add_neg_cancel_right, hO hL69 h69, a1, e4, es4, ShoS_g0 hSh, ShoS_s0 hSh, ShoS_g1 hSh, ShoS_s1 hSh, ShoS_g2 hSh, ShoS_s2 hSh, ShoS_g3 hSh, ShoS_s3 hSh, ShoS_g4 hSh, ShoS_s4 hSh, ShoS_g5 hSh, ShoS_s5 hSh, ShoS_g6 hSh, ShoS_s6 hSh, ShoS_g7 hSh, ShoS_s7 hSh]) | (simp only [r43_12, i6_lt0, i6_0lt, i6_0le, i6_le0, i6_eq0, b10_0, ite_not, Int.reduceLT, Int.reduceLE, Int.reduceEq, Int.reduceNeg, if_true, if_false, ite_true, ite_false, reduceIte, eq_self, not_true, not_false_eq_true]; try refine tc_ite (fun _ => ?_) (fun _ => ?_) <;> try (exfalso; omega)))
    have k69 : ∀ F1 F2, fr (fr d1 (s + 5) F1) s F2 69 = d1 69 := fun F1 F2 => by simp (disch := omega) only [fr_ne]
    have kd : ∀ F1 F2 a, ¬ a = 69 → ¬ a = s → ¬ a = s + 5 → fr (fr d1 (s + 5) F1) s F2 a = c a := fun F1 F2 a q0 q1 q2 => by rw [fr_ne q1, fr_ne q2, a3 a q0]
    refine hq _ (fun a q1 q2 => kd _ _ a q1 (by omega) (by omega)) (by rw [k69]; exact a2.2.1) (by rw [k69, ← h1]; exact e4) fun _ => ⟨by rw [k69, a2.2.2.1, ← h2], ?_, ?_, ?_⟩
    · rw [k69, a4, ← h3]
      exact w1
    · rw [k69, a5, w2, ← h4, fr_same]
      simp (disch := omega) only [fu_ne]
    · have e0 : B' 0 = fu (B 0) 3 (B 0 3 + 1) := by rw [← h4, fr_same]
      have e3 : B' 3 = fu (B 3) (B 0 3) V1 := by rw [← h4]; simp (disch := omega) only [fr_ne, fr_same]
      have eo : ∀ a, ¬ a = 0 → ¬ a = 3 → B' a = B a := fun a h1 h2 => by rw [← h4, fr_ne h1, fr_ne h2]
      unfold SHO SB
      rw [e0, e3, eo 1 (by omega) (by omega), eo 2 (by omega) (by omega), eo 4 (by omega) (by omega), eo 5 (by omega) (by omega)]
      rw [kd _ _ (s + 1) (by omega) (by omega) (by omega), kd _ _ (s + 2) (by omega) (by omega) (by omega), kd _ _ (s + 3) (by omega) (by omega) (by omega), kd _ _ (s + 4) (by omega) (by omega) (by omega), kd _ _ (s + 6) (by omega) (by omega) (by omega), kd _ _ (s + 7) (by omega) (by omega) (by omega)]
      simp (disch := omega) only [fr_ne, fr_same, fu_same, fu_ne, a3]
      refine ⟨w3, ⟨w4.1, w4.2.1, trivial⟩, w5, fun j q1 q2 => ?_, w7, w8⟩
      by_cases hj : j = B 0 3
      · rw [hj, fu_same, fu_same]
      · rw [fu_ne hj, fu_ne hj]
        exact w6 j q1 (by omega)
  · rw [if_pos f1] at hb
    obtain ⟨h1, _⟩ := pr4 hb
    have hf : ¬ f = 0 := fun q => f1 (h1.trans q)
    obtain ⟨d1, a1, a2, a3, a4⟩ := c38x hB hT hR hp0 h1 hf
    repeat' (first | (simp (disch := first | omega | exact Nat.le_of_ble_eq_true rfl | exact rfl | assumption | (simp (disch := omega) only [fr_ne, fr_same]; first | assumption | omega)) only [r43_0, r43_1, r43_2, r43_4, v43_4_0, r43_7r, r43_8, r43_9, r43_15, r43_16, r43_19, r43_22, r43_23, r43_26, r43_29, r43_30, r43_31, r43_32, r43_35, r43_35A, r43_36, r43_39, r43_40, r43_41, r43_44, g0_38_0, g0_38_2, g0_9_0, g0_122_8, g0_70_8, p0_70_8, o0_len, o0_g4, o2_len, o2_g4, o0_g5, o8_len, o8_g9, o8_g4, o8_s4, il_s, bl_s, bl_z, ll_s, is_s, bs_s, bs_z, ls_s, al_s, al_b, al_l, fr_ne, fr_same, fr_fr, Nat.reduceEqDiff, tc_gf3_s, tc_ql2_s, tc_ws_0, tc_ws_i, tc_ws_l, tc_ws_r, Nat.reduceLeDiff, Nat.reduceAdd, Nat.reduceLT, true_and, and_true, if_true, if_false, tc_K, Option.toList_some, Option.toList_none, List.nil_append, List.cons_append, ite_true, ite_false, Int.cast_ofNat_Int, reduceIte, i3_add_eq, i3_sub_eq, Int.add_sub_cancel, Int.add_neg_cancel_right, hO hL69 h69, a1, a4]) | (simp only [r43_12, i6_lt0, i6_0lt, i6_0le, i6_le0, i6_eq0, b10_0, ite_not, Int.reduceLT, Int.reduceLE, Int.reduceEq, Int.reduceNeg, if_true, if_false, ite_true, ite_false, reduceIte, eq_self, not_true, not_false_eq_true]; try refine tc_ite (fun _ => ?_) (fun _ => ?_) <;> try (exfalso; omega)))
    all_goals first
      | exact hq d1 (BF.of69 a2) a3 a4 fun q => absurd q hf
      | omega
theorem c42 (hB : BRd L sh s) (hT : TP g N) (hR : RD c g N p) (hp0 : 0 ≤ p ∧ p ≤ N) (hRB : RB c s B R) (hB2 : 0 ≤ B 0 2 ∧ B 0 2 < 6) (hN25 : 0 ≤ B 0 0 * B 0 1 ∧ B 0 0 * B 0 1 ≤ 25) (hb : bpt g N 2 p R B = (f, p', R', B'))
    (hq : ∀ e, BF c e s → e 69 1 = N → e 69 4 = f → (f = 0 → e 69 2 = p' ∧ RB e s B' R') → Q none (hp L sh e) n) : tc_C 42 [rf 69] (hp L sh c) n Q := by
  obtain ⟨hL, h69, h27, hSh, hs⟩ := id hB
  have hL69 : 69 < L := by omega
  have r1 := nm_rng (g := g) hp0
  have r2 := nm_rng (g := g) (p := nmp g N p) ⟨r1.1, r1.2.1⟩
  unfold bpt at hb
  rw [if_neg (by omega), if_neg (by omega), if_pos rfl] at hb
  obtain ⟨w1, w2, w3, w4, w5, w6, w7, w8⟩ := hRB
  have es2 : c s 2 = B 0 0 * B 0 1 := w3.2.1
  generalize hM : B 0 0 * B 0 1 = M at *
  show tc_W 42 0 [rf 69, tc_nil, tc_nil, tc_nil] [] _ _ Q
  by_cases f1 : nmf g N p 0 (M - 1) = 0
  · rw [if_neg (fun q => q f1)] at hb
    obtain ⟨d1, a1, a2, a3, a4, a5, a6⟩ := c38k hB hT hR hp0 f1
    by_cases f2 : nmf g N (nmp g N p) 1 20 = 0
    · rw [if_neg (fun q => q f2)] at hb
      obtain ⟨d2, b1, b2, b3, b4, b5, b6⟩ := c38k hB hT a2 ⟨r1.1, r1.2.1⟩ f2
      by_cases f3 : nmf g N (nmp g N (nmp g N p)) 1 50 = 0
      · rw [if_neg (fun q => q f3)] at hb
        obtain ⟨d3, l1, l2, l3, l4, l5, l6⟩ := c38k hB hT b2 ⟨r2.1, r2.2.1⟩ f3
        obtain ⟨h1, h2, h3, h4⟩ := pr4 hb
        have e4 : d3 69 4 = 0 := l2.2.2.2
        have ed : ∀ a, ¬ a = 69 → d3 a = c a := fun a ha => by rw [l3 a ha, b3 a ha, a3 a ha]
        have es3 : d3 s 3 = B 0 2 := by rw [ed s (by omega)]; exact w4.2.1
        generalize nmv g N p = V1 at *
        generalize nmv g N (nmp g N p) = V2 at *
        generalize nmv g N (nmp g N (nmp g N p)) = V3 at *
        repeat' (first | (simp (disch := first | omega | exact Nat.le_of_ble_eq_true rfl | exact rfl | assumption | (simp (disch := omega) only [fr_ne, fr_same]; first | assumption | omega)) only [r42_0, r42_1, r42_2, r42_3, r42_6, r42_9, r42_10, r42_11, v42_11_0, r42_14r, r42_15, r42_16, r42_17, r42_19, v42_19_0, r42_22i, r42_23, r42_24, r42_25, r42_27, v42_27_0, r42_30i, r42_31, r42_32, r42_38, r42_39, r42_42, r42_45, r42_46, r42_49, r42_52, r42_53, r42_54, r42_55, r42_58, r42_61, r42_62, r42_65, r42_68, r42_69, r42_70, r42_71, r42_74, r42_77, r42_78, r42_81, r42_84, r42_85, r42_86, r42_87, r42_90, r42_90A, r42_91, r42_94, r42_95, r42_96, r42_99, g0_9_0, g0_110_8, g0_38_0, g0_38_2, g0_113_8, g0_67_8, g0_116_8, g0_119_8, p0_67_8, o0_len, o0_g5, o8_len, o8_g2, o0_g4, o2_len, o2_g4, o8_g6, o8_g3, o8_g7, o8_g8, o8_s3, il_s, bl_s, bl_z, ll_s, is_s, bs_s, bs_z, ls_s, al_s, al_b, al_l, fr_ne, fr_same, fr_fr, Nat.reduceEqDiff, tc_gf3_s, tc_ql2_s, tc_ws_0, tc_ws_i, tc_ws_l, tc_ws_r, Nat.reduceLeDiff, Nat.reduceAdd, Nat.reduceLT, true_and, and_true, if_true, if_false, tc_K, Option.toList_some, Option.toList_none, List.nil_append, List.cons_append, ite_true, ite_false, Int.cast_ofNat_Int, reduceIte, i3_add_eq, i3_sub_eq, Int.add_sub_cancel, Int.add_neg_cancel_right, hO hL69 h69, es2, a1, b1, l1, e4, es3, ShoS_g0 hSh, ShoS_s0 hSh, ShoS_g1 hSh, ShoS_s1 hSh, ShoS_g2 hSh, ShoS_s2 hSh, ShoS_g3 hSh, ShoS_s3 hSh, ShoS_g4 hSh, ShoS_s4 hSh, ShoS_g5 hSh, ShoS_s5 hSh, ShoS_g6 hSh, ShoS_s6 hSh, ShoS_g7 hSh, ShoS_s7 hSh]) | (simp only [r42_35, i6_lt0, i6_0lt, i6_0le, i6_le0, i6_eq0, b10_0, ite_not, Int.reduceLT, Int.reduceLE, Int.reduceEq, Int.reduceNeg, if_true, if_false, ite_true, ite_false, reduceIte, eq_self, not_true, not_false_eq_true]; try refine tc_ite (fun _ => ?_) (fun _ => ?_) <;> try (exfalso; omega)))
        have k69 : ∀ F1 F2 F3 F4, fr (fr (fr (fr d3 (s + 2) F1) (s + 3) F2) (s + 4) F3) s F4 69 = d3 69 := fun F1 F2 F3 F4 => by simp (disch := omega) only [fr_ne]
        have kd : ∀ F1 F2 F3 F4 a, ¬ a = 69 → ¬ a = s → ¬ a = s + 2 → ¬ a = s + 3 → ¬ a = s + 4 → fr (fr (fr (fr d3 (s + 2) F1) (s + 3) F2) (s + 4) F3) s F4 a = c a := fun F1 F2 F3 F4 a q0 q1 q2 q3 q4 => by rw [fr_ne q1, fr_ne q4, fr_ne q3, fr_ne q2, ed a q0]
        refine hq _ (fun a q1 q2 => kd _ _ _ _ a q1 (by omega) (by omega) (by omega) (by omega)) (by rw [k69]; exact l2.2.1) (by rw [k69, ← h1]; exact e4) fun _ => ⟨by rw [k69, l2.2.2.1, ← h2], ?_, ?_, ?_⟩
        · rw [k69, l4, b4, a4, ← h3]
          exact w1
        · rw [k69, l5, b5, a5, w2, ← h4, fr_same]
          simp (disch := omega) only [fu_ne]
        · have e0 : B' 0 = fu (B 0) 2 (B 0 2 + 1) := by rw [← h4, fr_same]
          have e1 : B' 1 = fu (B 1) (B 0 2) V2 := by rw [← h4]; simp (disch := omega) only [fr_ne, fr_same]
          have e2 : B' 2 = fu (B 2) (B 0 2) V3 := by rw [← h4]; simp (disch := omega) only [fr_ne, fr_same]
          have e3 : B' 3 = B 3 := by rw [← h4]; simp (disch := omega) only [fr_ne]
          have e4 : B' 4 = B 4 := by rw [← h4]; simp (disch := omega) only [fr_ne]
          have e5 : B' 5 = fu (B 5) (B 0 2) V1 := by rw [← h4]; simp (disch := omega) only [fr_ne, fr_same]
          unfold SHO SB
          rw [e0, e1, e2, e3, e4, e5]
          rw [kd _ _ _ _ (s + 1) (by omega) (by omega) (by omega) (by omega) (by omega), kd _ _ _ _ (s + 5) (by omega) (by omega) (by omega) (by omega) (by omega), kd _ _ _ _ (s + 6) (by omega) (by omega) (by omega) (by omega) (by omega), kd _ _ _ _ (s + 7) (by omega) (by omega) (by omega) (by omega) (by omega)]
          simp (disch := omega) only [fr_ne, fr_same, fu_same, fu_ne, ed, hM]
          refine ⟨?_, ⟨w4.1, trivial, w4.2.2⟩, fun j q1 q2 => ?_, w6, w7, w8⟩
          · unfold SB at w3
            rw [hM] at w3
            exact w3
          · by_cases hj : j = B 0 2
            · rw [hj, fu_same, fu_same, fu_same, fu_same, fu_same, fu_same]
              exact ⟨rfl, rfl, rfl⟩
            · rw [fu_ne hj, fu_ne hj, fu_ne hj, fu_ne hj, fu_ne hj, fu_ne hj]
              exact w5 j q1 (by omega)
      · rw [if_pos f3] at hb
        obtain ⟨h1, _⟩ := pr4 hb
        have hf : ¬ f = 0 := fun q => f3 (h1.trans q)
        obtain ⟨d3, l1, l2, l3, l4⟩ := c38x hB hT b2 ⟨r2.1, r2.2.1⟩ h1 hf
        repeat' (first | (simp (disch := first | omega | exact Nat.le_of_ble_eq_true rfl | exact rfl | assumption | (simp (disch := omega) only [fr_ne, fr_same]; first | assumption | omega)) only [r42_0, r42_1, r42_2, r42_3, r42_6, r42_9, r42_10, r42_11, v42_11_0, r42_14r, r42_15, r42_16, r42_17, r42_19, v42_19_0, r42_22i, r42_23, r42_24, r42_25, r42_27, v42_27_0, r42_30i, r42_31, r42_32, r42_38, r42_39, r42_42, r42_45, r42_46, r42_49, r42_52, r42_53, r42_54, r42_55, r42_58, r42_61, r42_62, r42_65, r42_68, r42_69, r42_70, r42_71, r42_74, r42_77, r42_78, r42_81, r42_84, r42_85, r42_86, r42_87, r42_90, r42_90A, r42_91, r42_94, r42_95, r42_96, r42_99, g0_9_0, g0_110_8, g0_38_0, g0_38_2, g0_113_8, g0_67_8, g0_116_8, g0_119_8, p0_67_8, o0_len, o0_g5, o8_len, o8_g2, o0_g4, o2_len, o2_g4, o8_g6, o8_g3, o8_g7, o8_g8, o8_s3, il_s, bl_s, bl_z, ll_s, is_s, bs_s, bs_z, ls_s, al_s, al_b, al_l, fr_ne, fr_same, fr_fr, Nat.reduceEqDiff, tc_gf3_s, tc_ql2_s, tc_ws_0, tc_ws_i, tc_ws_l, tc_ws_r, Nat.reduceLeDiff, Nat.reduceAdd, Nat.reduceLT, true_and, and_true, if_true, if_false, tc_K, Option.toList_some, Option.toList_none, List.nil_append, List.cons_append, ite_true, ite_false, Int.cast_ofNat_Int, reduceIte, i3_add_eq, i3_sub_eq, Int.add_sub_cancel, Int.add_neg_cancel_right, hO hL69 h69, es2, a1, b1, l1, l4, ShoS_g0 hSh, ShoS_s0 hSh, ShoS_g1 hSh, ShoS_s1 hSh, ShoS_g2 hSh, ShoS_s2 hSh, ShoS_g3 hSh, ShoS_s3 hSh, ShoS_g4 hSh, ShoS_s4 hSh, ShoS_g5 hSh, ShoS_s5 hSh, ShoS_g6 hSh, ShoS_s6 hSh, ShoS_g7 hSh, ShoS_s7 hSh]) | (simp only [r42_35, i6_lt0, i6_0lt, i6_0le, i6_le0, i6_eq0, b10_0, ite_not, Int.reduceLT, Int.reduceLE, Int.reduceEq, Int.reduceNeg, if_true, if_false, ite_true, ite_false, reduceIte, eq_self, not_true, not_false_eq_true]; try refine tc_ite (fun _ => ?_) (fun _ => ?_) <;> try (exfalso; omega)))
        all_goals first
          | exact hq d3 (BF.of69 fun a ha => (l2 a ha).trans ((b3 a ha).trans (a3 a ha))) l3 l4 fun q => absurd q hf
          | omega
    · rw [if_pos f2] at hb
      obtain ⟨h1, _⟩ := pr4 hb
      have hf : ¬ f = 0 := fun q => f2 (h1.trans q)
      obtain ⟨d2, b1, b2, b3, b4⟩ := c38x hB hT a2 ⟨r1.1, r1.2.1⟩ h1 hf
      have h2 := fun n Q => c38f_b (c := d2) (n := n) (Q := Q) (lo := 1) (hi := 50) h69 h27 hL (by rw [b4]; exact hf)
      repeat' (first | (simp (disch := first | omega | exact Nat.le_of_ble_eq_true rfl | exact rfl | assumption | (simp (disch := omega) only [fr_ne, fr_same]; first | assumption | omega)) only [r42_0, r42_1, r42_2, r42_3, r42_6, r42_9, r42_10, r42_11, v42_11_0, r42_14r, r42_15, r42_16, r42_17, r42_19, v42_19_0, r42_22i, r42_23, r42_24, r42_25, r42_27, v42_27_0, r42_30i, r42_31, r42_32, r42_38, r42_39, r42_42, r42_45, r42_46, r42_49, r42_52, r42_53, r42_54, r42_55, r42_58, r42_61, r42_62, r42_65, r42_68, r42_69, r42_70, r42_71, r42_74, r42_77, r42_78, r42_81, r42_84, r42_85, r42_86, r42_87, r42_90, r42_90A, r42_91, r42_94, r42_95, r42_96, r42_99, g0_9_0, g0_110_8, g0_38_0, g0_38_2, g0_113_8, g0_67_8, g0_116_8, g0_119_8, p0_67_8, o0_len, o0_g5, o8_len, o8_g2, o0_g4, o2_len, o2_g4, o8_g6, o8_g3, o8_g7, o8_g8, o8_s3, il_s, bl_s, bl_z, ll_s, is_s, bs_s, bs_z, ls_s, al_s, al_b, al_l, fr_ne, fr_same, fr_fr, Nat.reduceEqDiff, tc_gf3_s, tc_ql2_s, tc_ws_0, tc_ws_i, tc_ws_l, tc_ws_r, Nat.reduceLeDiff, Nat.reduceAdd, Nat.reduceLT, true_and, and_true, if_true, if_false, tc_K, Option.toList_some, Option.toList_none, List.nil_append, List.cons_append, ite_true, ite_false, Int.cast_ofNat_Int, reduceIte, i3_add_eq, i3_sub_eq, Int.add_sub_cancel, Int.add_neg_cancel_right, hO hL69 h69, es2, a1, b1, h2, b4, ShoS_g0 hSh, ShoS_s0 hSh, ShoS_g1 hSh, ShoS_s1 hSh, ShoS_g2 hSh, ShoS_s2 hSh, ShoS_g3 hSh, ShoS_s3 hSh, ShoS_g4 hSh, ShoS_s4 hSh, ShoS_g5 hSh, ShoS_s5 hSh, ShoS_g6 hSh, ShoS_s6 hSh, ShoS_g7 hSh, ShoS_s7 hSh]) | (simp only [r42_35, i6_lt0, i6_0lt, i6_0le, i6_le0, i6_eq0, b10_0, ite_not, Int.reduceLT, Int.reduceLE, Int.reduceEq, Int.reduceNeg, if_true, if_false, ite_true, ite_false, reduceIte, eq_self, not_true, not_false_eq_true]; try refine tc_ite (fun _ => ?_) (fun _ => ?_) <;> try (exfalso; omega)))
      all_goals first
        | exact hq d2 (BF.of69 fun a ha => (b2 a ha).trans (a3 a ha)) b3 b4 fun q => absurd q hf
        | omega
  · rw [if_pos f1] at hb
    obtain ⟨h1, _⟩ := pr4 hb
    have hf : ¬ f = 0 := fun q => f1 (h1.trans q)
    obtain ⟨d1, a1, a2, a3, a4⟩ := c38x hB hT hR hp0 h1 hf
    have h2 := fun n Q => c38f_b (c := d1) (n := n) (Q := Q) (lo := 1) (hi := 20) h69 h27 hL (by rw [a4]; exact hf)
    have h3 := fun n Q => c38f_b (c := d1) (n := n) (Q := Q) (lo := 1) (hi := 50) h69 h27 hL (by rw [a4]; exact hf)
    repeat' (first | (simp (disch := first | omega | exact Nat.le_of_ble_eq_true rfl | exact rfl | assumption | (simp (disch := omega) only [fr_ne, fr_same]; first | assumption | omega)) only [r42_0, r42_1, r42_2, r42_3, r42_6, r42_9, r42_10, r42_11, v42_11_0, r42_14r, r42_15, r42_16, r42_17, r42_19, v42_19_0, r42_22i, r42_23, r42_24, r42_25, r42_27, v42_27_0, r42_30i, r42_31, r42_32, r42_38, r42_39, r42_42, r42_45, r42_46, r42_49, r42_52, r42_53, r42_54, r42_55, r42_58, r42_61, r42_62, r42_65, r42_68, r42_69, r42_70, r42_71, r42_74, r42_77, r42_78, r42_81, r42_84, r42_85, r42_86, r42_87, r42_90, r42_90A, r42_91, r42_94, r42_95, r42_96, r42_99, g0_9_0, g0_110_8, g0_38_0, g0_38_2, g0_113_8, g0_67_8, g0_116_8, g0_119_8, p0_67_8, o0_len, o0_g5, o8_len, o8_g2, o0_g4, o2_len, o2_g4, o8_g6, o8_g3, o8_g7, o8_g8, o8_s3, il_s, bl_s, bl_z, ll_s, is_s, bs_s, bs_z, ls_s, al_s, al_b, al_l, fr_ne, fr_same, fr_fr, Nat.reduceEqDiff, tc_gf3_s, tc_ql2_s, tc_ws_0, tc_ws_i, tc_ws_l, tc_ws_r, Nat.reduceLeDiff, Nat.reduceAdd, Nat.reduceLT, true_and, and_true, if_true, if_false, tc_K, Option.toList_some, Option.toList_none, List.nil_append, List.cons_append, ite_true, ite_false, Int.cast_ofNat_Int, reduceIte, i3_add_eq, i3_sub_eq, Int.add_sub_cancel, Int.add_neg_cancel_right, hO hL69 h69, es2, a1, h2, h3, a4, ShoS_g0 hSh, ShoS_s0 hSh, ShoS_g1 hSh, ShoS_s1 hSh, ShoS_g2 hSh, ShoS_s2 hSh, ShoS_g3 hSh, ShoS_s3 hSh, ShoS_g4 hSh, ShoS_s4 hSh, ShoS_g5 hSh, ShoS_s5 hSh, ShoS_g6 hSh, ShoS_s6 hSh, ShoS_g7 hSh, ShoS_s7 hSh]) | (simp only [r42_35, i6_lt0, i6_0lt, i6_0le, i6_le0, i6_eq0, b10_0, ite_not, Int.reduceLT, Int.reduceLE, Int.reduceEq, Int.reduceNeg, if_true, if_false, ite_true, ite_false, reduceIte, eq_self, not_true, not_false_eq_true]; try refine tc_ite (fun _ => ?_) (fun _ => ?_) <;> try (exfalso; omega)))
    all_goals first
      | exact hq d1 (BF.of69 a2) a3 a4 fun q => absurd q hf
      | omega
end BEACHC

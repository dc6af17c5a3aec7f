/-! the class: questions -/
def CQ (L : Nat) (sh : Nat → SH) (c : Nat → Int → Int) (s : Nat) (v : Option Nat) (b σ : Nat → Int → Int) (la : Option Law) : Prop := MO sh s ∧ (∃ s1 l1, SeaS L sh s1 l1) ∧ ShoS L sh s ∧ (s = 30 ∨ 115 ≤ s) ∧ SanS L sh 38 ∧ SanS L sh 56 ∧ (∃ ci lw m f, sh 28 = (4, ci, lw) ∧ c 26 3 = m ∧ m ≤ (lw : List (Option Nat)).length ∧ c 29 4 = f ∧ v = if 0 ≤ f ∧ f < m then (lw.getD f.toNat none) else none) ∧ WB b ∧ WS b σ ∧ SHO b s c ∧ SAN True b 38 c σ ∧ LA L sh c v la ∧ (∀ lr, v = some lr → 115 ≤ lr)
/-- what questions leave as it was -/
def FQ (c e : Nat → Int → Int) : Prop := ∀ a, (a < 50 ∨ 59 < a) → e a = c a
section QUERYC
variable {L : Nat} {sh : Nat → SH} {c : Nat → Int → Int} {n : Nat} {Q : Option AV → List SC → Nat → Prop} {s : Nat} {v : Option Nat} {b σ : Nat → Int → Int} {la : Option Law}
theorem FQ.refl (c : Nat → Int → Int) : FQ c c := fun _ _ => rfl
theorem FQ.trans {c d e : Nat → Int → Int} (h : FQ c d) (k : FQ d e) : FQ c e := fun a ha => (k a ha).trans (h a ha)
theorem LA_seaf {s2 l2 : Option Nat} (h : LA L sh c v la) : LA L (seaf sh s2 l2) c v la := by
  rcases h with h | ⟨lr, l, h1, h2, hr, m1, k, h3, h4⟩
  · exact Or.inl h
  · exact Or.inr ⟨lr, l, h1, h2, hr, m1, k, LawS_fs h3 (by omega), h4⟩
theorem CQ.next (h : CQ L sh c s v b σ la) {e : Nat → Int → Int} (he : FQ c e) : CQ L (seaf sh (some s) v) e s v b σ la := by
  obtain ⟨hM, ⟨s1, l1, hE⟩, hSh, hs, h38, h56, ⟨ci, lw, m, f, q1, q2, q3, q4, q5⟩, hb, hw, hB, hσ, hl, hal⟩ := h
  have fn : ∀ a, ¬ a = 49 → seaf sh (some s) v a = sh a := fun a ha => fs_ne ha
  refine ⟨⟨by rw [fn 26 (by omega)]; exact hM.1, by rw [fn 29 (by omega)]; exact hM.2⟩, ⟨_, _, SeaS_new hE _ _⟩, ShoS_fs hSh (by omega), hs, SanS_fs h38 (by omega), SanS_fs h56 (by omega), ⟨ci, lw, m, f, by rw [fn 28 (by omega)]; exact q1, by rw [he 26 (by omega)]; exact q2, q3, by rw [he 29 (by omega)]; exact q4, q5⟩, hb, hw, hB.fr fun a a1 a2 => he a (by omega), hσ.fr (he 38 (by omega)) (he 39 (by omega)) (he 40 (by omega)) (he 41 (by omega)), ?_, hal⟩
  exact (LA_seaf hl).of (Nat.le_refl L) (fun _ _ => rfl) fun lr a l1 l2 l3 => he a (by have := hal lr l1; omega)
theorem seaf_seaf {a1 a2 a3 a4 : Option Nat} : seaf (seaf sh a1 a2) a3 a4 = seaf sh a3 a4 := fs_fs _ _ _ _
theorem c72q (h : CQ L sh c s v b σ la) : tc_C 72 [rf 26] (hp L sh c) n Q = Q (some (rf 49)) (hp L (seaf sh (some s) v) c) n := by
  obtain ⟨hM, ⟨s1, l1, hE⟩, _, _, _, _, ⟨ci, lw, m, f, q1, q2, q3, q4, q5⟩, _⟩ := h
  exact c72 hM hE q1 q2 q3 q4 q5
/-- the probe as the sand is now -/
theorem c88p (h : CQ L sh c s v b σ la) (hq : ∀ e, FQ c e → SAN True b 56 e σ → Q none (hp L sh e) n) : tc_C 88 [rf 56, rf 38] (hp L sh c) n Q := by
  obtain ⟨_, _, _, _, h38, h56, _, _, _, _, hσ, _⟩ := h
  refine c88 h56 h38 (by omega) fun e g1 g2 g3 g4 g5 => ?_
  exact hq e (fun a ha => g1 a (by omega)) (hσ.cp g2 g3 g4 g5)
theorem c137 (h : CQ L sh c s v b σ la) (h9 : σ 4 0 < 900) {f F : Int} (hf : 0 ≤ f ∧ f < b 0 2) (hF : 0 ≤ F ∧ F ≤ 60)
    (hq : ∀ e, FQ c e → Q (some (.inl (flb b σ la f F))) (hp L (seaf sh (some s) v) e) n) : tc_C 137 [rf 26, .inl f, .inl F] (hp L sh c) n Q := by
  obtain ⟨hM, ⟨s1, l1, hE⟩, hSh, hs, h38, h56, _, hb, hw, hB, hσ, hl, hal⟩ := id h
  obtain ⟨h26, h29⟩ := id hM
  have hL := hE.1
  have hL26 : 26 < L := by omega
  have hL29 : 29 < L := by omega
  have hm2 := hb.2.1
  show tc_W 137 0 [rf 26, .inl f, .inl F] [] _ _ Q
  repeat' (first | (simp (disch := first | omega | exact Nat.le_of_ble_eq_true rfl | exact rfl | assumption | (simp (disch := omega) only [fr_ne, fr_same]; first | assumption | omega)) only [r137_0, r137_1, r137_4, r137_5, r137_8, r137_11, v137_11_5, r137_14, r137_15, v137_15_10, r137_18, r137_19, r137_22, r137_23, v137_23_7, r137_26, r137_26A, r137_27, r137_28, r137_31, r137_32, v137_32_5, r137_38, r137_39, r137_42, r137_43h, r137_43f, r137_43t, g10_52_10, g10_34_10, g10_109_6, o10_len, o10_g7, o10_g4, o6_len, o6_g1, il_s, bl_s, bl_z, ll_s, is_s, bs_s, bs_z, ls_s, al_s, al_b, al_l, fr_ne, fr_same, fr_fr, Nat.reduceEqDiff, tc_gf3_s, tc_ql2_s, tc_ws_0, tc_ws_i, tc_ws_l, tc_ws_r, Nat.reduceLeDiff, Nat.reduceAdd, Nat.reduceLT, true_and, and_true, if_true, if_false, tc_K, Option.toList_some, Option.toList_none, List.nil_append, List.cons_append, ite_true, ite_false, Int.cast_ofNat_Int, reduceIte, i3_add_eq, i3_sub_eq, Int.add_sub_cancel, Int.add_neg_cancel_right, hO hL26 h26, hO hL29 h29, SanS_g0 h56, SanS_s0 h56, SanS_g1 h56, SanS_s1 h56, SanS_g2 h56, SanS_s2 h56, SanS_g3 h56, SanS_s3 h56]) | (simp only [r137_35, i6_lt0, i6_0lt, i6_0le, i6_le0, i6_eq0, b10_0, ite_not, Int.reduceLT, Int.reduceLE, Int.reduceEq, Int.reduceNeg, if_true, if_false, ite_true, ite_false, reduceIte, eq_self, not_true, not_false_eq_true]; try refine tc_ite (fun _ => ?_) (fun _ => ?_) <;> try (exfalso; omega)))
  refine c88p h ?_
  intro e he hσe
  have hC2 : CQ L (seaf sh (some s) v) e s v b σ la := h.next he
  obtain ⟨hM2, _, hSh2, _, _, h562, _, _, _, hB2, _, hl2, _⟩ := id hC2
  have hCe : CQ L sh e s v b σ la := by
    refine ⟨hM, ⟨s1, l1, hE⟩, hSh, hs, h38, h56, ?_, hb, hw, hB2, hσ.fr (he 38 (by omega)) (he 39 (by omega)) (he 40 (by omega)) (he 41 (by omega)), hl.of (Nat.le_refl L) (fun _ _ => rfl) fun lr a l1 l2 l3 => he a (by have := hal lr l1; omega), hal⟩
    obtain ⟨_, _, _, _, _, _, ⟨ci, lw, m, f', q1, q2, q3, q4, q5⟩, _⟩ := h
    exact ⟨ci, lw, m, f', q1, by rw [he 26 (by omega)]; exact q2, q3, by rw [he 29 (by omega)]; exact q4, q5⟩
  have h72 := fun Q => c72q (n := n) (Q := Q) hCe
  have hE2 := SeaS_new hE (some s) v
  repeat' (first | (simp (disch := first | omega | exact Nat.le_of_ble_eq_true rfl | exact rfl | assumption | (simp (disch := omega) only [fr_ne, fr_same]; first | assumption | omega)) only [r137_0, r137_1, r137_4, r137_5, r137_8, r137_11, v137_11_5, r137_14, r137_15, v137_15_10, r137_18, r137_19, r137_22, r137_23, v137_23_7, r137_26, r137_26A, r137_27, r137_28, r137_31, r137_32, v137_32_5, r137_38, r137_39, r137_42, r137_43h, r137_43f, r137_43t, g10_52_10, g10_34_10, g10_109_6, o10_len, o10_g7, o10_g4, o6_len, o6_g1, il_s, bl_s, bl_z, ll_s, is_s, bs_s, bs_z, ls_s, al_s, al_b, al_l, fr_ne, fr_same, fr_fr, Nat.reduceEqDiff, tc_gf3_s, tc_ql2_s, tc_ws_0, tc_ws_i, tc_ws_l, tc_ws_r, Nat.reduceLeDiff, Nat.reduceAdd, Nat.reduceLT, true_and, and_true, if_true, if_false, tc_K, Option.toList_some, Option.toList_none, List.nil_append, List.cons_append, ite_true, ite_false, Int.cast_ofNat_Int, reduceIte, i3_add_eq, i3_sub_eq, Int.add_sub_cancel, Int.add_neg_cancel_right, hO hL26 h26, h72, hO hL26 hM2.1, SeaS_g0 hE2, SeaS_s0 hE2, SeaS_g1 hE2, SeaS_s1 hE2, SeaS_g2 hE2, SeaS_s2 hE2, SeaS_g3 hE2, SeaS_s3 hE2, SeaS_g4 hE2, SeaS_s4 hE2, SeaS_g5 hE2, SeaS_s5 hE2, SeaS_g6 hE2, SeaS_s6 hE2]) | (simp only [r137_35, i6_lt0, i6_0lt, i6_0le, i6_le0, i6_eq0, b10_0, ite_not, Int.reduceLT, Int.reduceLE, Int.reduceEq, Int.reduceNeg, if_true, if_false, ite_true, ite_false, reduceIte, eq_self, not_true, not_false_eq_true]; try refine tc_ite (fun _ => ?_) (fun _ => ?_) <;> try (exfalso; omega)))
  refine c90 (c := e) (r := 56) (F := F) (σ := σ) (k := True) hE2 hSh2 hs h562 (by unfold AP; omega) hb hw hl2 hal hB2 hσe hF h9 ?_
  intro e2 k1 k2
  have hq' := hq e2 (fun a ha => (k1 a (by omega) (by omega) (by omega) (by omega) (by omega) (by omega) (by omega) (by omega)).trans (he a ha))
  have h70 := fun Q => c70 (c := e2) (n := n) (Q := Q) h562 (m := (b 0 2).toNat) (by omega) k2.2.2.1 (f := f) hf.1 (by omega)
  unfold flb at hq'
  by_cases hst : stp b σ la F 3 f = -1
  · rw [if_pos hst] at hq'
    have hs1 : stn (stp b σ la F 3) f = true := decide_eq_true hst
    simp only [hs1, if_true] at h70
    repeat' (first | (simp (disch := first | omega | exact Nat.le_of_ble_eq_true rfl | exact rfl | assumption | (simp (disch := omega) only [fr_ne, fr_same]; first | assumption | omega)) only [r137_0, r137_1, r137_4, r137_5, r137_8, r137_11, v137_11_5, r137_14, r137_15, v137_15_10, r137_18, r137_19, r137_22, r137_23, v137_23_7, r137_26, r137_26A, r137_27, r137_28, r137_31, r137_32, v137_32_5, r137_38, r137_39, r137_42, r137_43h, r137_43f, r137_43t, g10_52_10, g10_34_10, g10_109_6, o10_len, o10_g7, o10_g4, o6_len, o6_g1, il_s, bl_s, bl_z, ll_s, is_s, bs_s, bs_z, ls_s, al_s, al_b, al_l, fr_ne, fr_same, fr_fr, Nat.reduceEqDiff, tc_gf3_s, tc_ql2_s, tc_ws_0, tc_ws_i, tc_ws_l, tc_ws_r, Nat.reduceLeDiff, Nat.reduceAdd, Nat.reduceLT, true_and, and_true, if_true, if_false, tc_K, Option.toList_some, Option.toList_none, List.nil_append, List.cons_append, ite_true, ite_false, Int.cast_ofNat_Int, reduceIte, i3_add_eq, i3_sub_eq, Int.add_sub_cancel, Int.add_neg_cancel_right, hO hL26 hM2.1, SanS_g0 h562, SanS_s0 h562, SanS_g1 h562, SanS_s1 h562, SanS_g2 h562, SanS_s2 h562, SanS_g3 h562, SanS_s3 h562, h70]) | (simp only [r137_35, i6_lt0, i6_0lt, i6_0le, i6_le0, i6_eq0, b10_0, ite_not, Int.reduceLT, Int.reduceLE, Int.reduceEq, Int.reduceNeg, if_true, if_false, ite_true, ite_false, reduceIte, eq_self, not_true, not_false_eq_true]; try refine tc_ite (fun _ => ?_) (fun _ => ?_) <;> try (exfalso; omega)))
    all_goals first
      | exact hq'
      | omega
  · rw [if_neg hst] at hq'
    have hs1 : stn (stp b σ la F 3) f = false := decide_eq_false hst
    simp only [hs1, Bool.false_eq_true, if_false] at h70
    repeat' (first | (simp (disch := first | omega | exact Nat.le_of_ble_eq_true rfl | exact rfl | assumption | (simp (disch := omega) only [fr_ne, fr_same]; first | assumption | omega)) only [r137_0, r137_1, r137_4, r137_5, r137_8, r137_11, v137_11_5, r137_14, r137_15, v137_15_10, r137_18, r137_19, r137_22, r137_23, v137_23_7, r137_26, r137_26A, r137_27, r137_28, r137_31, r137_32, v137_32_5, r137_38, r137_39, r137_42, r137_43h, r137_43f, r137_43t, g10_52_10, g10_34_10, g10_109_6, o10_len, o10_g7, o10_g4, o6_len, o6_g1, il_s, bl_s, bl_z, ll_s, is_s, bs_s, bs_z, ls_s, al_s, al_b, al_l, fr_ne, fr_same, fr_fr, Nat.reduceEqDiff, tc_gf3_s, tc_ql2_s, tc_ws_0, tc_ws_i, tc_ws_l, tc_ws_r, Nat.reduceLeDiff, Nat.reduceAdd, Nat.reduceLT, true_and, and_true, if_true, if_false, tc_K, Option.toList_some, Option.toList_none, List.nil_append, List.cons_append, ite_true, ite_false, Int.cast_ofNat_Int, reduceIte, i3_add_eq, i3_sub_eq, Int.add_sub_cancel, Int.add_neg_cancel_right, hO hL26 hM2.1, SanS_g0 h562, SanS_s0 h562, SanS_g1 h562, SanS_s1 h562, SanS_g2 h562, SanS_s2 h562, SanS_g3 h562, SanS_s3 h562, h70]) | (simp only [r137_35, i6_lt0, i6_0lt, i6_0le, i6_le0, i6_eq0, b10_0, ite_not, Int.reduceLT, Int.reduceLE, Int.reduceEq, Int.reduceNeg, if_true, if_false, ite_true, ite_false, reduceIte, eq_self, not_true, not_false_eq_true]; try refine tc_ite (fun _ => ?_) (fun _ => ?_) <;> try (exfalso; omega)))
    all_goals first
      | exact hq'
      | omega
end QUERYC

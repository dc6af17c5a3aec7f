/-! the class: by which RULE, where to look -/
theorem lgo_log {lw lc lh lw' lc' lh' ht : Int → Int} {w : Int} : ∀ {k : Nat}, (∀ j : Int, 0 ≤ j → j < k → lw j = lw' j ∧ lc j = lc' j ∧ lh j = lh' j) → lgo lw lc lh ht w k = lgo lw' lc' lh' ht w k := by
  intro k
  induction k with
  | zero => intro _; rfl
  | succ k ih =>
    intro h
    have h1 := h k (by omega) (by omega)
    unfold lgo
    rw [ih fun j j1 j2 => h j j1 (by omega), h1.1, h1.2.1, h1.2.2]
theorem crn_log {b : Nat → Int → Int} {la : Option Law} {lw lc lh lw' lc' lh' : Int → Int} {m : Nat} (h : ∀ j : Int, 0 ≤ j → j < m → lw j = lw' j ∧ lc j = lc' j ∧ lh j = lh' j) : ∀ k : Nat, crn b la lw lc lh m k = crn b la lw' lc' lh' m k := by
  intro k
  induction k with
  | zero => rfl
  | succ k ih =>
    show (if crn b la lw lc lh m k = 1 ∧ lgo lw lc lh (gos b la (bgn b) k 0) (k : Int) m = 1 then (1 : Int) else 0) = (if crn b la lw' lc' lh' m k = 1 ∧ lgo lw' lc' lh' (gos b la (bgn b) k 0) (k : Int) m = 1 then (1 : Int) else 0)
    rw [ih, lgo_log h]
theorem LA.dyn {L : Nat} {sh : Nat → SH} {c : Nat → Int → Int} {v : Option Nat} {la : Option Law} (h : LA L sh c v la) : ∀ lr, v = some lr → 115 ≤ lr := by
  intro lr hv
  rcases h with h | ⟨lr', l, h1, h2, h3⟩
  · rw [h.1] at hv
    exact absurd hv (by simp)
  · rw [h1] at hv
    injection hv with hv
    rw [← hv]
    exact h3.1
/-- what is asked over all rules -/
def RV (L : Nat) (sh : Nat → SH) (c : Nat → Int → Int) (s : Nat) (b : Nat → Int → Int) (m g : Int) (LL : Int → Option Law) : Prop := MO sh s ∧ (∃ s1 l1, SeaS L sh s1 l1) ∧ ShoS L sh s ∧ (s = 30 ∨ 115 ≤ s) ∧ SanS L sh 56 ∧ LogS L sh 44 ∧ sh 74 = (0, 250, []) ∧ WB b ∧ SHO b s c ∧ (0 ≤ m ∧ m ≤ 6 ∧ c 26 3 = m) ∧ (0 ≤ g ∧ g ≤ 10 ∧ c 44 3 = g ∧ ∀ k : Int, 0 ≤ k → k < g → (0 ≤ c 46 k ∧ c 46 k < b 0 0 * b 0 1) ∧ (0 ≤ c 45 k ∧ c 45 k ≤ 60)) ∧ (∃ ci lw, sh 28 = (4, ci, lw) ∧ m ≤ (lw : List (Option Nat)).length ∧ ∀ r : Int, -1 ≤ r → r < m → LA L sh c (if 0 ≤ r ∧ r < m then lw.getD r.toNat none else none) (LL r))
def FL (c e : Nat → Int → Int) : Prop := ∀ a, (a < 50 ∨ 59 < a) → ¬ a = 74 → e a = c a
section RULEDQ
variable {L : Nat} {sh : Nat → SH} {c : Nat → Int → Int} {n : Nat} {Q : Option AV → List SC → Nat → Prop} {s : Nat} {b : Nat → Int → Int} {m g : Int} {LL : Int → Option Law}
theorem FL.refl (c : Nat → Int → Int) : FL c c := fun _ _ _ => rfl
theorem FL.trans {c d e : Nat → Int → Int} (h : FL c d) (k : FL d e) : FL c e := fun a a1 a2 => (k a a1 a2).trans (h a a1 a2)
theorem FQ.l {c e : Nat → Int → Int} (h : FQ c e) : FL c e := fun a a1 _ => h a a1
theorem RV.next (h : RV L sh c s b m g LL) {e : Nat → Int → Int} (he : FL c e) (o1 o2 : Option Nat) : RV L (seaf sh o1 o2) e s b m g LL := by
  obtain ⟨hM, ⟨s1, l1, hE⟩, hSh, hs, h56, h44, h74, hb, hB, hm, hg, ⟨ci, lw, q1, q2, q3⟩⟩ := h
  have fn : ∀ a, ¬ a = 49 → seaf sh o1 o2 a = sh a := fun a ha => fs_ne ha
  refine ⟨⟨by rw [fn 26 (by omega)]; exact hM.1, by rw [fn 29 (by omega)]; exact hM.2⟩, ⟨_, _, SeaS_new hE _ _⟩, ShoS_fs hSh (by omega), hs, SanS_fs h56 (by omega), LogS_fs h44 (by omega), by rw [fn 74 (by omega)]; exact h74, hb, hB.fr fun a a1 a2 => he a (by omega) (by omega), ?_, ?_, ⟨ci, lw, by rw [fn 28 (by omega)]; exact q1, q2, fun r r1 r2 => ?_⟩⟩
  · rw [he 26 (by omega) (by omega)]
    exact hm
  · rw [he 44 (by omega) (by omega), he 45 (by omega) (by omega), he 46 (by omega) (by omega)]
    exact hg
  · have hal := (q3 r r1 r2).dyn
    exact (LA_seaf (q3 r r1 r2)).of (Nat.le_refl L) (fun _ _ => rfl) fun lr a l1 l2 l3 => he a (by have := hal lr l1; omega) (by have := hal lr l1; omega)
theorem seaf_id {s1 l1 : Option Nat} (hE : SeaS L sh s1 l1) : seaf sh s1 l1 = sh := by
  funext a
  unfold seaf fs
  split
  · next h => rw [h, hE.2.1]
  · rfl
/-- the sea faces a rule -/
theorem rv_step (h : RV L sh c s b m g LL) {r : Int} (hr : -1 ≤ r ∧ r < m) : ∃ v, (∀ n Q, tc_C 73 [rf 26, .inl r] (hp L sh c) n Q = Q (some (.inr (.inr (.inl v)))) (hp L sh c) n) ∧ (∀ n Q, tc_C 74 [rf 49, .inr (.inr (.inl (some s))), .inr (.inr (.inl v))] (hp L sh c) n Q = Q none (hp L (seaf sh (some s) v) c) n) ∧ SeaS L (seaf sh (some s) v) (some s) v ∧ LA L (seaf sh (some s) v) c v (LL r) ∧ (∀ n Q, (∀ e, FQ c e → Q (some (.inl (crn b (LL r) (c 45) (c 46) (c 47) g.toNat 61))) (hp L (seaf sh (some s) v) e) n) → tc_C 145 [rf 44, rf 49, rf 56] (hp L (seaf sh (some s) v) c) n Q) := by
  obtain ⟨hM, ⟨s1, l1, hE⟩, hSh, hs, h56, h44, h74, hb, hB, hm, hg, ⟨ci, lw, q1, q2, q3⟩⟩ := id h
  have hla := q3 r hr.1 hr.2
  have hL := hE.1
  refine ⟨_, fun n Q => c73 hM hL q1 hm.2.2 q2 rfl, fun n Q => c74 hE, SeaS_new hE _ _, LA_seaf hla, fun n Q hq => ?_⟩
  obtain ⟨_, _, hSh2, _, h562, h442, _, _, hB2, _, _, _⟩ := h.next (FL.refl c) (some s) (if 0 ≤ r ∧ r < m then lw.getD r.toNat none else none)
  refine c145 (lg := 44) (r := 56) (m := g) (SeaS_new hE _ _) hSh2 hs h562 (by unfold AP; omega) h442 (by omega) (by omega) hb (LA_seaf hla) (fun lr h => by have := hla.dyn lr h; omega) hB2 ⟨hg.1, hg.2.1⟩ hg.2.2.1 hg.2.2.2 ?_
  intro e he
  exact hq e fun a ha => he a (by omega) (by omega) (by omega) (by omega) (by omega) (by omega)
theorem c144 (h : RV L sh c s b m g LL) {w : Int} (hw2 : w = 0 ∨ w = 1) {G : Int → Int} (hG : ∀ r, -1 ≤ r → r < m → G r = crn b (LL r) (c 45) (c 46) (c 47) g.toNat 61)
    (hq : ∀ e o1 o2, FQ c e → Q (some (.inl (if w = 0 then (rld G (m + 1).toNat).1 else (rld G (m + 1).toNat).2))) (hp L (seaf sh o1 o2) e) n) : tc_C 144 [rf 26, .inl w] (hp L sh c) n Q := by
  obtain ⟨hM, ⟨s1, l1, hE⟩, hSh, hs, h56, h44, h74, hb, hB, hm, hg, _⟩ := id h
  have hL := hE.1
  have hL26 : 26 < L := by omega
  have hL29 : 29 < L := by omega
  have hN4 : 4 ≤ b 0 0 * b 0 1 := by
    have h1 := hb.1
    have := Int.mul_le_mul h1.1 h1.2.2.1 (by omega) (by omega)
    omega
  have h83 := fun Q => c83 (c := c) (n := n) (Q := Q) hM hSh hL hB.1.2.1
  simp only [if_neg (show ¬ b 0 0 * b 0 1 = 0 by omega)] at h83
  show tc_W 144 0 [rf 26, .inl w, tc_nil, tc_nil, tc_nil] [] _ _ Q
  repeat' (first | (simp (disch := first | omega | exact Nat.le_of_ble_eq_true rfl | exact rfl | assumption | (simp (disch := omega) only [fr_ne, fr_same]; first | assumption | omega)) only [r144_0, r144_1, v144_1_10, r144_7, r144_11, r144_12, r144_16, r144_18, r144_19, r144_20i, r144_21, r144_23i, r144_24, r144_25i, r144_29, r144_30, r144_36, r144_37, r144_40, r144_41, r144_44, r144_47, r144_48, r144_50, v144_50_10, r144_53, v144_53_7, r144_56, r144_57, r144_60, r144_63, r144_64, r144_67, r144_68, r144_71, v144_71_3, r144_77i, r144_80, r144_81, r144_85, r144_87, r144_90, r144_91i, r144_92i, r144_95, r144_98, r144_102, r144_103, r144_106, r144_107, g10_23_10, g10_45_10, g10_34_10, g10_131_6, g10_274_6, g10_52_10, o10_len, o10_g3, o10_g6, o10_g4, o6_len, o6_g0, o6_g3, o10_g7, il_s, bl_s, bl_z, ll_s, is_s, bs_s, bs_z, ls_s, al_s, al_b, al_l, fr_ne, fr_same, fr_fr, Nat.reduceEqDiff, tc_gf3_s, tc_ql2_s, tc_ws_0, tc_ws_i, tc_ws_l, tc_ws_r, Nat.reduceLeDiff, Nat.reduceAdd, Nat.reduceLT, true_and, and_true, if_true, if_false, tc_K, Option.toList_some, Option.toList_none, List.nil_append, List.cons_append, ite_true, ite_false, Int.cast_ofNat_Int, reduceIte, i3_add_eq, i3_sub_eq, Int.add_sub_cancel, Int.add_neg_cancel_right, hO hL26 hM.1, h83]) | (simp only [r144_4, r144_8, r144_13, r144_33, r144_74, r144_82, r144_99, i6_lt0, i6_0lt, i6_0le, i6_le0, i6_eq0, b10_0, ite_not, Int.reduceLT, Int.reduceLE, Int.reduceEq, Int.reduceNeg, if_true, if_false, ite_true, ite_false, reduceIte, eq_self, not_true, not_false_eq_true]; try refine tc_ite (fun _ => ?_) (fun _ => ?_) <;> try (exfalso; omega)))
  all_goals try omega
  have hlp := lq_3 (N := m + 1) (P := fun k (d : Nat → Int → Int) (o1 o2 : Option Nat) => tc_W 144 27 [rf 26, .inl w, .inl (rld G k.toNat).1, .inl (rld G k.toNat).2, .inl (k - 1)] [] (hp L (seaf sh o1 o2) d) n Q) (I := fun k d o1 o2 => FQ c d) ?_ ?_ 0 c s1 l1 (by omega) (by omega) (FQ.refl c)
  · rw [seaf_id hE] at hlp
    exact hlp
  · intro k d o1 o2 hk hk2 hd ih
    have e1 : rld G (k + 1).toNat = if G (k - 1) = 1 then ((rld G k.toNat).1 + 1, if (rld G k.toNat).1 = 0 then k - 1 else (rld G k.toNat).2) else rld G k.toNat := by
      rw [show (k + 1).toNat = k.toNat + 1 by omega]
      show (if G ((k.toNat : Int) - 1) = 1 then ((rld G k.toNat).1 + 1, if (rld G k.toNat).1 = 0 then (k.toNat : Int) - 1 else (rld G k.toNat).2) else rld G k.toNat) = _
      rw [Int.toNat_of_nonneg hk]
    rw [e1] at ih
    have hrn := rld_rng G k.toNat
    generalize rld G k.toNat = R at ih hrn
    have hG' := hG (k - 1) (by omega) (by omega)
    have h01 : G (k - 1) = 0 ∨ G (k - 1) = 1 := by
      rw [hG']
      exact crn_01 _ _ _ _ _ _ _
    have hR := h.next hd.l o1 o2
    obtain ⟨v, h73, h74', hE2, hla2, h145⟩ := rv_step hR (r := k - 1) (by omega)
    rw [hd 45 (by omega), hd 46 (by omega), hd 47 (by omega), ← hG'] at h145
    have hR2 := hR.next (FL.refl d) (some s) v
    rw [seaf_seaf] at h74' hE2 hla2 h145 hR2
    have ih2 := fun e (he : FQ d e) => ih e (some s) v (hd.trans he)
    generalize seaf sh o1 o2 = S1 at hR h73 h74'
    generalize seaf sh (some s) v = S2 at h74' hE2 hla2 h145 hR2 ih2
    have k26 := hR.1.1
    have k29 := hR.1.2
    have j26 := hR2.1.1
    have j29 := hR2.1.2
    have e3 := hR.2.2.2.2.2.2.2.2.2.1.2.2
    simp only [r144_27]
    obtain ⟨t1, t2, hE1⟩ := hR.2.1
    have hL49 : 49 < L := by omega
    have hL44 : 44 < L := by omega
    have i49 := hE1.2.1
    have j44 := hR2.2.2.2.2.2.1.2.1
    repeat' (first | (simp (disch := first | omega | exact Nat.le_of_ble_eq_true rfl | exact rfl | assumption | (simp (disch := omega) only [fr_ne, fr_same]; first | assumption | omega)) only [r144_0, r144_1, v144_1_10, r144_7, r144_11, r144_12, r144_16, r144_18, r144_19, r144_20i, r144_21, r144_23i, r144_24, r144_25i, r144_29, r144_30, r144_36, r144_37, r144_40, r144_41, r144_44, r144_47, r144_48, r144_50, v144_50_10, r144_53, v144_53_7, r144_56, r144_57, r144_60, r144_63, r144_64, r144_67, r144_68, r144_71, v144_71_3, r144_77i, r144_80, r144_81, r144_85, r144_87, r144_90, r144_91i, r144_92i, r144_95, r144_98, r144_102, r144_103, r144_106, r144_107, g10_23_10, g10_45_10, g10_34_10, g10_131_6, g10_274_6, g10_52_10, o10_len, o10_g3, o10_g6, o10_g4, o6_len, o6_g0, o6_g3, o10_g7, il_s, bl_s, bl_z, ll_s, is_s, bs_s, bs_z, ls_s, al_s, al_b, al_l, fr_ne, fr_same, fr_fr, Nat.reduceEqDiff, tc_gf3_s, tc_ql2_s, tc_ws_0, tc_ws_i, tc_ws_l, tc_ws_r, Nat.reduceLeDiff, Nat.reduceAdd, Nat.reduceLT, true_and, and_true, if_true, if_false, tc_K, Option.toList_some, Option.toList_none, List.nil_append, List.cons_append, ite_true, ite_false, Int.cast_ofNat_Int, reduceIte, i3_add_eq, i3_sub_eq, Int.add_sub_cancel, Int.add_neg_cancel_right, hO hL26 k26, hO hL29 k29, hO hL26 j26, hO hL29 j29, hO hL49 i49, hO hL44 j44, e3, h73, h74']) | (simp only [r144_4, r144_8, r144_13, r144_33, r144_74, r144_82, r144_99, i6_lt0, i6_0lt, i6_0le, i6_le0, i6_eq0, b10_0, ite_not, Int.reduceLT, Int.reduceLE, Int.reduceEq, Int.reduceNeg, if_true, if_false, ite_true, ite_false, reduceIte, eq_self, not_true, not_false_eq_true]; try refine tc_ite (fun _ => ?_) (fun _ => ?_) <;> try (exfalso; omega)))
    all_goals try omega
    refine h145 _ _ ?_
    intro e he
    have ih3 := ih2 e he
    rcases h01 with g0 | g0
    · rw [if_neg (by omega)] at ih3
      repeat' (first | (simp (disch := first | omega | exact Nat.le_of_ble_eq_true rfl | exact rfl | assumption | (simp (disch := omega) only [fr_ne, fr_same]; first | assumption | omega)) only [r144_0, r144_1, v144_1_10, r144_7, r144_11, r144_12, r144_16, r144_18, r144_19, r144_20i, r144_21, r144_23i, r144_24, r144_25i, r144_29, r144_30, r144_36, r144_37, r144_40, r144_41, r144_44, r144_47, r144_48, r144_50, v144_50_10, r144_53, v144_53_7, r144_56, r144_57, r144_60, r144_63, r144_64, r144_67, r144_68, r144_71, v144_71_3, r144_77i, r144_80, r144_81, r144_85, r144_87, r144_90, r144_91i, r144_92i, r144_95, r144_98, r144_102, r144_103, r144_106, r144_107, g10_23_10, g10_45_10, g10_34_10, g10_131_6, g10_274_6, g10_52_10, o10_len, o10_g3, o10_g6, o10_g4, o6_len, o6_g0, o6_g3, o10_g7, il_s, bl_s, bl_z, ll_s, is_s, bs_s, bs_z, ls_s, al_s, al_b, al_l, fr_ne, fr_same, fr_fr, Nat.reduceEqDiff, tc_gf3_s, tc_ql2_s, tc_ws_0, tc_ws_i, tc_ws_l, tc_ws_r, Nat.reduceLeDiff, Nat.reduceAdd, Nat.reduceLT, true_and, and_true, if_true, if_false, tc_K, Option.toList_some, Option.toList_none, List.nil_append, List.cons_append, ite_true, ite_false, Int.cast_ofNat_Int, reduceIte, i3_add_eq, i3_sub_eq, Int.add_sub_cancel, Int.add_neg_cancel_right, g0, Int.sub_add_cancel]) | (simp only [r144_4, r144_8, r144_13, r144_33, r144_74, r144_82, r144_99, i6_lt0, i6_0lt, i6_0le, i6_le0, i6_eq0, b10_0, ite_not, Int.reduceLT, Int.reduceLE, Int.reduceEq, Int.reduceNeg, if_true, if_false, ite_true, ite_false, reduceIte, eq_self, not_true, not_false_eq_true]; try refine tc_ite (fun _ => ?_) (fun _ => ?_) <;> try (exfalso; omega)))
      rw [show k + 1 - 1 = k by omega] at ih3
      exact ih3
    · rw [if_pos g0] at ih3
      by_cases hz : R.1 = 0
      · rw [if_pos hz] at ih3
        repeat' (first | (simp (disch := first | omega | exact Nat.le_of_ble_eq_true rfl | exact rfl | assumption | (simp (disch := omega) only [fr_ne, fr_same]; first | assumption | omega)) only [r144_0, r144_1, v144_1_10, r144_7, r144_11, r144_12, r144_16, r144_18, r144_19, r144_20i, r144_21, r144_23i, r144_24, r144_25i, r144_29, r144_30, r144_36, r144_37, r144_40, r144_41, r144_44, r144_47, r144_48, r144_50, v144_50_10, r144_53, v144_53_7, r144_56, r144_57, r144_60, r144_63, r144_64, r144_67, r144_68, r144_71, v144_71_3, r144_77i, r144_80, r144_81, r144_85, r144_87, r144_90, r144_91i, r144_92i, r144_95, r144_98, r144_102, r144_103, r144_106, r144_107, g10_23_10, g10_45_10, g10_34_10, g10_131_6, g10_274_6, g10_52_10, o10_len, o10_g3, o10_g6, o10_g4, o6_len, o6_g0, o6_g3, o10_g7, il_s, bl_s, bl_z, ll_s, is_s, bs_s, bs_z, ls_s, al_s, al_b, al_l, fr_ne, fr_same, fr_fr, Nat.reduceEqDiff, tc_gf3_s, tc_ql2_s, tc_ws_0, tc_ws_i, tc_ws_l, tc_ws_r, Nat.reduceLeDiff, Nat.reduceAdd, Nat.reduceLT, true_and, and_true, if_true, if_false, tc_K, Option.toList_some, Option.toList_none, List.nil_append, List.cons_append, ite_true, ite_false, Int.cast_ofNat_Int, reduceIte, i3_add_eq, i3_sub_eq, Int.add_sub_cancel, Int.add_neg_cancel_right, g0, hz, Int.sub_add_cancel]) | (simp only [r144_4, r144_8, r144_13, r144_33, r144_74, r144_82, r144_99, i6_lt0, i6_0lt, i6_0le, i6_le0, i6_eq0, b10_0, ite_not, Int.reduceLT, Int.reduceLE, Int.reduceEq, Int.reduceNeg, if_true, if_false, ite_true, ite_false, reduceIte, eq_self, not_true, not_false_eq_true]; try refine tc_ite (fun _ => ?_) (fun _ => ?_) <;> try (exfalso; omega)))
        rw [show k + 1 - 1 = k by omega, hz] at ih3
        exact ih3
      · rw [if_neg hz] at ih3
        repeat' (first | (simp (disch := first | omega | exact Nat.le_of_ble_eq_true rfl | exact rfl | assumption | (simp (disch := omega) only [fr_ne, fr_same]; first | assumption | omega)) only [r144_0, r144_1, v144_1_10, r144_7, r144_11, r144_12, r144_16, r144_18, r144_19, r144_20i, r144_21, r144_23i, r144_24, r144_25i, r144_29, r144_30, r144_36, r144_37, r144_40, r144_41, r144_44, r144_47, r144_48, r144_50, v144_50_10, r144_53, v144_53_7, r144_56, r144_57, r144_60, r144_63, r144_64, r144_67, r144_68, r144_71, v144_71_3, r144_77i, r144_80, r144_81, r144_85, r144_87, r144_90, r144_91i, r144_92i, r144_95, r144_98, r144_102, r144_103, r144_106, r144_107, g10_23_10, g10_45_10, g10_34_10, g10_131_6, g10_274_6, g10_52_10, o10_len, o10_g3, o10_g6, o10_g4, o6_len, o6_g0, o6_g3, o10_g7, il_s, bl_s, bl_z, ll_s, is_s, bs_s, bs_z, ls_s, al_s, al_b, al_l, fr_ne, fr_same, fr_fr, Nat.reduceEqDiff, tc_gf3_s, tc_ql2_s, tc_ws_0, tc_ws_i, tc_ws_l, tc_ws_r, Nat.reduceLeDiff, Nat.reduceAdd, Nat.reduceLT, true_and, and_true, if_true, if_false, tc_K, Option.toList_some, Option.toList_none, List.nil_append, List.cons_append, ite_true, ite_false, Int.cast_ofNat_Int, reduceIte, i3_add_eq, i3_sub_eq, Int.add_sub_cancel, Int.add_neg_cancel_right, g0, Int.sub_add_cancel]) | (simp only [r144_4, r144_8, r144_13, r144_33, r144_74, r144_82, r144_99, i6_lt0, i6_0lt, i6_0le, i6_le0, i6_eq0, b10_0, ite_not, Int.reduceLT, Int.reduceLE, Int.reduceEq, Int.reduceNeg, if_true, if_false, ite_true, ite_false, reduceIte, eq_self, not_true, not_false_eq_true]; try refine tc_ite (fun _ => ?_) (fun _ => ?_) <;> try (exfalso; omega)))
        all_goals try omega
        rw [show k + 1 - 1 = k by omega] at ih3
        exact ih3
  · intro d o1 o2 hd
    have hR := h.next hd.l o1 o2
    have hq' := hq d o1 o2 hd
    generalize seaf sh o1 o2 = S1 at hR hq'
    have k26 := hR.1.1
    have e3 := hR.2.2.2.2.2.2.2.2.2.1.2.2
    simp only [r144_27]
    rcases hw2 with rfl | rfl
    · rw [if_pos rfl] at hq'
      repeat' (first | (simp (disch := first | omega | exact Nat.le_of_ble_eq_true rfl | exact rfl | assumption | (simp (disch := omega) only [fr_ne, fr_same]; first | assumption | omega)) only [r144_0, r144_1, v144_1_10, r144_7, r144_11, r144_12, r144_16, r144_18, r144_19, r144_20i, r144_21, r144_23i, r144_24, r144_25i, r144_29, r144_30, r144_36, r144_37, r144_40, r144_41, r144_44, r144_47, r144_48, r144_50, v144_50_10, r144_53, v144_53_7, r144_56, r144_57, r144_60, r144_63, r144_64, r144_67, r144_68, r144_71, v144_71_3, r144_77i, r144_80, r144_81, r144_85, r144_87, r144_90, r144_91i, r144_92i, r144_95, r144_98, r144_102, r144_103, r144_106, r144_107, g10_23_10, g10_45_10, g10_34_10, g10_131_6, g10_274_6, g10_52_10, o10_len, o10_g3, o10_g6, o10_g4, o6_len, o6_g0, o6_g3, o10_g7, il_s, bl_s, bl_z, ll_s, is_s, bs_s, bs_z, ls_s, al_s, al_b, al_l, fr_ne, fr_same, fr_fr, Nat.reduceEqDiff, tc_gf3_s, tc_ql2_s, tc_ws_0, tc_ws_i, tc_ws_l, tc_ws_r, Nat.reduceLeDiff, Nat.reduceAdd, Nat.reduceLT, true_and, and_true, if_true, if_false, tc_K, Option.toList_some, Option.toList_none, List.nil_append, List.cons_append, ite_true, ite_false, Int.cast_ofNat_Int, reduceIte, i3_add_eq, i3_sub_eq, Int.add_sub_cancel, Int.add_neg_cancel_right, hO hL26 k26, e3]) | (simp only [r144_4, r144_8, r144_13, r144_33, r144_74, r144_82, r144_99, i6_lt0, i6_0lt, i6_0le, i6_le0, i6_eq0, b10_0, ite_not, Int.reduceLT, Int.reduceLE, Int.reduceEq, Int.reduceNeg, if_true, if_false, ite_true, ite_false, reduceIte, eq_self, not_true, not_false_eq_true]; try refine tc_ite (fun _ => ?_) (fun _ => ?_) <;> try (exfalso; omega)))
      all_goals first
        | exact hq'
        | omega
    · rw [if_neg (by omega)] at hq'
      repeat' (first | (simp (disch := first | omega | exact Nat.le_of_ble_eq_true rfl | exact rfl | assumption | (simp (disch := omega) only [fr_ne, fr_same]; first | assumption | omega)) only [r144_0, r144_1, v144_1_10, r144_7, r144_11, r144_12, r144_16, r144_18, r144_19, r144_20i, r144_21, r144_23i, r144_24, r144_25i, r144_29, r144_30, r144_36, r144_37, r144_40, r144_41, r144_44, r144_47, r144_48, r144_50, v144_50_10, r144_53, v144_53_7, r144_56, r144_57, r144_60, r144_63, r144_64, r144_67, r144_68, r144_71, v144_71_3, r144_77i, r144_80, r144_81, r144_85, r144_87, r144_90, r144_91i, r144_92i, r144_95, r144_98, r144_102, r144_103, r144_106, r144_107, g10_23_10, g10_45_10, g10_34_10, g10_131_6, g10_274_6, g10_52_10, o10_len, o10_g3, o10_g6, o10_g4, o6_len, o6_g0, o6_g3, o10_g7, il_s, bl_s, bl_z, ll_s, is_s, bs_s, bs_z, ls_s, al_s, al_b, al_l, fr_ne, fr_same, fr_fr, Nat.reduceEqDiff, tc_gf3_s, tc_ql2_s, tc_ws_0, tc_ws_i, tc_ws_l, tc_ws_r, Nat.reduceLeDiff, Nat.reduceAdd, Nat.reduceLT, true_and, and_true, if_true, if_false, tc_K, Option.toList_some, Option.toList_none, List.nil_append, List.cons_append, ite_true, ite_false, Int.cast_ofNat_Int, reduceIte, i3_add_eq, i3_sub_eq, Int.add_sub_cancel, Int.add_neg_cancel_right, hO hL26 k26, e3]) | (simp only [r144_4, r144_8, r144_13, r144_33, r144_74, r144_82, r144_99, i6_lt0, i6_0lt, i6_0le, i6_le0, i6_eq0, b10_0, ite_not, Int.reduceLT, Int.reduceLE, Int.reduceEq, Int.reduceNeg, if_true, if_false, ite_true, ite_false, reduceIte, eq_self, not_true, not_false_eq_true]; try refine tc_ite (fun _ => ?_) (fun _ => ?_) <;> try (exfalso; omega)))
      all_goals first
        | exact hq'
        | omega
/-- heights counted by the rule that the sea faces -/
theorem c150 (h : RV L sh c s b m g LL) {v : Option Nat} {la : Option Law} (hE : SeaS L sh (some s) v) (hla : LA L sh c v la) {k : Int} (hk : 0 ≤ k ∧ k ≤ 60) (hA : ∀ x y : Int, 0 ≤ x → x < b 0 0 * b 0 1 → 0 ≤ y → y < 10 → 0 ≤ c 74 (10 * x + y) ∧ c 74 (10 * x + y) ≤ 10)
    (hq : ∀ e, FL c e → (∀ x y : Int, 0 ≤ x → x < b 0 0 * b 0 1 → 0 ≤ y → y < 10 → e 74 (10 * x + y) = c 74 (10 * x + y) + (if gos b la (bgn b) k.toNat 0 x = y then 1 else 0)) → Q none (hp L sh e) n) : tc_C 150 [rf 26, .inl k] (hp L sh c) n Q := by
  obtain ⟨hM, _, hSh, hs, h56, h44, h74, hb, hB, hm, hg, _⟩ := id h
  have hL := hE.1
  have hL26 : 26 < L := by omega
  have hL29 : 29 < L := by omega
  have hL74 : 74 < L := by omega
  obtain ⟨h26, h29⟩ := id hM
  have hN := hb.n25
  have hwb := bgn_ws hb
  have hb0 : bgn b 4 0 = 0 := rfl
  show tc_W 150 0 [rf 26, .inl k, tc_nil] [] _ _ Q
  repeat' (first | (simp (disch := first | omega | exact Nat.le_of_ble_eq_true rfl | exact rfl | assumption | (simp (disch := omega) only [fr_ne, fr_same]; first | assumption | omega)) only [r150_0, r150_1, r150_4, r150_5, r150_8, r150_11, v150_11_5, r150_14, r150_15i, r150_17, r150_21, r150_22, r150_25, r150_26, r150_29, v150_29_7, r150_32, r150_32A, r150_33i, r150_36, r150_39, r150_40i, r150_42, r150_43, r150_46, r150_49, r150_55, r150_56, r150_59, r150_61, r150_62, r150_63, r150_64, r150_67, r150_70, r150_71, r150_72, r150_73, r150_74, r150_75, r150_76, r150_77, r150_78i, r150_81, r150_84, g10_52_10, g10_34_10, g10_131_6, g10_45_10, g10_95_8, g10_77_10, g10_112_5, o10_len, o10_g7, o10_g4, o6_len, o6_g0, o10_g6, o8_len, o8_g2, o10_g11, o5_len, o5_g0, il_s, bl_s, bl_z, ll_s, is_s, bs_s, bs_z, ls_s, al_s, al_b, al_l, fr_ne, fr_same, fr_fr, Nat.reduceEqDiff, tc_gf3_s, tc_ql2_s, tc_ws_0, tc_ws_i, tc_ws_l, tc_ws_r, Nat.reduceLeDiff, Nat.reduceAdd, Nat.reduceLT, true_and, and_true, if_true, if_false, tc_K, Option.toList_some, Option.toList_none, List.nil_append, List.cons_append, ite_true, ite_false, Int.cast_ofNat_Int, reduceIte, i3_add_eq, i3_sub_eq, Int.add_sub_cancel, Int.add_neg_cancel_right, hO hL26 h26, hO hL29 h29, SanS_g0 h56, SanS_s0 h56, SanS_g1 h56, SanS_s1 h56, SanS_g2 h56, SanS_s2 h56, SanS_g3 h56, SanS_s3 h56]) | (simp only [r150_18, r150_52, i6_lt0, i6_0lt, i6_0le, i6_le0, i6_eq0, b10_0, ite_not, Int.reduceLT, Int.reduceLE, Int.reduceEq, Int.reduceNeg, if_true, if_false, ite_true, ite_false, reduceIte, eq_self, not_true, not_false_eq_true]; try refine tc_ite (fun _ => ?_) (fun _ => ?_) <;> try (exfalso; omega)))
  refine c48 h56 hSh (by omega) hb hB ?_
  intro e1 g1 g2
  repeat' (first | (simp (disch := first | omega | exact Nat.le_of_ble_eq_true rfl | exact rfl | assumption | (simp (disch := omega) only [fr_ne, fr_same]; first | assumption | omega)) only [r150_0, r150_1, r150_4, r150_5, r150_8, r150_11, v150_11_5, r150_14, r150_15i, r150_17, r150_21, r150_22, r150_25, r150_26, r150_29, v150_29_7, r150_32, r150_32A, r150_33i, r150_36, r150_39, r150_40i, r150_42, r150_43, r150_46, r150_49, r150_55, r150_56, r150_59, r150_61, r150_62, r150_63, r150_64, r150_67, r150_70, r150_71, r150_72, r150_73, r150_74, r150_75, r150_76, r150_77, r150_78i, r150_81, r150_84, g10_52_10, g10_34_10, g10_131_6, g10_45_10, g10_95_8, g10_77_10, g10_112_5, o10_len, o10_g7, o10_g4, o6_len, o6_g0, o10_g6, o8_len, o8_g2, o10_g11, o5_len, o5_g0, il_s, bl_s, bl_z, ll_s, is_s, bs_s, bs_z, ls_s, al_s, al_b, al_l, fr_ne, fr_same, fr_fr, Nat.reduceEqDiff, tc_gf3_s, tc_ql2_s, tc_ws_0, tc_ws_i, tc_ws_l, tc_ws_r, Nat.reduceLeDiff, Nat.reduceAdd, Nat.reduceLT, true_and, and_true, if_true, if_false, tc_K, Option.toList_some, Option.toList_none, List.nil_append, List.cons_append, ite_true, ite_false, Int.cast_ofNat_Int, reduceIte, i3_add_eq, i3_sub_eq, Int.add_sub_cancel, Int.add_neg_cancel_right]) | (simp only [r150_18, r150_52, i6_lt0, i6_0lt, i6_0le, i6_le0, i6_eq0, b10_0, ite_not, Int.reduceLT, Int.reduceLE, Int.reduceEq, Int.reduceNeg, if_true, if_false, ite_true, ite_false, reduceIte, eq_self, not_true, not_false_eq_true]; try refine tc_ite (fun _ => ?_) (fun _ => ?_) <;> try (exfalso; omega)))
  have f1 : FL c e1 := fun a a1 a2 => g1 a (by omega)
  have z1 : e1 74 = c 74 := g1 74 (by omega)
  refine lq_1 (N := k) (P := fun i (d : Nat → Int → Int) => tc_W 150 16 [rf 26, .inl k, .inl i] [] (hp L sh d) n Q) (I := fun i d => FL c d ∧ d 74 = c 74 ∧ SAN True b 56 d (gos b la (bgn b) i.toNat)) ?_ ?_ 0 e1 (by omega) (by omega) ⟨f1, z1, g2⟩
  · intro i d hi hi2 ⟨hd, hz, hσd⟩ ih
    have hgw := gos_w (b := b) (s := bgn b) (la := la) i.toNat
    rw [hb0] at hgw
    simp only [r150_16]
    repeat' (first | (simp (disch := first | omega | exact Nat.le_of_ble_eq_true rfl | exact rfl | assumption | (simp (disch := omega) only [fr_ne, fr_same]; first | assumption | omega)) only [r150_0, r150_1, r150_4, r150_5, r150_8, r150_11, v150_11_5, r150_14, r150_15i, r150_17, r150_21, r150_22, r150_25, r150_26, r150_29, v150_29_7, r150_32, r150_32A, r150_33i, r150_36, r150_39, r150_40i, r150_42, r150_43, r150_46, r150_49, r150_55, r150_56, r150_59, r150_61, r150_62, r150_63, r150_64, r150_67, r150_70, r150_71, r150_72, r150_73, r150_74, r150_75, r150_76, r150_77, r150_78i, r150_81, r150_84, g10_52_10, g10_34_10, g10_131_6, g10_45_10, g10_95_8, g10_77_10, g10_112_5, o10_len, o10_g7, o10_g4, o6_len, o6_g0, o10_g6, o8_len, o8_g2, o10_g11, o5_len, o5_g0, il_s, bl_s, bl_z, ll_s, is_s, bs_s, bs_z, ls_s, al_s, al_b, al_l, fr_ne, fr_same, fr_fr, Nat.reduceEqDiff, tc_gf3_s, tc_ql2_s, tc_ws_0, tc_ws_i, tc_ws_l, tc_ws_r, Nat.reduceLeDiff, Nat.reduceAdd, Nat.reduceLT, true_and, and_true, if_true, if_false, tc_K, Option.toList_some, Option.toList_none, List.nil_append, List.cons_append, ite_true, ite_false, Int.cast_ofNat_Int, reduceIte, i3_add_eq, i3_sub_eq, Int.add_sub_cancel, Int.add_neg_cancel_right, hO hL26 h26, SeaS_g0 hE, SeaS_s0 hE, SeaS_g1 hE, SeaS_s1 hE, SeaS_g2 hE, SeaS_s2 hE, SeaS_g3 hE, SeaS_s3 hE, SeaS_g4 hE, SeaS_s4 hE, SeaS_g5 hE, SeaS_s5 hE, SeaS_g6 hE, SeaS_s6 hE]) | (simp only [r150_18, r150_52, i6_lt0, i6_0lt, i6_0le, i6_le0, i6_eq0, b10_0, ite_not, Int.reduceLT, Int.reduceLE, Int.reduceEq, Int.reduceNeg, if_true, if_false, ite_true, ite_false, reduceIte, eq_self, not_true, not_false_eq_true]; try refine tc_ite (fun _ => ?_) (fun _ => ?_) <;> try (exfalso; omega)))
    all_goals try omega
    refine c89 (c := d) (σ := gos b la (bgn b) i.toNat) (k := True) hE hSh hs h56 (by unfold AP; omega) hb (gos_ws hb hwb i.toNat (by rw [hb0]; omega)) (hla.of (Nat.le_refl L) (fun _ _ => rfl) fun lr a l1 l2 l3 => hd a (by have := hla.dyn lr l1; omega) (by have := hla.dyn lr l1; omega)) hla.dyn (hB.fr fun a a1 a2 => hd a (by omega) (by omega)) hσd (by omega) ?_
    intro e2 q1 q2
    repeat' (first | (simp (disch := first | omega | exact Nat.le_of_ble_eq_true rfl | exact rfl | assumption | (simp (disch := omega) only [fr_ne, fr_same]; first | assumption | omega)) only [r150_0, r150_1, r150_4, r150_5, r150_8, r150_11, v150_11_5, r150_14, r150_15i, r150_17, r150_21, r150_22, r150_25, r150_26, r150_29, v150_29_7, r150_32, r150_32A, r150_33i, r150_36, r150_39, r150_40i, r150_42, r150_43, r150_46, r150_49, r150_55, r150_56, r150_59, r150_61, r150_62, r150_63, r150_64, r150_67, r150_70, r150_71, r150_72, r150_73, r150_74, r150_75, r150_76, r150_77, r150_78i, r150_81, r150_84, g10_52_10, g10_34_10, g10_131_6, g10_45_10, g10_95_8, g10_77_10, g10_112_5, o10_len, o10_g7, o10_g4, o6_len, o6_g0, o10_g6, o8_len, o8_g2, o10_g11, o5_len, o5_g0, il_s, bl_s, bl_z, ll_s, is_s, bs_s, bs_z, ls_s, al_s, al_b, al_l, fr_ne, fr_same, fr_fr, Nat.reduceEqDiff, tc_gf3_s, tc_ql2_s, tc_ws_0, tc_ws_i, tc_ws_l, tc_ws_r, Nat.reduceLeDiff, Nat.reduceAdd, Nat.reduceLT, true_and, and_true, if_true, if_false, tc_K, Option.toList_some, Option.toList_none, List.nil_append, List.cons_append, ite_true, ite_false, Int.cast_ofNat_Int, reduceIte, i3_add_eq, i3_sub_eq, Int.add_sub_cancel, Int.add_neg_cancel_right]) | (simp only [r150_18, r150_52, i6_lt0, i6_0lt, i6_0le, i6_le0, i6_eq0, b10_0, ite_not, Int.reduceLT, Int.reduceLE, Int.reduceEq, Int.reduceNeg, if_true, if_false, ite_true, ite_false, reduceIte, eq_self, not_true, not_false_eq_true]; try refine tc_ite (fun _ => ?_) (fun _ => ?_) <;> try (exfalso; omega)))
    refine ih e2 ⟨fun a a1 a2 => (q1 a (by omega) (by omega) (by omega) (by omega) (by omega) (by omega) (by omega) (by omega)).trans (hd a a1 a2), (q1 74 (by omega) (by omega) (by omega) (by omega) (by omega) (by omega) (by omega) (by omega)).trans hz, ?_⟩
    rw [show (i + 1).toNat = i.toNat + 1 by omega]
    exact q2
  · intro d ⟨hd, hz, hσd⟩
    have hws := gos_ws (la := la) hb hwb k.toNat (by rw [hb0]; omega)
    generalize gos b la (bgn b) k.toNat = t at hσd hq hws
    have ht := hσd.1
    simp only [r150_16]
    repeat' (first | (simp (disch := first | omega | exact Nat.le_of_ble_eq_true rfl | exact rfl | assumption | (simp (disch := omega) only [fr_ne, fr_same]; first | assumption | omega)) only [r150_0, r150_1, r150_4, r150_5, r150_8, r150_11, v150_11_5, r150_14, r150_15i, r150_17, r150_21, r150_22, r150_25, r150_26, r150_29, v150_29_7, r150_32, r150_32A, r150_33i, r150_36, r150_39, r150_40i, r150_42, r150_43, r150_46, r150_49, r150_55, r150_56, r150_59, r150_61, r150_62, r150_63, r150_64, r150_67, r150_70, r150_71, r150_72, r150_73, r150_74, r150_75, r150_76, r150_77, r150_78i, r150_81, r150_84, g10_52_10, g10_34_10, g10_131_6, g10_45_10, g10_95_8, g10_77_10, g10_112_5, o10_len, o10_g7, o10_g4, o6_len, o6_g0, o10_g6, o8_len, o8_g2, o10_g11, o5_len, o5_g0, il_s, bl_s, bl_z, ll_s, is_s, bs_s, bs_z, ls_s, al_s, al_b, al_l, fr_ne, fr_same, fr_fr, Nat.reduceEqDiff, tc_gf3_s, tc_ql2_s, tc_ws_0, tc_ws_i, tc_ws_l, tc_ws_r, Nat.reduceLeDiff, Nat.reduceAdd, Nat.reduceLT, true_and, and_true, if_true, if_false, tc_K, Option.toList_some, Option.toList_none, List.nil_append, List.cons_append, ite_true, ite_false, Int.cast_ofNat_Int, reduceIte, i3_add_eq, i3_sub_eq, Int.add_sub_cancel, Int.add_neg_cancel_right]) | (simp only [r150_18, r150_52, i6_lt0, i6_0lt, i6_0le, i6_le0, i6_eq0, b10_0, ite_not, Int.reduceLT, Int.reduceLE, Int.reduceEq, Int.reduceNeg, if_true, if_false, ite_true, ite_false, reduceIte, eq_self, not_true, not_false_eq_true]; try refine tc_ite (fun _ => ?_) (fun _ => ?_) <;> try (exfalso; omega)))
    all_goals try omega
    have hlp := lq_1 (N := b 0 0 * b 0 1) (P := fun i (f : Int → Int) => tc_W 150 41 [rf 26, .inl k, .inl i] [] (hp L sh (fr d 74 f)) n Q) (I := fun i f => (∀ x y : Int, 0 ≤ x → x < i → 0 ≤ y → y < 10 → f (10 * x + y) = c 74 (10 * x + y) + (if t 0 x = y then 1 else 0)) ∧ ∀ j : Int, 10 * i ≤ j → f j = c 74 j) ?_ ?_ 0 (d 74) (by omega) (by omega) ⟨fun x y x1 x2 => by omega, fun j _ => by rw [hz]⟩
    · rw [fr_id] at hlp
      exact hlp
    · intro i f hi hi2 ⟨k1, k2⟩ ih
      have e57 : d 57 i = t 0 i := ht i hi hi2
      have hti := hws.1 i hi hi2
      have hai := hA i (t 0 i) hi hi2 (by omega) (by omega)
      have hfv : f (10 * i + t 0 i) = c 74 (10 * i + t 0 i) := k2 _ (by omega)
      have e2 : d s 2 = b 0 0 * b 0 1 := by rw [hd s (by omega) (by omega)]; exact hB.1.2.1
      simp only [r150_41]
      repeat' (first | (simp (disch := first | omega | exact Nat.le_of_ble_eq_true rfl | exact rfl | assumption | (simp (disch := omega) only [fr_ne, fr_same]; first | assumption | omega)) only [r150_0, r150_1, r150_4, r150_5, r150_8, r150_11, v150_11_5, r150_14, r150_15i, r150_17, r150_21, r150_22, r150_25, r150_26, r150_29, v150_29_7, r150_32, r150_32A, r150_33i, r150_36, r150_39, r150_40i, r150_42, r150_43, r150_46, r150_49, r150_55, r150_56, r150_59, r150_61, r150_62, r150_63, r150_64, r150_67, r150_70, r150_71, r150_72, r150_73, r150_74, r150_75, r150_76, r150_77, r150_78i, r150_81, r150_84, g10_52_10, g10_34_10, g10_131_6, g10_45_10, g10_95_8, g10_77_10, g10_112_5, o10_len, o10_g7, o10_g4, o6_len, o6_g0, o10_g6, o8_len, o8_g2, o10_g11, o5_len, o5_g0, il_s, bl_s, bl_z, ll_s, is_s, bs_s, bs_z, ls_s, al_s, al_b, al_l, fr_ne, fr_same, fr_fr, Nat.reduceEqDiff, tc_gf3_s, tc_ql2_s, tc_ws_0, tc_ws_i, tc_ws_l, tc_ws_r, Nat.reduceLeDiff, Nat.reduceAdd, Nat.reduceLT, true_and, and_true, if_true, if_false, tc_K, Option.toList_some, Option.toList_none, List.nil_append, List.cons_append, ite_true, ite_false, Int.cast_ofNat_Int, reduceIte, i3_add_eq, i3_sub_eq, Int.add_sub_cancel, Int.add_neg_cancel_right, hO hL26 h26, hO hL29 h29, hI hL74 h74, hIs h74, SanS_g0 h56, SanS_s0 h56, SanS_g1 h56, SanS_s1 h56, SanS_g2 h56, SanS_s2 h56, SanS_g3 h56, SanS_s3 h56, ShoS_g0 hSh, ShoS_s0 hSh, ShoS_g1 hSh, ShoS_s1 hSh, ShoS_g2 hSh, ShoS_s2 hSh, ShoS_g3 hSh, ShoS_s3 hSh, ShoS_g4 hSh, ShoS_s4 hSh, ShoS_g5 hSh, ShoS_s5 hSh, ShoS_g6 hSh, ShoS_s6 hSh, ShoS_g7 hSh, ShoS_s7 hSh, e2, e57, i3_mul_eq, hfv]) | (simp only [r150_18, r150_52, i6_lt0, i6_0lt, i6_0le, i6_le0, i6_eq0, b10_0, ite_not, Int.reduceLT, Int.reduceLE, Int.reduceEq, Int.reduceNeg, if_true, if_false, ite_true, ite_false, reduceIte, eq_self, not_true, not_false_eq_true]; try refine tc_ite (fun _ => ?_) (fun _ => ?_) <;> try (exfalso; omega)))
      all_goals try omega
      refine ih _ ⟨fun x y x1 x2 y1 y2 => ?_, fun j j1 => ?_⟩
      · by_cases hxi : x = i
        · subst hxi
          by_cases hy : t 0 x = y
          · rw [if_pos hy, ← hy, fu_same]
          · rw [if_neg hy, fu_ne (by omega), k2 _ (by omega)]
            omega
        · rw [fu_ne (by omega)]
          exact k1 x y x1 (by omega) y1 y2
      · rw [fu_ne (by omega)]
        exact k2 j (by omega)
    · intro f ⟨k1, _⟩
      have e2 : d s 2 = b 0 0 * b 0 1 := by rw [hd s (by omega) (by omega)]; exact hB.1.2.1
      have hq' := hq (fr d 74 f) (fun a a1 a2 => by rw [fr_ne a2]; exact hd a a1 a2) (fun x y x1 x2 y1 y2 => by rw [fr_same]; exact k1 x y x1 x2 y1 y2)
      simp only [r150_41]
      repeat' (first | (simp (disch := first | omega | exact Nat.le_of_ble_eq_true rfl | exact rfl | assumption | (simp (disch := omega) only [fr_ne, fr_same]; first | assumption | omega)) only [r150_0, r150_1, r150_4, r150_5, r150_8, r150_11, v150_11_5, r150_14, r150_15i, r150_17, r150_21, r150_22, r150_25, r150_26, r150_29, v150_29_7, r150_32, r150_32A, r150_33i, r150_36, r150_39, r150_40i, r150_42, r150_43, r150_46, r150_49, r150_55, r150_56, r150_59, r150_61, r150_62, r150_63, r150_64, r150_67, r150_70, r150_71, r150_72, r150_73, r150_74, r150_75, r150_76, r150_77, r150_78i, r150_81, r150_84, g10_52_10, g10_34_10, g10_131_6, g10_45_10, g10_95_8, g10_77_10, g10_112_5, o10_len, o10_g7, o10_g4, o6_len, o6_g0, o10_g6, o8_len, o8_g2, o10_g11, o5_len, o5_g0, il_s, bl_s, bl_z, ll_s, is_s, bs_s, bs_z, ls_s, al_s, al_b, al_l, fr_ne, fr_same, fr_fr, Nat.reduceEqDiff, tc_gf3_s, tc_ql2_s, tc_ws_0, tc_ws_i, tc_ws_l, tc_ws_r, Nat.reduceLeDiff, Nat.reduceAdd, Nat.reduceLT, true_and, and_true, if_true, if_false, tc_K, Option.toList_some, Option.toList_none, List.nil_append, List.cons_append, ite_true, ite_false, Int.cast_ofNat_Int, reduceIte, i3_add_eq, i3_sub_eq, Int.add_sub_cancel, Int.add_neg_cancel_right, hO hL26 h26, hO hL29 h29, ShoS_g0 hSh, ShoS_s0 hSh, ShoS_g1 hSh, ShoS_s1 hSh, ShoS_g2 hSh, ShoS_s2 hSh, ShoS_g3 hSh, ShoS_s3 hSh, ShoS_g4 hSh, ShoS_s4 hSh, ShoS_g5 hSh, ShoS_s5 hSh, ShoS_g6 hSh, ShoS_s6 hSh, ShoS_g7 hSh, ShoS_s7 hSh, e2]) | (simp only [r150_18, r150_52, i6_lt0, i6_0lt, i6_0le, i6_le0, i6_eq0, b10_0, ite_not, Int.reduceLT, Int.reduceLE, Int.reduceEq, Int.reduceNeg, if_true, if_false, ite_true, ite_false, reduceIte, eq_self, not_true, not_false_eq_true]; try refine tc_ite (fun _ => ?_) (fun _ => ?_) <;> try (exfalso; omega)))
      all_goals first
        | exact hq'
        | omega
theorem c149 (h : RV L sh c s b m g LL) {k : Int} (hk : 0 ≤ k ∧ k ≤ 60) {G : Int → Int} (hG : ∀ r, -1 ≤ r → r < m → G r = crn b (LL r) (c 45) (c 46) (c 47) g.toNat 61) {SS : Int → Int → Int} (hSS : ∀ r x, -1 ≤ r → r < m → SS r x = gos b (LL r) (bgn b) k.toNat 0 x)
    (hq : ∀ e o1 o2, FL c e → (∀ x y : Int, 0 ≤ x → x < b 0 0 * b 0 1 → 0 ≤ y → y < 10 → e 74 (10 * x + y) = ak G SS x y (m + 1).toNat) → Q (some (.inl (rld G (m + 1).toNat).1)) (hp L (seaf sh o1 o2) e) n) : tc_C 149 [rf 26, .inl k] (hp L sh c) n Q := by
  obtain ⟨hM, ⟨s1, l1, hE⟩, hSh, hs, h56, h44, h74, hb, hB, hm, hg, _⟩ := id h
  have hL := hE.1
  have hL26 : 26 < L := by omega
  have hL29 : 29 < L := by omega
  have hL74 : 74 < L := by omega
  have hN := hb.n25
  show tc_W 149 0 [rf 26, .inl k, tc_nil, tc_nil] [] _ _ Q
  repeat' (first | (simp (disch := first | omega | exact Nat.le_of_ble_eq_true rfl | exact rfl | assumption | (simp (disch := omega) only [fr_ne, fr_same]; first | assumption | omega)) only [r149_0, r149_1i, r149_3, r149_4, r149_7, r149_11, r149_12, r149_15, r149_16, r149_17, r149_18i, r149_21, r149_24, r149_25i, r149_26, r149_27i, r149_29, r149_30, r149_36, r149_37, r149_40, r149_41, r149_44, r149_47, r149_48, r149_49, v149_49_10, r149_52, v149_52_7, r149_55, r149_56, r149_59, r149_62, r149_63, r149_66, r149_67, r149_70, v149_70_3, r149_76i, r149_79, r149_80, r149_81, v149_81_10, r149_84i, r149_87, r149_90, r149_91, g10_77_10, g10_23_10, g10_45_10, g10_34_10, g10_131_6, g10_274_6, g10_52_10, o10_len, o10_g11, o10_g3, o10_g6, o10_g4, o6_len, o6_g0, o6_g3, o10_g7, il_s, bl_s, bl_z, ll_s, is_s, bs_s, bs_z, ls_s, al_s, al_b, al_l, fr_ne, fr_same, fr_fr, Nat.reduceEqDiff, tc_gf3_s, tc_ql2_s, tc_ws_0, tc_ws_i, tc_ws_l, tc_ws_r, Nat.reduceLeDiff, Nat.reduceAdd, Nat.reduceLT, true_and, and_true, if_true, if_false, tc_K, Option.toList_some, Option.toList_none, List.nil_append, List.cons_append, ite_true, ite_false, Int.cast_ofNat_Int, reduceIte, i3_add_eq, i3_sub_eq, Int.add_sub_cancel, Int.add_neg_cancel_right]) | (simp only [r149_8, r149_33, r149_73, i6_lt0, i6_0lt, i6_0le, i6_le0, i6_eq0, b10_0, ite_not, Int.reduceLT, Int.reduceLE, Int.reduceEq, Int.reduceNeg, if_true, if_false, ite_true, ite_false, reduceIte, eq_self, not_true, not_false_eq_true]; try refine tc_ite (fun _ => ?_) (fun _ => ?_) <;> try (exfalso; omega)))
  have hlp := upI (N := 250) (P := fun i => tc_W 149 2 [rf 26, .inl k, .inl i, tc_nil] [] (hp L sh (fr c 74 (lay i (fun _ => 0) (c 74)))) n Q) (by omega) ?_ ?_
  · rw [lay_0, fr_id] at hlp
    exact hlp
  · intro i hi hi2 ih
    simp only [r149_2]
    repeat' (first | (simp (disch := first | omega | exact Nat.le_of_ble_eq_true rfl | exact rfl | assumption | (simp (disch := omega) only [fr_ne, fr_same]; first | assumption | omega)) only [r149_0, r149_1i, r149_3, r149_4, r149_7, r149_11, r149_12, r149_15, r149_16, r149_17, r149_18i, r149_21, r149_24, r149_25i, r149_26, r149_27i, r149_29, r149_30, r149_36, r149_37, r149_40, r149_41, r149_44, r149_47, r149_48, r149_49, v149_49_10, r149_52, v149_52_7, r149_55, r149_56, r149_59, r149_62, r149_63, r149_66, r149_67, r149_70, v149_70_3, r149_76i, r149_79, r149_80, r149_81, v149_81_10, r149_84i, r149_87, r149_90, r149_91, g10_77_10, g10_23_10, g10_45_10, g10_34_10, g10_131_6, g10_274_6, g10_52_10, o10_len, o10_g11, o10_g3, o10_g6, o10_g4, o6_len, o6_g0, o6_g3, o10_g7, il_s, bl_s, bl_z, ll_s, is_s, bs_s, bs_z, ls_s, al_s, al_b, al_l, fr_ne, fr_same, fr_fr, Nat.reduceEqDiff, tc_gf3_s, tc_ql2_s, tc_ws_0, tc_ws_i, tc_ws_l, tc_ws_r, Nat.reduceLeDiff, Nat.reduceAdd, Nat.reduceLT, true_and, and_true, if_true, if_false, tc_K, Option.toList_some, Option.toList_none, List.nil_append, List.cons_append, ite_true, ite_false, Int.cast_ofNat_Int, reduceIte, i3_add_eq, i3_sub_eq, Int.add_sub_cancel, Int.add_neg_cancel_right, hO hL26 hM.1, hI hL74 h74, hIs h74]) | (simp only [r149_8, r149_33, r149_73, i6_lt0, i6_0lt, i6_0le, i6_le0, i6_eq0, b10_0, ite_not, Int.reduceLT, Int.reduceLE, Int.reduceEq, Int.reduceNeg, if_true, if_false, ite_true, ite_false, reduceIte, eq_self, not_true, not_false_eq_true]; try refine tc_ite (fun _ => ?_) (fun _ => ?_) <;> try (exfalso; omega)))
    all_goals try omega
    rw [lay_upv (f := fun _ => 0) hi rfl]
    exact ih
  generalize hc0 : fr c 74 (lay 250 (fun _ => 0) (c 74)) = c0
  have f0 : FL c c0 := fun a a1 a2 => by rw [← hc0, fr_ne a2]
  have z0 : ∀ j : Int, 0 ≤ j → j < 250 → c0 74 j = 0 := fun j j1 j2 => by rw [← hc0, fr_same, lay_in (by omega)]
  simp only [r149_2]
  repeat' (first | (simp (disch := first | omega | exact Nat.le_of_ble_eq_true rfl | exact rfl | assumption | (simp (disch := omega) only [fr_ne, fr_same]; first | assumption | omega)) only [r149_0, r149_1i, r149_3, r149_4, r149_7, r149_11, r149_12, r149_15, r149_16, r149_17, r149_18i, r149_21, r149_24, r149_25i, r149_26, r149_27i, r149_29, r149_30, r149_36, r149_37, r149_40, r149_41, r149_44, r149_47, r149_48, r149_49, v149_49_10, r149_52, v149_52_7, r149_55, r149_56, r149_59, r149_62, r149_63, r149_66, r149_67, r149_70, v149_70_3, r149_76i, r149_79, r149_80, r149_81, v149_81_10, r149_84i, r149_87, r149_90, r149_91, g10_77_10, g10_23_10, g10_45_10, g10_34_10, g10_131_6, g10_274_6, g10_52_10, o10_len, o10_g11, o10_g3, o10_g6, o10_g4, o6_len, o6_g0, o6_g3, o10_g7, il_s, bl_s, bl_z, ll_s, is_s, bs_s, bs_z, ls_s, al_s, al_b, al_l, fr_ne, fr_same, fr_fr, Nat.reduceEqDiff, tc_gf3_s, tc_ql2_s, tc_ws_0, tc_ws_i, tc_ws_l, tc_ws_r, Nat.reduceLeDiff, Nat.reduceAdd, Nat.reduceLT, true_and, and_true, if_true, if_false, tc_K, Option.toList_some, Option.toList_none, List.nil_append, List.cons_append, ite_true, ite_false, Int.cast_ofNat_Int, reduceIte, i3_add_eq, i3_sub_eq, Int.add_sub_cancel, Int.add_neg_cancel_right, hO hL26 hM.1, hI hL74 h74]) | (simp only [r149_8, r149_33, r149_73, i6_lt0, i6_0lt, i6_0le, i6_le0, i6_eq0, b10_0, ite_not, Int.reduceLT, Int.reduceLE, Int.reduceEq, Int.reduceNeg, if_true, if_false, ite_true, ite_false, reduceIte, eq_self, not_true, not_false_eq_true]; try refine tc_ite (fun _ => ?_) (fun _ => ?_) <;> try (exfalso; omega)))
  all_goals try omega
  have hlp := lq_3 (N := m + 1) (P := fun i (d : Nat → Int → Int) (o1 o2 : Option Nat) => tc_W 149 28 [rf 26, .inl k, .inl (rld G i.toNat).1, .inl (i - 1)] [] (hp L (seaf sh o1 o2) d) n Q) (I := fun i d o1 o2 => FL c d ∧ ∀ x y : Int, 0 ≤ x → x < b 0 0 * b 0 1 → 0 ≤ y → y < 10 → d 74 (10 * x + y) = ak G SS x y i.toNat) ?_ ?_ 0 c0 s1 l1 (by omega) (by omega) ⟨f0, fun x y x1 x2 y1 y2 => z0 _ (by omega) (by omega)⟩
  · rw [seaf_id hE] at hlp
    exact hlp
  · intro i d o1 o2 hi hi2 ⟨hd, hak⟩ ih
    have e1 : (rld G (i + 1).toNat).1 = if G (i - 1) = 1 then (rld G i.toNat).1 + 1 else (rld G i.toNat).1 := by
      rw [show (i + 1).toNat = i.toNat + 1 by omega]
      show (if G ((i.toNat : Int) - 1) = 1 then ((rld G i.toNat).1 + 1, if (rld G i.toNat).1 = 0 then (i.toNat : Int) - 1 else (rld G i.toNat).2) else rld G i.toNat).1 = _
      rw [Int.toNat_of_nonneg hi]
      split <;> rfl
    have eak : ∀ x y, ak G SS x y (i + 1).toNat = ak G SS x y i.toNat + (if G (i - 1) = 1 ∧ SS (i - 1) x = y then 1 else 0) := by
      intro x y
      rw [show (i + 1).toNat = i.toNat + 1 by omega]
      show ak G SS x y i.toNat + (if G ((i.toNat : Int) - 1) = 1 ∧ SS ((i.toNat : Int) - 1) x = y then 1 else 0) = _
      rw [Int.toNat_of_nonneg hi]
    rw [e1] at ih
    have hrn := rld_rng G i.toNat
    generalize (rld G i.toNat).1 = R at ih hrn
    have hG' := hG (i - 1) (by omega) (by omega)
    have h01 : G (i - 1) = 0 ∨ G (i - 1) = 1 := by
      rw [hG']
      exact crn_01 _ _ _ _ _ _ _
    have hR := h.next hd o1 o2
    obtain ⟨v, h73, h74', hE2, hla2, h145⟩ := rv_step hR (r := i - 1) (by omega)
    rw [hd 45 (by omega) (by omega), hd 46 (by omega) (by omega), hd 47 (by omega) (by omega), ← hG'] at h145
    have hR2 := hR.next (FL.refl d) (some s) v
    have hR3 := fun e (he : FQ d e) => hR.next he.l (some s) v
    have hla3 := fun e (he : FQ d e) => hla2.of (d := e) (Nat.le_refl L) (fun _ _ => rfl) fun lr a l1 l2 l3 => he a (by have := hla2.dyn lr l1; omega)
    rw [seaf_seaf] at h74' hE2 hla2 h145 hR2
    simp only [seaf_seaf] at hR3 hla3
    have ih2 := fun e => ih e (some s) v
    generalize seaf sh o1 o2 = S1 at hR h73 h74'
    generalize seaf sh (some s) v = S2 at h74' hE2 hla2 h145 hR2 ih2 hR3 hla3
    have k26 := hR.1.1
    have k29 := hR.1.2
    have j26 := hR2.1.1
    have j29 := hR2.1.2
    have e3 := hR.2.2.2.2.2.2.2.2.2.1.2.2
    simp only [r149_28]
    obtain ⟨t1, t2, hE1⟩ := hR.2.1
    have hL49 : 49 < L := by omega
    have hL44 : 44 < L := by omega
    have i49 := hE1.2.1
    have j44 := hR2.2.2.2.2.2.1.2.1
    repeat' (first | (simp (disch := first | omega | exact Nat.le_of_ble_eq_true rfl | exact rfl | assumption | (simp (disch := omega) only [fr_ne, fr_same]; first | assumption | omega)) only [r149_0, r149_1i, r149_3, r149_4, r149_7, r149_11, r149_12, r149_15, r149_16, r149_17, r149_18i, r149_21, r149_24, r149_25i, r149_26, r149_27i, r149_29, r149_30, r149_36, r149_37, r149_40, r149_41, r149_44, r149_47, r149_48, r149_49, v149_49_10, r149_52, v149_52_7, r149_55, r149_56, r149_59, r149_62, r149_63, r149_66, r149_67, r149_70, v149_70_3, r149_76i, r149_79, r149_80, r149_81, v149_81_10, r149_84i, r149_87, r149_90, r149_91, g10_77_10, g10_23_10, g10_45_10, g10_34_10, g10_131_6, g10_274_6, g10_52_10, o10_len, o10_g11, o10_g3, o10_g6, o10_g4, o6_len, o6_g0, o6_g3, o10_g7, il_s, bl_s, bl_z, ll_s, is_s, bs_s, bs_z, ls_s, al_s, al_b, al_l, fr_ne, fr_same, fr_fr, Nat.reduceEqDiff, tc_gf3_s, tc_ql2_s, tc_ws_0, tc_ws_i, tc_ws_l, tc_ws_r, Nat.reduceLeDiff, Nat.reduceAdd, Nat.reduceLT, true_and, and_true, if_true, if_false, tc_K, Option.toList_some, Option.toList_none, List.nil_append, List.cons_append, ite_true, ite_false, Int.cast_ofNat_Int, reduceIte, i3_add_eq, i3_sub_eq, Int.add_sub_cancel, Int.add_neg_cancel_right, hO hL26 k26, hO hL29 k29, hO hL26 j26, hO hL29 j29, hO hL49 i49, hO hL44 j44, e3, h73, h74']) | (simp only [r149_8, r149_33, r149_73, i6_lt0, i6_0lt, i6_0le, i6_le0, i6_eq0, b10_0, ite_not, Int.reduceLT, Int.reduceLE, Int.reduceEq, Int.reduceNeg, if_true, if_false, ite_true, ite_false, reduceIte, eq_self, not_true, not_false_eq_true]; try refine tc_ite (fun _ => ?_) (fun _ => ?_) <;> try (exfalso; omega)))
    all_goals try omega
    refine h145 _ _ ?_
    intro e he
    have e74 : e 74 = d 74 := he 74 (by omega)
    rcases h01 with g0 | g0
    · have ih3 := ih2 e ⟨hd.trans he.l, fun x y x1 x2 y1 y2 => by
        rw [e74, eak, if_neg (fun q => by omega), hak x y x1 x2 y1 y2]
        omega⟩
      rw [if_neg (by omega)] at ih3
      repeat' (first | (simp (disch := first | omega | exact Nat.le_of_ble_eq_true rfl | exact rfl | assumption | (simp (disch := omega) only [fr_ne, fr_same]; first | assumption | omega)) only [r149_0, r149_1i, r149_3, r149_4, r149_7, r149_11, r149_12, r149_15, r149_16, r149_17, r149_18i, r149_21, r149_24, r149_25i, r149_26, r149_27i, r149_29, r149_30, r149_36, r149_37, r149_40, r149_41, r149_44, r149_47, r149_48, r149_49, v149_49_10, r149_52, v149_52_7, r149_55, r149_56, r149_59, r149_62, r149_63, r149_66, r149_67, r149_70, v149_70_3, r149_76i, r149_79, r149_80, r149_81, v149_81_10, r149_84i, r149_87, r149_90, r149_91, g10_77_10, g10_23_10, g10_45_10, g10_34_10, g10_131_6, g10_274_6, g10_52_10, o10_len, o10_g11, o10_g3, o10_g6, o10_g4, o6_len, o6_g0, o6_g3, o10_g7, il_s, bl_s, bl_z, ll_s, is_s, bs_s, bs_z, ls_s, al_s, al_b, al_l, fr_ne, fr_same, fr_fr, Nat.reduceEqDiff, tc_gf3_s, tc_ql2_s, tc_ws_0, tc_ws_i, tc_ws_l, tc_ws_r, Nat.reduceLeDiff, Nat.reduceAdd, Nat.reduceLT, true_and, and_true, if_true, if_false, tc_K, Option.toList_some, Option.toList_none, List.nil_append, List.cons_append, ite_true, ite_false, Int.cast_ofNat_Int, reduceIte, i3_add_eq, i3_sub_eq, Int.add_sub_cancel, Int.add_neg_cancel_right, g0, Int.sub_add_cancel]) | (simp only [r149_8, r149_33, r149_73, i6_lt0, i6_0lt, i6_0le, i6_le0, i6_eq0, b10_0, ite_not, Int.reduceLT, Int.reduceLE, Int.reduceEq, Int.reduceNeg, if_true, if_false, ite_true, ite_false, reduceIte, eq_self, not_true, not_false_eq_true]; try refine tc_ite (fun _ => ?_) (fun _ => ?_) <;> try (exfalso; omega)))
      rw [show i + 1 - 1 = i by omega] at ih3
      exact ih3
    · repeat' (first | (simp (disch := first | omega | exact Nat.le_of_ble_eq_true rfl | exact rfl | assumption | (simp (disch := omega) only [fr_ne, fr_same]; first | assumption | omega)) only [r149_0, r149_1i, r149_3, r149_4, r149_7, r149_11, r149_12, r149_15, r149_16, r149_17, r149_18i, r149_21, r149_24, r149_25i, r149_26, r149_27i, r149_29, r149_30, r149_36, r149_37, r149_40, r149_41, r149_44, r149_47, r149_48, r149_49, v149_49_10, r149_52, v149_52_7, r149_55, r149_56, r149_59, r149_62, r149_63, r149_66, r149_67, r149_70, v149_70_3, r149_76i, r149_79, r149_80, r149_81, v149_81_10, r149_84i, r149_87, r149_90, r149_91, g10_77_10, g10_23_10, g10_45_10, g10_34_10, g10_131_6, g10_274_6, g10_52_10, o10_len, o10_g11, o10_g3, o10_g6, o10_g4, o6_len, o6_g0, o6_g3, o10_g7, il_s, bl_s, bl_z, ll_s, is_s, bs_s, bs_z, ls_s, al_s, al_b, al_l, fr_ne, fr_same, fr_fr, Nat.reduceEqDiff, tc_gf3_s, tc_ql2_s, tc_ws_0, tc_ws_i, tc_ws_l, tc_ws_r, Nat.reduceLeDiff, Nat.reduceAdd, Nat.reduceLT, true_and, and_true, if_true, if_false, tc_K, Option.toList_some, Option.toList_none, List.nil_append, List.cons_append, ite_true, ite_false, Int.cast_ofNat_Int, reduceIte, i3_add_eq, i3_sub_eq, Int.add_sub_cancel, Int.add_neg_cancel_right, g0, hO hL26 j26]) | (simp only [r149_8, r149_33, r149_73, i6_lt0, i6_0lt, i6_0le, i6_le0, i6_eq0, b10_0, ite_not, Int.reduceLT, Int.reduceLE, Int.reduceEq, Int.reduceNeg, if_true, if_false, ite_true, ite_false, reduceIte, eq_self, not_true, not_false_eq_true]; try refine tc_ite (fun _ => ?_) (fun _ => ?_) <;> try (exfalso; omega)))
      refine c150 (c := e) (hR3 e he) hE2 (hla3 e he) hk (fun x y x1 x2 y1 y2 => by
        have := ak_rng G SS x y i.toNat
        rw [e74, hak x y x1 x2 y1 y2]
        omega) ?_
      intro e2 he2 hk2
      have ih3 := ih2 e2 ⟨(hd.trans he.l).trans he2, fun x y x1 x2 y1 y2 => ?_⟩
      · rw [if_pos g0] at ih3
        repeat' (first | (simp (disch := first | omega | exact Nat.le_of_ble_eq_true rfl | exact rfl | assumption | (simp (disch := omega) only [fr_ne, fr_same]; first | assumption | omega)) only [r149_0, r149_1i, r149_3, r149_4, r149_7, r149_11, r149_12, r149_15, r149_16, r149_17, r149_18i, r149_21, r149_24, r149_25i, r149_26, r149_27i, r149_29, r149_30, r149_36, r149_37, r149_40, r149_41, r149_44, r149_47, r149_48, r149_49, v149_49_10, r149_52, v149_52_7, r149_55, r149_56, r149_59, r149_62, r149_63, r149_66, r149_67, r149_70, v149_70_3, r149_76i, r149_79, r149_80, r149_81, v149_81_10, r149_84i, r149_87, r149_90, r149_91, g10_77_10, g10_23_10, g10_45_10, g10_34_10, g10_131_6, g10_274_6, g10_52_10, o10_len, o10_g11, o10_g3, o10_g6, o10_g4, o6_len, o6_g0, o6_g3, o10_g7, il_s, bl_s, bl_z, ll_s, is_s, bs_s, bs_z, ls_s, al_s, al_b, al_l, fr_ne, fr_same, fr_fr, Nat.reduceEqDiff, tc_gf3_s, tc_ql2_s, tc_ws_0, tc_ws_i, tc_ws_l, tc_ws_r, Nat.reduceLeDiff, Nat.reduceAdd, Nat.reduceLT, true_and, and_true, if_true, if_false, tc_K, Option.toList_some, Option.toList_none, List.nil_append, List.cons_append, ite_true, ite_false, Int.cast_ofNat_Int, reduceIte, i3_add_eq, i3_sub_eq, Int.add_sub_cancel, Int.add_neg_cancel_right, g0, Int.sub_add_cancel]) | (simp only [r149_8, r149_33, r149_73, i6_lt0, i6_0lt, i6_0le, i6_le0, i6_eq0, b10_0, ite_not, Int.reduceLT, Int.reduceLE, Int.reduceEq, Int.reduceNeg, if_true, if_false, ite_true, ite_false, reduceIte, eq_self, not_true, not_false_eq_true]; try refine tc_ite (fun _ => ?_) (fun _ => ?_) <;> try (exfalso; omega)))
        rw [show i + 1 - 1 = i by omega] at ih3
        exact ih3
      · rw [hk2 x y x1 x2 y1 y2, e74, hak x y x1 x2 y1 y2, eak, ← hSS (i - 1) x (by omega) (by omega)]
        by_cases hy : SS (i - 1) x = y
        · rw [if_pos hy, if_pos ⟨g0, hy⟩]
        · rw [if_neg hy, if_neg (fun q => hy q.2)]
  · intro d o1 o2 ⟨hd, hak⟩
    have hR := h.next hd o1 o2
    have hq' := hq d o1 o2 hd hak
    generalize seaf sh o1 o2 = S1 at hR hq'
    have k26 := hR.1.1
    have e3 := hR.2.2.2.2.2.2.2.2.2.1.2.2
    simp only [r149_28]
    repeat' (first | (simp (disch := first | omega | exact Nat.le_of_ble_eq_true rfl | exact rfl | assumption | (simp (disch := omega) only [fr_ne, fr_same]; first | assumption | omega)) only [r149_0, r149_1i, r149_3, r149_4, r149_7, r149_11, r149_12, r149_15, r149_16, r149_17, r149_18i, r149_21, r149_24, r149_25i, r149_26, r149_27i, r149_29, r149_30, r149_36, r149_37, r149_40, r149_41, r149_44, r149_47, r149_48, r149_49, v149_49_10, r149_52, v149_52_7, r149_55, r149_56, r149_59, r149_62, r149_63, r149_66, r149_67, r149_70, v149_70_3, r149_76i, r149_79, r149_80, r149_81, v149_81_10, r149_84i, r149_87, r149_90, r149_91, g10_77_10, g10_23_10, g10_45_10, g10_34_10, g10_131_6, g10_274_6, g10_52_10, o10_len, o10_g11, o10_g3, o10_g6, o10_g4, o6_len, o6_g0, o6_g3, o10_g7, il_s, bl_s, bl_z, ll_s, is_s, bs_s, bs_z, ls_s, al_s, al_b, al_l, fr_ne, fr_same, fr_fr, Nat.reduceEqDiff, tc_gf3_s, tc_ql2_s, tc_ws_0, tc_ws_i, tc_ws_l, tc_ws_r, Nat.reduceLeDiff, Nat.reduceAdd, Nat.reduceLT, true_and, and_true, if_true, if_false, tc_K, Option.toList_some, Option.toList_none, List.nil_append, List.cons_append, ite_true, ite_false, Int.cast_ofNat_Int, reduceIte, i3_add_eq, i3_sub_eq, Int.add_sub_cancel, Int.add_neg_cancel_right, hO hL26 k26, e3]) | (simp only [r149_8, r149_33, r149_73, i6_lt0, i6_0lt, i6_0le, i6_le0, i6_eq0, b10_0, ite_not, Int.reduceLT, Int.reduceLE, Int.reduceEq, Int.reduceNeg, if_true, if_false, ite_true, ite_false, reduceIte, eq_self, not_true, not_false_eq_true]; try refine tc_ite (fun _ => ?_) (fun _ => ?_) <;> try (exfalso; omega)))
    all_goals first
      | exact hq'
      | omega
theorem lkb_1 (M : Int → Int) : ∀ k : Nat, 0 < k → 0 ≤ (lkb M k).1 ∧ (lkb M k).1 < k ∧ (lkb M k).2 = M (lkb M k).1 := by
  intro k
  induction k with
  | zero => intro h; omega
  | succ k ih =>
    intro _
    unfold lkb
    by_cases hv : (lkb M k).1 = -2 ∨ M k < (lkb M k).2
    · rw [if_pos hv]
      exact ⟨by show (0 : Int) ≤ (k : Int); omega, by show (k : Int) < _; omega, rfl⟩
    · rw [if_neg hv]
      cases k with
      | zero => exact absurd (Or.inl rfl) hv
      | succ k =>
        have := ih (by omega)
        exact ⟨this.1, by omega, this.2.2⟩
theorem c148 (h : RV L sh c s b m g LL) {k w : Int} (hk : 0 ≤ k ∧ k ≤ 60) (hw2 : w = 0 ∨ w = 1) {G : Int → Int} (hG : ∀ r, -1 ≤ r → r < m → G r = crn b (LL r) (c 45) (c 46) (c 47) g.toNat 61) {SS : Int → Int → Int} (hSS : ∀ r x, -1 ≤ r → r < m → SS r x = gos b (LL r) (bgn b) k.toNat 0 x)
    (hq : ∀ e o1 o2, FL c e → Q (some (.inl (if (rld G (m + 1).toNat).1 = 0 then -2 else if w = 0 then (lkb (fun x => mx (fun h => ak G SS x h (m + 1).toNat) 10) (b 0 0 * b 0 1).toNat).1 else (lkb (fun x => mx (fun h => ak G SS x h (m + 1).toNat) 10) (b 0 0 * b 0 1).toNat).2))) (hp L (seaf sh o1 o2) e) n) : tc_C 148 [rf 26, .inl k, .inl w] (hp L sh c) n Q := by
  obtain ⟨hM, ⟨s1, l1, hE⟩, hSh, hs, h56, h44, h74, hb, hB, hm, hg, _⟩ := id h
  have hL := hE.1
  have hL26 : 26 < L := by omega
  have hL29 : 29 < L := by omega
  have hL74 : 74 < L := by omega
  have hN := hb.n25
  have hN4 : 4 ≤ b 0 0 * b 0 1 := by
    have h1 := hb.1
    have := Int.mul_le_mul h1.1 h1.2.2.1 (by omega) (by omega)
    omega
  have h83 := fun Q => c83 (c := c) (n := n) (Q := Q) hM hSh hL hB.1.2.1
  simp only [if_neg (show ¬ b 0 0 * b 0 1 = 0 by omega)] at h83
  show tc_W 148 0 [rf 26, .inl k, .inl w, tc_nil, tc_nil, tc_nil, tc_nil] [] _ _ Q
  repeat' (first | (simp (disch := first | omega | exact Nat.le_of_ble_eq_true rfl | exact rfl | assumption | (simp (disch := omega) only [fr_ne, fr_same]; first | assumption | omega)) only [r148_0, r148_1, v148_1_10, r148_7, r148_11, r148_12, r148_17, r148_21, r148_22, r148_26, r148_27, r148_28, r148_29, r148_30, v148_30_10, r148_36, r148_38, r148_39, r148_40, r148_43, r148_44, r148_45i, r148_46, r148_47i, r148_49, r148_50i, r148_54, r148_55, r148_58, r148_61, r148_67, r148_68, r148_70, v148_70_10, r148_73i, r148_75, r148_77, r148_81, r148_83i, r148_84, r148_86i, r148_88i, r148_91, r148_94, r148_98, r148_100, r148_103, r148_104, g10_23_10, g10_34_10, g10_131_6, g10_95_8, o10_len, o10_g3, o10_g4, o6_len, o6_g0, o8_len, o8_g2, il_s, bl_s, bl_z, ll_s, is_s, bs_s, bs_z, ls_s, al_s, al_b, al_l, fr_ne, fr_same, fr_fr, Nat.reduceEqDiff, tc_gf3_s, tc_ql2_s, tc_ws_0, tc_ws_i, tc_ws_l, tc_ws_r, Nat.reduceLeDiff, Nat.reduceAdd, Nat.reduceLT, true_and, and_true, if_true, if_false, tc_K, Option.toList_some, Option.toList_none, List.nil_append, List.cons_append, ite_true, ite_false, Int.cast_ofNat_Int, reduceIte, i3_add_eq, i3_sub_eq, Int.add_sub_cancel, Int.add_neg_cancel_right, hO hL26 hM.1, h83]) | (simp only [r148_4, r148_8, r148_14, r148_18, r148_23, r148_33, r148_64, r148_78, r148_95, i6_lt0, i6_0lt, i6_0le, i6_le0, i6_eq0, b10_0, ite_not, Int.reduceLT, Int.reduceLE, Int.reduceEq, Int.reduceNeg, if_true, if_false, ite_true, ite_false, reduceIte, eq_self, not_true, not_false_eq_true]; try refine tc_ite (fun _ => ?_) (fun _ => ?_) <;> try (exfalso; omega)))
  all_goals try omega
  refine c149 h hk hG hSS ?_
  intro e o1 o2 he hak
  have hrn := rld_rng G (m + 1).toNat
  have hq' := hq e o1 o2 he
  have hR := h.next he o1 o2
  generalize (rld G (m + 1).toNat).1 = R at hq' hrn
  generalize seaf sh o1 o2 = S1 at hR hq'
  obtain ⟨hM1, _, hSh1, _, _, _, h741, _, hB1, hm1, _, _⟩ := hR
  by_cases hz : R = 0
  · rw [if_pos hz] at hq'
    repeat' (first | (simp (disch := first | omega | exact Nat.le_of_ble_eq_true rfl | exact rfl | assumption | (simp (disch := omega) only [fr_ne, fr_same]; first | assumption | omega)) only [r148_0, r148_1, v148_1_10, r148_7, r148_11, r148_12, r148_17, r148_21, r148_22, r148_26, r148_27, r148_28, r148_29, r148_30, v148_30_10, r148_36, r148_38, r148_39, r148_40, r148_43, r148_44, r148_45i, r148_46, r148_47i, r148_49, r148_50i, r148_54, r148_55, r148_58, r148_61, r148_67, r148_68, r148_70, v148_70_10, r148_73i, r148_75, r148_77, r148_81, r148_83i, r148_84, r148_86i, r148_88i, r148_91, r148_94, r148_98, r148_100, r148_103, r148_104, g10_23_10, g10_34_10, g10_131_6, g10_95_8, o10_len, o10_g3, o10_g4, o6_len, o6_g0, o8_len, o8_g2, il_s, bl_s, bl_z, ll_s, is_s, bs_s, bs_z, ls_s, al_s, al_b, al_l, fr_ne, fr_same, fr_fr, Nat.reduceEqDiff, tc_gf3_s, tc_ql2_s, tc_ws_0, tc_ws_i, tc_ws_l, tc_ws_r, Nat.reduceLeDiff, Nat.reduceAdd, Nat.reduceLT, true_and, and_true, if_true, if_false, tc_K, Option.toList_some, Option.toList_none, List.nil_append, List.cons_append, ite_true, ite_false, Int.cast_ofNat_Int, reduceIte, i3_add_eq, i3_sub_eq, Int.add_sub_cancel, Int.add_neg_cancel_right, hz]) | (simp only [r148_4, r148_8, r148_14, r148_18, r148_23, r148_33, r148_64, r148_78, r148_95, i6_lt0, i6_0lt, i6_0le, i6_le0, i6_eq0, b10_0, ite_not, Int.reduceLT, Int.reduceLE, Int.reduceEq, Int.reduceNeg, if_true, if_false, ite_true, ite_false, reduceIte, eq_self, not_true, not_false_eq_true]; try refine tc_ite (fun _ => ?_) (fun _ => ?_) <;> try (exfalso; omega)))
    exact hq'
  rw [if_neg hz] at hq'
  have hMr : ∀ x, 0 ≤ mx (fun h => ak G SS x h (m + 1).toNat) 10 ∧ mx (fun h => ak G SS x h (m + 1).toNat) 10 ≤ m + 1 := fun x => mx_rng (by omega) (fun j => by have := ak_rng G SS x j (m + 1).toNat; omega) 10
  have h151 := fun x (hx : 0 ≤ x ∧ x < b 0 0 * b 0 1) Q => c151 (c := e) (n := n) (Q := Q) (A := fun h => ak G SS x h (m + 1).toNat) hM1.1 h741 hL74 (x := x) (by omega) (fun y y1 y2 => hak x y hx.1 hx.2 y1 y2)
  generalize hMM : (fun x => mx (fun h => ak G SS x h (m + 1).toNat) 10) = M at hq'
  have hMM2 : ∀ x, mx (fun h => ak G SS x h (m + 1).toNat) 10 = M x := fun x => by rw [← hMM]
  simp only [hMM2] at hMr h151
  have e3 := hm1.2.2
  have e2 := hB1.1.2.1
  repeat' (first | (simp (disch := first | omega | exact Nat.le_of_ble_eq_true rfl | exact rfl | assumption | (simp (disch := omega) only [fr_ne, fr_same]; first | assumption | omega)) only [r148_0, r148_1, v148_1_10, r148_7, r148_11, r148_12, r148_17, r148_21, r148_22, r148_26, r148_27, r148_28, r148_29, r148_30, v148_30_10, r148_36, r148_38, r148_39, r148_40, r148_43, r148_44, r148_45i, r148_46, r148_47i, r148_49, r148_50i, r148_54, r148_55, r148_58, r148_61, r148_67, r148_68, r148_70, v148_70_10, r148_73i, r148_75, r148_77, r148_81, r148_83i, r148_84, r148_86i, r148_88i, r148_91, r148_94, r148_98, r148_100, r148_103, r148_104, g10_23_10, g10_34_10, g10_131_6, g10_95_8, o10_len, o10_g3, o10_g4, o6_len, o6_g0, o8_len, o8_g2, il_s, bl_s, bl_z, ll_s, is_s, bs_s, bs_z, ls_s, al_s, al_b, al_l, fr_ne, fr_same, fr_fr, Nat.reduceEqDiff, tc_gf3_s, tc_ql2_s, tc_ws_0, tc_ws_i, tc_ws_l, tc_ws_r, Nat.reduceLeDiff, Nat.reduceAdd, Nat.reduceLT, true_and, and_true, if_true, if_false, tc_K, Option.toList_some, Option.toList_none, List.nil_append, List.cons_append, ite_true, ite_false, Int.cast_ofNat_Int, reduceIte, i3_add_eq, i3_sub_eq, Int.add_sub_cancel, Int.add_neg_cancel_right, hO hL26 hM1.1, e3]) | (simp only [r148_4, r148_8, r148_14, r148_18, r148_23, r148_33, r148_64, r148_78, r148_95, i6_lt0, i6_0lt, i6_0le, i6_le0, i6_eq0, b10_0, ite_not, Int.reduceLT, Int.reduceLE, Int.reduceEq, Int.reduceNeg, if_true, if_false, ite_true, ite_false, reduceIte, eq_self, not_true, not_false_eq_true]; try refine tc_ite (fun _ => ?_) (fun _ => ?_) <;> try (exfalso; omega)))
  all_goals try omega
  refine lq_3 (N := b 0 0 * b 0 1) (P := fun i (B F : Int) (a6 : AV) => tc_W 148 52 [rf 26, .inl k, .inl w, .inl F, .inl B, .inl i, a6] [] (hp L S1 e) n Q) (I := fun i B F _ => (i = 0 ∧ B = 0 ∧ F = m + 2) ∨ (0 < i ∧ B = (lkb M i.toNat).1 ∧ F = (lkb M i.toNat).2)) ?_ ?_ 0 0 (m + 2) tc_nil (by omega) (by omega) (Or.inl ⟨rfl, rfl, rfl⟩)
  · intro i B F a6 hi hi2 hI' ih
    have e1 : lkb M (i + 1).toNat = if (lkb M i.toNat).1 = -2 ∨ M i < (lkb M i.toNat).2 then (i, M i) else lkb M i.toNat := by
      rw [show (i + 1).toNat = i.toNat + 1 by omega]
      show (if (lkb M i.toNat).1 = -2 ∨ M (i.toNat : Int) < (lkb M i.toNat).2 then ((i.toNat : Int), M (i.toNat : Int)) else lkb M i.toNat) = _
      rw [Int.toNat_of_nonneg hi]
    have hMi := hMr i
    have h1 := h151 i ⟨hi, hi2⟩
    have hcase : (M i < F ∧ lkb M (i + 1).toNat = (i, M i)) ∨ (¬ M i < F ∧ lkb M (i + 1).toNat = (B, F)) := by
      rcases hI' with ⟨q1, q2, q3⟩ | ⟨q1, q2, q3⟩
      · subst q1
        exact Or.inl ⟨by omega, by rw [e1]; exact if_pos (Or.inl rfl)⟩
      · have h0 := lkb_1 M i.toNat (by omega)
        by_cases hv : M i < F
        · exact Or.inl ⟨hv, by rw [e1, if_pos (Or.inr (by omega))]⟩
        · refine Or.inr ⟨hv, ?_⟩
          rw [e1, if_neg (by omega), q2, q3]
    simp only [r148_52]
    rcases hcase with ⟨hv, hl⟩ | ⟨hv, hl⟩
    · have ih2 := ih i (M i) (.inl (M i)) (Or.inr ⟨by omega, by rw [hl], by rw [hl]⟩)
      repeat' (first | (simp (disch := first | omega | exact Nat.le_of_ble_eq_true rfl | exact rfl | assumption | (simp (disch := omega) only [fr_ne, fr_same]; first | assumption | omega)) only [r148_0, r148_1, v148_1_10, r148_7, r148_11, r148_12, r148_17, r148_21, r148_22, r148_26, r148_27, r148_28, r148_29, r148_30, v148_30_10, r148_36, r148_38, r148_39, r148_40, r148_43, r148_44, r148_45i, r148_46, r148_47i, r148_49, r148_50i, r148_54, r148_55, r148_58, r148_61, r148_67, r148_68, r148_70, v148_70_10, r148_73i, r148_75, r148_77, r148_81, r148_83i, r148_84, r148_86i, r148_88i, r148_91, r148_94, r148_98, r148_100, r148_103, r148_104, g10_23_10, g10_34_10, g10_131_6, g10_95_8, o10_len, o10_g3, o10_g4, o6_len, o6_g0, o8_len, o8_g2, il_s, bl_s, bl_z, ll_s, is_s, bs_s, bs_z, ls_s, al_s, al_b, al_l, fr_ne, fr_same, fr_fr, Nat.reduceEqDiff, tc_gf3_s, tc_ql2_s, tc_ws_0, tc_ws_i, tc_ws_l, tc_ws_r, Nat.reduceLeDiff, Nat.reduceAdd, Nat.reduceLT, true_and, and_true, if_true, if_false, tc_K, Option.toList_some, Option.toList_none, List.nil_append, List.cons_append, ite_true, ite_false, Int.cast_ofNat_Int, reduceIte, i3_add_eq, i3_sub_eq, Int.add_sub_cancel, Int.add_neg_cancel_right, hO hL26 hM1.1, hO hL29 hM1.2, ShoS_g0 hSh1, ShoS_s0 hSh1, ShoS_g1 hSh1, ShoS_s1 hSh1, ShoS_g2 hSh1, ShoS_s2 hSh1, ShoS_g3 hSh1, ShoS_s3 hSh1, ShoS_g4 hSh1, ShoS_s4 hSh1, ShoS_g5 hSh1, ShoS_s5 hSh1, ShoS_g6 hSh1, ShoS_s6 hSh1, ShoS_g7 hSh1, ShoS_s7 hSh1, e2, h1]) | (simp only [r148_4, r148_8, r148_14, r148_18, r148_23, r148_33, r148_64, r148_78, r148_95, i6_lt0, i6_0lt, i6_0le, i6_le0, i6_eq0, b10_0, ite_not, Int.reduceLT, Int.reduceLE, Int.reduceEq, Int.reduceNeg, if_true, if_false, ite_true, ite_false, reduceIte, eq_self, not_true, not_false_eq_true]; try refine tc_ite (fun _ => ?_) (fun _ => ?_) <;> try (exfalso; omega)))
      all_goals first
        | exact ih2
        | omega
    · have ih2 := ih B F (.inl (M i)) (Or.inr ⟨by omega, by rw [hl], by rw [hl]⟩)
      repeat' (first | (simp (disch := first | omega | exact Nat.le_of_ble_eq_true rfl | exact rfl | assumption | (simp (disch := omega) only [fr_ne, fr_same]; first | assumption | omega)) only [r148_0, r148_1, v148_1_10, r148_7, r148_11, r148_12, r148_17, r148_21, r148_22, r148_26, r148_27, r148_28, r148_29, r148_30, v148_30_10, r148_36, r148_38, r148_39, r148_40, r148_43, r148_44, r148_45i, r148_46, r148_47i, r148_49, r148_50i, r148_54, r148_55, r148_58, r148_61, r148_67, r148_68, r148_70, v148_70_10, r148_73i, r148_75, r148_77, r148_81, r148_83i, r148_84, r148_86i, r148_88i, r148_91, r148_94, r148_98, r148_100, r148_103, r148_104, g10_23_10, g10_34_10, g10_131_6, g10_95_8, o10_len, o10_g3, o10_g4, o6_len, o6_g0, o8_len, o8_g2, il_s, bl_s, bl_z, ll_s, is_s, bs_s, bs_z, ls_s, al_s, al_b, al_l, fr_ne, fr_same, fr_fr, Nat.reduceEqDiff, tc_gf3_s, tc_ql2_s, tc_ws_0, tc_ws_i, tc_ws_l, tc_ws_r, Nat.reduceLeDiff, Nat.reduceAdd, Nat.reduceLT, true_and, and_true, if_true, if_false, tc_K, Option.toList_some, Option.toList_none, List.nil_append, List.cons_append, ite_true, ite_false, Int.cast_ofNat_Int, reduceIte, i3_add_eq, i3_sub_eq, Int.add_sub_cancel, Int.add_neg_cancel_right, hO hL26 hM1.1, hO hL29 hM1.2, ShoS_g0 hSh1, ShoS_s0 hSh1, ShoS_g1 hSh1, ShoS_s1 hSh1, ShoS_g2 hSh1, ShoS_s2 hSh1, ShoS_g3 hSh1, ShoS_s3 hSh1, ShoS_g4 hSh1, ShoS_s4 hSh1, ShoS_g5 hSh1, ShoS_s5 hSh1, ShoS_g6 hSh1, ShoS_s6 hSh1, ShoS_g7 hSh1, ShoS_s7 hSh1, e2, h1]) | (simp only [r148_4, r148_8, r148_14, r148_18, r148_23, r148_33, r148_64, r148_78, r148_95, i6_lt0, i6_0lt, i6_0le, i6_le0, i6_eq0, b10_0, ite_not, Int.reduceLT, Int.reduceLE, Int.reduceEq, Int.reduceNeg, if_true, if_false, ite_true, ite_false, reduceIte, eq_self, not_true, not_false_eq_true]; try refine tc_ite (fun _ => ?_) (fun _ => ?_) <;> try (exfalso; omega)))
      all_goals first
        | exact ih2
        | omega
  · intro B F a6 hI'
    have hBF : B = (lkb M (b 0 0 * b 0 1).toNat).1 ∧ F = (lkb M (b 0 0 * b 0 1).toNat).2 := by
      rcases hI' with q | q
      · omega
      · exact q.2
    rw [← hBF.1, ← hBF.2] at hq'
    simp only [r148_52]
    rcases hw2 with rfl | rfl
    · rw [if_pos rfl] at hq'
      repeat' (first | (simp (disch := first | omega | exact Nat.le_of_ble_eq_true rfl | exact rfl | assumption | (simp (disch := omega) only [fr_ne, fr_same]; first | assumption | omega)) only [r148_0, r148_1, v148_1_10, r148_7, r148_11, r148_12, r148_17, r148_21, r148_22, r148_26, r148_27, r148_28, r148_29, r148_30, v148_30_10, r148_36, r148_38, r148_39, r148_40, r148_43, r148_44, r148_45i, r148_46, r148_47i, r148_49, r148_50i, r148_54, r148_55, r148_58, r148_61, r148_67, r148_68, r148_70, v148_70_10, r148_73i, r148_75, r148_77, r148_81, r148_83i, r148_84, r148_86i, r148_88i, r148_91, r148_94, r148_98, r148_100, r148_103, r148_104, g10_23_10, g10_34_10, g10_131_6, g10_95_8, o10_len, o10_g3, o10_g4, o6_len, o6_g0, o8_len, o8_g2, il_s, bl_s, bl_z, ll_s, is_s, bs_s, bs_z, ls_s, al_s, al_b, al_l, fr_ne, fr_same, fr_fr, Nat.reduceEqDiff, tc_gf3_s, tc_ql2_s, tc_ws_0, tc_ws_i, tc_ws_l, tc_ws_r, Nat.reduceLeDiff, Nat.reduceAdd, Nat.reduceLT, true_and, and_true, if_true, if_false, tc_K, Option.toList_some, Option.toList_none, List.nil_append, List.cons_append, ite_true, ite_false, Int.cast_ofNat_Int, reduceIte, i3_add_eq, i3_sub_eq, Int.add_sub_cancel, Int.add_neg_cancel_right, hO hL26 hM1.1, hO hL29 hM1.2, ShoS_g0 hSh1, ShoS_s0 hSh1, ShoS_g1 hSh1, ShoS_s1 hSh1, ShoS_g2 hSh1, ShoS_s2 hSh1, ShoS_g3 hSh1, ShoS_s3 hSh1, ShoS_g4 hSh1, ShoS_s4 hSh1, ShoS_g5 hSh1, ShoS_s5 hSh1, ShoS_g6 hSh1, ShoS_s6 hSh1, ShoS_g7 hSh1, ShoS_s7 hSh1, e2]) | (simp only [r148_4, r148_8, r148_14, r148_18, r148_23, r148_33, r148_64, r148_78, r148_95, i6_lt0, i6_0lt, i6_0le, i6_le0, i6_eq0, b10_0, ite_not, Int.reduceLT, Int.reduceLE, Int.reduceEq, Int.reduceNeg, if_true, if_false, ite_true, ite_false, reduceIte, eq_self, not_true, not_false_eq_true]; try refine tc_ite (fun _ => ?_) (fun _ => ?_) <;> try (exfalso; omega)))
      all_goals first
        | exact hq'
        | omega
    · rw [if_neg (by omega)] at hq'
      repeat' (first | (simp (disch := first | omega | exact Nat.le_of_ble_eq_true rfl | exact rfl | assumption | (simp (disch := omega) only [fr_ne, fr_same]; first | assumption | omega)) only [r148_0, r148_1, v148_1_10, r148_7, r148_11, r148_12, r148_17, r148_21, r148_22, r148_26, r148_27, r148_28, r148_29, r148_30, v148_30_10, r148_36, r148_38, r148_39, r148_40, r148_43, r148_44, r148_45i, r148_46, r148_47i, r148_49, r148_50i, r148_54, r148_55, r148_58, r148_61, r148_67, r148_68, r148_70, v148_70_10, r148_73i, r148_75, r148_77, r148_81, r148_83i, r148_84, r148_86i, r148_88i, r148_91, r148_94, r148_98, r148_100, r148_103, r148_104, g10_23_10, g10_34_10, g10_131_6, g10_95_8, o10_len, o10_g3, o10_g4, o6_len, o6_g0, o8_len, o8_g2, il_s, bl_s, bl_z, ll_s, is_s, bs_s, bs_z, ls_s, al_s, al_b, al_l, fr_ne, fr_same, fr_fr, Nat.reduceEqDiff, tc_gf3_s, tc_ql2_s, tc_ws_0, tc_ws_i, tc_ws_l, tc_ws_r, Nat.reduceLeDiff, Nat.reduceAdd, Nat.reduceLT, true_and, and_true, if_true, if_false, tc_K, Option.toList_some, Option.toList_none, List.nil_append, List.cons_append, ite_true, ite_false, Int.cast_ofNat_Int, reduceIte, i3_add_eq, i3_sub_eq, Int.add_sub_cancel, Int.add_neg_cancel_right, hO hL26 hM1.1, hO hL29 hM1.2, ShoS_g0 hSh1, ShoS_s0 hSh1, ShoS_g1 hSh1, ShoS_s1 hSh1, ShoS_g2 hSh1, ShoS_s2 hSh1, ShoS_g3 hSh1, ShoS_s3 hSh1, ShoS_g4 hSh1, ShoS_s4 hSh1, ShoS_g5 hSh1, ShoS_s5 hSh1, ShoS_g6 hSh1, ShoS_s6 hSh1, ShoS_g7 hSh1, ShoS_s7 hSh1, e2]) | (simp only [r148_4, r148_8, r148_14, r148_18, r148_23, r148_33, r148_64, r148_78, r148_95, i6_lt0, i6_0lt, i6_0le, i6_le0, i6_eq0, b10_0, ite_not, Int.reduceLT, Int.reduceLE, Int.reduceEq, Int.reduceNeg, if_true, if_false, ite_true, ite_false, reduceIte, eq_self, not_true, not_false_eq_true]; try refine tc_ite (fun _ => ?_) (fun _ => ?_) <;> try (exfalso; omega)))
      all_goals first
        | exact hq'
        | omega
end RULEDQ

/-! the class: sums, all of them -/
def rst (g : Int → Int) (N : Int) (kt ks : Nat) (p m : Int) (T W : List Tk) : PR := if ¬ (tml g N kt p m T).1 = 0 then ((tml g N kt p m T).1, 0, 0, []) else sml g N ks (tml g N kt p m T).2.1 (tml g N kt p m T).2.2.1 ((tml g N kt p m T).2.2.2 ++ W)
theorem sop_hi {g : Int → Int} {N p : Int} (h : N ≤ p) : sop (byt g N p) = 0 := by
  unfold byt
  rw [if_neg (by omega)]
  rfl
theorem wop_hi {g : Int → Int} {N p : Int} (h : N ≤ p) : wop (byt g N p) = 0 := by
  unfold byt
  rw [if_neg (by omega)]
  rfl
theorem sop_wop {b : Int} (h : ¬ wop b = 0) : sop b = 0 := by
  unfold wop at h
  unfold sop
  by_cases h1 : b = 43
  · rw [if_neg (by omega), if_neg (by omega), if_neg (by omega)]
  · rw [if_neg h1] at h
    by_cases h2 : b = 45
    · rw [if_neg (by omega), if_neg (by omega), if_neg (by omega)]
    · rw [if_neg h2] at h
      exact absurd rfl h
section LAWE
variable {L : Nat} {sh : Nat → SH} {c : Nat → Int → Int} {n : Nat} {Q : Option AV → List SC → Nat → Prop} {g : Int → Int} {N p m z f p' m' : Int} {T T' : List Tk}
theorem tml_end {k : Nat} (h : sop (byt g N (sk g N p)) = 0) : tml g N k p m T = (0, sk g N p, m, T) := by
  cases k with
  | zero => rfl
  | succ k =>
    unfold tml
    rw [if_pos h]
theorem sml_end {k : Nat} (h : wop (byt g N p) = 0) : sml g N k p m T = (0, p, m, T) := by
  cases k with
  | zero => rfl
  | succ k =>
    unfold sml
    rw [if_pos h]
theorem tml_st {k : Nat} {o f1 p1 m1 : Int} {T1 : List Tk} (ho : sop (byt g N (sk g N p)) = o) (hn : ¬ o = 0) (hv : vlf g N (sk g N p + 1) m T = (f1, p1, m1, T1)) : tml g N (k + 1) p m T = if ¬ f1 = 0 then (f1, 0, 0, []) else tml g N k p1 m1 (T1 ++ [(o, 0)]) := by
  show (if sop (byt g N (sk g N p)) = 0 then (0, sk g N p, m, T) else if ¬ (vlf g N (sk g N p + 1) m T).1 = 0 then ((vlf g N (sk g N p + 1) m T).1, 0, 0, []) else tml g N k (vlf g N (sk g N p + 1) m T).2.1 (vlf g N (sk g N p + 1) m T).2.2.1 ((vlf g N (sk g N p + 1) m T).2.2.2 ++ [(sop (byt g N (sk g N p)), 0)])) = _
  rw [if_neg (by omega), hv, ho]
theorem sml_st {k : Nat} {o f1 p1 m1 : Int} {T1 : List Tk} (ho : wop (byt g N p) = o) (hn : ¬ o = 0) (hv : trm g N k (p + 1) m T = (f1, p1, m1, T1)) : sml g N (k + 1) p m T = if ¬ f1 = 0 then (f1, 0, 0, []) else sml g N k p1 m1 (T1 ++ [(o, 0)]) := by
  show (if wop (byt g N p) = 0 then (0, p, m, T) else if ¬ (trm g N k (p + 1) m T).1 = 0 then ((trm g N k (p + 1) m T).1, 0, 0, []) else sml g N k (trm g N k (p + 1) m T).2.1 (trm g N k (p + 1) m T).2.2.1 ((trm g N k (p + 1) m T).2.2.2 ++ [(wop (byt g N p), 0)])) = _
  rw [if_neg (by omega), hv, ho]
theorem trm_st {k : Nat} {f1 p1 m1 : Int} {T1 : List Tk} (hv : vlf g N p m T = (f1, p1, m1, T1)) : trm g N k p m T = if ¬ f1 = 0 then (f1, 0, 0, []) else tml g N k p1 m1 T1 := by
  unfold trm
  rw [hv]
theorem rst_st {kt ks : Nat} {f1 p1 m1 : Int} {T1 W : List Tk} (hv : tml g N kt p m T = (f1, p1, m1, T1)) : rst g N kt ks p m T W = if ¬ f1 = 0 then (f1, 0, 0, []) else sml g N ks p1 m1 (T1 ++ W) := by
  unfold rst
  rw [hv]
theorem rst_eq {kt ks kt' : Nat} {p2 m2 : Int} {T2 W : List Tk} (h : tml g N kt p m T = tml g N kt' p2 m2 T2) : rst g N kt ks p m T W = rst g N kt' ks p2 m2 T2 W := by
  unfold rst
  rw [h]
/-- a fault has come: the sum is left -/
theorem c52_x (hR : LRd L sh) {F wt i : Int} {a3 a4 : AV} (h4 : c 70 4 = F) (hF : ¬ F = 0) (hq : Q none (hp L sh c) n) : tc_W 52 8 [rf 70, .inl wt, .inl i, a3, a4] [] (hp L sh c) n Q := by
  have h58 := fun st n Q => c58f (c := c) (n := n) (Q := Q) (st := st) hR h4 hF
  obtain ⟨hL, h70, h27, h71, h72, h73⟩ := hR
  have hL70 : 70 < L := by omega
  simp only [r52_8]
  repeat' (first | (simp (disch := first | omega | exact Nat.le_of_ble_eq_true rfl | exact rfl | assumption | (simp (disch := omega) only [fr_ne, fr_same]; first | assumption | omega)) only [r52_0, r52_1, v52_1_2, r52_4, r52_5r, r52_6, r52_7i, r52_9, r52_15, r52_16, r52_22, r52_23, v52_23_2, r52_26i, r52_27, r52_31, r52_32, v52_32_2, r52_35, r52_38, r52_39i, r52_41, r52_45, r52_46, v52_46_2, r52_49, r52_50, r52_51, v52_51_2, r52_54, r52_57, r52_62, r52_63, r52_64, v52_64_2, r52_67, r52_69r, r52_70, r52_71, v52_71_2, r52_74i, r52_77, r52_80, r52_81, r52_82, v52_82_2, r52_85, g2_46_0, g2_46_2, o0_len, o0_g4, o2_len, o2_g4, il_s, bl_s, bl_z, ll_s, is_s, bs_s, bs_z, ls_s, al_s, al_b, al_l, fr_ne, fr_same, fr_fr, Nat.reduceEqDiff, tc_gf3_s, tc_ql2_s, tc_ws_0, tc_ws_i, tc_ws_l, tc_ws_r, Nat.reduceLeDiff, Nat.reduceAdd, Nat.reduceLT, true_and, and_true, if_true, if_false, tc_K, Option.toList_some, Option.toList_none, List.nil_append, List.cons_append, ite_true, ite_false, Int.cast_ofNat_Int, reduceIte, i3_add_eq, i3_sub_eq, Int.add_sub_cancel, Int.add_neg_cancel_right, hO hL70 h70, h4, h58]) | (simp only [r52_12, r52_19, r52_28, r52_42, r52_59, i6_lt0, i6_0lt, i6_0le, i6_le0, i6_eq0, b10_0, ite_not, Int.reduceLT, Int.reduceLE, Int.reduceEq, Int.reduceNeg, if_true, if_false, ite_true, ite_false, reduceIte, eq_self, not_true, not_false_eq_true]; try refine tc_ite (fun _ => ?_) (fun _ => ?_) <;> try (exfalso; omega)))
  all_goals first
    | exact hq
    | omega
theorem c52_e (hR : LRd L sh) {d : Nat → Int → Int} (hD : LD d g N p m z T) {W : List Tk} {wt : Int} (hwt : (wt = 0 ∧ W = []) ∨ (¬ wt = 0 ∧ W = [ctk wt])) (hz : 0 ≤ z ∧ z + T.length < 400) {ls : List AV} (hq : ∀ e, LQ d e (z + T.length) → LD e g N p m z (T ++ W) → Q none (hp L sh e) n) : tc_C 58 [rf 70, .inl wt] (hp L sh d) n Q := by
  rcases hwt with ⟨w1, w2⟩ | ⟨w1, w2⟩
  · subst w1 w2
    rw [c58_0 hR]
    refine hq d LQ.refl ?_
    rw [List.append_nil]
    exact hD
  · subst w2
    exact c58 hR hD rfl w1 (by omega) fun e h1 h2 => hq e h2 h1
theorem c52_l (hR : LRd L sh) (hST : ∀ d, (∀ a, a < 25 → d a = c a) → STRS sh d) (hTP : TP g N) {Z : Int} (hq : ∀ e, LQ c e Z → RG e N → e 70 4 = f → (f = 0 → LD e g N p' m' z T') → Q none (hp L sh e) n) (hz0 : 0 ≤ z) : ∀ (ks kt : Nat) (p m i wt : Int) (T W : List Tk) (d : Nat → Int → Int) (a3 a4 : AV), LD d g N p m z T → LQ c d Z → Z ≤ z + T.length → 0 ≤ p → p ≤ N → 0 ≤ m → m ≤ 60 → N - p ≤ kt → N - p ≤ ks → 0 ≤ i → i + (N - p) ≤ 399 → ((wt = 0 ∧ W = []) ∨ (¬ wt = 0 ∧ W = [ctk wt])) → 3 * (z + T.length + W.length) ≤ 7 * m + p → rst g N kt ks p m T W = (f, p', m', T') → tc_W 52 8 [rf 70, .inl wt, .inl i, a3, a4] [] (hp L sh d) n Q := by
  obtain ⟨hL, h70, h27, h71, h72, h73⟩ := id hR
  have hL70 : 70 < L := by omega
  have hN := hTP.1
  -- one turn, given what follows a strong sign and what follows a weak one
  have turn : ∀ (p m i wt : Int) (T W : List Tk) (d : Nat → Int → Int) (a3 a4 : AV), LD d g N p m z T → LQ c d Z → Z ≤ z + T.length → 0 ≤ p → p ≤ N → 0 ≤ m → m ≤ 60 → 0 ≤ i → i + (N - p) ≤ 399 → ((wt = 0 ∧ W = []) ∨ (¬ wt = 0 ∧ W = [ctk wt])) → 3 * (z + T.length + W.length) ≤ 7 * m + p →
      (∀ o, sop (byt g N (sk g N p)) = o → ¬ o = 0 → ∀ f1 p1 m1 T1, vlf g N (sk g N p + 1) m T = (f1, p1, m1, T1) → (¬ f1 = 0 → f1 = f) ∧ (f1 = 0 → ∀ (e : Nat → Int → Int) (a3 a4 : AV), LD e g N p1 m1 z (T1 ++ [(o, 0)]) → LQ c e Z → tc_W 52 8 [rf 70, .inl wt, .inl (i + 1), a3, a4] [] (hp L sh e) n Q)) →
      (sop (byt g N (sk g N p)) = 0 → ∀ o, wop (byt g N (sk g N p)) = o → ¬ o = 0 → ∀ f1 p1 m1 T1, vlf g N (sk g N p + 1) m (T ++ W) = (f1, p1, m1, T1) → (¬ f1 = 0 → f1 = f) ∧ (f1 = 0 → ∀ (e : Nat → Int → Int) (a3 a4 : AV), LD e g N p1 m1 z T1 → LQ c e Z → tc_W 52 8 [rf 70, .inl (-8 - o), .inl (i + 1), a3, a4] [] (hp L sh e) n Q)) →
      (sop (byt g N (sk g N p)) = 0 → wop (byt g N (sk g N p)) = 0 → f = 0 ∧ p' = sk g N p ∧ m' = m ∧ T' = T ++ W) →
      tc_W 52 8 [rf 70, .inl wt, .inl i, a3, a4] [] (hp L sh d) n Q := by
    intro p m i wt T W d a3 a4 hD hLQ hZ hp1 hp2 hm1 hm2 hi1 hi2 hwt hz hS hW hE
    obtain ⟨d27, d1, d2, d4, d8, d9, dT⟩ := id hD
    have hs := nm_rng (g := g) (p := p) (N := N) ⟨hp1, hp2⟩
    have hkr := sk_rng (g := g) (n := N) (p := p)
    have hTd : TP (d 27) N := by rw [d27]; exact hTP
    generalize hq0 : sk g N p = q at hS hW hE hs hkr
    have hsq : sk g N q = q := by rw [← hq0]; exact sk_2 g N p
    generalize ho : sop (byt g N q) = o at hS hW hE
    have h56 := fun Q => c56 (c := d) (n := n) (Q := Q) (N := N) (p := p) (q := q) (o := o) hR hTd d1 d2 ⟨hp1, hp2⟩ (by rw [d27]; exact hq0) (by rw [d27]; exact ho)
    have hwl : W.length ≤ 1 := by
      rcases hwt with x | x
      · rw [x.2]; exact Nat.zero_le _
      · rw [x.2]; exact Nat.le_refl _
    simp only [r52_8]
    by_cases hoz : o = 0
    · rw [if_pos hoz, if_pos hoz] at h56
      generalize hd1 : fr d 70 (fu (d 70) 2 q) = e1 at h56
      have x70 : ∀ i, e1 70 i = fu (d 70) 2 q i := fun i => by rw [← hd1, fr_same]
      have xo : ∀ a, ¬ a = 70 → e1 a = d a := fun a ha => by rw [← hd1, fr_ne ha]
      have hD1 : LD e1 g N q m z T := ⟨by rw [xo 27 (by omega)]; exact d27, by rw [x70, fu_ne (by omega)]; exact d1, by rw [x70, fu_same], by rw [x70, fu_ne (by omega)]; exact d4, by rw [x70, fu_ne (by omega)]; exact d8, by rw [x70, fu_ne (by omega)]; exact d9, by rw [xo 71 (by omega)]; exact dT⟩
      have hL1 : LQ d e1 (z + T.length) := LQ.of70 xo (by rw [x70, fu_ne (by omega)]) (by rw [x70, fu_ne (by omega)]) (by rw [x70, fu_ne (by omega)])
      generalize hw : wop (byt g N q) = w at hW hE
      have h57 := fun Q => c57 (c := e1) (n := n) (Q := Q) (N := N) (p := q) (q := q) (o := w) hR (by rw [hD1.1]; exact hTP) hD1.2.1 hD1.2.2.1 (by omega) (by rw [hD1.1]; exact hsq) (by rw [hD1.1]; exact hw)
      by_cases hwz : w = 0
      · rw [if_pos hwz, if_pos hwz] at h57
        have e5 : fr e1 70 (fu (e1 70) 2 q) = e1 := by rw [← hD1.2.2.1, fu_id, fr_id]
        rw [e5] at h57
        obtain ⟨q1, q2, q3, q4⟩ := hE hoz hwz
        repeat' (first | (simp (disch := first | omega | exact Nat.le_of_ble_eq_true rfl | exact rfl | assumption | (simp (disch := omega) only [fr_ne, fr_same]; first | assumption | omega)) only [r52_0, r52_1, v52_1_2, r52_4, r52_5r, r52_6, r52_7i, r52_9, r52_15, r52_16, r52_22, r52_23, v52_23_2, r52_26i, r52_27, r52_31, r52_32, v52_32_2, r52_35, r52_38, r52_39i, r52_41, r52_45, r52_46, v52_46_2, r52_49, r52_50, r52_51, v52_51_2, r52_54, r52_57, r52_62, r52_63, r52_64, v52_64_2, r52_67, r52_69r, r52_70, r52_71, v52_71_2, r52_74i, r52_77, r52_80, r52_81, r52_82, v52_82_2, r52_85, g2_46_0, g2_46_2, o0_len, o0_g4, o2_len, o2_g4, il_s, bl_s, bl_z, ll_s, is_s, bs_s, bs_z, ls_s, al_s, al_b, al_l, fr_ne, fr_same, fr_fr, Nat.reduceEqDiff, tc_gf3_s, tc_ql2_s, tc_ws_0, tc_ws_i, tc_ws_l, tc_ws_r, Nat.reduceLeDiff, Nat.reduceAdd, Nat.reduceLT, true_and, and_true, if_true, if_false, tc_K, Option.toList_some, Option.toList_none, List.nil_append, List.cons_append, ite_true, ite_false, Int.cast_ofNat_Int, reduceIte, i3_add_eq, i3_sub_eq, Int.add_sub_cancel, Int.add_neg_cancel_right, hO hL70 h70, d4, h56, h57]) | (simp only [r52_12, r52_19, r52_28, r52_42, r52_59, i6_lt0, i6_0lt, i6_0le, i6_le0, i6_eq0, b10_0, ite_not, Int.reduceLT, Int.reduceLE, Int.reduceEq, Int.reduceNeg, if_true, if_false, ite_true, ite_false, reduceIte, eq_self, not_true, not_false_eq_true]; try refine tc_ite (fun _ => ?_) (fun _ => ?_) <;> try (exfalso; omega)))
        all_goals try omega
        refine c52_e (ls := []) hR hD1 hwt (by omega) ?_
        intro e g1 g2
        repeat' (first | (simp (disch := first | omega | exact Nat.le_of_ble_eq_true rfl | exact rfl | assumption | (simp (disch := omega) only [fr_ne, fr_same]; first | assumption | omega)) only [r52_0, r52_1, v52_1_2, r52_4, r52_5r, r52_6, r52_7i, r52_9, r52_15, r52_16, r52_22, r52_23, v52_23_2, r52_26i, r52_27, r52_31, r52_32, v52_32_2, r52_35, r52_38, r52_39i, r52_41, r52_45, r52_46, v52_46_2, r52_49, r52_50, r52_51, v52_51_2, r52_54, r52_57, r52_62, r52_63, r52_64, v52_64_2, r52_67, r52_69r, r52_70, r52_71, v52_71_2, r52_74i, r52_77, r52_80, r52_81, r52_82, v52_82_2, r52_85, g2_46_0, g2_46_2, o0_len, o0_g4, o2_len, o2_g4, il_s, bl_s, bl_z, ll_s, is_s, bs_s, bs_z, ls_s, al_s, al_b, al_l, fr_ne, fr_same, fr_fr, Nat.reduceEqDiff, tc_gf3_s, tc_ql2_s, tc_ws_0, tc_ws_i, tc_ws_l, tc_ws_r, Nat.reduceLeDiff, Nat.reduceAdd, Nat.reduceLT, true_and, and_true, if_true, if_false, tc_K, Option.toList_some, Option.toList_none, List.nil_append, List.cons_append, ite_true, ite_false, Int.cast_ofNat_Int, reduceIte, i3_add_eq, i3_sub_eq, Int.add_sub_cancel, Int.add_neg_cancel_right]) | (simp only [r52_12, r52_19, r52_28, r52_42, r52_59, i6_lt0, i6_0lt, i6_0le, i6_le0, i6_eq0, b10_0, ite_not, Int.reduceLT, Int.reduceLE, Int.reduceEq, Int.reduceNeg, if_true, if_false, ite_true, ite_false, reduceIte, eq_self, not_true, not_false_eq_true]; try refine tc_ite (fun _ => ?_) (fun _ => ?_) <;> try (exfalso; omega)))
        refine hq e ((hLQ.trans hL1 hZ).trans g1 hZ) ⟨by rw [g2.2.2.1]; omega, by rw [g2.2.2.2.2.2.1]; omega⟩ (by rw [g2.2.2.2.1, q1]) fun _ => ?_
        rw [q2, q3, q4]
        exact g2
      · rw [if_neg hwz, if_neg hwz] at h57
        have hlt := wop_lt (g := g) (N := N) (p := q) (by omega)
        have hwk := wop_k (b := byt g N q) (by omega)
        rw [hw] at hwk
        generalize hd2 : fr e1 70 (fu (e1 70) 2 (q + 1)) = e2 at h57
        have y70 : ∀ i, e2 70 i = fu (e1 70) 2 (q + 1) i := fun i => by rw [← hd2, fr_same]
        have yo : ∀ a, ¬ a = 70 → e2 a = e1 a := fun a ha => by rw [← hd2, fr_ne ha]
        have hD2 : LD e2 g N (q + 1) m z T := ⟨by rw [yo 27 (by omega)]; exact hD1.1, by rw [y70, fu_ne (by omega)]; exact hD1.2.1, by rw [y70, fu_same], by rw [y70, fu_ne (by omega)]; exact hD1.2.2.2.1, by rw [y70, fu_ne (by omega)]; exact hD1.2.2.2.2.1, by rw [y70, fu_ne (by omega)]; exact hD1.2.2.2.2.2.1, by rw [yo 71 (by omega)]; exact hD1.2.2.2.2.2.2⟩
        have hL2 : LQ e1 e2 (z + T.length) := LQ.of70 yo (by rw [y70, fu_ne (by omega)]) (by rw [y70, fu_ne (by omega)]) (by rw [y70, fu_ne (by omega)])
        have hnz : ¬ -8 - w = 0 := by omega
        generalize hcw : -8 - w = cw at h57 hnz
        repeat' (first | (simp (disch := first | omega | exact Nat.le_of_ble_eq_true rfl | exact rfl | assumption | (simp (disch := omega) only [fr_ne, fr_same]; first | assumption | omega)) only [r52_0, r52_1, v52_1_2, r52_4, r52_5r, r52_6, r52_7i, r52_9, r52_15, r52_16, r52_22, r52_23, v52_23_2, r52_26i, r52_27, r52_31, r52_32, v52_32_2, r52_35, r52_38, r52_39i, r52_41, r52_45, r52_46, v52_46_2, r52_49, r52_50, r52_51, v52_51_2, r52_54, r52_57, r52_62, r52_63, r52_64, v52_64_2, r52_67, r52_69r, r52_70, r52_71, v52_71_2, r52_74i, r52_77, r52_80, r52_81, r52_82, v52_82_2, r52_85, g2_46_0, g2_46_2, o0_len, o0_g4, o2_len, o2_g4, il_s, bl_s, bl_z, ll_s, is_s, bs_s, bs_z, ls_s, al_s, al_b, al_l, fr_ne, fr_same, fr_fr, Nat.reduceEqDiff, tc_gf3_s, tc_ql2_s, tc_ws_0, tc_ws_i, tc_ws_l, tc_ws_r, Nat.reduceLeDiff, Nat.reduceAdd, Nat.reduceLT, true_and, and_true, if_true, if_false, tc_K, Option.toList_some, Option.toList_none, List.nil_append, List.cons_append, ite_true, ite_false, Int.cast_ofNat_Int, reduceIte, i3_add_eq, i3_sub_eq, Int.add_sub_cancel, Int.add_neg_cancel_right, hO hL70 h70, d4, h56, h57]) | (simp only [r52_12, r52_19, r52_28, r52_42, r52_59, i6_lt0, i6_0lt, i6_0le, i6_le0, i6_eq0, b10_0, ite_not, Int.reduceLT, Int.reduceLE, Int.reduceEq, Int.reduceNeg, if_true, if_false, ite_true, ite_false, reduceIte, eq_self, not_true, not_false_eq_true]; try refine tc_ite (fun _ => ?_) (fun _ => ?_) <;> try (exfalso; omega)))
        all_goals try omega
        refine c52_e (ls := []) hR hD2 hwt (by omega) ?_
        intro e3 g1 g2
        have hL3 := (((hLQ.trans hL1 hZ).trans hL2 hZ).trans g1 hZ)
        repeat' (first | (simp (disch := first | omega | exact Nat.le_of_ble_eq_true rfl | exact rfl | assumption | (simp (disch := omega) only [fr_ne, fr_same]; first | assumption | omega)) only [r52_0, r52_1, v52_1_2, r52_4, r52_5r, r52_6, r52_7i, r52_9, r52_15, r52_16, r52_22, r52_23, v52_23_2, r52_26i, r52_27, r52_31, r52_32, v52_32_2, r52_35, r52_38, r52_39i, r52_41, r52_45, r52_46, v52_46_2, r52_49, r52_50, r52_51, v52_51_2, r52_54, r52_57, r52_62, r52_63, r52_64, v52_64_2, r52_67, r52_69r, r52_70, r52_71, v52_71_2, r52_74i, r52_77, r52_80, r52_81, r52_82, v52_82_2, r52_85, g2_46_0, g2_46_2, o0_len, o0_g4, o2_len, o2_g4, il_s, bl_s, bl_z, ll_s, is_s, bs_s, bs_z, ls_s, al_s, al_b, al_l, fr_ne, fr_same, fr_fr, Nat.reduceEqDiff, tc_gf3_s, tc_ql2_s, tc_ws_0, tc_ws_i, tc_ws_l, tc_ws_r, Nat.reduceLeDiff, Nat.reduceAdd, Nat.reduceLT, true_and, and_true, if_true, if_false, tc_K, Option.toList_some, Option.toList_none, List.nil_append, List.cons_append, ite_true, ite_false, Int.cast_ofNat_Int, reduceIte, i3_add_eq, i3_sub_eq, Int.add_sub_cancel, Int.add_neg_cancel_right, hO hL70 h70]) | (simp only [r52_12, r52_19, r52_28, r52_42, r52_59, i6_lt0, i6_0lt, i6_0le, i6_le0, i6_eq0, b10_0, ite_not, Int.reduceLT, Int.reduceLE, Int.reduceEq, Int.reduceNeg, if_true, if_false, ite_true, ite_false, reduceIte, eq_self, not_true, not_false_eq_true]; try refine tc_ite (fun _ => ?_) (fun _ => ?_) <;> try (exfalso; omega)))
        rcases hv : vlf g N (q + 1) m (T ++ W) with ⟨f1, p1, m1, T1⟩
        have hlen : (((T ++ W).length : Nat) : Int) = T.length + W.length := by rw [List.length_append]; omega
        obtain ⟨k1, k2⟩ := hW hoz w rfl hwz f1 p1 m1 T1 hv
        refine c53 hR (hST e3 fun a ha => hL3.1 a (by omega) (by omega)) hTP g2 (by omega) ⟨hm1, hm2⟩ ⟨hz0, by rw [hlen]; omega⟩ hv ?_
        intro e4 j1 j2 j3 j4
        have hL4 := hL3.trans j1 (by rw [hlen]; omega)
        by_cases hf1 : f1 = 0
        · repeat' (first | (simp (disch := first | omega | exact Nat.le_of_ble_eq_true rfl | exact rfl | assumption | (simp (disch := omega) only [fr_ne, fr_same]; first | assumption | omega)) only [r52_0, r52_1, v52_1_2, r52_4, r52_5r, r52_6, r52_7i, r52_9, r52_15, r52_16, r52_22, r52_23, v52_23_2, r52_26i, r52_27, r52_31, r52_32, v52_32_2, r52_35, r52_38, r52_39i, r52_41, r52_45, r52_46, v52_46_2, r52_49, r52_50, r52_51, v52_51_2, r52_54, r52_57, r52_62, r52_63, r52_64, v52_64_2, r52_67, r52_69r, r52_70, r52_71, v52_71_2, r52_74i, r52_77, r52_80, r52_81, r52_82, v52_82_2, r52_85, g2_46_0, g2_46_2, o0_len, o0_g4, o2_len, o2_g4, il_s, bl_s, bl_z, ll_s, is_s, bs_s, bs_z, ls_s, al_s, al_b, al_l, fr_ne, fr_same, fr_fr, Nat.reduceEqDiff, tc_gf3_s, tc_ql2_s, tc_ws_0, tc_ws_i, tc_ws_l, tc_ws_r, Nat.reduceLeDiff, Nat.reduceAdd, Nat.reduceLT, true_and, and_true, if_true, if_false, tc_K, Option.toList_some, Option.toList_none, List.nil_append, List.cons_append, ite_true, ite_false, Int.cast_ofNat_Int, reduceIte, i3_add_eq, i3_sub_eq, Int.add_sub_cancel, Int.add_neg_cancel_right]) | (simp only [r52_12, r52_19, r52_28, r52_42, r52_59, i6_lt0, i6_0lt, i6_0le, i6_le0, i6_eq0, b10_0, ite_not, Int.reduceLT, Int.reduceLE, Int.reduceEq, Int.reduceNeg, if_true, if_false, ite_true, ite_false, reduceIte, eq_self, not_true, not_false_eq_true]; try refine tc_ite (fun _ => ?_) (fun _ => ?_) <;> try (exfalso; omega)))
          rw [hcw] at k2
          exact k2 hf1 e4 _ _ (j4 hf1) hL4
        · repeat' (first | (simp (disch := first | omega | exact Nat.le_of_ble_eq_true rfl | exact rfl | assumption | (simp (disch := omega) only [fr_ne, fr_same]; first | assumption | omega)) only [r52_0, r52_1, v52_1_2, r52_4, r52_5r, r52_6, r52_7i, r52_9, r52_15, r52_16, r52_22, r52_23, v52_23_2, r52_26i, r52_27, r52_31, r52_32, v52_32_2, r52_35, r52_38, r52_39i, r52_41, r52_45, r52_46, v52_46_2, r52_49, r52_50, r52_51, v52_51_2, r52_54, r52_57, r52_62, r52_63, r52_64, v52_64_2, r52_67, r52_69r, r52_70, r52_71, v52_71_2, r52_74i, r52_77, r52_80, r52_81, r52_82, v52_82_2, r52_85, g2_46_0, g2_46_2, o0_len, o0_g4, o2_len, o2_g4, il_s, bl_s, bl_z, ll_s, is_s, bs_s, bs_z, ls_s, al_s, al_b, al_l, fr_ne, fr_same, fr_fr, Nat.reduceEqDiff, tc_gf3_s, tc_ql2_s, tc_ws_0, tc_ws_i, tc_ws_l, tc_ws_r, Nat.reduceLeDiff, Nat.reduceAdd, Nat.reduceLT, true_and, and_true, if_true, if_false, tc_K, Option.toList_some, Option.toList_none, List.nil_append, List.cons_append, ite_true, ite_false, Int.cast_ofNat_Int, reduceIte, i3_add_eq, i3_sub_eq, Int.add_sub_cancel, Int.add_neg_cancel_right]) | (simp only [r52_12, r52_19, r52_28, r52_42, r52_59, i6_lt0, i6_0lt, i6_0le, i6_le0, i6_eq0, b10_0, ite_not, Int.reduceLT, Int.reduceLE, Int.reduceEq, Int.reduceNeg, if_true, if_false, ite_true, ite_false, reduceIte, eq_self, not_true, not_false_eq_true]; try refine tc_ite (fun _ => ?_) (fun _ => ?_) <;> try (exfalso; omega)))
          have hff := k1 hf1
          exact c52_x hR j3 hf1 (hq e4 hL4 j2 (by rw [j3]; exact hff) fun x => absurd (hff.trans x) hf1)
    · rw [if_neg hoz, if_neg hoz] at h56
      have hlt := sop_lt (g := g) (N := N) (p := q) (by omega)
      have hok := sop_k (b := byt g N q) (by omega)
      rw [ho] at hok
      generalize hd1 : fr d 70 (fu (d 70) 2 (q + 1)) = e1 at h56
      have x70 : ∀ i, e1 70 i = fu (d 70) 2 (q + 1) i := fun i => by rw [← hd1, fr_same]
      have xo : ∀ a, ¬ a = 70 → e1 a = d a := fun a ha => by rw [← hd1, fr_ne ha]
      have hD1 : LD e1 g N (q + 1) m z T := ⟨by rw [xo 27 (by omega)]; exact d27, by rw [x70, fu_ne (by omega)]; exact d1, by rw [x70, fu_same], by rw [x70, fu_ne (by omega)]; exact d4, by rw [x70, fu_ne (by omega)]; exact d8, by rw [x70, fu_ne (by omega)]; exact d9, by rw [xo 71 (by omega)]; exact dT⟩
      have hL1 : LQ d e1 (z + T.length) := LQ.of70 xo (by rw [x70, fu_ne (by omega)]) (by rw [x70, fu_ne (by omega)]) (by rw [x70, fu_ne (by omega)])
      have hnz : ¬ 1 - o = 0 := by omega
      have hct : ctk (1 - o) = (o, 0) := by
        rcases hok with rfl | rfl | rfl <;> decide
      generalize hcw : 1 - o = cw at h56 hnz hct
      repeat' (first | (simp (disch := first | omega | exact Nat.le_of_ble_eq_true rfl | exact rfl | assumption | (simp (disch := omega) only [fr_ne, fr_same]; first | assumption | omega)) only [r52_0, r52_1, v52_1_2, r52_4, r52_5r, r52_6, r52_7i, r52_9, r52_15, r52_16, r52_22, r52_23, v52_23_2, r52_26i, r52_27, r52_31, r52_32, v52_32_2, r52_35, r52_38, r52_39i, r52_41, r52_45, r52_46, v52_46_2, r52_49, r52_50, r52_51, v52_51_2, r52_54, r52_57, r52_62, r52_63, r52_64, v52_64_2, r52_67, r52_69r, r52_70, r52_71, v52_71_2, r52_74i, r52_77, r52_80, r52_81, r52_82, v52_82_2, r52_85, g2_46_0, g2_46_2, o0_len, o0_g4, o2_len, o2_g4, il_s, bl_s, bl_z, ll_s, is_s, bs_s, bs_z, ls_s, al_s, al_b, al_l, fr_ne, fr_same, fr_fr, Nat.reduceEqDiff, tc_gf3_s, tc_ql2_s, tc_ws_0, tc_ws_i, tc_ws_l, tc_ws_r, Nat.reduceLeDiff, Nat.reduceAdd, Nat.reduceLT, true_and, and_true, if_true, if_false, tc_K, Option.toList_some, Option.toList_none, List.nil_append, List.cons_append, ite_true, ite_false, Int.cast_ofNat_Int, reduceIte, i3_add_eq, i3_sub_eq, Int.add_sub_cancel, Int.add_neg_cancel_right, hO hL70 h70, d4, h56]) | (simp only [r52_12, r52_19, r52_28, r52_42, r52_59, i6_lt0, i6_0lt, i6_0le, i6_le0, i6_eq0, b10_0, ite_not, Int.reduceLT, Int.reduceLE, Int.reduceEq, Int.reduceNeg, if_true, if_false, ite_true, ite_false, reduceIte, eq_self, not_true, not_false_eq_true]; try refine tc_ite (fun _ => ?_) (fun _ => ?_) <;> try (exfalso; omega)))
      all_goals try omega
      rcases hv : vlf g N (q + 1) m T with ⟨f1, p1, m1, T1⟩
      obtain ⟨k1, k2⟩ := hS o rfl hoz f1 p1 m1 T1 hv
      have hL1c := hLQ.trans hL1 hZ
      refine c53 hR (hST e1 fun a ha => hL1c.1 a (by omega) (by omega)) hTP hD1 (by omega) ⟨hm1, hm2⟩ ⟨hz0, by omega⟩ hv ?_
      intro e4 j1 j2 j3 j4
      have hL4 := hL1c.trans j1 hZ
      by_cases hf1 : f1 = 0
      · have hVG := vlf_g (by rw [← hf1]; exact hv) (by omega) [] []
        obtain ⟨v1, v2, v3, _, _, v6⟩ := hVG
        repeat' (first | (simp (disch := first | omega | exact Nat.le_of_ble_eq_true rfl | exact rfl | assumption | (simp (disch := omega) only [fr_ne, fr_same]; first | assumption | omega)) only [r52_0, r52_1, v52_1_2, r52_4, r52_5r, r52_6, r52_7i, r52_9, r52_15, r52_16, r52_22, r52_23, v52_23_2, r52_26i, r52_27, r52_31, r52_32, v52_32_2, r52_35, r52_38, r52_39i, r52_41, r52_45, r52_46, v52_46_2, r52_49, r52_50, r52_51, v52_51_2, r52_54, r52_57, r52_62, r52_63, r52_64, v52_64_2, r52_67, r52_69r, r52_70, r52_71, v52_71_2, r52_74i, r52_77, r52_80, r52_81, r52_82, v52_82_2, r52_85, g2_46_0, g2_46_2, o0_len, o0_g4, o2_len, o2_g4, il_s, bl_s, bl_z, ll_s, is_s, bs_s, bs_z, ls_s, al_s, al_b, al_l, fr_ne, fr_same, fr_fr, Nat.reduceEqDiff, tc_gf3_s, tc_ql2_s, tc_ws_0, tc_ws_i, tc_ws_l, tc_ws_r, Nat.reduceLeDiff, Nat.reduceAdd, Nat.reduceLT, true_and, and_true, if_true, if_false, tc_K, Option.toList_some, Option.toList_none, List.nil_append, List.cons_append, ite_true, ite_false, Int.cast_ofNat_Int, reduceIte, i3_add_eq, i3_sub_eq, Int.add_sub_cancel, Int.add_neg_cancel_right, hO hL70 h70]) | (simp only [r52_12, r52_19, r52_28, r52_42, r52_59, i6_lt0, i6_0lt, i6_0le, i6_le0, i6_eq0, b10_0, ite_not, Int.reduceLT, Int.reduceLE, Int.reduceEq, Int.reduceNeg, if_true, if_false, ite_true, ite_false, reduceIte, eq_self, not_true, not_false_eq_true]; try refine tc_ite (fun _ => ?_) (fun _ => ?_) <;> try (exfalso; omega)))
        refine c58 hR (j4 hf1) hct hnz (by omega) ?_
        intro e5 i1 i2
        repeat' (first | (simp (disch := first | omega | exact Nat.le_of_ble_eq_true rfl | exact rfl | assumption | (simp (disch := omega) only [fr_ne, fr_same]; first | assumption | omega)) only [r52_0, r52_1, v52_1_2, r52_4, r52_5r, r52_6, r52_7i, r52_9, r52_15, r52_16, r52_22, r52_23, v52_23_2, r52_26i, r52_27, r52_31, r52_32, v52_32_2, r52_35, r52_38, r52_39i, r52_41, r52_45, r52_46, v52_46_2, r52_49, r52_50, r52_51, v52_51_2, r52_54, r52_57, r52_62, r52_63, r52_64, v52_64_2, r52_67, r52_69r, r52_70, r52_71, v52_71_2, r52_74i, r52_77, r52_80, r52_81, r52_82, v52_82_2, r52_85, g2_46_0, g2_46_2, o0_len, o0_g4, o2_len, o2_g4, il_s, bl_s, bl_z, ll_s, is_s, bs_s, bs_z, ls_s, al_s, al_b, al_l, fr_ne, fr_same, fr_fr, Nat.reduceEqDiff, tc_gf3_s, tc_ql2_s, tc_ws_0, tc_ws_i, tc_ws_l, tc_ws_r, Nat.reduceLeDiff, Nat.reduceAdd, Nat.reduceLT, true_and, and_true, if_true, if_false, tc_K, Option.toList_some, Option.toList_none, List.nil_append, List.cons_append, ite_true, ite_false, Int.cast_ofNat_Int, reduceIte, i3_add_eq, i3_sub_eq, Int.add_sub_cancel, Int.add_neg_cancel_right]) | (simp only [r52_12, r52_19, r52_28, r52_42, r52_59, i6_lt0, i6_0lt, i6_0le, i6_le0, i6_eq0, b10_0, ite_not, Int.reduceLT, Int.reduceLE, Int.reduceEq, Int.reduceNeg, if_true, if_false, ite_true, ite_false, reduceIte, eq_self, not_true, not_false_eq_true]; try refine tc_ite (fun _ => ?_) (fun _ => ?_) <;> try (exfalso; omega)))
        exact k2 hf1 e5 _ _ i1 (hL4.trans i2 (by omega))
      · have h58 := fun st n Q => c58f (c := e4) (n := n) (Q := Q) (st := st) hR j3 hf1
        repeat' (first | (simp (disch := first | omega | exact Nat.le_of_ble_eq_true rfl | exact rfl | assumption | (simp (disch := omega) only [fr_ne, fr_same]; first | assumption | omega)) only [r52_0, r52_1, v52_1_2, r52_4, r52_5r, r52_6, r52_7i, r52_9, r52_15, r52_16, r52_22, r52_23, v52_23_2, r52_26i, r52_27, r52_31, r52_32, v52_32_2, r52_35, r52_38, r52_39i, r52_41, r52_45, r52_46, v52_46_2, r52_49, r52_50, r52_51, v52_51_2, r52_54, r52_57, r52_62, r52_63, r52_64, v52_64_2, r52_67, r52_69r, r52_70, r52_71, v52_71_2, r52_74i, r52_77, r52_80, r52_81, r52_82, v52_82_2, r52_85, g2_46_0, g2_46_2, o0_len, o0_g4, o2_len, o2_g4, il_s, bl_s, bl_z, ll_s, is_s, bs_s, bs_z, ls_s, al_s, al_b, al_l, fr_ne, fr_same, fr_fr, Nat.reduceEqDiff, tc_gf3_s, tc_ql2_s, tc_ws_0, tc_ws_i, tc_ws_l, tc_ws_r, Nat.reduceLeDiff, Nat.reduceAdd, Nat.reduceLT, true_and, and_true, if_true, if_false, tc_K, Option.toList_some, Option.toList_none, List.nil_append, List.cons_append, ite_true, ite_false, Int.cast_ofNat_Int, reduceIte, i3_add_eq, i3_sub_eq, Int.add_sub_cancel, Int.add_neg_cancel_right, hO hL70 h70, h58]) | (simp only [r52_12, r52_19, r52_28, r52_42, r52_59, i6_lt0, i6_0lt, i6_0le, i6_le0, i6_eq0, b10_0, ite_not, Int.reduceLT, Int.reduceLE, Int.reduceEq, Int.reduceNeg, if_true, if_false, ite_true, ite_false, reduceIte, eq_self, not_true, not_false_eq_true]; try refine tc_ite (fun _ => ?_) (fun _ => ?_) <;> try (exfalso; omega)))
        have hff := k1 hf1
        exact c52_x hR j3 hf1 (hq e4 hL4 j2 (by rw [j3]; exact hff) fun x => absurd (hff.trans x) hf1)
  have hend : ∀ (kt ks : Nat) (p m : Int) (T W : List Tk), sop (byt g N (sk g N p)) = 0 → wop (byt g N (sk g N p)) = 0 → rst g N kt ks p m T W = (f, p', m', T') → f = 0 ∧ p' = sk g N p ∧ m' = m ∧ T' = T ++ W := by
    intro kt ks p m T W h1 h2 hr
    rw [rst_st (tml_end h1), if_neg (fun x => x rfl), sml_end h2] at hr
    obtain ⟨e1, e2, e3, e4⟩ := prL hr
    exact ⟨e1.symm, e2.symm, e3.symm, e4.symm⟩
  intro ks
  induction ks with
  | zero =>
    intro kt p m i wt T W d a3 a4 hD hLQ hZ hp1 hp2 hm1 hm2 hkt hks hi1 hi2 hwt hz hr
    have hs := nm_rng (g := g) (p := p) (N := N) ⟨hp1, hp2⟩
    have hkr := sk_rng (g := g) (n := N) (p := p)
    have hpN : N ≤ sk g N p := by omega
    refine turn p m i wt T W d a3 a4 hD hLQ hZ hp1 hp2 hm1 hm2 hi1 hi2 hwt hz (fun o ho hn => ?_) (fun _ o ho hn => ?_) (fun h1 h2 => hend _ _ _ _ _ _ h1 h2 hr)
    · rw [sop_hi hpN] at ho
      exact absurd ho.symm hn
    · rw [wop_hi hpN] at ho
      exact absurd ho.symm hn
  | succ ks ihs =>
    intro kt
    induction kt with
    | zero =>
      intro p m i wt T W d a3 a4 hD hLQ hZ hp1 hp2 hm1 hm2 hkt hks hi1 hi2 hwt hz hr
      have hs := nm_rng (g := g) (p := p) (N := N) ⟨hp1, hp2⟩
      have hkr := sk_rng (g := g) (n := N) (p := p)
      have hpN : N ≤ sk g N p := by omega
      refine turn p m i wt T W d a3 a4 hD hLQ hZ hp1 hp2 hm1 hm2 hi1 hi2 hwt hz (fun o ho hn => ?_) (fun _ o ho hn => ?_) (fun h1 h2 => hend _ _ _ _ _ _ h1 h2 hr)
      · rw [sop_hi hpN] at ho
        exact absurd ho.symm hn
      · rw [wop_hi hpN] at ho
        exact absurd ho.symm hn
    | succ kt iht =>
      intro p m i wt T W d a3 a4 hD hLQ hZ hp1 hp2 hm1 hm2 hkt hks hi1 hi2 hwt hz hr
      have hs := nm_rng (g := g) (p := p) (N := N) ⟨hp1, hp2⟩
      have hkr := sk_rng (g := g) (n := N) (p := p)
      refine turn p m i wt T W d a3 a4 hD hLQ hZ hp1 hp2 hm1 hm2 hi1 hi2 hwt hz (fun o ho hn f1 p1 m1 T1 hv => ?_) (fun h0 o ho hn f1 p1 m1 T1 hv => ?_) (fun h1 h2 => hend _ _ _ _ _ _ h1 h2 hr)
      · have hlt := sop_lt (g := g) (N := N) (p := sk g N p) (by omega)
        have htm := tml_st (k := kt) ho hn hv
        refine ⟨fun hf1 => ?_, fun hf1 e a3 a4 g1 g2 => ?_⟩
        · rw [if_pos hf1] at htm
          rw [rst_st htm, if_pos hf1] at hr
          exact (prL hr).1
        · subst hf1
          rw [if_neg (fun x => x rfl)] at htm
          rw [rst_eq htm] at hr
          obtain ⟨v1, v2, v3, _, _, v6⟩ := vlf_g hv (by omega) [] []
          have hl := len_app (t := (o, 0)) (T := T1)
          exact iht p1 m1 (i + 1) wt (T1 ++ [(o, 0)]) W e a3 a4 g1 g2 (by omega) (by omega) (by omega) (by omega) (by omega) (by omega) (by omega) (by omega) (by omega) hwt (by omega) hr
      · have hlt := wop_lt (g := g) (N := N) (p := sk g N p) (by omega)
        rw [rst_st (tml_end h0), if_neg (fun x => x rfl)] at hr
        have htr := trm_st (k := ks) hv
        have hlen : (((T ++ W).length : Nat) : Int) = T.length + W.length := by rw [List.length_append]; omega
        refine ⟨fun hf1 => ?_, fun hf1 e a3 a4 g1 g2 => ?_⟩
        · rw [if_pos hf1] at htr
          rw [sml_st ho hn htr, if_pos hf1] at hr
          exact (prL hr).1
        · subst hf1
          rw [if_neg (fun x => x rfl)] at htr
          obtain ⟨v1, v2, v3, _, _, v6⟩ := vlf_g hv (by omega) [] []
          have hwk := wop_k (b := byt g N (sk g N p)) (by omega)
          rw [ho] at hwk
          have hct : ctk (-8 - o) = (o, 0) := by
            rcases hwk with rfl | rfl <;> decide
          have hr2 : rst g N ks ks p1 m1 T1 [(o, 0)] = (f, p', m', T') := by
            rcases htm : tml g N ks p1 m1 T1 with ⟨f2, p2, m2, T2⟩
            rw [htm] at htr
            rw [sml_st ho hn htr] at hr
            rw [rst_st htm]
            exact hr
          exact ihs ks p1 m1 (i + 1) (-8 - o) T1 [(o, 0)] e a3 a4 g1 g2 (by omega) (by omega) (by omega) (by omega) (by omega) (by omega) (by omega) (by omega) (by omega) (Or.inr ⟨by omega, by rw [hct]⟩) (by show 3 * (z + (T1.length : Int) + ((1 : Nat) : Int)) ≤ _; omega) hr2
theorem c52 (hR : LRd L sh) (hST : STRS sh c) (hTP : TP g N) (hD : LD c g N p m z T) (hp0 : 0 ≤ p ∧ p ≤ N) (hm : 0 ≤ m ∧ m ≤ 60) (hz : 0 ≤ z ∧ 3 * (z + T.length) ≤ 7 * m + p) {k : Nat} (hk : N - p ≤ k) (hb : smf g N k p m T = (f, p', m', T'))
    (hq : ∀ e, LQ c e (z + T.length) → RG e N → e 70 4 = f → (f = 0 → LD e g N p' m' z T') → Q none (hp L sh e) n) : tc_C 52 [rf 70] (hp L sh c) n Q := by
  obtain ⟨hL, h70, h27, h71, h72, h73⟩ := id hR
  have hL70 : 70 < L := by omega
  have hN := hTP.1
  have hST2 : ∀ d, (∀ a, a < 25 → d a = c a) → STRS sh d := fun d hd a ha => ⟨(hST a ha).1, by rw [hd a ha]; exact (hST a ha).2⟩
  rcases hv : vlf g N p m T with ⟨f1, p1, m1, T1⟩
  have htr := trm_st (k := k) hv
  show tc_W 52 0 [rf 70, tc_nil, tc_nil, tc_nil, tc_nil] [] _ _ Q
  repeat' (first | (simp (disch := first | omega | exact Nat.le_of_ble_eq_true rfl | exact rfl | assumption | (simp (disch := omega) only [fr_ne, fr_same]; first | assumption | omega)) only [r52_0, r52_1, v52_1_2, r52_4, r52_5r, r52_6, r52_7i, r52_9, r52_15, r52_16, r52_22, r52_23, v52_23_2, r52_26i, r52_27, r52_31, r52_32, v52_32_2, r52_35, r52_38, r52_39i, r52_41, r52_45, r52_46, v52_46_2, r52_49, r52_50, r52_51, v52_51_2, r52_54, r52_57, r52_62, r52_63, r52_64, v52_64_2, r52_67, r52_69r, r52_70, r52_71, v52_71_2, r52_74i, r52_77, r52_80, r52_81, r52_82, v52_82_2, r52_85, g2_46_0, g2_46_2, o0_len, o0_g4, o2_len, o2_g4, il_s, bl_s, bl_z, ll_s, is_s, bs_s, bs_z, ls_s, al_s, al_b, al_l, fr_ne, fr_same, fr_fr, Nat.reduceEqDiff, tc_gf3_s, tc_ql2_s, tc_ws_0, tc_ws_i, tc_ws_l, tc_ws_r, Nat.reduceLeDiff, Nat.reduceAdd, Nat.reduceLT, true_and, and_true, if_true, if_false, tc_K, Option.toList_some, Option.toList_none, List.nil_append, List.cons_append, ite_true, ite_false, Int.cast_ofNat_Int, reduceIte, i3_add_eq, i3_sub_eq, Int.add_sub_cancel, Int.add_neg_cancel_right, hO hL70 h70]) | (simp only [r52_12, r52_19, r52_28, r52_42, r52_59, i6_lt0, i6_0lt, i6_0le, i6_le0, i6_eq0, b10_0, ite_not, Int.reduceLT, Int.reduceLE, Int.reduceEq, Int.reduceNeg, if_true, if_false, ite_true, ite_false, reduceIte, eq_self, not_true, not_false_eq_true]; try refine tc_ite (fun _ => ?_) (fun _ => ?_) <;> try (exfalso; omega)))
  refine c53 hR hST hTP hD hp0 hm hz hv ?_
  intro e j1 j2 j3 j4
  by_cases hf1 : f1 = 0
  · subst hf1
    rw [if_neg (fun x => x rfl)] at htr
    obtain ⟨v1, v2, v3, _, _, v6⟩ := vlf_g hv hp0 [] []
    have hr2 : rst g N k k p1 m1 T1 [] = (f, p', m', T') := by
      rcases htm : tml g N k p1 m1 T1 with ⟨f2, p2, m2, T2⟩
      rw [htm] at htr
      unfold smf at hb
      rw [htr] at hb
      rw [rst_st htm, List.append_nil]
      exact hb
    repeat' (first | (simp (disch := first | omega | exact Nat.le_of_ble_eq_true rfl | exact rfl | assumption | (simp (disch := omega) only [fr_ne, fr_same]; first | assumption | omega)) only [r52_0, r52_1, v52_1_2, r52_4, r52_5r, r52_6, r52_7i, r52_9, r52_15, r52_16, r52_22, r52_23, v52_23_2, r52_26i, r52_27, r52_31, r52_32, v52_32_2, r52_35, r52_38, r52_39i, r52_41, r52_45, r52_46, v52_46_2, r52_49, r52_50, r52_51, v52_51_2, r52_54, r52_57, r52_62, r52_63, r52_64, v52_64_2, r52_67, r52_69r, r52_70, r52_71, v52_71_2, r52_74i, r52_77, r52_80, r52_81, r52_82, v52_82_2, r52_85, g2_46_0, g2_46_2, o0_len, o0_g4, o2_len, o2_g4, il_s, bl_s, bl_z, ll_s, is_s, bs_s, bs_z, ls_s, al_s, al_b, al_l, fr_ne, fr_same, fr_fr, Nat.reduceEqDiff, tc_gf3_s, tc_ql2_s, tc_ws_0, tc_ws_i, tc_ws_l, tc_ws_r, Nat.reduceLeDiff, Nat.reduceAdd, Nat.reduceLT, true_and, and_true, if_true, if_false, tc_K, Option.toList_some, Option.toList_none, List.nil_append, List.cons_append, ite_true, ite_false, Int.cast_ofNat_Int, reduceIte, i3_add_eq, i3_sub_eq, Int.add_sub_cancel, Int.add_neg_cancel_right]) | (simp only [r52_12, r52_19, r52_28, r52_42, r52_59, i6_lt0, i6_0lt, i6_0le, i6_le0, i6_eq0, b10_0, ite_not, Int.reduceLT, Int.reduceLE, Int.reduceEq, Int.reduceNeg, if_true, if_false, ite_true, ite_false, reduceIte, eq_self, not_true, not_false_eq_true]; try refine tc_ite (fun _ => ?_) (fun _ => ?_) <;> try (exfalso; omega)))
    exact c52_l (c := c) hR hST2 hTP hq hz.1 k k p1 m1 0 0 T1 [] e tc_nil tc_nil (j4 rfl) j1 (by omega) (by omega) (by omega) (by omega) (by omega) (by omega) (by omega) (by omega) (by omega) (Or.inl ⟨rfl, rfl⟩) (by show 3 * (z + (T1.length : Int) + ((0 : Nat) : Int)) ≤ _; omega) hr2
  · rw [if_pos hf1] at htr
    have hff : f1 = f := by
      unfold smf at hb
      rw [htr] at hb
      dsimp only at hb
      rw [if_pos hf1] at hb
      exact (prL hb).1
    repeat' (first | (simp (disch := first | omega | exact Nat.le_of_ble_eq_true rfl | exact rfl | assumption | (simp (disch := omega) only [fr_ne, fr_same]; first | assumption | omega)) only [r52_0, r52_1, v52_1_2, r52_4, r52_5r, r52_6, r52_7i, r52_9, r52_15, r52_16, r52_22, r52_23, v52_23_2, r52_26i, r52_27, r52_31, r52_32, v52_32_2, r52_35, r52_38, r52_39i, r52_41, r52_45, r52_46, v52_46_2, r52_49, r52_50, r52_51, v52_51_2, r52_54, r52_57, r52_62, r52_63, r52_64, v52_64_2, r52_67, r52_69r, r52_70, r52_71, v52_71_2, r52_74i, r52_77, r52_80, r52_81, r52_82, v52_82_2, r52_85, g2_46_0, g2_46_2, o0_len, o0_g4, o2_len, o2_g4, il_s, bl_s, bl_z, ll_s, is_s, bs_s, bs_z, ls_s, al_s, al_b, al_l, fr_ne, fr_same, fr_fr, Nat.reduceEqDiff, tc_gf3_s, tc_ql2_s, tc_ws_0, tc_ws_i, tc_ws_l, tc_ws_r, Nat.reduceLeDiff, Nat.reduceAdd, Nat.reduceLT, true_and, and_true, if_true, if_false, tc_K, Option.toList_some, Option.toList_none, List.nil_append, List.cons_append, ite_true, ite_false, Int.cast_ofNat_Int, reduceIte, i3_add_eq, i3_sub_eq, Int.add_sub_cancel, Int.add_neg_cancel_right]) | (simp only [r52_12, r52_19, r52_28, r52_42, r52_59, i6_lt0, i6_0lt, i6_0le, i6_le0, i6_eq0, b10_0, ite_not, Int.reduceLT, Int.reduceLE, Int.reduceEq, Int.reduceNeg, if_true, if_false, ite_true, ite_false, reduceIte, eq_self, not_true, not_false_eq_true]; try refine tc_ite (fun _ => ?_) (fun _ => ?_) <;> try (exfalso; omega)))
    exact c52_x hR j3 hf1 (hq e j1 j2 (by rw [j3]; exact hff) fun x => absurd (hff.trans x) hf1)
end LAWE

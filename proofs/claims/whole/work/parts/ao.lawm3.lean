/-! the reference: sums -/
theorem tml_sk {g : Int → Int} {N m : Int} {T : List Tk} : ∀ (k : Nat) (p : Int), tml g N k (sk g N p) m T = tml g N k p m T := by
  intro k p
  cases k with
  | zero =>
    show (0, sk g N (sk g N p), m, T) = (0, sk g N p, m, T)
    rw [sk_2]
  | succ k =>
    show (if sop (byt g N (sk g N (sk g N p))) = 0 then _ else _) = _
    rw [sk_2]
    rfl
section LAWO
variable {L : Nat} {sh : Nat → SH} {c : Nat → Int → Int} {n : Nat} {Q : Option AV → List SC → Nat → Prop} {g : Int → Int} {N p m s z f p' m' F : Int} {T T' : List Tk}
theorem ME.at (h : ME c g N p m s z T) (q : Int) : ME (fr c 75 (fu (c 75) 22 q)) g N q m s z T ∧ ∀ Z, MLQ c (fr c 75 (fu (c 75) 22 q)) Z := by
  obtain ⟨h95, h21, h22, h24, h26, h28, h30, hTT⟩ := h
  exact ⟨⟨by rw [fr_ne (by omega)]; exact h95, by rw [fr_same, fu_ne (by omega)]; exact h21, by rw [fr_same, fu_same], by rw [fr_same, fu_ne (by omega)]; exact h24, by rw [fr_same, fu_ne (by omega)]; exact h26, by rw [fr_same, fu_ne (by omega)]; exact h28, by rw [fr_same, fu_ne (by omega)]; exact h30, hTT⟩, fun Z => MLQ.of75 (fun a ha => fr_ne ha) fun i i1 i2 i3 i4 => by rw [fr_same, fu_ne i1]⟩
theorem STR.q (hST : STRS sh c) {d : Nat → Int → Int} {Z : Int} (h : MLQ c d Z) : STRS sh d := fun a ha => ⟨(hST a ha).1, by rw [h.1 a (by omega) (by omega) (by omega)]; exact (hST a ha).2⟩
/-- an entry behind a fault, or none -/
theorem m194g (hS : MS L sh) {e : Nat → Int → Int} (hE : e 75 23 = 0 → ME e g N p m s z T) {k v : Int} (hs : 0 ≤ s ∧ s ≤ 5) (hz : e 75 23 = 0 → 0 ≤ z ∧ z + T.length < 300) : ∃ e2, (∀ n Q, tc_C 194 [rf 75, .inl k, .inl v] (hp L sh e) n Q = Q none (hp L sh e2) n) ∧ e2 75 23 = e 75 23 ∧ e2 75 22 = e 75 22 ∧ e2 75 28 = e 75 28 ∧ e2 75 21 = e 75 21 ∧ e2 95 = e 95 ∧ (¬ e 75 23 = 0 → e2 = e) ∧ (e 75 23 = 0 → ME e2 g N p m s z (T ++ [(k, v)]) ∧ MLQ e e2 (300 * s + (z + T.length))) := by
  by_cases h : e 75 23 = 0
  · have hM := hE h
    have hpu := (hM.md h).push (k := k) (v := v) (hz h).1
    refine ⟨_, fun n Q => m194 hS h hM.2.2.2.1 hM.2.2.2.2.1 hs (by have := hz h; omega), ?_, ?_, ?_, ?_, ?_, fun x => absurd h x, fun _ => ⟨hpu.1.me ?_, hpu.2⟩⟩
    · rw [fr_same, fu_ne (by omega)]
    · rw [fr_same, fu_ne (by omega)]
    · rw [fr_same, fu_ne (by omega)]
    · rw [fr_same, fu_ne (by omega)]
    · rw [fr_ne (by omega), fr_ne (by omega), fr_ne (by omega)]
    · rw [fr_same, fu_ne (by omega)]
      exact hM.2.2.2.2.2.2.1
  · exact ⟨e, fun n Q => m194f hS rfl h, rfl, rfl, rfl, rfl, rfl, fun _ => rfl, fun x => absurd x h⟩
theorem m191_x (hS : MS L sh) {d : Nat → Int → Int} {a1 : AV} (h23 : ¬ d 75 23 = 0) (hq : Q none (hp L sh d) n) : tc_W 191 8 [rf 75, a1] [] (hp L sh d) n Q := by
  generalize hF : d 75 23 = F at h23
  simp only [r191_8]
  repeat' (first | (simp (disch := first | omega | exact Nat.le_of_ble_eq_true rfl | exact rfl | assumption | (simp only [fr_at, Nat.reduceEqDiff, if_false, if_true, reduceIte]; first | assumption | omega)) only [r191_0, r191_1, v191_1_11, r191_4, r191_5, v191_5_11, r191_9, r191_15, r191_16, v191_16_11, r191_19, r191_24, r191_25, v191_25_11, r191_28, r191_33, r191_34, v191_34_11, r191_37, r191_42, r191_43, v191_43_11, r191_46, r191_51, r191_53, r191_56, r191_57, v191_57_11, r191_60, r191_65, r191_67, r191_70, r191_72r, r191_73, r191_74, r191_74A, r191_75, r191_78, r191_79, r191_80, r191_83, r191_84, v191_84_11, r191_87, r191_88, r191_89, r191_90, v191_90_11, r191_93, r191_94, v191_94_11, r191_97, r191_100, g11_171_11, g11_174_11, p11_174_11, mo_len, ms75 hS, mt75 hS, mo_g23, mo_g22, mo_s22, il_s, bl_s, bl_z, ll_s, is_s, bs_s, bs_z, ls_s, al_s, al_b, al_l, fr_at, fr_fr, Nat.reduceEqDiff, tc_gf3_s, tc_ql2_s, tc_ws_0, tc_ws_i, tc_ws_l, tc_ws_r, Nat.reduceLeDiff, Nat.reduceAdd, Nat.reduceLT, true_and, and_true, if_true, if_false, tc_K, Option.toList_some, Option.toList_none, List.nil_append, List.cons_append, ite_true, ite_false, Int.cast_ofNat_Int, reduceIte, i3_add_eq, i3_sub_eq, Int.add_sub_cancel, Int.add_neg_cancel_right, hF]) | (simp only [r191_12, r191_21, r191_30, r191_39, r191_48, r191_62, i6_lt0, i6_0lt, i6_0le, i6_le0, i6_eq0, b10_0, ite_not, Int.reduceLT, Int.reduceLE, Int.reduceEq, Int.reduceNeg, if_true, if_false, ite_true, ite_false, reduceIte, eq_self, not_true, not_false_eq_true]; try refine tc_ite (fun _ => ?_) (fun _ => ?_) <;> try (exfalso; omega)))
  all_goals first
    | exact hq
    | omega
theorem m191_l (hS : MS L sh) (hST : STRS sh c) (hTP : TP g N) (hs : 0 ≤ s ∧ s ≤ 5) (hz0 : 0 ≤ z) {Z : Int} (hq : ∀ e, MLQ c e Z → RN e N 61 → e 75 23 = f → (f = 0 → ME e g N p' m' s z T') → Q none (hp L sh e) n) : ∀ (k : Nat) (q m : Int) (T : List Tk) (d : Nat → Int → Int) (a1 : AV), ME d g N q m s z T → MLQ c d Z → Z ≤ 300 * s + (z + T.length) → sk g N q = q → d 75 23 = 0 → 0 ≤ q → q ≤ N → 0 ≤ m → m ≤ 60 → N - q ≤ k → 3 * (z + T.length) ≤ 7 * m + q → tml g N k q m T = (f, p', m', T') → tc_W 191 8 [rf 75, a1] [] (hp L sh d) n Q := by
  have hN := hTP.1
  intro k
  induction k with
  | zero =>
    intro q m T d a1 hE hM hZ hsq h23 hq1 hq2 hm1 hm2 hk hz hr
    obtain ⟨h95, h21, h22, h24, h26, h28, h30, hTT⟩ := id hE
    have h172 := fun Q => c172t (c := d) (n := n) (Q := Q) (N := N) (p := q) hS (by rw [h95]; exact hTP) h21 h22 hq1
    have hbt : byt (d 95) N q = -1 := by
      unfold byt
      rw [if_neg (by omega)]
    rw [hbt] at h172
    obtain ⟨e1, e2, e3, e4⟩ := prL hr
    have hq' := hq d hM ⟨by rw [h22]; omega, by rw [h28]; omega⟩ (by rw [h23]; exact e1) (fun _ => by
      rw [← e2, ← e3, ← e4, hsq]
      exact hE)
    simp only [r191_8]
    repeat' (first | (simp (disch := first | omega | exact Nat.le_of_ble_eq_true rfl | exact rfl | assumption | (simp only [fr_at, Nat.reduceEqDiff, if_false, if_true, reduceIte]; first | assumption | omega)) only [r191_0, r191_1, v191_1_11, r191_4, r191_5, v191_5_11, r191_9, r191_15, r191_16, v191_16_11, r191_19, r191_24, r191_25, v191_25_11, r191_28, r191_33, r191_34, v191_34_11, r191_37, r191_42, r191_43, v191_43_11, r191_46, r191_51, r191_53, r191_56, r191_57, v191_57_11, r191_60, r191_65, r191_67, r191_70, r191_72r, r191_73, r191_74, r191_74A, r191_75, r191_78, r191_79, r191_80, r191_83, r191_84, v191_84_11, r191_87, r191_88, r191_89, r191_90, v191_90_11, r191_93, r191_94, v191_94_11, r191_97, r191_100, g11_171_11, g11_174_11, p11_174_11, mo_len, ms75 hS, mt75 hS, mo_g23, mo_g22, mo_s22, il_s, bl_s, bl_z, ll_s, is_s, bs_s, bs_z, ls_s, al_s, al_b, al_l, fr_at, fr_fr, Nat.reduceEqDiff, tc_gf3_s, tc_ql2_s, tc_ws_0, tc_ws_i, tc_ws_l, tc_ws_r, Nat.reduceLeDiff, Nat.reduceAdd, Nat.reduceLT, true_and, and_true, if_true, if_false, tc_K, Option.toList_some, Option.toList_none, List.nil_append, List.cons_append, ite_true, ite_false, Int.cast_ofNat_Int, reduceIte, i3_add_eq, i3_sub_eq, Int.add_sub_cancel, Int.add_neg_cancel_right, h23, h172]) | (simp only [r191_12, r191_21, r191_30, r191_39, r191_48, r191_62, i6_lt0, i6_0lt, i6_0le, i6_le0, i6_eq0, b10_0, ite_not, Int.reduceLT, Int.reduceLE, Int.reduceEq, Int.reduceNeg, if_true, if_false, ite_true, ite_false, reduceIte, eq_self, not_true, not_false_eq_true]; try refine tc_ite (fun _ => ?_) (fun _ => ?_) <;> try (exfalso; omega)))
    all_goals first
      | exact hq'
      | omega
  | succ k ih =>
    intro q m T d a1 hE hM hZ hsq h23 hq1 hq2 hm1 hm2 hk hz hr
    obtain ⟨h95, h21, h22, h24, h26, h28, h30, hTT⟩ := id hE
    have h172 := fun Q => c172t (c := d) (n := n) (Q := Q) (N := N) (p := q) hS (by rw [h95]; exact hTP) h21 h22 hq1
    rw [h95] at h172
    by_cases ho : sop (byt g N q) = 0
    · have hte := tml_end (k := k + 1) (m := m) (T := T) (g := g) (N := N) (p := q) (by rw [hsq]; exact ho)
      rw [hte] at hr
      obtain ⟨e1, e2, e3, e4⟩ := prL hr
      have hq' := hq d hM ⟨by rw [h22]; omega, by rw [h28]; omega⟩ (by rw [h23]; exact e1) (fun _ => by
        rw [← e2, ← e3, ← e4, hsq]
        exact hE)
      have hb : ¬ byt g N q = 42 ∧ ¬ byt g N q = 47 ∧ ¬ byt g N q = 37 := by
        unfold sop at ho
        by_cases x1 : byt g N q = 42
        · rw [if_pos x1] at ho
          omega
        · by_cases x2 : byt g N q = 47
          · rw [if_neg x1, if_pos x2] at ho
            omega
          · by_cases x3 : byt g N q = 37
            · rw [if_neg x1, if_neg x2, if_pos x3] at ho
              omega
            · exact ⟨x1, x2, x3⟩
      generalize byt g N q = b at h172 hb
      simp only [r191_8]
      repeat' (first | (simp (disch := first | omega | exact Nat.le_of_ble_eq_true rfl | exact rfl | assumption | (simp only [fr_at, Nat.reduceEqDiff, if_false, if_true, reduceIte]; first | assumption | omega)) only [r191_0, r191_1, v191_1_11, r191_4, r191_5, v191_5_11, r191_9, r191_15, r191_16, v191_16_11, r191_19, r191_24, r191_25, v191_25_11, r191_28, r191_33, r191_34, v191_34_11, r191_37, r191_42, r191_43, v191_43_11, r191_46, r191_51, r191_53, r191_56, r191_57, v191_57_11, r191_60, r191_65, r191_67, r191_70, r191_72r, r191_73, r191_74, r191_74A, r191_75, r191_78, r191_79, r191_80, r191_83, r191_84, v191_84_11, r191_87, r191_88, r191_89, r191_90, v191_90_11, r191_93, r191_94, v191_94_11, r191_97, r191_100, g11_171_11, g11_174_11, p11_174_11, mo_len, ms75 hS, mt75 hS, mo_g23, mo_g22, mo_s22, il_s, bl_s, bl_z, ll_s, is_s, bs_s, bs_z, ls_s, al_s, al_b, al_l, fr_at, fr_fr, Nat.reduceEqDiff, tc_gf3_s, tc_ql2_s, tc_ws_0, tc_ws_i, tc_ws_l, tc_ws_r, Nat.reduceLeDiff, Nat.reduceAdd, Nat.reduceLT, true_and, and_true, if_true, if_false, tc_K, Option.toList_some, Option.toList_none, List.nil_append, List.cons_append, ite_true, ite_false, Int.cast_ofNat_Int, reduceIte, i3_add_eq, i3_sub_eq, Int.add_sub_cancel, Int.add_neg_cancel_right, h23, h172]) | (simp only [r191_12, r191_21, r191_30, r191_39, r191_48, r191_62, i6_lt0, i6_0lt, i6_0le, i6_le0, i6_eq0, b10_0, ite_not, Int.reduceLT, Int.reduceLE, Int.reduceEq, Int.reduceNeg, if_true, if_false, ite_true, ite_false, reduceIte, eq_self, not_true, not_false_eq_true]; try refine tc_ite (fun _ => ?_) (fun _ => ?_) <;> try (exfalso; omega)))
      all_goals first
        | exact hq'
        | omega
    · have hlt := sop_lt ho
      rcases hv : vlf g N (q + 1) m T with ⟨f1, p1, m1, T1⟩
      have htm := tml_st (k := k) (g := g) (N := N) (p := q) (m := m) (T := T) (o := sop (byt g N q)) (f1 := f1) (p1 := p1) (m1 := m1) (T1 := T1) (by rw [hsq]) ho (by rw [hsq]; exact hv)
      rw [htm] at hr
      have hat := hE.at (q + 1)
      generalize hc1 : fr d 75 (fu (d 75) 22 (q + 1)) = c1 at hat
      have hM1 := hM.trans (hat.2 Z) (Int.le_refl _)
      have h231 : c1 75 23 = 0 := by rw [← hc1, fr_same, fu_ne (by omega)]; exact h23
      -- behind the sign
      have rest : ∀ o, sop (byt g N q) = o → tc_W 191 83 [rf 75, .inl o] [] (hp L sh c1) n Q := by
        intro o hso
        rw [hso] at hr ho
        repeat' (first | (simp (disch := first | omega | exact Nat.le_of_ble_eq_true rfl | exact rfl | assumption | (simp only [fr_at, Nat.reduceEqDiff, if_false, if_true, reduceIte]; first | assumption | omega)) only [r191_0, r191_1, v191_1_11, r191_4, r191_5, v191_5_11, r191_9, r191_15, r191_16, v191_16_11, r191_19, r191_24, r191_25, v191_25_11, r191_28, r191_33, r191_34, v191_34_11, r191_37, r191_42, r191_43, v191_43_11, r191_46, r191_51, r191_53, r191_56, r191_57, v191_57_11, r191_60, r191_65, r191_67, r191_70, r191_72r, r191_73, r191_74, r191_74A, r191_75, r191_78, r191_79, r191_80, r191_83, r191_84, v191_84_11, r191_87, r191_88, r191_89, r191_90, v191_90_11, r191_93, r191_94, v191_94_11, r191_97, r191_100, g11_171_11, g11_174_11, p11_174_11, mo_len, ms75 hS, mt75 hS, mo_g23, mo_g22, mo_s22, il_s, bl_s, bl_z, ll_s, is_s, bs_s, bs_z, ls_s, al_s, al_b, al_l, fr_at, fr_fr, Nat.reduceEqDiff, tc_gf3_s, tc_ql2_s, tc_ws_0, tc_ws_i, tc_ws_l, tc_ws_r, Nat.reduceLeDiff, Nat.reduceAdd, Nat.reduceLT, true_and, and_true, if_true, if_false, tc_K, Option.toList_some, Option.toList_none, List.nil_append, List.cons_append, ite_true, ite_false, Int.cast_ofNat_Int, reduceIte, i3_add_eq, i3_sub_eq, Int.add_sub_cancel, Int.add_neg_cancel_right]) | (simp only [r191_12, r191_21, r191_30, r191_39, r191_48, r191_62, i6_lt0, i6_0lt, i6_0le, i6_le0, i6_eq0, b10_0, ite_not, Int.reduceLT, Int.reduceLE, Int.reduceEq, Int.reduceNeg, if_true, if_false, ite_true, ite_false, reduceIte, eq_self, not_true, not_false_eq_true]; try refine tc_ite (fun _ => ?_) (fun _ => ?_) <;> try (exfalso; omega)))
        refine m192 (c := c1) hS (STR.q hST hM1) hTP hat.1 (by omega) h231 (by omega) (fun _ => hm2) hs ⟨hz0, by omega⟩ hv ?_
        intro e j1 j2 j3 j4
        rw [fl_0] at j3 j4
        have hM2 := hM1.trans j1 hZ
        have hVG : f1 = 0 → VG N (q + 1) m p1 m1 T T1 [] [] (false :: []) := fun h => vlf_g (by rw [← h]; exact hv) (by omega) [] []
        obtain ⟨e2, b1, b2, b3, b4, b5, b6, b7, b8⟩ := m194g (e := e) (k := o) (v := 0) hS (fun h => j4 (by rw [← j3]; exact h)) hs (fun h => by
          have hf1 : f1 = 0 := by rw [← j3]; exact h
          obtain ⟨v1, v2, v3, _, _, v6⟩ := hVG hf1
          omega)
        have h21e : e 75 21 = N := by rw [hM2.2.2 21 (by omega) (by omega) (by omega) (by omega), ← hM.2.2 21 (by omega) (by omega) (by omega) (by omega)]; exact h21
        have h95e : e 95 = g := by rw [hM2.1 95 (by omega) (by omega) (by omega), ← hM.1 95 (by omega) (by omega) (by omega)]; exact h95
        have h171 := fun Q => c171q (c := e2) (n := n) (Q := Q) (N := N) (p := e 75 22) hS (by rw [b6, h95e]; exact hTP) (by rw [b5]; exact h21e) b3 (by have := j2.1; omega)
        rw [b6, h95e] at h171
        repeat' (first | (simp (disch := first | omega | exact Nat.le_of_ble_eq_true rfl | exact rfl | assumption | (simp only [fr_at, Nat.reduceEqDiff, if_false, if_true, reduceIte]; first | assumption | omega)) only [r191_0, r191_1, v191_1_11, r191_4, r191_5, v191_5_11, r191_9, r191_15, r191_16, v191_16_11, r191_19, r191_24, r191_25, v191_25_11, r191_28, r191_33, r191_34, v191_34_11, r191_37, r191_42, r191_43, v191_43_11, r191_46, r191_51, r191_53, r191_56, r191_57, v191_57_11, r191_60, r191_65, r191_67, r191_70, r191_72r, r191_73, r191_74, r191_74A, r191_75, r191_78, r191_79, r191_80, r191_83, r191_84, v191_84_11, r191_87, r191_88, r191_89, r191_90, v191_90_11, r191_93, r191_94, v191_94_11, r191_97, r191_100, g11_171_11, g11_174_11, p11_174_11, mo_len, ms75 hS, mt75 hS, mo_g23, mo_g22, mo_s22, il_s, bl_s, bl_z, ll_s, is_s, bs_s, bs_z, ls_s, al_s, al_b, al_l, fr_at, fr_fr, Nat.reduceEqDiff, tc_gf3_s, tc_ql2_s, tc_ws_0, tc_ws_i, tc_ws_l, tc_ws_r, Nat.reduceLeDiff, Nat.reduceAdd, Nat.reduceLT, true_and, and_true, if_true, if_false, tc_K, Option.toList_some, Option.toList_none, List.nil_append, List.cons_append, ite_true, ite_false, Int.cast_ofNat_Int, reduceIte, i3_add_eq, i3_sub_eq, Int.add_sub_cancel, Int.add_neg_cancel_right, b1, h171]) | (simp only [r191_12, r191_21, r191_30, r191_39, r191_48, r191_62, i6_lt0, i6_0lt, i6_0le, i6_le0, i6_eq0, b10_0, ite_not, Int.reduceLT, Int.reduceLE, Int.reduceEq, Int.reduceNeg, if_true, if_false, ite_true, ite_false, reduceIte, eq_self, not_true, not_false_eq_true]; try refine tc_ite (fun _ => ?_) (fun _ => ?_) <;> try (exfalso; omega)))
        have hsr := nm_rng (g := g) (p := e 75 22) (N := N) j2.1
        by_cases hf1 : f1 = 0
        · obtain ⟨v1, v2, v3, _, _, v6⟩ := hVG hf1
          have h0 : e 75 23 = 0 := by rw [j3]; exact hf1
          have hEe := j4 hf1
          rw [if_neg (fun x => x hf1)] at hr
          obtain ⟨hE2, hM3⟩ := b8 h0
          have hat2 := hE2.at (sk g N (e 75 22))
          have hl := len_app (t := (o, 0)) (T := T1)
          have e22 : e 75 22 = p1 := hEe.2.2.1
          rw [e22] at hat2 hsr ⊢
          refine ih (sk g N p1) m1 (T1 ++ [(o, 0)]) _ (.inl o) hat2.1 ((hM2.trans hM3 (by omega)).trans (hat2.2 Z) (Int.le_refl _)) (by omega) (sk_2 g N p1) (by rw [fr_same, fu_ne (by omega), b2]; exact h0) (by omega) (by omega) (by omega) (by omega) ?_ ?_ (by rw [tml_sk]; exact hr)
          · have := sk_rng (g := g) (n := N) (p := p1)
            omega
          · have := sk_rng (g := g) (n := N) (p := p1)
            omega
        · rw [if_pos hf1] at hr
          have hff := (prL hr).1
          have h0 : ¬ e 75 23 = 0 := by rw [j3]; exact hf1
          have he2 := b7 h0
          rw [he2]
          refine m191_x hS (by rw [fr_same, fu_ne (by omega)]; exact h0) (hq _ (hM2.trans (MLQ.of75 (Z := Z) (fun a ha => fr_ne ha) fun i i1 i2 i3 i4 => by rw [fr_same, fu_ne i1]) (Int.le_refl _)) ⟨?_, ?_⟩ ?_ fun x => absurd (hff.trans x) hf1)
          · rw [fr_same, fu_same]
            exact ⟨hsr.2.2.1, hsr.2.2.2⟩
          · rw [fr_same, fu_ne (by omega)]
            have := j2.2
            omega
          · rw [fr_same, fu_ne (by omega), j3]
            exact hff
      generalize hbb : byt g N q = b at h172 ho rest
      simp only [r191_8]
      by_cases b1 : b = 42
      · have hr3 := rest 13 (by unfold sop; rw [if_pos b1])
        repeat' (first | (simp (disch := first | omega | exact Nat.le_of_ble_eq_true rfl | exact rfl | assumption | (simp only [fr_at, Nat.reduceEqDiff, if_false, if_true, reduceIte]; first | assumption | omega)) only [r191_0, r191_1, v191_1_11, r191_4, r191_5, v191_5_11, r191_9, r191_15, r191_16, v191_16_11, r191_19, r191_24, r191_25, v191_25_11, r191_28, r191_33, r191_34, v191_34_11, r191_37, r191_42, r191_43, v191_43_11, r191_46, r191_51, r191_53, r191_56, r191_57, v191_57_11, r191_60, r191_65, r191_67, r191_70, r191_72r, r191_73, r191_74, r191_74A, r191_75, r191_78, r191_79, r191_80, r191_84, v191_84_11, r191_87, r191_88, r191_89, r191_90, v191_90_11, r191_93, r191_94, v191_94_11, r191_97, r191_100, g11_171_11, g11_174_11, p11_174_11, mo_len, ms75 hS, mt75 hS, mo_g23, mo_g22, mo_s22, il_s, bl_s, bl_z, ll_s, is_s, bs_s, bs_z, ls_s, al_s, al_b, al_l, fr_at, fr_fr, Nat.reduceEqDiff, tc_gf3_s, tc_ql2_s, tc_ws_0, tc_ws_i, tc_ws_l, tc_ws_r, Nat.reduceLeDiff, Nat.reduceAdd, Nat.reduceLT, true_and, and_true, if_true, if_false, tc_K, Option.toList_some, Option.toList_none, List.nil_append, List.cons_append, ite_true, ite_false, Int.cast_ofNat_Int, reduceIte, i3_add_eq, i3_sub_eq, Int.add_sub_cancel, Int.add_neg_cancel_right, h23, h172, h22, hc1]) | (simp only [r191_12, r191_21, r191_30, r191_39, r191_48, r191_62, i6_lt0, i6_0lt, i6_0le, i6_le0, i6_eq0, b10_0, ite_not, Int.reduceLT, Int.reduceLE, Int.reduceEq, Int.reduceNeg, if_true, if_false, ite_true, ite_false, reduceIte, eq_self, not_true, not_false_eq_true]; try refine tc_ite (fun _ => ?_) (fun _ => ?_) <;> try (exfalso; omega)))
        all_goals first
          | exact hr3
          | omega
      by_cases b2 : b = 47
      · have hr3 := rest 14 (by unfold sop; rw [if_neg b1, if_pos b2])
        repeat' (first | (simp (disch := first | omega | exact Nat.le_of_ble_eq_true rfl | exact rfl | assumption | (simp only [fr_at, Nat.reduceEqDiff, if_false, if_true, reduceIte]; first | assumption | omega)) only [r191_0, r191_1, v191_1_11, r191_4, r191_5, v191_5_11, r191_9, r191_15, r191_16, v191_16_11, r191_19, r191_24, r191_25, v191_25_11, r191_28, r191_33, r191_34, v191_34_11, r191_37, r191_42, r191_43, v191_43_11, r191_46, r191_51, r191_53, r191_56, r191_57, v191_57_11, r191_60, r191_65, r191_67, r191_70, r191_72r, r191_73, r191_74, r191_74A, r191_75, r191_78, r191_79, r191_80, r191_84, v191_84_11, r191_87, r191_88, r191_89, r191_90, v191_90_11, r191_93, r191_94, v191_94_11, r191_97, r191_100, g11_171_11, g11_174_11, p11_174_11, mo_len, ms75 hS, mt75 hS, mo_g23, mo_g22, mo_s22, il_s, bl_s, bl_z, ll_s, is_s, bs_s, bs_z, ls_s, al_s, al_b, al_l, fr_at, fr_fr, Nat.reduceEqDiff, tc_gf3_s, tc_ql2_s, tc_ws_0, tc_ws_i, tc_ws_l, tc_ws_r, Nat.reduceLeDiff, Nat.reduceAdd, Nat.reduceLT, true_and, and_true, if_true, if_false, tc_K, Option.toList_some, Option.toList_none, List.nil_append, List.cons_append, ite_true, ite_false, Int.cast_ofNat_Int, reduceIte, i3_add_eq, i3_sub_eq, Int.add_sub_cancel, Int.add_neg_cancel_right, h23, h172, h22, hc1]) | (simp only [r191_12, r191_21, r191_30, r191_39, r191_48, r191_62, i6_lt0, i6_0lt, i6_0le, i6_le0, i6_eq0, b10_0, ite_not, Int.reduceLT, Int.reduceLE, Int.reduceEq, Int.reduceNeg, if_true, if_false, ite_true, ite_false, reduceIte, eq_self, not_true, not_false_eq_true]; try refine tc_ite (fun _ => ?_) (fun _ => ?_) <;> try (exfalso; omega)))
        all_goals first
          | exact hr3
          | omega
      by_cases b3 : b = 37
      · have hr3 := rest 15 (by unfold sop; rw [if_neg b1, if_neg b2, if_pos b3])
        repeat' (first | (simp (disch := first | omega | exact Nat.le_of_ble_eq_true rfl | exact rfl | assumption | (simp only [fr_at, Nat.reduceEqDiff, if_false, if_true, reduceIte]; first | assumption | omega)) only [r191_0, r191_1, v191_1_11, r191_4, r191_5, v191_5_11, r191_9, r191_15, r191_16, v191_16_11, r191_19, r191_24, r191_25, v191_25_11, r191_28, r191_33, r191_34, v191_34_11, r191_37, r191_42, r191_43, v191_43_11, r191_46, r191_51, r191_53, r191_56, r191_57, v191_57_11, r191_60, r191_65, r191_67, r191_70, r191_72r, r191_73, r191_74, r191_74A, r191_75, r191_78, r191_79, r191_80, r191_84, v191_84_11, r191_87, r191_88, r191_89, r191_90, v191_90_11, r191_93, r191_94, v191_94_11, r191_97, r191_100, g11_171_11, g11_174_11, p11_174_11, mo_len, ms75 hS, mt75 hS, mo_g23, mo_g22, mo_s22, il_s, bl_s, bl_z, ll_s, is_s, bs_s, bs_z, ls_s, al_s, al_b, al_l, fr_at, fr_fr, Nat.reduceEqDiff, tc_gf3_s, tc_ql2_s, tc_ws_0, tc_ws_i, tc_ws_l, tc_ws_r, Nat.reduceLeDiff, Nat.reduceAdd, Nat.reduceLT, true_and, and_true, if_true, if_false, tc_K, Option.toList_some, Option.toList_none, List.nil_append, List.cons_append, ite_true, ite_false, Int.cast_ofNat_Int, reduceIte, i3_add_eq, i3_sub_eq, Int.add_sub_cancel, Int.add_neg_cancel_right, h23, h172, h22, hc1]) | (simp only [r191_12, r191_21, r191_30, r191_39, r191_48, r191_62, i6_lt0, i6_0lt, i6_0le, i6_le0, i6_eq0, b10_0, ite_not, Int.reduceLT, Int.reduceLE, Int.reduceEq, Int.reduceNeg, if_true, if_false, ite_true, ite_false, reduceIte, eq_self, not_true, not_false_eq_true]; try refine tc_ite (fun _ => ?_) (fun _ => ?_) <;> try (exfalso; omega)))
        all_goals first
          | exact hr3
          | omega
      · exfalso
        apply ho
        unfold sop
        rw [if_neg b1, if_neg b2, if_neg b3]
theorem m191 (hS : MS L sh) (hST : STRS sh c) (hTP : TP g N) (hE : ME c g N p m s z T) (hp0 : 0 ≤ p ∧ p ≤ N) (h23 : c 75 23 = F) (hm : 0 ≤ m ∧ m ≤ 62) (hm0 : F = 0 → m ≤ 60) (hs : 0 ≤ s ∧ s ≤ 5) (hz : 0 ≤ z ∧ z + T.length < 300 ∧ (F = 0 → 3 * (z + T.length) ≤ 7 * m + p)) {k : Nat} (hk : N - p ≤ k) (hb : trm g N k p m T = (f, p', m', T'))
    (hq : ∀ e, MLQ c e (300 * s + (z + T.length)) → RN e N (if F = 0 then 61 else m + 1) → e 75 23 = fl F f → (fl F f = 0 → ME e g N p' m' s z T') → Q none (hp L sh e) n) : tc_C 191 [rf 75] (hp L sh c) n Q := by
  have hN := hTP.1
  rcases hv : vlf g N p m T with ⟨f1, p1, m1, T1⟩
  have htr := trm_st (k := k) hv
  rw [htr] at hb
  show tc_W 191 0 [rf 75, tc_nil] [] _ _ Q
  repeat' (first | (simp (disch := first | omega | exact Nat.le_of_ble_eq_true rfl | exact rfl | assumption | (simp only [fr_at, Nat.reduceEqDiff, if_false, if_true, reduceIte]; first | assumption | omega)) only [r191_0, r191_1, v191_1_11, r191_4, r191_5, v191_5_11, r191_9, r191_15, r191_16, v191_16_11, r191_19, r191_24, r191_25, v191_25_11, r191_28, r191_33, r191_34, v191_34_11, r191_37, r191_42, r191_43, v191_43_11, r191_46, r191_51, r191_53, r191_56, r191_57, v191_57_11, r191_60, r191_65, r191_67, r191_70, r191_72r, r191_73, r191_74, r191_74A, r191_75, r191_78, r191_79, r191_80, r191_83, r191_84, v191_84_11, r191_87, r191_88, r191_89, r191_90, v191_90_11, r191_93, r191_94, v191_94_11, r191_97, r191_100, g11_171_11, g11_174_11, p11_174_11, mo_len, ms75 hS, mt75 hS, mo_g23, mo_g22, mo_s22, il_s, bl_s, bl_z, ll_s, is_s, bs_s, bs_z, ls_s, al_s, al_b, al_l, fr_at, fr_fr, Nat.reduceEqDiff, tc_gf3_s, tc_ql2_s, tc_ws_0, tc_ws_i, tc_ws_l, tc_ws_r, Nat.reduceLeDiff, Nat.reduceAdd, Nat.reduceLT, true_and, and_true, if_true, if_false, tc_K, Option.toList_some, Option.toList_none, List.nil_append, List.cons_append, ite_true, ite_false, Int.cast_ofNat_Int, reduceIte, i3_add_eq, i3_sub_eq, Int.add_sub_cancel, Int.add_neg_cancel_right]) | (simp only [r191_12, r191_21, r191_30, r191_39, r191_48, r191_62, i6_lt0, i6_0lt, i6_0le, i6_le0, i6_eq0, b10_0, ite_not, Int.reduceLT, Int.reduceLE, Int.reduceEq, Int.reduceNeg, if_true, if_false, ite_true, ite_false, reduceIte, eq_self, not_true, not_false_eq_true]; try refine tc_ite (fun _ => ?_) (fun _ => ?_) <;> try (exfalso; omega)))
  refine m192 hS hST hTP hE hp0 h23 hm hm0 hs ⟨hz.1, hz.2.1⟩ hv ?_
  intro e j1 j2 j3 j4
  have h21e : e 75 21 = N := by rw [j1.2.2 21 (by omega) (by omega) (by omega) (by omega)]; exact hE.2.1
  have h95e : e 95 = g := by rw [j1.1 95 (by omega) (by omega) (by omega)]; exact hE.1
  have h171 := fun Q => c171q (c := e) (n := n) (Q := Q) (N := N) (p := e 75 22) hS (by rw [h95e]; exact hTP) h21e rfl (by have := j2.1; omega)
  rw [h95e] at h171
  have hsr := nm_rng (g := g) (p := e 75 22) (N := N) j2.1
  repeat' (first | (simp (disch := first | omega | exact Nat.le_of_ble_eq_true rfl | exact rfl | assumption | (simp only [fr_at, Nat.reduceEqDiff, if_false, if_true, reduceIte]; first | assumption | omega)) only [r191_0, r191_1, v191_1_11, r191_4, r191_5, v191_5_11, r191_9, r191_15, r191_16, v191_16_11, r191_19, r191_24, r191_25, v191_25_11, r191_28, r191_33, r191_34, v191_34_11, r191_37, r191_42, r191_43, v191_43_11, r191_46, r191_51, r191_53, r191_56, r191_57, v191_57_11, r191_60, r191_65, r191_67, r191_70, r191_72r, r191_73, r191_74, r191_74A, r191_75, r191_78, r191_79, r191_80, r191_83, r191_84, v191_84_11, r191_87, r191_88, r191_89, r191_90, v191_90_11, r191_93, r191_94, v191_94_11, r191_97, r191_100, g11_171_11, g11_174_11, p11_174_11, mo_len, ms75 hS, mt75 hS, mo_g23, mo_g22, mo_s22, il_s, bl_s, bl_z, ll_s, is_s, bs_s, bs_z, ls_s, al_s, al_b, al_l, fr_at, fr_fr, Nat.reduceEqDiff, tc_gf3_s, tc_ql2_s, tc_ws_0, tc_ws_i, tc_ws_l, tc_ws_r, Nat.reduceLeDiff, Nat.reduceAdd, Nat.reduceLT, true_and, and_true, if_true, if_false, tc_K, Option.toList_some, Option.toList_none, List.nil_append, List.cons_append, ite_true, ite_false, Int.cast_ofNat_Int, reduceIte, i3_add_eq, i3_sub_eq, Int.add_sub_cancel, Int.add_neg_cancel_right, h171]) | (simp only [r191_12, r191_21, r191_30, r191_39, r191_48, r191_62, i6_lt0, i6_0lt, i6_0le, i6_le0, i6_eq0, b10_0, ite_not, Int.reduceLT, Int.reduceLE, Int.reduceEq, Int.reduceNeg, if_true, if_false, ite_true, ite_false, reduceIte, eq_self, not_true, not_false_eq_true]; try refine tc_ite (fun _ => ?_) (fun _ => ?_) <;> try (exfalso; omega)))
  by_cases hf : fl F f1 = 0
  · have hF0 : F = 0 ∧ f1 = 0 := by unfold fl at hf; split at hf <;> omega
    obtain ⟨rfl, rfl⟩ := hF0
    rw [if_neg (fun x => x rfl)] at hb
    rw [if_pos rfl, fl_0] at hq
    have hEe := j4 rfl
    have hat2 := hEe.at (sk g N (e 75 22))
    have e22 : e 75 22 = p1 := hEe.2.2.1
    obtain ⟨v1, v2, v3, _, _, v6⟩ := vlf_g hv hp0 [] []
    have hsk := sk_rng (g := g) (n := N) (p := p1)
    have hz3 := hz.2.2 rfl
    rw [e22] at hat2 hsr ⊢
    exact m191_l (c := c) hS hST hTP hs hz.1 hq k (sk g N p1) m1 T1 _ tc_nil hat2.1 (j1.trans (hat2.2 _) (Int.le_refl _)) (by omega) (sk_2 g N p1) (by rw [fr_same, fu_ne (by omega)]; exact j3) (by omega) (by omega) (by omega) (by omega) (by omega) (by omega) (by rw [tml_sk]; exact hb)
  · have hff : fl F f1 = fl F f := by
      unfold fl at hf ⊢
      by_cases x : F = 0
      · rw [if_pos x] at hf
        rw [if_pos x, if_pos x]
        rw [if_pos hf] at hb
        exact (prL hb).1
      · rw [if_neg x, if_neg x]
    refine m191_x hS (by rw [fr_same, fu_ne (by omega), j3]; exact hf) (hq _ (j1.trans (MLQ.of75 (Z := 300 * s + (z + T.length)) (fun a ha => fr_ne ha) fun i i1 i2 i3 i4 => by rw [fr_same, fu_ne i1]) (Int.le_refl _)) ⟨?_, ?_⟩ ?_ fun x => ?_)
    · rw [fr_same, fu_same]
      exact ⟨hsr.2.2.1, hsr.2.2.2⟩
    · rw [fr_same, fu_ne (by omega)]
      have := j2.2
      by_cases x : F = 0
      · rw [if_pos x]
        have := hm0 x
        omega
      · rw [if_neg x]
        omega
    · rw [fr_same, fu_ne (by omega), j3]
      exact hff
    · rw [← hff] at x
      exact absurd x hf
end LAWO

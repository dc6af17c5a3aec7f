/-! the reference: rule, all of it -/
def MLR (c e : Nat → Int → Int) (s : Int) : Prop := (∀ a, ¬ a = 75 → ¬ a = 96 → ¬ a = 97 → ¬ a = 98 → ¬ a = 99 → ¬ a = 100 → ¬ a = 101 → ¬ a = 102 → e a = c a) ∧ (∀ i, i < 300 * s → e 96 i = c 96 i ∧ e 97 i = c 97 i) ∧ (∀ i, i < 12 * s → e 99 i = c 99 i ∧ e 100 i = c 100 i ∧ e 101 i = c 101 i) ∧ (∀ i, i < s → e 98 i = c 98 i) ∧ ∀ i, (i < 21 ∨ 29 < i) → e 75 i = c 75 i
section RULEN
variable {L : Nat} {sh : Nat → SH} {c : Nat → Int → Int} {n : Nat} {Q : Option AV → List SC → Nat → Prop} {g : Int → Int} {N p m s z f p' m' k : Int} {X Y : List Tk} {l l' : Law}
/-- the end of a reading -/
theorem m188_e (hS : MS L sh) {d : Nat → Int → Int} (h24 : d 75 24 = s) (h25 : d 75 25 = s) (hs : 0 ≤ s ∧ s ≤ 5) (h23 : d 75 23 = f) (hf : FR f) (hk : 0 ≤ k ∧ k ≤ 13)
    (hq1 : ¬ f = 0 → Q (some (.inl (-2 - f))) (hp L sh (fr (fr d 98 (fu (d 98) s k)) 75 (fu (fu (d 75) 21 0) 25 s))) n)
    (hq2 : f = 0 → Q (some (.inl s)) (hp L sh (fr (fr d 98 (fu (d 98) s k)) 75 (fu (fu (d 75) 21 0) 25 (s + 1)))) n) : tc_W 188 27 [rf 75, .inl k, .inl 0] [] (hp L sh d) n Q := by
  have hf1 := hf.1
  have hf2 := hf.2
  have hcm : fr (fr d 75 (fu (d 75) 21 0)) 98 (fu (d 98) s k) = fr (fr d 98 (fu (d 98) s k)) 75 (fu (d 75) 21 0) := fr_cm (by omega)
  simp only [r188_27]
  by_cases h0 : f = 0
  · have hq' := hq2 h0
    subst h0
    repeat' (first | (simp (disch := first | omega | exact Nat.le_of_ble_eq_true rfl | exact rfl | assumption | (simp (disch := omega) only [fr_ne, fr_same]; first | assumption | omega)) only [r188_0, r188_1, r188_4, r188_9, r188_10, r188_11, r188_12, r188_13, r188_16, r188_19, r188_20, v188_20_11, r188_23, r188_24r, r188_25, r188_26i, r188_31, r188_32, r188_33, v188_33_11, r188_36r, r188_39, r188_40, v188_40_11, r188_43i, r188_44, r188_47, r188_48, r188_49, r188_52, r188_53, r188_56, r188_57, r188_60, r188_61, r188_62, r188_63, r188_63A, r188_64, r188_67, r188_68, r188_74, r188_75, r188_78, r188_79, r188_80, r188_83, r188_84, r188_90, r188_92, r188_93, r188_96, r188_97, r188_100, r188_101, r188_104, r188_105, r188_106, g11_331_11, p11_200_11, p11_149_11, g11_81_11, g11_200_11, g11_171_11, p11_331_11, mo_len, ms75 hS, mt75 hS, mo_g25, mo_s24, mo_s21, mo_g34, ms98 hS, mt98 hS, mo_g24, mo_g23, mo_s25, il_s, bl_s, bl_z, ll_s, is_s, bs_s, bs_z, ls_s, al_s, al_b, al_l, fr_ne, fr_same, fr_fr, Nat.reduceEqDiff, tc_gf3_s, tc_ql2_s, tc_ws_0, tc_ws_i, tc_ws_l, tc_ws_r, Nat.reduceLeDiff, Nat.reduceAdd, Nat.reduceLT, true_and, and_true, if_true, if_false, tc_K, Option.toList_some, Option.toList_none, List.nil_append, List.cons_append, ite_true, ite_false, Int.cast_ofNat_Int, reduceIte, i3_add_eq, i3_sub_eq, Int.add_sub_cancel, Int.add_neg_cancel_right, ms75 hS, mt75 hS, ms98 hS, mt98 hS, h24, h25, h23, fu_ne, fu_same, hcm]) | (simp only [r188_6, r188_28, r188_71, r188_87, i6_lt0, i6_0lt, i6_0le, i6_le0, i6_eq0, b10_0, ite_not, Int.reduceLT, Int.reduceLE, Int.reduceEq, Int.reduceNeg, if_true, if_false, ite_true, ite_false, reduceIte, eq_self, not_true, not_false_eq_true]; try refine tc_ite (fun _ => ?_) (fun _ => ?_) <;> try (exfalso; omega)))
    all_goals first
      | exact hq'
      | omega
  · have hq' := hq1 h0
    repeat' (first | (simp (disch := first | omega | exact Nat.le_of_ble_eq_true rfl | exact rfl | assumption | (simp (disch := omega) only [fr_ne, fr_same]; first | assumption | omega)) only [r188_0, r188_1, r188_4, r188_9, r188_10, r188_11, r188_12, r188_13, r188_16, r188_19, r188_20, v188_20_11, r188_23, r188_24r, r188_25, r188_26i, r188_31, r188_32, r188_33, v188_33_11, r188_36r, r188_39, r188_40, v188_40_11, r188_43i, r188_44, r188_47, r188_48, r188_49, r188_52, r188_53, r188_56, r188_57, r188_60, r188_61, r188_62, r188_63, r188_63A, r188_64, r188_67, r188_68, r188_74, r188_75, r188_78, r188_79, r188_80, r188_83, r188_84, r188_90, r188_92, r188_93, r188_96, r188_97, r188_100, r188_101, r188_104, r188_105, r188_106, g11_331_11, p11_200_11, p11_149_11, g11_81_11, g11_200_11, g11_171_11, p11_331_11, mo_len, ms75 hS, mt75 hS, mo_g25, mo_s24, mo_s21, mo_g34, ms98 hS, mt98 hS, mo_g24, mo_g23, mo_s25, il_s, bl_s, bl_z, ll_s, is_s, bs_s, bs_z, ls_s, al_s, al_b, al_l, fr_ne, fr_same, fr_fr, Nat.reduceEqDiff, tc_gf3_s, tc_ql2_s, tc_ws_0, tc_ws_i, tc_ws_l, tc_ws_r, Nat.reduceLeDiff, Nat.reduceAdd, Nat.reduceLT, true_and, and_true, if_true, if_false, tc_K, Option.toList_some, Option.toList_none, List.nil_append, List.cons_append, ite_true, ite_false, Int.cast_ofNat_Int, reduceIte, i3_add_eq, i3_sub_eq, Int.add_sub_cancel, Int.add_neg_cancel_right, ms75 hS, mt75 hS, ms98 hS, mt98 hS, h24, h25, h23, fu_ne, fu_same, hcm, Int.add_zero]) | (simp only [r188_6, r188_28, r188_71, r188_87, i6_lt0, i6_0lt, i6_0le, i6_le0, i6_eq0, b10_0, ite_not, Int.reduceLT, Int.reduceLE, Int.reduceEq, Int.reduceNeg, if_true, if_false, ite_true, ite_false, reduceIte, eq_self, not_true, not_false_eq_true]; try refine tc_ite (fun _ => ?_) (fun _ => ?_) <;> try (exfalso; omega)))
    all_goals first
      | exact hq'
      | omega
theorem m188_l (hS : MS L sh) (hST : STRS sh c) (hTP : TP g N) (hs : 0 ≤ s ∧ s ≤ 5) {K : Nat} (hK : N ≤ K)
    (hq1 : ¬ f = 0 → ∀ e, MLR c e s → e 75 21 = 0 → e 75 25 = s → Q (some (.inl (-2 - f))) (hp L sh e) n)
    (hq : f = 0 → ∀ e, MLR c e s → e 75 21 = 0 → e 75 25 = s + 1 → LW e s → mlaw e s = l' → Q (some (.inl s)) (hp L sh e) n) : ∀ (j : Nat) (k p m : Int) (l : Law) (d : Nat → Int → Int), k + j = 13 → MDL d g N p m s l → d 75 25 = s → MLL c d s → k = l.length → 0 ≤ p → p ≤ N → 0 ≤ m → m ≤ 60 → 3 * tz l ≤ 7 * m + p → LOk l → lpr g N K j k p m l = (f, l') → k ≤ 12 → FR f → tc_W 188 27 [rf 75, .inl k, .inl 1] [] (hp L sh d) n Q := by
  have hN := hTP.1
  -- what stands at the end
  have toR : ∀ (d : Nat → Int → Int) (F1 F2 : Int → Int), MLL c d s → (∀ i, i < s → F1 i = d 98 i) → (∀ i, (i < 21 ∨ 29 < i) → F2 i = d 75 i) → MLR c (fr (fr d 98 F1) 75 F2) s := fun d F1 F2 h1 h2 h3 => ⟨fun a a1 a2 a3 a4 a5 a6 a7 a8 => by rw [fr_ne a1, fr_ne a4]; exact h1.1 a a1 a2 a3 a5 a6 a7 a8, fun i hi => by rw [fr_ne (show ¬ 96 = 75 by omega), fr_ne (show ¬ 96 = 98 by omega), fr_ne (show ¬ 97 = 75 by omega), fr_ne (show ¬ 97 = 98 by omega)]; exact h1.2.1 i hi, fun i hi => by rw [fr_ne (show ¬ 99 = 75 by omega), fr_ne (show ¬ 99 = 98 by omega), fr_ne (show ¬ 100 = 75 by omega), fr_ne (show ¬ 100 = 98 by omega), fr_ne (show ¬ 101 = 75 by omega), fr_ne (show ¬ 101 = 98 by omega)]; exact h1.2.2.1 i hi, fun i hi => by rw [fr_ne (by omega), fr_same, h2 i hi, h1.1 98 (by omega) (by omega) (by omega) (by omega) (by omega) (by omega) (by omega)], fun i hi => by rw [fr_same, h3 i hi]; exact h1.2.2.2 i (by omega) (by omega) (by omega) (by omega) (by omega) (by omega)⟩
  have fin1 : ∀ (k : Int) (d : Nat → Int → Int), 0 ≤ k → k ≤ 13 → MLL c d s → d 75 24 = s → d 75 25 = s → d 75 23 = f → ¬ f = 0 → FR f → tc_W 188 27 [rf 75, .inl k, .inl 0] [] (hp L sh d) n Q := fun k d k1 k2 hM h24 h25 h23 hf hfr => m188_e hS h24 h25 hs h23 hfr ⟨k1, k2⟩ (fun x => hq1 x _ (toR d _ _ hM (fun i hi => fu_ne (by omega)) fun i hi => by rw [fu_ne (by omega), fu_ne (by omega)]) (by rw [fr_same, fu_ne (by omega), fu_same]) (by rw [fr_same, fu_same])) fun x => absurd x hf
  intro j
  induction j with
  | zero => intro k p m l d hk _ _ _ _ _ _ _ _ _ _ _ h12; omega
  | succ j ih =>
    intro k p m l d hk hD h25 hM hkl hp1 hp2 hm1 hm2 hz hok hr h12 hfr
    rcases hrc : rcl g N K k p m with ⟨f1, p1, m1, X, Y⟩
    rw [lpr_st hrc] at hr
    simp only [r188_27]
    repeat' (first | (simp (disch := first | omega | exact Nat.le_of_ble_eq_true rfl | exact rfl | assumption | (simp only [fr_at, Nat.reduceEqDiff, if_false, if_true, reduceIte]; first | assumption | omega)) only [r188_0, r188_1, r188_4, r188_9, r188_10, r188_11, r188_12, r188_13, r188_16, r188_19, r188_20, v188_20_11, r188_23, r188_24r, r188_25, r188_26i, r188_31, r188_32, r188_33, v188_33_11, r188_36r, r188_39, r188_40, v188_40_11, r188_43i, r188_44, r188_47, r188_48, r188_49, r188_52, r188_53, r188_56, r188_57, r188_60, r188_61, r188_62, r188_63, r188_63A, r188_64, r188_67, r188_68, r188_74, r188_75, r188_78, r188_79, r188_80, r188_83, r188_84, r188_90, r188_92, r188_93, r188_96, r188_97, r188_100, r188_101, r188_104, r188_105, r188_106, g11_331_11, p11_200_11, p11_149_11, g11_81_11, g11_200_11, g11_171_11, p11_331_11, mo_len, ms75 hS, mt75 hS, mo_g25, mo_s24, mo_s21, mo_g34, ms98 hS, mt98 hS, mo_g24, mo_g23, mo_s25, il_s, bl_s, bl_z, ll_s, is_s, bs_s, bs_z, ls_s, al_s, al_b, al_l, fr_at, fr_fr, Nat.reduceEqDiff, tc_gf3_s, tc_ql2_s, tc_ws_0, tc_ws_i, tc_ws_l, tc_ws_r, Nat.reduceLeDiff, Nat.reduceAdd, Nat.reduceLT, true_and, and_true, if_true, if_false, tc_K, Option.toList_some, Option.toList_none, List.nil_append, List.cons_append, ite_true, ite_false, Int.cast_ofNat_Int, reduceIte, i3_add_eq, i3_sub_eq, Int.add_sub_cancel, Int.add_neg_cancel_right]) | (simp only [r188_6, r188_28, r188_71, r188_87, i6_lt0, i6_0lt, i6_0le, i6_le0, i6_eq0, b10_0, ite_not, Int.reduceLT, Int.reduceLE, Int.reduceEq, Int.reduceNeg, if_true, if_false, ite_true, ite_false, reduceIte, eq_self, not_true, not_false_eq_true]; try refine tc_ite (fun _ => ?_) (fun _ => ?_) <;> try (exfalso; omega)))
    all_goals try omega
    refine m189 (c := d) hS (hST.ml hM) hTP hD ⟨hp1, hp2⟩ ⟨hm1, hm2⟩ hs hz hkl h12 hK hrc ?_
    intro e k1 k2 k3 k4
    have hMe := hM.trans k1
    have e25 : e 75 25 = s := by rw [k1.2.2.2 25 (by omega) (by omega) (by omega) (by omega) (by omega) (by omega)]; exact h25
    have e24 : e 75 24 = s := by rw [k1.2.2.2 24 (by omega) (by omega) (by omega) (by omega) (by omega) (by omega)]; exact hD.1.2.2.2.1
    have e95 : e 95 = g := by rw [k1.1 95 (by omega) (by omega) (by omega) (by omega) (by omega) (by omega) (by omega)]; exact hD.1.1
    have e21 : e 75 21 = N := by rw [k1.2.2.2 21 (by omega) (by omega) (by omega) (by omega) (by omega) (by omega)]; exact hD.1.2.1
    have hMs : ∀ F : Int → Int, (∀ i, ¬ i = 22 → ¬ i = 23 → F i = e 75 i) → MLL c (fr e 75 F) s := fun F h => hMe.trans ⟨fun a a1 _ _ _ _ _ _ => fr_ne a1, fun i _ => ⟨rfl, rfl⟩, fun i _ => ⟨rfl, rfl, rfl⟩, fun i i1 i2 _ _ _ _ => by rw [fr_same]; exact h i i1 i2⟩
    by_cases hf1 : f1 = 0
    · subst hf1
      rw [if_neg (fun x => x rfl)] at hr
      obtain ⟨b1, b2, b3, b4, b5, b6, b7⟩ := rcl_g (z := tz l) hrc ⟨hp1, hp2⟩ hK hz
      have hD2 := k4 rfl
      have h184 := fun Q => c184 (c := e) (n := n) (Q := Q) (N := N) (p := p1) hS (by rw [e95]; exact hTP) e21 hD2.1.2.2.1 (by omega) k3
      rw [e95] at h184
      have hs3 := nm_rng (g := g) (p := p1) (N := N) (by omega)
      have hkr := sk_rng (g := g) (n := N) (p := p1)
      generalize hq0 : sk g N p1 = q at hr h184 hs3 hkr
      have htz2 : tz (l ++ [(X, Y)]) = tz l + X.length + Y.length := by
        rw [tz_app]
        show tz l + ((X.length : Int) + Y.length) = _
        omega
      have hlen2 : (((l ++ [(X, Y)]).length : Nat) : Int) = l.length + 1 := by
        rw [List.length_append]
        rfl
      have hok2 : LOk (l ++ [(X, Y)]) := fun q hq => by
        rcases List.mem_append.mp hq with x | x
        · exact hok q x
        · rw [List.mem_singleton.mp x]
          exact ⟨b5, b6⟩
      by_cases hgf : gof g N q = 0
      · rw [if_neg (fun x => x hgf)] at hr
        rw [hgf] at h184
        rcases gon_01 g N q with hgn | hgn
        · rw [if_neg (by omega)] at hr
          rw [hgn] at h184
          injection hr with hr1 hr2
          have hfin : tc_W 188 27 [rf 75, .inl (k + 1), .inl 0] [] (hp L sh (fr e 75 (fu (fu (e 75) 23 0) 22 (q + 1)))) n Q := by
            refine m188_e hS (s := s) (f := f) (by rw [fr_same, fu_ne (by omega), fu_ne (by omega)]; exact e24) (by rw [fr_same, fu_ne (by omega), fu_ne (by omega)]; exact e25) hs (by rw [fr_same, fu_ne (by omega), fu_same]; exact hr1) hfr (by omega) (fun x => absurd hr1.symm x) fun hf0 => ?_
            refine hq hf0 _ (toR _ _ _ (hMs _ fun i i1 i2 => by rw [fu_ne i1, fu_ne i2]) (fun i hi => fu_ne (by omega)) fun i hi => by rw [fu_ne (by omega), fu_ne (by omega)]) (by rw [fr_same, fu_ne (by omega), fu_same]) (by rw [fr_same, fu_same]) ?_ ?_
            · have hlw := mlr_lw (c := e) (s := s) (l ++ [(X, Y)]) 0 0 (by omega) hD2.2.2.2 (by omega) hok2
              unfold LW
              have q98 : ∀ F : Int → Int, fr (fr (fr e 75 (fu (fu (e 75) 23 0) 22 (q + 1))) 98 (fu (fr e 75 (fu (fu (e 75) 23 0) 22 (q + 1)) 98) s (k + 1))) 75 F 98 s = k + 1 := fun F => by rw [fr_ne (by omega), fr_same, fu_same]
              rw [q98]
              refine ⟨by omega, by omega, fun x x1 x2 => ?_⟩
              simp (disch := omega) only [fr_ne]
              exact hlw x (by omega) (by omega)
            · have hla := mlr_mla (c := e) (s := s) (l ++ [(X, Y)]) 0 0 hD2.2.2.2
              rw [hr2] at hla
              unfold mlaw
              have q98 : ∀ F : Int → Int, fr (fr (fr e 75 (fu (fu (e 75) 23 0) 22 (q + 1))) 98 (fu (fr e 75 (fu (fu (e 75) 23 0) 22 (q + 1)) 98) s (k + 1))) 75 F 98 s = k + 1 := fun F => by rw [fr_ne (by omega), fr_same, fu_same]
              rw [q98, show (k + 1).toNat = l'.length by rw [← hr2]; omega]
              have hext : ∀ (F1 F2 F3 : Int → Int) (x : Int) (m : Nat), mla (fr (fr (fr e 75 F1) 98 F2) 75 F3) s x m = mla e s x m := fun F1 F2 F3 x m => by
                induction m generalizing x with
                | zero => rfl
                | succ m ihm =>
                  show _ :: mla (fr (fr (fr e 75 F1) 98 F2) 75 F3) s (x + 1) m = _ :: mla e s (x + 1) m
                  rw [ihm]
                  simp (disch := omega) only [fr_ne]
              rw [hext, show 12 * s = 12 * s + 0 by omega]
              exact hla
          repeat' (first | (simp (disch := first | omega | exact Nat.le_of_ble_eq_true rfl | exact rfl | assumption | (simp only [fr_at, Nat.reduceEqDiff, if_false, if_true, reduceIte]; first | assumption | omega)) only [r188_0, r188_1, r188_4, r188_9, r188_10, r188_11, r188_12, r188_13, r188_16, r188_19, r188_20, v188_20_11, r188_23, r188_24r, r188_25, r188_26i, r188_31, r188_32, r188_33, v188_33_11, r188_36r, r188_39, r188_40, v188_40_11, r188_43i, r188_44, r188_47, r188_48, r188_49, r188_52, r188_53, r188_56, r188_57, r188_60, r188_61, r188_62, r188_63, r188_63A, r188_64, r188_67, r188_68, r188_74, r188_75, r188_78, r188_79, r188_80, r188_83, r188_84, r188_90, r188_92, r188_93, r188_96, r188_97, r188_100, r188_101, r188_104, r188_105, r188_106, g11_331_11, p11_200_11, p11_149_11, g11_81_11, g11_200_11, g11_171_11, p11_331_11, mo_len, ms75 hS, mt75 hS, mo_g25, mo_s24, mo_s21, mo_g34, ms98 hS, mt98 hS, mo_g24, mo_g23, mo_s25, il_s, bl_s, bl_z, ll_s, is_s, bs_s, bs_z, ls_s, al_s, al_b, al_l, fr_at, fr_fr, Nat.reduceEqDiff, tc_gf3_s, tc_ql2_s, tc_ws_0, tc_ws_i, tc_ws_l, tc_ws_r, Nat.reduceLeDiff, Nat.reduceAdd, Nat.reduceLT, true_and, and_true, if_true, if_false, tc_K, Option.toList_some, Option.toList_none, List.nil_append, List.cons_append, ite_true, ite_false, Int.cast_ofNat_Int, reduceIte, i3_add_eq, i3_sub_eq, Int.add_sub_cancel, Int.add_neg_cancel_right, h184]) | (simp only [r188_6, r188_28, r188_71, r188_87, i6_lt0, i6_0lt, i6_0le, i6_le0, i6_eq0, b10_0, ite_not, Int.reduceLT, Int.reduceLE, Int.reduceEq, Int.reduceNeg, if_true, if_false, ite_true, ite_false, reduceIte, eq_self, not_true, not_false_eq_true]; try refine tc_ite (fun _ => ?_) (fun _ => ?_) <;> try (exfalso; omega)))
          all_goals first
            | exact hfin
            | omega
        · rw [if_pos hgn] at hr
          rw [hgn] at h184
          have hg1 := gon_1 hgn
          have hD3 : MDL (fr e 75 (fu (fu (e 75) 23 0) 22 (q + 1))) g N (q + 1) m1 s (l ++ [(X, Y)]) := by
            obtain ⟨⟨u1, u2, u3, u4, u5, u6, u7, u8⟩, v1, v2, v3⟩ := hD2
            exact ⟨⟨u1, by rw [fr_same, fu_ne (by omega), fu_ne (by omega)]; exact u2, by rw [fr_same, fu_same], by rw [fr_same, fu_ne (by omega), fu_ne (by omega)]; exact u4, by rw [fr_same, fu_ne (by omega), fu_ne (by omega)]; exact u5, by rw [fr_same, fu_ne (by omega), fu_ne (by omega)]; exact u6, by rw [fr_same, fu_ne (by omega), fu_ne (by omega)]; exact u7, rfl⟩, by rw [fr_same, fu_ne (by omega), fu_same], by rw [fr_same, fu_ne (by omega), fu_ne (by omega)]; exact v2, mlr_ex (c := e) (d := fr e 75 (fu (fu (e 75) 23 0) 22 (q + 1))) _ 0 0 (by omega) (by omega) (fun i _ _ => ⟨by rw [fr_ne (by omega)], by rw [fr_ne (by omega)]⟩) (fun i _ _ => ⟨by rw [fr_ne (by omega)], by rw [fr_ne (by omega)], by rw [fr_ne (by omega)]⟩) v3⟩
          have hih := ih (k + 1) (q + 1) m1 (l ++ [(X, Y)]) _ (by omega) hD3 (by rw [fr_same, fu_ne (by omega), fu_ne (by omega)]; exact e25) (hMs _ fun i i1 i2 => by rw [fu_ne i1, fu_ne i2]) (by omega) (by omega) (by omega) (by omega) (by omega) (by omega) hok2 hr (by omega) hfr
          repeat' (first | (simp (disch := first | omega | exact Nat.le_of_ble_eq_true rfl | exact rfl | assumption | (simp only [fr_at, Nat.reduceEqDiff, if_false, if_true, reduceIte]; first | assumption | omega)) only [r188_0, r188_1, r188_4, r188_9, r188_10, r188_11, r188_12, r188_13, r188_16, r188_19, r188_20, v188_20_11, r188_23, r188_24r, r188_25, r188_26i, r188_31, r188_32, r188_33, v188_33_11, r188_36r, r188_39, r188_40, v188_40_11, r188_43i, r188_44, r188_47, r188_48, r188_49, r188_52, r188_53, r188_56, r188_57, r188_60, r188_61, r188_62, r188_63, r188_63A, r188_64, r188_67, r188_68, r188_74, r188_75, r188_78, r188_79, r188_80, r188_83, r188_84, r188_90, r188_92, r188_93, r188_96, r188_97, r188_100, r188_101, r188_104, r188_105, r188_106, g11_331_11, p11_200_11, p11_149_11, g11_81_11, g11_200_11, g11_171_11, p11_331_11, mo_len, ms75 hS, mt75 hS, mo_g25, mo_s24, mo_s21, mo_g34, ms98 hS, mt98 hS, mo_g24, mo_g23, mo_s25, il_s, bl_s, bl_z, ll_s, is_s, bs_s, bs_z, ls_s, al_s, al_b, al_l, fr_at, fr_fr, Nat.reduceEqDiff, tc_gf3_s, tc_ql2_s, tc_ws_0, tc_ws_i, tc_ws_l, tc_ws_r, Nat.reduceLeDiff, Nat.reduceAdd, Nat.reduceLT, true_and, and_true, if_true, if_false, tc_K, Option.toList_some, Option.toList_none, List.nil_append, List.cons_append, ite_true, ite_false, Int.cast_ofNat_Int, reduceIte, i3_add_eq, i3_sub_eq, Int.add_sub_cancel, Int.add_neg_cancel_right, h184]) | (simp only [r188_6, r188_28, r188_71, r188_87, i6_lt0, i6_0lt, i6_0le, i6_le0, i6_eq0, b10_0, ite_not, Int.reduceLT, Int.reduceLE, Int.reduceEq, Int.reduceNeg, if_true, if_false, ite_true, ite_false, reduceIte, eq_self, not_true, not_false_eq_true]; try refine tc_ite (fun _ => ?_) (fun _ => ?_) <;> try (exfalso; omega)))
          all_goals first
            | exact hih
            | omega
      · rw [if_pos hgf] at hr
        rw [gof_gon hgf] at h184
        injection hr with hr1 hr2
        rw [hr1] at h184 hgf
        have hfin := fin1 (k + 1) (fr e 75 (fu (fu (e 75) 23 f) 22 (q + 1))) (by omega) (by omega) (hMs _ fun i i1 i2 => by rw [fu_ne i1, fu_ne i2]) (by rw [fr_same, fu_ne (by omega), fu_ne (by omega)]; exact e24) (by rw [fr_same, fu_ne (by omega), fu_ne (by omega)]; exact e25) (by rw [fr_same, fu_ne (by omega), fu_same]) hgf hfr
        repeat' (first | (simp (disch := first | omega | exact Nat.le_of_ble_eq_true rfl | exact rfl | assumption | (simp only [fr_at, Nat.reduceEqDiff, if_false, if_true, reduceIte]; first | assumption | omega)) only [r188_0, r188_1, r188_4, r188_9, r188_10, r188_11, r188_12, r188_13, r188_16, r188_19, r188_20, v188_20_11, r188_23, r188_24r, r188_25, r188_26i, r188_31, r188_32, r188_33, v188_33_11, r188_36r, r188_39, r188_40, v188_40_11, r188_43i, r188_44, r188_47, r188_48, r188_49, r188_52, r188_53, r188_56, r188_57, r188_60, r188_61, r188_62, r188_63, r188_63A, r188_64, r188_67, r188_68, r188_74, r188_75, r188_78, r188_79, r188_80, r188_83, r188_84, r188_90, r188_92, r188_93, r188_96, r188_97, r188_100, r188_101, r188_104, r188_105, r188_106, g11_331_11, p11_200_11, p11_149_11, g11_81_11, g11_200_11, g11_171_11, p11_331_11, mo_len, ms75 hS, mt75 hS, mo_g25, mo_s24, mo_s21, mo_g34, ms98 hS, mt98 hS, mo_g24, mo_g23, mo_s25, il_s, bl_s, bl_z, ll_s, is_s, bs_s, bs_z, ls_s, al_s, al_b, al_l, fr_at, fr_fr, Nat.reduceEqDiff, tc_gf3_s, tc_ql2_s, tc_ws_0, tc_ws_i, tc_ws_l, tc_ws_r, Nat.reduceLeDiff, Nat.reduceAdd, Nat.reduceLT, true_and, and_true, if_true, if_false, tc_K, Option.toList_some, Option.toList_none, List.nil_append, List.cons_append, ite_true, ite_false, Int.cast_ofNat_Int, reduceIte, i3_add_eq, i3_sub_eq, Int.add_sub_cancel, Int.add_neg_cancel_right, h184]) | (simp only [r188_6, r188_28, r188_71, r188_87, i6_lt0, i6_0lt, i6_0le, i6_le0, i6_eq0, b10_0, ite_not, Int.reduceLT, Int.reduceLE, Int.reduceEq, Int.reduceNeg, if_true, if_false, ite_true, ite_false, reduceIte, eq_self, not_true, not_false_eq_true]; try refine tc_ite (fun _ => ?_) (fun _ => ?_) <;> try (exfalso; omega)))
        all_goals first
          | exact hfin
          | omega
    · rw [if_pos hf1] at hr
      injection hr with hr1 hr2
      have h184 := fun Q => c184f (c := e) (n := n) (Q := Q) (N := N) (p := e 75 22) hS (by rw [e95]; exact hTP) e21 rfl (by have := k2.1; omega) (by rw [k3]; exact hf1)
      rw [e95] at h184
      have hfin := fin1 (k + 1) (fr e 75 (fu (e 75) 22 (sk g N (e 75 22) + 1))) (by omega) (by omega) (hMs _ fun i i1 i2 => by rw [fu_ne i1]) (by rw [fr_same, fu_ne (by omega)]; exact e24) (by rw [fr_same, fu_ne (by omega)]; exact e25) (by rw [fr_same, fu_ne (by omega), k3]; exact hr1) (by rw [← hr1]; exact hf1) hfr
      repeat' (first | (simp (disch := first | omega | exact Nat.le_of_ble_eq_true rfl | exact rfl | assumption | (simp only [fr_at, Nat.reduceEqDiff, if_false, if_true, reduceIte]; first | assumption | omega)) only [r188_0, r188_1, r188_4, r188_9, r188_10, r188_11, r188_12, r188_13, r188_16, r188_19, r188_20, v188_20_11, r188_23, r188_24r, r188_25, r188_26i, r188_31, r188_32, r188_33, v188_33_11, r188_36r, r188_39, r188_40, v188_40_11, r188_43i, r188_44, r188_47, r188_48, r188_49, r188_52, r188_53, r188_56, r188_57, r188_60, r188_61, r188_62, r188_63, r188_63A, r188_64, r188_67, r188_68, r188_74, r188_75, r188_78, r188_79, r188_80, r188_83, r188_84, r188_90, r188_92, r188_93, r188_96, r188_97, r188_100, r188_101, r188_104, r188_105, r188_106, g11_331_11, p11_200_11, p11_149_11, g11_81_11, g11_200_11, g11_171_11, p11_331_11, mo_len, ms75 hS, mt75 hS, mo_g25, mo_s24, mo_s21, mo_g34, ms98 hS, mt98 hS, mo_g24, mo_g23, mo_s25, il_s, bl_s, bl_z, ll_s, is_s, bs_s, bs_z, ls_s, al_s, al_b, al_l, fr_at, fr_fr, Nat.reduceEqDiff, tc_gf3_s, tc_ql2_s, tc_ws_0, tc_ws_i, tc_ws_l, tc_ws_r, Nat.reduceLeDiff, Nat.reduceAdd, Nat.reduceLT, true_and, and_true, if_true, if_false, tc_K, Option.toList_some, Option.toList_none, List.nil_append, List.cons_append, ite_true, ite_false, Int.cast_ofNat_Int, reduceIte, i3_add_eq, i3_sub_eq, Int.add_sub_cancel, Int.add_neg_cancel_right, h184]) | (simp only [r188_6, r188_28, r188_71, r188_87, i6_lt0, i6_0lt, i6_0le, i6_le0, i6_eq0, b10_0, ite_not, Int.reduceLT, Int.reduceLE, Int.reduceEq, Int.reduceNeg, if_true, if_false, ite_true, ite_false, reduceIte, eq_self, not_true, not_false_eq_true]; try refine tc_ite (fun _ => ?_) (fun _ => ?_) <;> try (exfalso; omega)))
      all_goals first
        | exact hfin
        | omega
theorem m188 (hS : MS L sh) (hST : STRS sh c) (hTP : TP g N) (h95 : c 95 = g) (h21 : c 75 21 = N) (h25 : c 75 25 = s) (hs : 0 ≤ s ∧ s ≤ 5) (h30 : c 75 30 = 9) (hb : lpr g N 400 13 0 0 0 [] = (f, l'))
    (hq1 : ¬ f = 0 → ∀ e, MLR c e s → e 75 21 = 0 → e 75 25 = s → Q (some (.inl (-2 - f))) (hp L sh e) n)
    (hq : f = 0 → ∀ e, MLR c e s → e 75 21 = 0 → e 75 25 = s + 1 → LW e s → mlaw e s = l' → Q (some (.inl s)) (hp L sh e) n) : tc_C 188 [rf 75] (hp L sh c) n Q := by
  have hN := hTP.1
  have hfr := lpr_r (g := g) (K := 400) (N := N) hN.2 (by omega) 13 0 0 0 0 [] (by omega) hN.1 (by omega)
  rw [hb] at hfr
  have h169 := fun n Q => m169 (c := fr c 75 (fu (c 75) 24 s)) (n := n) (Q := Q) hS
  rw [fr_same, fr_fr] at h169
  generalize hc1 : fr c 75 (fu (fu (fu (fu (fu (fu (c 75) 24 s) 22 0) 23 0) 26 0) 27 0) 28 0) = c1 at h169
  have x75 : ∀ i, c1 75 i = fu (fu (fu (fu (fu (fu (c 75) 24 s) 22 0) 23 0) 26 0) 27 0) 28 0 i := fun i => by rw [← hc1, fr_same]
  have xo : ∀ a, ¬ a = 75 → c1 a = c a := fun a ha => by rw [← hc1, fr_ne ha]
  -- slot 24 is among what changes
  have toc : ∀ e, MLR c1 e s → MLR c e s := fun e h => ⟨fun a a1 a2 a3 a4 a5 a6 a7 a8 => (h.1 a a1 a2 a3 a4 a5 a6 a7 a8).trans (xo a a1), fun i hi => by rw [(h.2.1 i hi).1, (h.2.1 i hi).2, xo 96 (by omega), xo 97 (by omega)]; exact ⟨rfl, rfl⟩, fun i hi => by rw [(h.2.2.1 i hi).1, (h.2.2.1 i hi).2.1, (h.2.2.1 i hi).2.2, xo 99 (by omega), xo 100 (by omega), xo 101 (by omega)]; exact ⟨rfl, rfl, rfl⟩, fun i hi => by rw [h.2.2.2.1 i hi, xo 98 (by omega)], fun i hi => by rw [h.2.2.2.2 i hi, x75]; simp (disch := omega) only [fu_ne]⟩
  show tc_W 188 0 [rf 75, tc_nil, tc_nil] [] _ _ Q
  repeat' (first | (simp (disch := first | omega | exact Nat.le_of_ble_eq_true rfl | exact rfl | assumption | (simp only [fr_at, Nat.reduceEqDiff, if_false, if_true, reduceIte]; first | assumption | omega)) only [r188_0, r188_1, r188_4, r188_9, r188_10, r188_11, r188_12, r188_13, r188_16, r188_19, r188_20, v188_20_11, r188_23, r188_24r, r188_25, r188_26i, r188_31, r188_32, r188_33, v188_33_11, r188_36r, r188_39, r188_40, v188_40_11, r188_43i, r188_44, r188_47, r188_48, r188_49, r188_52, r188_53, r188_56, r188_57, r188_60, r188_61, r188_62, r188_63, r188_63A, r188_64, r188_67, r188_68, r188_74, r188_75, r188_78, r188_79, r188_80, r188_83, r188_84, r188_90, r188_92, r188_93, r188_96, r188_97, r188_100, r188_101, r188_104, r188_105, r188_106, g11_331_11, p11_200_11, p11_149_11, g11_81_11, g11_200_11, g11_171_11, p11_331_11, mo_len, ms75 hS, mt75 hS, mo_g25, mo_s24, mo_s21, mo_g34, ms98 hS, mt98 hS, mo_g24, mo_g23, mo_s25, il_s, bl_s, bl_z, ll_s, is_s, bs_s, bs_z, ls_s, al_s, al_b, al_l, fr_at, fr_fr, Nat.reduceEqDiff, tc_gf3_s, tc_ql2_s, tc_ws_0, tc_ws_i, tc_ws_l, tc_ws_r, Nat.reduceLeDiff, Nat.reduceAdd, Nat.reduceLT, true_and, and_true, if_true, if_false, tc_K, Option.toList_some, Option.toList_none, List.nil_append, List.cons_append, ite_true, ite_false, Int.cast_ofNat_Int, reduceIte, i3_add_eq, i3_sub_eq, Int.add_sub_cancel, Int.add_neg_cancel_right, h25, h169]) | (simp only [r188_6, r188_28, r188_71, r188_87, i6_lt0, i6_0lt, i6_0le, i6_le0, i6_eq0, b10_0, ite_not, Int.reduceLT, Int.reduceLE, Int.reduceEq, Int.reduceNeg, if_true, if_false, ite_true, ite_false, reduceIte, eq_self, not_true, not_false_eq_true]; try refine tc_ite (fun _ => ?_) (fun _ => ?_) <;> try (exfalso; omega)))
  all_goals try omega
  refine m188_l (c := c1) (K := 400) (f := f) (l' := l') (g := g) (N := N) (s := s) hS ?_ hTP hs (by omega) (fun x e w1 => hq1 x e (toc e w1)) (fun x e w1 => hq x e (toc e w1)) 13 0 0 0 [] c1 (by omega) ⟨⟨?_, ?_, ?_, ?_, ?_, ?_, ?_, rfl⟩, ?_, ?_, trivial⟩ ?_ MLL.refl rfl (by omega) hN.1 (by omega) (by omega) (by show 3 * (0 : Int) ≤ _; omega) (fun q hq => absurd hq (by simp)) hb (by omega) hfr
  · intro a ha
    rw [xo a (by omega)]
    exact hST a ha
  · rw [xo 95 (by omega)]; exact h95
  · rw [x75]; simp (disch := omega) only [fu_ne]; exact h21
  · rw [x75]; simp (disch := omega) only [fu_ne, fu_same]
  · rw [x75]; simp (disch := omega) only [fu_ne, fu_same]
  · rw [x75]; simp (disch := omega) only [fu_ne, fu_same]; rfl
  · rw [x75]; simp (disch := omega) only [fu_ne, fu_same]
  · rw [x75]; simp (disch := omega) only [fu_ne]; exact h30
  · rw [x75]; simp (disch := omega) only [fu_ne, fu_same]
  · rw [x75]; simp (disch := omega) only [fu_ne, fu_same]
  · rw [x75]; simp (disch := omega) only [fu_ne]; exact h25
end RULEN

/-! the class: sums -/
theorem wls_2 : WLS (chs 2) 0 [4, 6, 8, 3, 5, 4, 5, 3, 4] := ⟨fin_rng (l := 4) (f := fun j => chs 2 (0 + j)) (by decide +kernel), by decide +kernel, by decide, fin_rng (l := 6) (f := fun j => chs 2 (0 + ((4 : Nat) : Int) + 1 + j)) (by decide +kernel), by decide +kernel, by decide, fin_rng (l := 8) (f := fun j => chs 2 (0 + ((4 : Nat) : Int) + 1 + ((6 : Nat) : Int) + 1 + j)) (by decide +kernel), by decide +kernel, by decide, fin_rng (l := 3) (f := fun j => chs 2 (0 + ((4 : Nat) : Int) + 1 + ((6 : Nat) : Int) + 1 + ((8 : Nat) : Int) + 1 + j)) (by decide +kernel), by decide +kernel, by decide, fin_rng (l := 5) (f := fun j => chs 2 (0 + ((4 : Nat) : Int) + 1 + ((6 : Nat) : Int) + 1 + ((8 : Nat) : Int) + 1 + ((3 : Nat) : Int) + 1 + j)) (by decide +kernel), by decide +kernel, by decide, fin_rng (l := 4) (f := fun j => chs 2 (0 + ((4 : Nat) : Int) + 1 + ((6 : Nat) : Int) + 1 + ((8 : Nat) : Int) + 1 + ((3 : Nat) : Int) + 1 + ((5 : Nat) : Int) + 1 + j)) (by decide +kernel), by decide +kernel, by decide, fin_rng (l := 5) (f := fun j => chs 2 (0 + ((4 : Nat) : Int) + 1 + ((6 : Nat) : Int) + 1 + ((8 : Nat) : Int) + 1 + ((3 : Nat) : Int) + 1 + ((5 : Nat) : Int) + 1 + ((4 : Nat) : Int) + 1 + j)) (by decide +kernel), by decide +kernel, by decide, fin_rng (l := 3) (f := fun j => chs 2 (0 + ((4 : Nat) : Int) + 1 + ((6 : Nat) : Int) + 1 + ((8 : Nat) : Int) + 1 + ((3 : Nat) : Int) + 1 + ((5 : Nat) : Int) + 1 + ((4 : Nat) : Int) + 1 + ((5 : Nat) : Int) + 1 + j)) (by decide +kernel), by decide +kernel, by decide, fin_rng (l := 4) (f := fun j => chs 2 (0 + ((4 : Nat) : Int) + 1 + ((6 : Nat) : Int) + 1 + ((8 : Nat) : Int) + 1 + ((3 : Nat) : Int) + 1 + ((5 : Nat) : Int) + 1 + ((4 : Nat) : Int) + 1 + ((5 : Nat) : Int) + 1 + ((3 : Nat) : Int) + 1 + j)) (by decide +kernel), by decide +kernel, by decide, trivial⟩
section LAWD
variable {L : Nat} {sh : Nat → SH} {c : Nat → Int → Int} {n : Nat} {Q : Option AV → List SC → Nat → Prop} {g : Int → Int} {N p m z f p' m' : Int} {T T' : List Tk}
theorem ctk_w {w : Int} (h : 0 ≤ w ∧ w ≤ 8) : ctk (-1 - w) = (1, w) := by
  unfold ctk
  rw [if_neg (by omega), if_pos (by omega)]
  congr 1
  omega
theorem ctk_n {v : Int} (h : 0 ≤ v) : ctk v = (0, v) := if_pos h
theorem c53 (hR : LRd L sh) (hST : STRS sh c) (hTP : TP g N) (hD : LD c g N p m z T) (hp0 : 0 ≤ p ∧ p ≤ N) (hm : 0 ≤ m ∧ m ≤ 60) (hz : 0 ≤ z ∧ 3 * (z + T.length) ≤ 7 * m + p) (hb : vlf g N p m T = (f, p', m', T'))
    (hq : ∀ e, LQ c e (z + T.length) → RG e N → e 70 4 = f → (f = 0 → LD e g N p' m' z T') → Q none (hp L sh e) n) : tc_C 53 [rf 70] (hp L sh c) n Q := by
  obtain ⟨hL, h70, h27, h71, h72, h73⟩ := id hR
  have hL70 : 70 < L := by omega
  have hN := hTP.1
  have hs := nm_rng (g := g) hp0
  obtain ⟨d27, d1, d2, d4, d8, d9, dT⟩ := id hD
  have h20 := fun Q => c20_l (c := c) (n := n) (Q := Q) (N := N) (p := p) h70 h27 hL (by rw [d27]; exact hTP) d1 d2 (by omega)
  rw [d27] at h20
  unfold vlf at hb
  generalize hq0 : sk g N p = q at hb hs h20
  have hsq : sk g N q = q := by rw [← hq0]; exact sk_2 g N p
  generalize hc1 : fr c 70 (fu (c 70) 2 q) = c1 at h20
  have x70 : ∀ i, c1 70 i = fu (c 70) 2 q i := fun i => by rw [← hc1, fr_same]
  have xo : ∀ a, ¬ a = 70 → c1 a = c a := fun a ha => by rw [← hc1, fr_ne ha]
  have a27 : c1 27 = g := by rw [xo 27 (by omega)]; exact d27
  have a1 : c1 70 1 = N := by rw [x70, fu_ne (by omega)]; exact d1
  have a2 : c1 70 2 = q := by rw [x70, fu_same]
  have a4 : c1 70 4 = 0 := by rw [x70, fu_ne (by omega)]; exact d4
  have a9 : c1 70 9 = m := by rw [x70, fu_ne (by omega)]; exact d9
  have h41 := fun Q => c41_l (c := c1) (n := n) (Q := Q) (N := N) (q := q) h70 h27 hL (by rw [a27]; exact hTP) a1 (by omega)
  rw [a27] at h41
  -- a state of the reader in which only its own row has changed
  have hLQ : ∀ F, F 1 = c 70 1 → F 10 = c 70 10 → F 11 = c 70 11 → LQ c (fr c1 70 F) (z + T.length) := fun F f1 f2 f3 => LQ.of70 (fun a ha => by rw [fr_ne ha, xo a ha]) (by rw [fr_same]; exact f1) (by rw [fr_same]; exact f2) (by rw [fr_same]; exact f3)
  have hLD : ∀ (F : Int → Int) (p2 : Int), F 1 = N → F 2 = p2 → F 4 = 0 → F 8 = z + T.length → F 9 = m + 1 → LD (fr c1 70 F) g N p2 (m + 1) z T := fun F p2 f1 f2 f3 f4 f5 => ⟨by rw [fr_ne (by omega)]; exact a27, by rw [fr_same]; exact f1, by rw [fr_same]; exact f2, by rw [fr_same]; exact f3, by rw [fr_same]; exact f4, by rw [fr_same]; exact f5, by rw [fr_ne (by omega), xo 71 (by omega)]; exact dT⟩
  show tc_W 53 0 [rf 70, tc_nil, tc_nil] [] _ _ Q
  by_cases hdg : isdg g N q = 1
  · rw [if_pos hdg] at hb
    have hdr := dgt_1 hdg
    have h38 := fun Q => c38_l (c := c1) (n := n) (Q := Q) (N := N) (p := q) (lo := 0) (hi := 99999) h70 h27 hL (by rw [a27]; exact hTP) a1 a2 (by omega) a4
    rw [a27, hsq] at h38
    generalize hv : (dgt g N q).2 = v at hb h38
    generalize hp2 : (dgt g N q).1 = p2 at hb h38 hdr
    have hvr := dgt_v g N q
    rw [hv] at hvr
    by_cases hA : amf g N q 0 99999 = 0
    · rw [if_neg (fun x => x hA)] at hb
      rw [hA, if_pos rfl] at h38
      generalize hc2 : fr c1 70 (fu (fu (fu (c1 70) 3 q) 2 p2) 4 0) = c2 at h38
      have y70 : ∀ i, c2 70 i = fu (fu (fu (c1 70) 3 q) 2 p2) 4 0 i := fun i => by rw [← hc2, fr_same]
      have y9 : c2 70 9 = m := by rw [y70]; simp (disch := omega) only [fu_ne]; exact a9
      have y4 : c2 70 4 = 0 := by rw [y70, fu_same]
      have h54 := fun Q => c54 (c := c2) (n := n) (Q := Q) (m := m) (at_ := q) hR (by omega) y9 (by omega)
      by_cases h60 : 60 ≤ m
      · rw [if_pos h60] at hb
        obtain ⟨e1, _⟩ := prL hb
        have hf : ¬ f = 0 := by omega
        rw [if_pos h60, if_pos y4, e1, ← hc2, fr_fr, fr_same] at h54
        have h55 := fun Q => c55f (c := fr c1 70 (fu (fu (fu (fu (fu (c1 70) 3 q) 2 p2) 4 0) 9 (m + 1)) 4 f)) (n := n) (Q := Q) (st := v) (F := f) hR (by rw [fr_same, fu_same]) hf
        have hq' := hq (fr c1 70 (fu (fu (fu (fu (fu (c1 70) 3 q) 2 p2) 4 0) 9 (m + 1)) 4 f)) (hLQ _ (by simp (disch := omega) only [fu_ne, x70]) (by simp (disch := omega) only [fu_ne, x70]) (by simp (disch := omega) only [fu_ne, x70])) ⟨by rw [fr_same]; simp (disch := omega) only [fu_ne, fu_same]; omega, by rw [fr_same]; simp (disch := omega) only [fu_ne, fu_same]; omega⟩ (by rw [fr_same, fu_same]) (fun x => absurd x hf)
        rw [← hc2] at h38
        repeat' (first | (simp (disch := first | omega | exact Nat.le_of_ble_eq_true rfl | exact rfl | assumption | (simp (disch := omega) only [fr_ne, fr_same]; first | assumption | omega)) only [r53_0, r53_1, r53_7, r53_8, r53_9, v53_9_2, r53_12, r53_13, r53_16r, r53_17, r53_18, r53_19, v53_19_2, r53_25, r53_26, r53_27, r53_29, v53_29_2, r53_32i, r53_33, r53_34, r53_35, v53_35_2, r53_38, r53_39, r53_40, v53_40_2, r53_43, r53_44, r53_45, r53_47, v53_47_2, r53_50i, r53_51, r53_52, r53_56, r53_57, r53_58, r53_59, v53_59_2, r53_62, r53_63, r53_64, v53_64_2, r53_67, r53_68, r53_69, r53_70, r53_71, v53_71_2, r53_74, g2_46_0, g2_46_2, g2_63_0, g2_63_2, o0_len, o0_g4, o2_len, o2_g4, o0_g2, o2_g2, il_s, bl_s, bl_z, ll_s, is_s, bs_s, bs_z, ls_s, al_s, al_b, al_l, fr_ne, fr_same, fr_fr, Nat.reduceEqDiff, tc_gf3_s, tc_ql2_s, tc_ws_0, tc_ws_i, tc_ws_l, tc_ws_r, Nat.reduceLeDiff, Nat.reduceAdd, Nat.reduceLT, true_and, and_true, if_true, if_false, tc_K, Option.toList_some, Option.toList_none, List.nil_append, List.cons_append, ite_true, ite_false, Int.cast_ofNat_Int, reduceIte, i3_add_eq, i3_sub_eq, Int.add_sub_cancel, Int.add_neg_cancel_right, hO hL70 h70, d4, h20, a2, h41, hdg, h38, h54, h55]) | (simp only [r53_4, r53_22, r53_53, i6_lt0, i6_0lt, i6_0le, i6_le0, i6_eq0, b10_0, ite_not, Int.reduceLT, Int.reduceLE, Int.reduceEq, Int.reduceNeg, if_true, if_false, ite_true, ite_false, reduceIte, eq_self, not_true, not_false_eq_true]; try refine tc_ite (fun _ => ?_) (fun _ => ?_) <;> try (exfalso; omega)))
        all_goals first
          | exact hq'
          | omega
      · rw [if_neg h60] at hb
        obtain ⟨e1, e2, e3, e4⟩ := prL hb
        rw [if_neg h60, ← hc2, fr_fr, fr_same] at h54
        have hL3 := hLD (fu (fu (fu (fu (c1 70) 3 q) 2 p2) 4 0) 9 (m + 1)) p2 (by simp (disch := omega) only [fu_ne]; exact a1) (by simp (disch := omega) only [fu_ne, fu_same]) (by simp (disch := omega) only [fu_ne, fu_same]) (by simp (disch := omega) only [fu_ne, x70]; exact d8) (fu_same _ _ _)
        have hpu := hL3.push (ctk_n hvr.1)
        have h55 := fun Q => c55 (c := fr c1 70 (fu (fu (fu (fu (c1 70) 3 q) 2 p2) 4 0) 9 (m + 1))) (n := n) (Q := Q) (st := v) hR hL3.2.2.2.1 hL3.2.2.2.2.1 (by omega)
        have hq' := hq _ ((hLQ _ (by simp (disch := omega) only [fu_ne, x70]) (by simp (disch := omega) only [fu_ne, x70]) (by simp (disch := omega) only [fu_ne, x70])).trans hpu.2 (Int.le_refl _)) ⟨by rw [hpu.1.2.2.1]; omega, by rw [hpu.1.2.2.2.2.2.1]; omega⟩ (by rw [hpu.1.2.2.2.1]; exact e1) (fun _ => by rw [← e2, ← e3, ← e4]; exact hpu.1)
        rw [← hc2] at h38
        repeat' (first | (simp (disch := first | omega | exact Nat.le_of_ble_eq_true rfl | exact rfl | assumption | (simp (disch := omega) only [fr_ne, fr_same]; first | assumption | omega)) only [r53_0, r53_1, r53_7, r53_8, r53_9, v53_9_2, r53_12, r53_13, r53_16r, r53_17, r53_18, r53_19, v53_19_2, r53_25, r53_26, r53_27, r53_29, v53_29_2, r53_32i, r53_33, r53_34, r53_35, v53_35_2, r53_38, r53_39, r53_40, v53_40_2, r53_43, r53_44, r53_45, r53_47, v53_47_2, r53_50i, r53_51, r53_52, r53_56, r53_57, r53_58, r53_59, v53_59_2, r53_62, r53_63, r53_64, v53_64_2, r53_67, r53_68, r53_69, r53_70, r53_71, v53_71_2, r53_74, g2_46_0, g2_46_2, g2_63_0, g2_63_2, o0_len, o0_g4, o2_len, o2_g4, o0_g2, o2_g2, il_s, bl_s, bl_z, ll_s, is_s, bs_s, bs_z, ls_s, al_s, al_b, al_l, fr_ne, fr_same, fr_fr, Nat.reduceEqDiff, tc_gf3_s, tc_ql2_s, tc_ws_0, tc_ws_i, tc_ws_l, tc_ws_r, Nat.reduceLeDiff, Nat.reduceAdd, Nat.reduceLT, true_and, and_true, if_true, if_false, tc_K, Option.toList_some, Option.toList_none, List.nil_append, List.cons_append, ite_true, ite_false, Int.cast_ofNat_Int, reduceIte, i3_add_eq, i3_sub_eq, Int.add_sub_cancel, Int.add_neg_cancel_right, hO hL70 h70, d4, h20, a2, h41, hdg, h38, h54, h55]) | (simp only [r53_4, r53_22, r53_53, i6_lt0, i6_0lt, i6_0le, i6_le0, i6_eq0, b10_0, ite_not, Int.reduceLT, Int.reduceLE, Int.reduceEq, Int.reduceNeg, if_true, if_false, ite_true, ite_false, reduceIte, eq_self, not_true, not_false_eq_true]; try refine tc_ite (fun _ => ?_) (fun _ => ?_) <;> try (exfalso; omega)))
        all_goals first
          | exact hq'
          | omega
    · rw [if_pos hA] at hb
      obtain ⟨e1, _⟩ := prL hb
      rw [e1] at h38 hA
      rw [if_neg hA] at h38
      generalize hc2 : fr c1 70 (fu (fu (fu (c1 70) 3 q) 2 p2) 4 f) = c2 at h38
      have y70 : ∀ i, c2 70 i = fu (fu (fu (c1 70) 3 q) 2 p2) 4 f i := fun i => by rw [← hc2, fr_same]
      have y9 : c2 70 9 = m := by rw [y70]; simp (disch := omega) only [fu_ne]; exact a9
      have y4 : c2 70 4 = f := by rw [y70, fu_same]
      have h54 := fun Q => c54 (c := c2) (n := n) (Q := Q) (m := m) (at_ := q) hR (by omega) y9 (by omega)
      have ex : ∃ F, (∀ n Q, tc_C 54 [rf 70, .inl q] (hp L sh c2) n Q = Q none (hp L sh (fr c1 70 F)) n) ∧ F 1 = c 70 1 ∧ F 10 = c 70 10 ∧ F 11 = c 70 11 ∧ F 2 = p2 ∧ F 9 = m + 1 ∧ F 4 = f := by
        by_cases h60 : 60 ≤ m
        · refine ⟨fu (fu (fu (fu (fu (c1 70) 3 q) 2 p2) 4 f) 9 (m + 1)) 4 f, fun n Q => ?_, ?_⟩
          · rw [c54 (m := m) (at_ := q) hR (by omega) y9 (by omega), if_pos h60, y4, if_neg hA, ← hc2, fr_fr, fr_same]
          · simp (disch := omega) only [fu_ne, fu_same, x70]
            exact ⟨trivial, trivial, trivial, trivial, trivial, trivial⟩
        · refine ⟨fu (fu (fu (fu (c1 70) 3 q) 2 p2) 4 f) 9 (m + 1), fun n Q => ?_, ?_⟩
          · rw [c54 (m := m) (at_ := q) hR (by omega) y9 (by omega), if_neg h60, ← hc2, fr_fr, fr_same]
          · simp (disch := omega) only [fu_ne, fu_same, x70]
            exact ⟨trivial, trivial, trivial, trivial, trivial, trivial⟩
      obtain ⟨F, x1, x2, x3, x4, x5, x6, x7⟩ := ex
      have h55 := fun Q => c55f (c := fr c1 70 F) (n := n) (Q := Q) (st := -1) (F := f) hR (by rw [fr_same]; exact x7) hA
      have hq' := hq (fr c1 70 F) (hLQ F x2 x3 x4) ⟨by rw [fr_same, x5]; omega, by rw [fr_same, x6]; omega⟩ (by rw [fr_same]; exact x7) (fun x => absurd x hA)
      repeat' (first | (simp (disch := first | omega | exact Nat.le_of_ble_eq_true rfl | exact rfl | assumption | (simp (disch := omega) only [fr_ne, fr_same]; first | assumption | omega)) only [r53_0, r53_1, r53_7, r53_8, r53_9, v53_9_2, r53_12, r53_13, r53_16r, r53_17, r53_18, r53_19, v53_19_2, r53_25, r53_26, r53_27, r53_29, v53_29_2, r53_32i, r53_33, r53_34, r53_35, v53_35_2, r53_38, r53_39, r53_40, v53_40_2, r53_43, r53_44, r53_45, r53_47, v53_47_2, r53_50i, r53_51, r53_52, r53_56, r53_57, r53_58, r53_59, v53_59_2, r53_62, r53_63, r53_64, v53_64_2, r53_67, r53_68, r53_69, r53_70, r53_71, v53_71_2, r53_74, g2_46_0, g2_46_2, g2_63_0, g2_63_2, o0_len, o0_g4, o2_len, o2_g4, o0_g2, o2_g2, il_s, bl_s, bl_z, ll_s, is_s, bs_s, bs_z, ls_s, al_s, al_b, al_l, fr_ne, fr_same, fr_fr, Nat.reduceEqDiff, tc_gf3_s, tc_ql2_s, tc_ws_0, tc_ws_i, tc_ws_l, tc_ws_r, Nat.reduceLeDiff, Nat.reduceAdd, Nat.reduceLT, true_and, and_true, if_true, if_false, tc_K, Option.toList_some, Option.toList_none, List.nil_append, List.cons_append, ite_true, ite_false, Int.cast_ofNat_Int, reduceIte, i3_add_eq, i3_sub_eq, Int.add_sub_cancel, Int.add_neg_cancel_right, hO hL70 h70, d4, h20, a2, h41, hdg, h38, x1, h55]) | (simp only [r53_4, r53_22, r53_53, i6_lt0, i6_0lt, i6_0le, i6_le0, i6_eq0, b10_0, ite_not, Int.reduceLT, Int.reduceLE, Int.reduceEq, Int.reduceNeg, if_true, if_false, ite_true, ite_false, reduceIte, eq_self, not_true, not_false_eq_true]; try refine tc_ite (fun _ => ?_) (fun _ => ?_) <;> try (exfalso; omega)))
      all_goals first
        | exact hq'
        | omega
  · rw [if_neg hdg] at hb
    have hdg0 : isdg g N q = 0 := by
      rcases isdg_01 g N q with x | x
      · exact x
      · exact absurd x hdg
    have a0 : c1 2 = chs 2 := by rw [xo 2 (by omega)]; exact (hST 2 (by omega)).2
    have h21 := fun Q => c21_l (c := c1) (n := n) (Q := Q) (N := N) (p := q) (w := 2) (tl := 51) (wl := [4, 6, 8, 3, 5, 4, 5, 3, 4]) h70 h27 hL (by rw [a27]; exact hTP) a1 a2 (by omega) (by omega) (hST 2 (by omega)).1 (by omega) (by decide) (by rw [a0]; exact wls_2)
    rw [a27, a0, hsq] at h21
    have ebw : rwd g N q (chs 2) 0 0 [4, 6, 8, 3, 5, 4, 5, 3, 4] = wd9 g N q := rfl
    rw [ebw] at h21
    by_cases hw : wd9 g N q = -1
    · rw [if_pos hw] at hb
      obtain ⟨e1, _⟩ := prL hb
      have hf : ¬ f = 0 := by omega
      rw [hw, if_pos rfl] at h21
      have e5 : fr c1 70 (fu (c1 70) 2 q) = c1 := by rw [← a2, fu_id, fr_id]
      rw [e5] at h21
      have h34 := fun Q => c34_l (c := c1) (n := n) (Q := Q) (a := q) (k := 0) h70 h27 hL (by omega) (by omega)
      rw [if_pos a4, show 1 + 8 * q + 0 = f by omega] at h34
      generalize hc2 : fr c1 70 (fu (c1 70) 4 f) = c2 at h34
      have y70 : ∀ i, c2 70 i = fu (c1 70) 4 f i := fun i => by rw [← hc2, fr_same]
      have y9 : c2 70 9 = m := by rw [y70]; simp (disch := omega) only [fu_ne]; exact a9
      have y4 : c2 70 4 = f := by rw [y70, fu_same]
      have ex : ∃ F, (∀ n Q, tc_C 54 [rf 70, .inl q] (hp L sh c2) n Q = Q none (hp L sh (fr c1 70 F)) n) ∧ F 1 = c 70 1 ∧ F 10 = c 70 10 ∧ F 11 = c 70 11 ∧ F 2 = q ∧ F 9 = m + 1 ∧ F 4 = f := by
        by_cases h60 : 60 ≤ m
        · refine ⟨fu (fu (fu (c1 70) 4 f) 9 (m + 1)) 4 f, fun n Q => ?_, ?_⟩
          · rw [c54 (m := m) (at_ := q) hR (by omega) y9 (by omega), if_pos h60, y4, if_neg hf, ← hc2, fr_fr, fr_same]
          · simp (disch := omega) only [fu_ne, fu_same, x70]
            exact ⟨trivial, trivial, trivial, trivial, trivial, trivial⟩
        · refine ⟨fu (fu (c1 70) 4 f) 9 (m + 1), fun n Q => ?_, ?_⟩
          · rw [c54 (m := m) (at_ := q) hR (by omega) y9 (by omega), if_neg h60, ← hc2, fr_fr, fr_same]
          · simp (disch := omega) only [fu_ne, fu_same, x70]
            exact ⟨trivial, trivial, trivial, trivial, trivial, trivial⟩
      obtain ⟨F, x1, x2, x3, x4, x5, x6, x7⟩ := ex
      have h55 := fun st Q => c55f (c := fr c1 70 F) (n := n) (Q := Q) (st := st) (F := f) hR (by rw [fr_same]; exact x7) hf
      have hq' := hq (fr c1 70 F) (hLQ F x2 x3 x4) ⟨by rw [fr_same, x5]; omega, by rw [fr_same, x6]; omega⟩ (by rw [fr_same]; exact x7) (fun x => absurd x hf)
      repeat' (first | (simp (disch := first | omega | exact Nat.le_of_ble_eq_true rfl | exact rfl | assumption | (simp (disch := omega) only [fr_ne, fr_same]; first | assumption | omega)) only [r53_0, r53_1, r53_7, r53_8, r53_9, v53_9_2, r53_12, r53_13, r53_16r, r53_17, r53_18, r53_19, v53_19_2, r53_25, r53_26, r53_27, r53_29, v53_29_2, r53_32i, r53_33, r53_34, r53_35, v53_35_2, r53_38, r53_39, r53_40, v53_40_2, r53_43, r53_44, r53_45, r53_47, v53_47_2, r53_50i, r53_51, r53_52, r53_56, r53_57, r53_58, r53_59, v53_59_2, r53_62, r53_63, r53_64, v53_64_2, r53_67, r53_68, r53_69, r53_70, r53_71, v53_71_2, r53_74, g2_46_0, g2_46_2, g2_63_0, g2_63_2, o0_len, o0_g4, o2_len, o2_g4, o0_g2, o2_g2, il_s, bl_s, bl_z, ll_s, is_s, bs_s, bs_z, ls_s, al_s, al_b, al_l, fr_ne, fr_same, fr_fr, Nat.reduceEqDiff, tc_gf3_s, tc_ql2_s, tc_ws_0, tc_ws_i, tc_ws_l, tc_ws_r, Nat.reduceLeDiff, Nat.reduceAdd, Nat.reduceLT, true_and, and_true, if_true, if_false, tc_K, Option.toList_some, Option.toList_none, List.nil_append, List.cons_append, ite_true, ite_false, Int.cast_ofNat_Int, reduceIte, i3_add_eq, i3_sub_eq, Int.add_sub_cancel, Int.add_neg_cancel_right, hO hL70 h70, d4, h20, a2, h41, hdg0, h21, h34, x1, h55]) | (simp only [r53_4, r53_22, r53_53, i6_lt0, i6_0lt, i6_0le, i6_le0, i6_eq0, b10_0, ite_not, Int.reduceLT, Int.reduceLE, Int.reduceEq, Int.reduceNeg, if_true, if_false, ite_true, ite_false, reduceIte, eq_self, not_true, not_false_eq_true]; try refine tc_ite (fun _ => ?_) (fun _ => ?_) <;> try (exfalso; omega)))
      all_goals first
        | exact hq'
        | omega
    · rw [if_neg hw] at hb
      have hwr := wd9_rn hw
      have hwp := wd9_place hw
      rw [if_neg hw, hwr.2] at h21
      generalize hww : wd9 g N q = w at hb h21 hw hwr hwp
      generalize hp2 : q + wl9 w = p2 at hb h21 hwp
      generalize hc2 : fr c1 70 (fu (c1 70) 2 p2) = c2 at h21
      have y70 : ∀ i, c2 70 i = fu (c1 70) 2 p2 i := fun i => by rw [← hc2, fr_same]
      have y9 : c2 70 9 = m := by rw [y70]; simp (disch := omega) only [fu_ne]; exact a9
      have y4 : c2 70 4 = 0 := by rw [y70]; simp (disch := omega) only [fu_ne]; exact a4
      have h54 := fun Q => c54 (c := c2) (n := n) (Q := Q) (m := m) (at_ := q) hR (by omega) y9 (by omega)
      by_cases h60 : 60 ≤ m
      · rw [if_pos h60] at hb
        obtain ⟨e1, _⟩ := prL hb
        have hf : ¬ f = 0 := by omega
        rw [if_pos h60, if_pos y4, e1, ← hc2, fr_fr, fr_same] at h54
        have h55 := fun st Q => c55f (c := fr c1 70 (fu (fu (fu (c1 70) 2 p2) 9 (m + 1)) 4 f)) (n := n) (Q := Q) (st := st) (F := f) hR (by rw [fr_same, fu_same]) hf
        have hq' := hq (fr c1 70 (fu (fu (fu (c1 70) 2 p2) 9 (m + 1)) 4 f)) (hLQ _ (by simp (disch := omega) only [fu_ne, x70]) (by simp (disch := omega) only [fu_ne, x70]) (by simp (disch := omega) only [fu_ne, x70])) ⟨by rw [fr_same]; simp (disch := omega) only [fu_ne, fu_same]; omega, by rw [fr_same]; simp (disch := omega) only [fu_ne, fu_same]; omega⟩ (by rw [fr_same, fu_same]) (fun x => absurd x hf)
        rw [← hc2] at h21
        repeat' (first | (simp (disch := first | omega | exact Nat.le_of_ble_eq_true rfl | exact rfl | assumption | (simp (disch := omega) only [fr_ne, fr_same]; first | assumption | omega)) only [r53_0, r53_1, r53_7, r53_8, r53_9, v53_9_2, r53_12, r53_13, r53_16r, r53_17, r53_18, r53_19, v53_19_2, r53_25, r53_26, r53_27, r53_29, v53_29_2, r53_32i, r53_33, r53_34, r53_35, v53_35_2, r53_38, r53_39, r53_40, v53_40_2, r53_43, r53_44, r53_45, r53_47, v53_47_2, r53_50i, r53_51, r53_52, r53_56, r53_57, r53_58, r53_59, v53_59_2, r53_62, r53_63, r53_64, v53_64_2, r53_67, r53_68, r53_69, r53_70, r53_71, v53_71_2, r53_74, g2_46_0, g2_46_2, g2_63_0, g2_63_2, o0_len, o0_g4, o2_len, o2_g4, o0_g2, o2_g2, il_s, bl_s, bl_z, ll_s, is_s, bs_s, bs_z, ls_s, al_s, al_b, al_l, fr_ne, fr_same, fr_fr, Nat.reduceEqDiff, tc_gf3_s, tc_ql2_s, tc_ws_0, tc_ws_i, tc_ws_l, tc_ws_r, Nat.reduceLeDiff, Nat.reduceAdd, Nat.reduceLT, true_and, and_true, if_true, if_false, tc_K, Option.toList_some, Option.toList_none, List.nil_append, List.cons_append, ite_true, ite_false, Int.cast_ofNat_Int, reduceIte, i3_add_eq, i3_sub_eq, Int.add_sub_cancel, Int.add_neg_cancel_right, hO hL70 h70, d4, h20, a2, h41, hdg0, h21, h54, h55]) | (simp only [r53_4, r53_22, r53_53, i6_lt0, i6_0lt, i6_0le, i6_le0, i6_eq0, b10_0, ite_not, Int.reduceLT, Int.reduceLE, Int.reduceEq, Int.reduceNeg, if_true, if_false, ite_true, ite_false, reduceIte, eq_self, not_true, not_false_eq_true]; try refine tc_ite (fun _ => ?_) (fun _ => ?_) <;> try (exfalso; omega)))
        all_goals first
          | exact hq'
          | omega
      · rw [if_neg h60] at hb
        obtain ⟨e1, e2, e3, e4⟩ := prL hb
        rw [if_neg h60, ← hc2, fr_fr, fr_same] at h54
        have hL3 := hLD (fu (fu (c1 70) 2 p2) 9 (m + 1)) p2 (by simp (disch := omega) only [fu_ne]; exact a1) (by simp (disch := omega) only [fu_ne, fu_same]) (by simp (disch := omega) only [fu_ne]; exact a4) (by simp (disch := omega) only [fu_ne, x70]; exact d8) (fu_same _ _ _)
        have hpu := hL3.push (ctk_w hwr.1)
        have h55 := fun Q => c55 (c := fr c1 70 (fu (fu (c1 70) 2 p2) 9 (m + 1))) (n := n) (Q := Q) (st := -1 - w) hR hL3.2.2.2.1 hL3.2.2.2.2.1 (by omega)
        have hq' := hq _ ((hLQ _ (by simp (disch := omega) only [fu_ne, x70]) (by simp (disch := omega) only [fu_ne, x70]) (by simp (disch := omega) only [fu_ne, x70])).trans hpu.2 (Int.le_refl _)) ⟨by rw [hpu.1.2.2.1]; omega, by rw [hpu.1.2.2.2.2.2.1]; omega⟩ (by rw [hpu.1.2.2.2.1]; exact e1) (fun _ => by rw [← e2, ← e3, ← e4]; exact hpu.1)
        rw [← hc2] at h21
        repeat' (first | (simp (disch := first | omega | exact Nat.le_of_ble_eq_true rfl | exact rfl | assumption | (simp (disch := omega) only [fr_ne, fr_same]; first | assumption | omega)) only [r53_0, r53_1, r53_7, r53_8, r53_9, v53_9_2, r53_12, r53_13, r53_16r, r53_17, r53_18, r53_19, v53_19_2, r53_25, r53_26, r53_27, r53_29, v53_29_2, r53_32i, r53_33, r53_34, r53_35, v53_35_2, r53_38, r53_39, r53_40, v53_40_2, r53_43, r53_44, r53_45, r53_47, v53_47_2, r53_50i, r53_51, r53_52, r53_56, r53_57, r53_58, r53_59, v53_59_2, r53_62, r53_63, r53_64, v53_64_2, r53_67, r53_68, r53_69, r53_70, r53_71, v53_71_2, r53_74, g2_46_0, g2_46_2, g2_63_0, g2_63_2, o0_len, o0_g4, o2_len, o2_g4, o0_g2, o2_g2, il_s, bl_s, bl_z, ll_s, is_s, bs_s, bs_z, ls_s, al_s, al_b, al_l, fr_ne, fr_same, fr_fr, Nat.reduceEqDiff, tc_gf3_s, tc_ql2_s, tc_ws_0, tc_ws_i, tc_ws_l, tc_ws_r, Nat.reduceLeDiff, Nat.reduceAdd, Nat.reduceLT, true_and, and_true, if_true, if_false, tc_K, Option.toList_some, Option.toList_none, List.nil_append, List.cons_append, ite_true, ite_false, Int.cast_ofNat_Int, reduceIte, i3_add_eq, i3_sub_eq, Int.add_sub_cancel, Int.add_neg_cancel_right, hO hL70 h70, d4, h20, a2, h41, hdg0, h21, h54, h55]) | (simp only [r53_4, r53_22, r53_53, i6_lt0, i6_0lt, i6_0le, i6_le0, i6_eq0, b10_0, ite_not, Int.reduceLT, Int.reduceLE, Int.reduceEq, Int.reduceNeg, if_true, if_false, ite_true, ite_false, reduceIte, eq_self, not_true, not_false_eq_true]; try refine tc_ite (fun _ => ?_) (fun _ => ?_) <;> try (exfalso; omega)))
        all_goals first
          | exact hq'
          | omega
theorem c53f (hR : LRd L sh) {F : Int} (h4 : c 70 4 = F) (hF : ¬ F = 0) : tc_C 53 [rf 70] (hp L sh c) n Q = Q none (hp L sh c) n := tc_det fun Q hq => by
  obtain ⟨hL, h70, h27, h71, h72, h73⟩ := hR
  have hL70 : 70 < L := by omega
  show tc_W 53 0 [rf 70, tc_nil, tc_nil] [] _ _ Q
  repeat' (first | (simp (disch := first | omega | exact Nat.le_of_ble_eq_true rfl | exact rfl | assumption | (simp (disch := omega) only [fr_ne, fr_same]; first | assumption | omega)) only [r53_0, r53_1, r53_7, r53_8, r53_9, v53_9_2, r53_12, r53_13, r53_16r, r53_17, r53_18, r53_19, v53_19_2, r53_25, r53_26, r53_27, r53_29, v53_29_2, r53_32i, r53_33, r53_34, r53_35, v53_35_2, r53_38, r53_39, r53_40, v53_40_2, r53_43, r53_44, r53_45, r53_47, v53_47_2, r53_50i, r53_51, r53_52, r53_56, r53_57, r53_58, r53_59, v53_59_2, r53_62, r53_63, r53_64, v53_64_2, r53_67, r53_68, r53_69, r53_70, r53_71, v53_71_2, r53_74, g2_46_0, g2_46_2, g2_63_0, g2_63_2, o0_len, o0_g4, o2_len, o2_g4, o0_g2, o2_g2, il_s, bl_s, bl_z, ll_s, is_s, bs_s, bs_z, ls_s, al_s, al_b, al_l, fr_ne, fr_same, fr_fr, Nat.reduceEqDiff, tc_gf3_s, tc_ql2_s, tc_ws_0, tc_ws_i, tc_ws_l, tc_ws_r, Nat.reduceLeDiff, Nat.reduceAdd, Nat.reduceLT, true_and, and_true, if_true, if_false, tc_K, Option.toList_some, Option.toList_none, List.nil_append, List.cons_append, ite_true, ite_false, Int.cast_ofNat_Int, reduceIte, i3_add_eq, i3_sub_eq, Int.add_sub_cancel, Int.add_neg_cancel_right, hO hL70 h70, h4]) | (simp only [r53_4, r53_22, r53_53, i6_lt0, i6_0lt, i6_0le, i6_le0, i6_eq0, b10_0, ite_not, Int.reduceLT, Int.reduceLE, Int.reduceEq, Int.reduceNeg, if_true, if_false, ite_true, ite_false, reduceIte, eq_self, not_true, not_false_eq_true]; try refine tc_ite (fun _ => ?_) (fun _ => ?_) <;> try (exfalso; omega)))
  all_goals first
    | exact hq
    | omega
theorem c52f (hR : LRd L sh) {F : Int} (h4 : c 70 4 = F) (hF : ¬ F = 0) : tc_C 52 [rf 70] (hp L sh c) n Q = Q none (hp L sh c) n := tc_det fun Q hq => by
  have h53 := fun n Q => c53f (c := c) (n := n) (Q := Q) hR h4 hF
  have h58 := fun n Q => c58_0 (c := c) (n := n) (Q := Q) hR
  obtain ⟨hL, h70, h27, h71, h72, h73⟩ := hR
  have hL70 : 70 < L := by omega
  show tc_W 52 0 [rf 70, tc_nil, tc_nil, tc_nil, tc_nil] [] _ _ Q
  repeat' (first | (simp (disch := first | omega | exact Nat.le_of_ble_eq_true rfl | exact rfl | assumption | (simp (disch := omega) only [fr_ne, fr_same]; first | assumption | omega)) only [r52_0, r52_1, v52_1_2, r52_4, r52_5r, r52_6, r52_7i, r52_9, r52_15, r52_16, r52_22, r52_23, v52_23_2, r52_26i, r52_27, r52_31, r52_32, v52_32_2, r52_35, r52_38, r52_39i, r52_41, r52_45, r52_46, v52_46_2, r52_49, r52_50, r52_51, v52_51_2, r52_54, r52_57, r52_62, r52_63, r52_64, v52_64_2, r52_67, r52_69r, r52_70, r52_71, v52_71_2, r52_74i, r52_77, r52_80, r52_81, r52_82, v52_82_2, r52_85, g2_46_0, g2_46_2, o0_len, o0_g4, o2_len, o2_g4, il_s, bl_s, bl_z, ll_s, is_s, bs_s, bs_z, ls_s, al_s, al_b, al_l, fr_ne, fr_same, fr_fr, Nat.reduceEqDiff, tc_gf3_s, tc_ql2_s, tc_ws_0, tc_ws_i, tc_ws_l, tc_ws_r, Nat.reduceLeDiff, Nat.reduceAdd, Nat.reduceLT, true_and, and_true, if_true, if_false, tc_K, Option.toList_some, Option.toList_none, List.nil_append, List.cons_append, ite_true, ite_false, Int.cast_ofNat_Int, reduceIte, i3_add_eq, i3_sub_eq, Int.add_sub_cancel, Int.add_neg_cancel_right, hO hL70 h70, h53]) | (simp only [r52_12, r52_19, r52_28, r52_42, r52_59, i6_lt0, i6_0lt, i6_0le, i6_le0, i6_eq0, b10_0, ite_not, Int.reduceLT, Int.reduceLE, Int.reduceEq, Int.reduceNeg, if_true, if_false, ite_true, ite_false, reduceIte, eq_self, not_true, not_false_eq_true]; try refine tc_ite (fun _ => ?_) (fun _ => ?_) <;> try (exfalso; omega)))
  simp only [r52_8]
  repeat' (first | (simp (disch := first | omega | exact Nat.le_of_ble_eq_true rfl | exact rfl | assumption | (simp (disch := omega) only [fr_ne, fr_same]; first | assumption | omega)) only [r52_0, r52_1, v52_1_2, r52_4, r52_5r, r52_6, r52_7i, r52_9, r52_15, r52_16, r52_22, r52_23, v52_23_2, r52_26i, r52_27, r52_31, r52_32, v52_32_2, r52_35, r52_38, r52_39i, r52_41, r52_45, r52_46, v52_46_2, r52_49, r52_50, r52_51, v52_51_2, r52_54, r52_57, r52_62, r52_63, r52_64, v52_64_2, r52_67, r52_69r, r52_70, r52_71, v52_71_2, r52_74i, r52_77, r52_80, r52_81, r52_82, v52_82_2, r52_85, g2_46_0, g2_46_2, o0_len, o0_g4, o2_len, o2_g4, il_s, bl_s, bl_z, ll_s, is_s, bs_s, bs_z, ls_s, al_s, al_b, al_l, fr_ne, fr_same, fr_fr, Nat.reduceEqDiff, tc_gf3_s, tc_ql2_s, tc_ws_0, tc_ws_i, tc_ws_l, tc_ws_r, Nat.reduceLeDiff, Nat.reduceAdd, Nat.reduceLT, true_and, and_true, if_true, if_false, tc_K, Option.toList_some, Option.toList_none, List.nil_append, List.cons_append, ite_true, ite_false, Int.cast_ofNat_Int, reduceIte, i3_add_eq, i3_sub_eq, Int.add_sub_cancel, Int.add_neg_cancel_right, hO hL70 h70, h4, h58]) | (simp only [r52_12, r52_19, r52_28, r52_42, r52_59, i6_lt0, i6_0lt, i6_0le, i6_le0, i6_eq0, b10_0, ite_not, Int.reduceLT, Int.reduceLE, Int.reduceEq, Int.reduceNeg, if_true, if_false, ite_true, ite_false, reduceIte, eq_self, not_true, not_false_eq_true]; try refine tc_ite (fun _ => ?_) (fun _ => ?_) <;> try (exfalso; omega)))
  all_goals first
    | exact hq
    | omega
end LAWD

/-! the reference: test -/
theorem wts_len (W : Int) : (wts W).length ≤ 2 := by
  unfold wts
  repeat' split
  all_goals decide
theorem sto_len : ∀ (O : List Int) (W : Int), (sto O W).length ≤ 3 * O.length + 2 := by
  intro O
  induction O with
  | nil =>
    intro W
    have := wts_len W
    show (wts W).length ≤ 2
    omega
  | cons x O ih =>
    intro W
    have hl : (x :: O).length = O.length + 1 := rfl
    have h1 : sto (x :: O) W = if x = -1 then 9 :: sto O W else wts W ++ 12 :: sto O x := rfl
    rw [h1]
    split
    · have := ih W
      show (sto O W).length + 1 ≤ _
      omega
    · have h2 := ih x
      have h3 := wts_len W
      rw [List.length_append]
      show (wts W).length + ((sto O x).length + 1) ≤ _
      omega
theorem sto_nts : ∀ (O : List Int) (W : Int), sto O W = List.replicate (nts O) 9 ++ sto (drp O) W := by
  intro O
  induction O with
  | nil => intro W; rfl
  | cons x O ih =>
    intro W
    have h1 : sto (x :: O) W = if x = -1 then 9 :: sto O W else wts W ++ 12 :: sto O x := rfl
    have h2 : nts (x :: O) = if x = -1 then nts O + 1 else 0 := rfl
    have h3 : drp (x :: O) = if x = -1 then drp O else x :: O := rfl
    by_cases hx : x = -1
    · rw [if_pos hx] at h1 h2 h3
      rw [h1, h2, h3, ih W, List.replicate_succ]
      rfl
    · rw [if_neg hx] at h2 h3
      rw [h2, h3, List.replicate_zero, List.nil_append]
/-- a level without a not on top -/
theorem sto_lv {O : List Int} (h : ∀ w O2, O = w :: O2 → ¬ w = -1) (W : Int) : ∃ R, (R.headD (-1) = -1 ∨ R.headD (-1) = 12) ∧ (∀ V, sto O V = wts V ++ R) ∧ (O = [] → R = []) ∧ (∀ w O2, O = w :: O2 → R = 12 :: sto O2 w) := by
  cases O with
  | nil => exact ⟨[], Or.inl rfl, fun V => by rw [List.append_nil]; rfl, fun _ => rfl, fun w O2 h => absurd h (by simp)⟩
  | cons x O =>
    refine ⟨12 :: sto O x, Or.inr rfl, fun V => ?_, fun h => absurd h (by simp), fun w O2 h => ?_⟩
    · show (if x = -1 then 9 :: sto O V else wts V ++ 12 :: sto O x) = _
      rw [if_neg (h x O rfl)]
    · injection h with h1 h2
      rw [h1, h2]
theorem wts_10 {W : Int} (hW : 0 ≤ W ∧ W ≤ 3) : wts W = List.replicate (W % 2).toNat 10 ++ wts (W - W % 2) ∧ t10 W = List.replicate (W % 2).toNat (10, 0) ∧ wts (W - W % 2) = List.replicate (if 2 ≤ W then 1 else 0) 11 ∧ t11 W = List.replicate (if 2 ≤ W then 1 else 0) (11, 0) := by
  rcases (by omega : W = 0 ∨ W = 1 ∨ W = 2 ∨ W = 3) with rfl | rfl | rfl | rfl <;> exact ⟨by decide, by decide, by decide, by decide⟩
section TESTO
variable {L : Nat} {sh : Nat → SH} {c : Nat → Int → Int} {n : Nat} {Q : Option AV → List SC → Nat → Prop} {g : Int → Int} {N p m s z f p' m' F W W' mo : Int} {T T' : List Tk} {O O' S : List Int}
theorem m201 (hS : MS L sh) {k : Int} (hk : k = 9 ∨ k = 10 ∨ k = 11) (hs : 0 ≤ s ∧ s ≤ 5) {R : List Int} (hR : ¬ R.headD (-1) = k) {j : Nat} (hE : ME c g N p m s z T) (h23 : c 75 23 = 0) (hSR : SR c S) (hSj : S = List.replicate j k ++ R) (hl : S.length ≤ 400) {D : Int} (hD : c 75 27 = D) (hD0 : (j : Int) - 1000 ≤ D ∧ D ≤ 20) (hz : 0 ≤ z ∧ z + T.length + j < 300) (hq : ∀ e, MTQ c e (300 * s + (z + T.length)) → ME e g N p m s z (T ++ List.replicate j (k, 0)) → e 75 23 = 0 → SR e R → e 75 27 = D - (if k = 9 then (j : Int) else 0) → Q none (hp L sh e) n) : tc_C 201 [rf 75, .inl k] (hp L sh c) n Q := by
  subst hSj
  show tc_W 201 0 [rf 75, .inl k] [] _ _ Q
  exact m201_l (c := c) hS hk hs hz.1 hR j T c D hE h23 hSR hl hD hD0.1 hD0.2 MTQ.refl (Int.le_refl _) hz.2 hq
theorem m197_x (hS : MS L sh) {a1 : Int} {a3 a4 : AV} (h23 : ¬ c 75 23 = 0) (hq : Q none (hp L sh c) n) : tc_W 197 9 [rf 75, .inl a1, .inl 1, a3, a4] [] (hp L sh c) n Q := by
  generalize hF : c 75 23 = F at h23
  simp only [r197_9]
  repeat' (first | (simp (disch := first | omega | exact Nat.le_of_ble_eq_true rfl | exact rfl | assumption | (simp only [fr_at, Nat.reduceEqDiff, if_false, if_true, reduceIte]; first | assumption | omega)) only [r197_0, r197_1, r197_2, r197_5, r197_6r, r197_7, r197_8i, r197_13, r197_14, r197_20, r197_24, r197_25, v197_25_11, r197_31, r197_32, r197_35, r197_36r, r197_37, r197_40, r197_41, r197_43, v197_43_11, r197_46, r197_47, v197_47_11, r197_50, r197_51, r197_54, v197_54_11, r197_57i, r197_58, r197_59, r197_62, v197_62_11, r197_65i, r197_67, r197_68, r197_70, v197_70_11, r197_73, r197_77, r197_82, r197_87, r197_88, r197_90, v197_90_11, r197_93, r197_94, r197_98, r197_100, r197_103, r197_105, v197_105_11, r197_108, r197_109, r197_109A, r197_110, r197_113, r197_117, r197_118, r197_121, r197_122, r197_123, r197_126, r197_127r, r197_128, r197_131, r197_132, r197_134, v197_134_11, r197_137, r197_138, v197_138_11, r197_141, r197_146, r197_147, v197_147_11, r197_150, r197_155, r197_156, r197_157, r197_158, r197_161, v197_161_11, r197_164, r197_165, r197_165A, r197_166, r197_169, r197_170, r197_171, r197_174, r197_175, r197_175A, r197_176, r197_179, r197_180, r197_181, r197_184, r197_185, r197_185A, r197_186, r197_189, r197_190, r197_191, r197_194, r197_197, r197_198i, r197_199, r197_202, p11_241_11, g11_171_11, g11_174_11, p11_174_11, g11_241_11, g11_244_11, p11_244_11, mo_len, ms75 hS, mt75 hS, mo_s29, mo_g23, mo_g22, mo_s22, mo_g29, mo_g27, mo_s27, il_s, bl_s, bl_z, ll_s, is_s, bs_s, bs_z, ls_s, al_s, al_b, al_l, fr_at, fr_fr, Nat.reduceEqDiff, tc_gf3_s, tc_ql2_s, tc_ws_0, tc_ws_i, tc_ws_l, tc_ws_r, Nat.reduceLeDiff, Nat.reduceAdd, Nat.reduceLT, true_and, and_true, if_true, if_false, tc_K, Option.toList_some, Option.toList_none, List.nil_append, List.cons_append, ite_true, ite_false, Int.cast_ofNat_Int, reduceIte, i3_add_eq, i3_sub_eq, Int.add_sub_cancel, Int.add_neg_cancel_right, hF]) | (simp only [r197_10, r197_17, r197_21, r197_28, r197_74, r197_79, r197_84, r197_95, r197_114, r197_143, r197_152, i6_lt0, i6_0lt, i6_0le, i6_le0, i6_eq0, b10_0, ite_not, Int.reduceLT, Int.reduceLE, Int.reduceEq, Int.reduceNeg, if_true, if_false, ite_true, ite_false, reduceIte, eq_self, not_true, not_false_eq_true]; try refine tc_ite (fun _ => ?_) (fun _ => ?_) <;> try (exfalso; omega)))
  all_goals first
    | exact hq
    | omega
/-- ahead of a fact -/
theorem m197_o (hS : MS L sh) (hST : STRS sh c) (hTP : TP g N) (hs : 0 ≤ s ∧ s ≤ 5) (hz0 : 0 ≤ z) {Z : Int} {K : Nat} (hK : N ≤ K) (hm : 0 ≤ m ∧ m ≤ 60) {p1 W1 f1 f2 p2 m2 : Int} {O1 : List Int} {T2 : List Tk} (hf : fct g N K p1 m T = (f2, p2, m2, T2))
    (hx : ∀ e, MTQ c e Z → RN e N 63 → ¬ e 75 23 = 0 → (¬ f1 = 0 → e 75 23 = f1) → (f1 = 0 → e 75 23 = f2) → Q none (hp L sh e) n)
    (hgo : f1 = 0 → f2 = 0 → ∀ (e : Nat → Int → Int) (a3 a4 : AV), MTQ c e Z → ME e g N p2 m2 s z T2 → e 75 23 = 0 → SR e (sto O1 W1) → e 75 27 = O1.length → tc_W 197 9 [rf 75, .inl 0, .inl 1, a3, a4] [] (hp L sh e) n Q) : ∀ (k : Nat) (p W : Int) (O : List Int) (d : Nat → Int → Int) (a3 a4 : AV), ME d g N p m s z T → d 75 23 = 0 → SR d (sto O W) → d 75 27 = O.length → MTQ c d Z → Z ≤ 300 * s + (z + T.length) → okO O → 0 ≤ W → W ≤ 3 → O.length ≤ 10 → 0 ≤ p → p ≤ N → N - p ≤ k → 3 * (z + T.length) ≤ 7 * m + p → opn g N k p O W = (f1, p1, O1, W1) → tc_W 197 9 [rf 75, .inl 1, .inl 1, a3, a4] [] (hp L sh d) n Q := by
  have hN := hTP.1
  have hL := hS.1
  have fin : ∀ (p W : Int) (O : List Int) (d : Nat → Int → Int) (a3 a4 : AV), ME d g N p m s z T → d 75 23 = 0 → SR d (sto O W) → d 75 27 = O.length → MTQ c d Z → Z ≤ 300 * s + (z + T.length) → 0 ≤ p → p ≤ N → 3 * (z + T.length) ≤ 7 * m + p → ¬ byt g N (sk g N p) = 91 → ¬ stq g N (sk g N p) (chs 22) 3 = 1 → (0, sk g N p, O, W) = (f1, p1, O1, W1) → tc_W 197 9 [rf 75, .inl 1, .inl 1, a3, a4] [] (hp L sh d) n Q := by
    intro p W O d a3 a4 hE h23 hSR hD hM hZ hp1 hp2 hz hb91 hn hr
    obtain ⟨h95, h21, h22, h24, h26, h28, h30, hTT⟩ := id hE
    have hsr := nm_rng (g := g) (p := p) (N := N) ⟨hp1, hp2⟩
    have hkr := sk_rng (g := g) (n := N) (p := p)
    have h171 := fun n Q => c171q (c := d) (n := n) (Q := Q) (N := N) (p := p) hS (by rw [h95]; exact hTP) h21 h22 (by omega)
    rw [h95] at h171
    have hat := hE.at (sk g N p)
    generalize hq0 : sk g N p = q at hsr hkr h171 hat hr hb91 hn
    generalize hc1 : fr d 75 (fu (d 75) 22 q) = c1 at h171 hat
    have hM1 := hM.trans (hat.2 Z).t (Int.le_refl _)
    have x75 : ∀ i, ¬ i = 22 → c1 75 i = d 75 i := fun i hi => by rw [← hc1, fr_same, fu_ne hi]
    have xo : ∀ a, ¬ a = 75 → c1 a = d a := fun a ha => by rw [← hc1, fr_ne ha]
    have h231 : c1 75 23 = 0 := by rw [x75 23 (by omega)]; exact h23
    have hSR1 : SR c1 (sto O W) := ⟨by rw [xo 102 (by omega)]; exact hSR.1, by rw [x75 29 (by omega)]; exact hSR.2⟩
    have hD1 : c1 75 27 = O.length := by rw [x75 27 (by omega)]; exact hD
    have hST1 : STRS sh c1 := STRS.mt hST hM1
    have h174 : ∀ n Q, tc_C 174 [rf 75, rf 22] (hp L sh c1) n Q = Q (some (.inl (stq g N q (chs 22) 3))) (hp L sh c1) n := fun n Q => by
      have hst := hST1 22 (by omega)
      rw [c174 (l := 3) hS (by rw [hat.1.1]; exact hTP) hat.1.2.1 hat.1.2.2.1 (by omega) (by omega) hst.1 (by omega), hat.1.1, hst.2]
    have h172 := fun n Q => c172t (c := c1) (n := n) (Q := Q) (N := N) (p := q) hS (by rw [hat.1.1]; exact hTP) hat.1.2.1 hat.1.2.2.1 (by omega)
    rw [hat.1.1] at h172
    have hn0 : stq g N q (chs 22) 3 = 0 := by
      rcases stq_01 g N q (chs 22) 3 with x | x
      · exact x
      · exact absurd x hn
    rw [hn0] at h174
    obtain ⟨k1, k2, k3, k4⟩ := pr4o hr
    subst k1 k2 k3 k4
    generalize hbb : byt g N q = bb at h172 hb91
    simp only [r197_9]
    repeat' (first | (simp (disch := first | omega | exact Nat.le_of_ble_eq_true rfl | exact rfl | assumption | (simp only [fr_at, Nat.reduceEqDiff, if_false, if_true, reduceIte]; first | assumption | omega)) only [r197_0, r197_1, r197_2, r197_5, r197_6r, r197_7, r197_8i, r197_13, r197_14, r197_20, r197_24, r197_25, v197_25_11, r197_31, r197_32, r197_35, r197_36r, r197_37, r197_40, r197_41, r197_43, v197_43_11, r197_46, r197_47, v197_47_11, r197_50, r197_51, r197_54, v197_54_11, r197_57i, r197_58, r197_59, r197_62, v197_62_11, r197_65i, r197_67, r197_68, r197_70, v197_70_11, r197_73, r197_77, r197_82, r197_87, r197_88, r197_90, v197_90_11, r197_93, r197_94, r197_98, r197_100, r197_103, r197_105, v197_105_11, r197_108, r197_109, r197_109A, r197_110, r197_113, r197_117, r197_118, r197_121, r197_122, r197_123, r197_126, r197_127r, r197_128, r197_131, r197_132, r197_134, v197_134_11, r197_137, r197_138, v197_138_11, r197_141, r197_146, r197_147, v197_147_11, r197_150, r197_155, r197_156, r197_157, r197_158, r197_161, v197_161_11, r197_164, r197_165, r197_165A, r197_166, r197_169, r197_170, r197_171, r197_174, r197_175, r197_175A, r197_176, r197_179, r197_180, r197_181, r197_184, r197_185, r197_185A, r197_186, r197_189, r197_190, r197_191, r197_194, r197_197, r197_198i, r197_199, r197_202, p11_241_11, g11_171_11, g11_174_11, p11_174_11, g11_241_11, g11_244_11, p11_244_11, mo_len, ms75 hS, mt75 hS, mo_s29, mo_g23, mo_g22, mo_s22, mo_g29, mo_g27, mo_s27, il_s, bl_s, bl_z, ll_s, is_s, bs_s, bs_z, ls_s, al_s, al_b, al_l, fr_at, fr_fr, Nat.reduceEqDiff, tc_gf3_s, tc_ql2_s, tc_ws_0, tc_ws_i, tc_ws_l, tc_ws_r, Nat.reduceLeDiff, Nat.reduceAdd, Nat.reduceLT, true_and, and_true, if_true, if_false, tc_K, Option.toList_some, Option.toList_none, List.nil_append, List.cons_append, ite_true, ite_false, Int.cast_ofNat_Int, reduceIte, i3_add_eq, i3_sub_eq, Int.add_sub_cancel, Int.add_neg_cancel_right, h23]) | (simp only [r197_10, r197_17, r197_21, r197_28, r197_74, r197_79, r197_84, r197_95, r197_114, r197_143, r197_152, i6_lt0, i6_0lt, i6_0le, i6_le0, i6_eq0, b10_0, ite_not, Int.reduceLT, Int.reduceLE, Int.reduceEq, Int.reduceNeg, if_true, if_false, ite_true, ite_false, reduceIte, eq_self, not_true, not_false_eq_true]; try refine tc_ite (fun _ => ?_) (fun _ => ?_) <;> try (exfalso; omega)))
    all_goals try omega
    show tc_W 198 0 [rf 75] [] _ _ _
    repeat' (first | (simp (disch := first | omega | exact Nat.le_of_ble_eq_true rfl | exact rfl | assumption | (simp only [fr_at, Nat.reduceEqDiff, if_false, if_true, reduceIte]; first | assumption | omega)) only [r198_0, r198_1, v198_1_11, r198_4, r198_5, r198_7, v198_7_11, r198_13, r198_14, r198_16, v198_16_11, r198_19, r198_20, r198_20A, r198_21, r198_24, r198_25, r198_26, r198_29, r198_30h, r198_30f, r198_30t, r198_31, r198_32, v198_32_11, r198_35, r198_40, r198_41, r198_43, v198_43_11, r198_46, r198_47, r198_47A, r198_48, r198_51, r198_52, r198_53, r198_56, r198_57h, r198_57f, r198_57t, r198_58, r198_59, v198_59_11, r198_62, r198_63h, r198_63f, r198_63t, g11_174_11, p11_174_11, mo_len, ms75 hS, mt75 hS, mo_g22, mo_s22, il_s, bl_s, bl_z, ll_s, is_s, bs_s, bs_z, ls_s, al_s, al_b, al_l, fr_at, fr_fr, Nat.reduceEqDiff, tc_gf3_s, tc_ql2_s, tc_ws_0, tc_ws_i, tc_ws_l, tc_ws_r, Nat.reduceLeDiff, Nat.reduceAdd, Nat.reduceLT, true_and, and_true, if_true, if_false, tc_K, Option.toList_some, Option.toList_none, List.nil_append, List.cons_append, ite_true, ite_false, Int.cast_ofNat_Int, reduceIte, i3_add_eq, i3_sub_eq, Int.add_sub_cancel, Int.add_neg_cancel_right, h171, h174, h172]) | (simp only [r198_10, r198_37, i6_lt0, i6_0lt, i6_0le, i6_le0, i6_eq0, b10_0, ite_not, Int.reduceLT, Int.reduceLE, Int.reduceEq, Int.reduceNeg, if_true, if_false, ite_true, ite_false, reduceIte, eq_self, not_true, not_false_eq_true]; try refine tc_ite (fun _ => ?_) (fun _ => ?_) <;> try (exfalso; omega)))
    all_goals try omega
    refine m200 (c := c1) (K := K) hS hST1 hTP hat.1 (by omega) h231 hm hs ⟨hz0, by omega⟩ hK hf ?_
    intro e j1 j2 j3 j4
    have hMe := hM1.trans j1.t hZ
    obtain ⟨hSRe, hDe⟩ := j1.sr hSR1
    repeat' (first | (simp (disch := first | omega | exact Nat.le_of_ble_eq_true rfl | exact rfl | assumption | (simp only [fr_at, Nat.reduceEqDiff, if_false, if_true, reduceIte]; first | assumption | omega)) only [r198_0, r198_1, v198_1_11, r198_4, r198_5, r198_7, v198_7_11, r198_13, r198_14, r198_16, v198_16_11, r198_19, r198_20, r198_20A, r198_21, r198_24, r198_25, r198_26, r198_29, r198_30h, r198_30f, r198_30t, r198_31, r198_32, v198_32_11, r198_35, r198_40, r198_41, r198_43, v198_43_11, r198_46, r198_47, r198_47A, r198_48, r198_51, r198_52, r198_53, r198_56, r198_57h, r198_57f, r198_57t, r198_58, r198_59, v198_59_11, r198_62, r198_63h, r198_63f, r198_63t, g11_174_11, p11_174_11, mo_len, ms75 hS, mt75 hS, mo_g22, mo_s22, il_s, bl_s, bl_z, ll_s, is_s, bs_s, bs_z, ls_s, al_s, al_b, al_l, fr_at, fr_fr, Nat.reduceEqDiff, tc_gf3_s, tc_ql2_s, tc_ws_0, tc_ws_i, tc_ws_l, tc_ws_r, Nat.reduceLeDiff, Nat.reduceAdd, Nat.reduceLT, true_and, and_true, if_true, if_false, tc_K, Option.toList_some, Option.toList_none, List.nil_append, List.cons_append, ite_true, ite_false, Int.cast_ofNat_Int, reduceIte, i3_add_eq, i3_sub_eq, Int.add_sub_cancel, Int.add_neg_cancel_right]) | (simp only [r198_10, r198_37, i6_lt0, i6_0lt, i6_0le, i6_le0, i6_eq0, b10_0, ite_not, Int.reduceLT, Int.reduceLE, Int.reduceEq, Int.reduceNeg, if_true, if_false, ite_true, ite_false, reduceIte, eq_self, not_true, not_false_eq_true]; try refine tc_ite (fun _ => ?_) (fun _ => ?_) <;> try (exfalso; omega)))
    repeat' (first | (simp (disch := first | omega | exact Nat.le_of_ble_eq_true rfl | exact rfl | assumption | (simp only [fr_at, Nat.reduceEqDiff, if_false, if_true, reduceIte]; first | assumption | omega)) only [r197_0, r197_1, r197_2, r197_5, r197_6r, r197_7, r197_8i, r197_13, r197_14, r197_20, r197_24, r197_25, v197_25_11, r197_31, r197_32, r197_35, r197_36r, r197_37, r197_40, r197_41, r197_43, v197_43_11, r197_46, r197_47, v197_47_11, r197_50, r197_51, r197_54, v197_54_11, r197_57i, r197_58, r197_59, r197_62, v197_62_11, r197_65i, r197_67, r197_68, r197_70, v197_70_11, r197_73, r197_77, r197_82, r197_87, r197_88, r197_90, v197_90_11, r197_93, r197_94, r197_98, r197_100, r197_103, r197_105, v197_105_11, r197_108, r197_109, r197_109A, r197_110, r197_113, r197_117, r197_118, r197_121, r197_122, r197_123, r197_126, r197_127r, r197_128, r197_131, r197_132, r197_134, v197_134_11, r197_137, r197_138, v197_138_11, r197_141, r197_146, r197_147, v197_147_11, r197_150, r197_155, r197_156, r197_157, r197_158, r197_161, v197_161_11, r197_164, r197_165, r197_165A, r197_166, r197_169, r197_170, r197_171, r197_174, r197_175, r197_175A, r197_176, r197_179, r197_180, r197_181, r197_184, r197_185, r197_185A, r197_186, r197_189, r197_190, r197_191, r197_194, r197_197, r197_198i, r197_199, r197_202, p11_241_11, g11_171_11, g11_174_11, p11_174_11, g11_241_11, g11_244_11, p11_244_11, mo_len, ms75 hS, mt75 hS, mo_s29, mo_g23, mo_g22, mo_s22, mo_g29, mo_g27, mo_s27, il_s, bl_s, bl_z, ll_s, is_s, bs_s, bs_z, ls_s, al_s, al_b, al_l, fr_at, fr_fr, Nat.reduceEqDiff, tc_gf3_s, tc_ql2_s, tc_ws_0, tc_ws_i, tc_ws_l, tc_ws_r, Nat.reduceLeDiff, Nat.reduceAdd, Nat.reduceLT, true_and, and_true, if_true, if_false, tc_K, Option.toList_some, Option.toList_none, List.nil_append, List.cons_append, ite_true, ite_false, Int.cast_ofNat_Int, reduceIte, i3_add_eq, i3_sub_eq, Int.add_sub_cancel, Int.add_neg_cancel_right]) | (simp only [r197_10, r197_17, r197_21, r197_28, r197_74, r197_79, r197_84, r197_95, r197_114, r197_143, r197_152, i6_lt0, i6_0lt, i6_0le, i6_le0, i6_eq0, b10_0, ite_not, Int.reduceLT, Int.reduceLE, Int.reduceEq, Int.reduceNeg, if_true, if_false, ite_true, ite_false, reduceIte, eq_self, not_true, not_false_eq_true]; try refine tc_ite (fun _ => ?_) (fun _ => ?_) <;> try (exfalso; omega)))
    by_cases hf2 : f2 = 0
    · exact hgo rfl hf2 e _ _ hMe (j4 hf2) (by rw [j3]; exact hf2) hSRe (by rw [hDe]; exact hD1)
    · exact m197_x hS (by rw [j3]; exact hf2) (hx e hMe j2 (by rw [j3]; exact hf2) (fun x => absurd rfl x) fun _ => j3)
  intro k
  induction k with
  | zero =>
    intro p W O d a3 a4 hE h23 hSR hD hM hZ hok hW1 hW2 hOl hp1 hp2 hk hz hr
    have hkr := sk_rng (g := g) (n := N) (p := p)
    refine fin p W O d a3 a4 hE h23 hSR hD hM hZ hp1 hp2 hz (fun x => ?_) (fun x => ?_) hr
    · have := byt_lt x (by omega)
      omega
    · have h1 := stq_rn x
      have h2 := rn_rng (g := g) (n := N) (p := sk g N p)
      omega
  | succ k ih =>
    intro p W O d a3 a4 hE h23 hSR hD hM hZ hok hW1 hW2 hOl hp1 hp2 hk hz hr
    obtain ⟨h95, h21, h22, h24, h26, h28, h30, hTT⟩ := id hE
    have hsr := nm_rng (g := g) (p := p) (N := N) ⟨hp1, hp2⟩
    have hkr := sk_rng (g := g) (n := N) (p := p)
    have h171 := fun n Q => c171q (c := d) (n := n) (Q := Q) (N := N) (p := p) hS (by rw [h95]; exact hTP) h21 h22 (by omega)
    rw [h95] at h171
    have fin0 := fun hb91 hn hr => fin p W O d a3 a4 hE h23 hSR hD hM hZ hp1 hp2 hz hb91 hn hr
    have hat := hE.at (sk g N p)
    unfold opn at hr
    generalize hq0 : sk g N p = q at hsr hkr h171 hat hr fin0
    generalize hc1 : fr d 75 (fu (d 75) 22 q) = c1 at h171 hat
    have hM1 := hM.trans (hat.2 Z).t (Int.le_refl _)
    have x75 : ∀ i, ¬ i = 22 → c1 75 i = d 75 i := fun i hi => by rw [← hc1, fr_same, fu_ne hi]
    have xo : ∀ a, ¬ a = 75 → c1 a = d a := fun a ha => by rw [← hc1, fr_ne ha]
    have h231 : c1 75 23 = 0 := by rw [x75 23 (by omega)]; exact h23
    have hSR1 : SR c1 (sto O W) := ⟨by rw [xo 102 (by omega)]; exact hSR.1, by rw [x75 29 (by omega)]; exact hSR.2⟩
    have hD1 : c1 75 27 = O.length := by rw [x75 27 (by omega)]; exact hD
    have hsl := sto_len O W
    have hST1 : STRS sh c1 := STRS.mt hST hM1
    have h174 : ∀ n Q, tc_C 174 [rf 75, rf 22] (hp L sh c1) n Q = Q (some (.inl (stq g N q (chs 22) 3))) (hp L sh c1) n := fun n Q => by
      have hst := hST1 22 (by omega)
      rw [c174 (l := 3) hS (by rw [hat.1.1]; exact hTP) hat.1.2.1 hat.1.2.2.1 (by omega) (by omega) hst.1 (by omega), hat.1.1, hst.2]
    have h172 := fun n Q => c172t (c := c1) (n := n) (Q := Q) (N := N) (p := q) hS (by rw [hat.1.1]; exact hTP) hat.1.2.1 hat.1.2.2.1 (by omega)
    rw [hat.1.1] at h172
    -- a sign has been opened: on with it, or the fault
    have opened : ∀ (kd q2 w2 : Int) (O2 : List Int) (e : Nat → Int → Int) (a3 a4 : AV), (∀ a, ¬ a = 75 → ¬ a = 102 → e a = c1 a) → (∀ i, ¬ i = 23 → ¬ i = 27 → ¬ i = 29 → e 75 i = c1 75 i) → SR e (sto O2 w2) → e 75 27 = O.length + 1 → e 75 23 = (if ((O.length : Nat) : Int) = 10 then 1 + 8 * q + 2 else 0) → O2.length = O.length + 1 → okO O2 → 0 ≤ w2 → w2 ≤ 3 → q < q2 → q2 ≤ N → (if 10 ≤ O.length then (1 + 8 * q + 2, 0, [], 0) else opn g N k q2 O2 w2) = (f1, p1, O1, W1) → tc_W 197 9 [rf 75, .inl 1, .inl 1, a3, a4] [] (hp L sh (fr e 75 (fu (e 75) 22 q2))) n Q := by
      intro kd q2 w2 O2 e a3 a4 y1 y2 y3 y4 y5 y6 y7 y8 y9 y10 y11 y12
      have hMe : MTQ c (fr e 75 (fu (e 75) 22 q2)) Z := hM1.trans ⟨fun a a1 _ _ a4 => by rw [fr_ne a1]; exact y1 a a1 a4, fun i _ => ⟨by rw [fr_ne (by omega), y1 96 (by omega) (by omega)], by rw [fr_ne (by omega), y1 97 (by omega) (by omega)]⟩, fun i i1 i2 i3 i4 i5 i6 => by rw [fr_same, fu_ne i1, y2 i i2 i4 i6]⟩ (Int.le_refl _)
      by_cases h10 : 10 ≤ O.length
      · rw [if_pos h10] at y12
        rw [if_pos (by omega)] at y5
        obtain ⟨e1, _⟩ := pr4o y12
        refine m197_x hS (by rw [fr_same, fu_ne (by omega), y5]; omega) (hx _ hMe ⟨by rw [fr_same, fu_same]; omega, by rw [fr_same, fu_ne (by omega), y2 28 (by omega) (by omega) (by omega), hat.1.2.2.2.2.2.1]; omega⟩ (by rw [fr_same, fu_ne (by omega), y5]; omega) (fun _ => by rw [fr_same, fu_ne (by omega), y5]; exact e1) fun x => by omega)
      · rw [if_neg h10] at y12
        rw [if_neg (by omega)] at y5
        obtain ⟨g1, g2, g3, g4, g5, g6, g7, g8⟩ := hat.1
        refine ih q2 w2 O2 _ a3 a4 ⟨?_, ?_, ?_, ?_, ?_, ?_, ?_, ?_⟩ ?_ ⟨?_, ?_⟩ ?_ hMe hZ y7 y8 y9 (by omega) (by omega) y11 (by omega) (by omega) y12
        · rw [fr_ne (by omega), y1 95 (by omega) (by omega)]; exact g1
        · rw [fr_same, fu_ne (by omega), y2 21 (by omega) (by omega) (by omega)]; exact g2
        · rw [fr_same, fu_same]
        · rw [fr_same, fu_ne (by omega), y2 24 (by omega) (by omega) (by omega)]; exact g4
        · rw [fr_same, fu_ne (by omega), y2 26 (by omega) (by omega) (by omega)]; exact g5
        · rw [fr_same, fu_ne (by omega), y2 28 (by omega) (by omega) (by omega)]; exact g6
        · rw [fr_same, fu_ne (by omega), y2 30 (by omega) (by omega) (by omega)]; exact g7
        · rw [fr_ne (show ¬ 96 = 75 by omega), fr_ne (show ¬ 97 = 75 by omega), y1 96 (by omega) (by omega), y1 97 (by omega) (by omega)]; exact g8
        · rw [fr_same, fu_ne (by omega)]; exact y5
        · rw [fr_ne (by omega)]; exact y3.1
        · rw [fr_same, fu_ne (by omega)]; exact y3.2
        · rw [fr_same, fu_ne (by omega), y4, y6]
          omega
    have e22 : c1 75 22 = q := hat.1.2.2.1
    by_cases hn : stq g N q (chs 22) 3 = 1
    · have hrn := stq_rn hn
      have hr2 := rn_rng (g := g) (n := N) (p := q)
      have hb91 : ¬ byt g N q = 91 := fun x => by
        have h3 := hr2.2.2 q (by omega) (by omega)
        have h4 := (byt_is hTP (by omega) (by omega)).mp x
        omega
      rw [if_neg hb91, if_pos hn] at hr
      obtain ⟨e, b1, b2, b3, b4, b5, b6⟩ := m199 (c := c1) (k := 9) (D := O.length) (p := q) (b := 1) hS hSR1 (by omega) hD1 (by omega) e22 (by omega) h231 (by rw [if_pos (Or.inl rfl)])
      have hsto : (9 :: sto O W) = sto (-1 :: O) W := by
        show _ = if (-1 : Int) = -1 then 9 :: sto O W else _
        rw [if_pos rfl]
      rw [hsto] at b2
      have b4' : e 75 23 = if ((O.length : Nat) : Int) = 10 then 1 + 8 * q + 2 else 0 := by
        rw [b4]
        by_cases x : ((O.length : Nat) : Int) = 10
        · rw [if_pos ⟨rfl, x⟩, if_pos x]
        · rw [if_neg (fun y => x y.2), if_neg x]
      have e22' : e 75 22 = q := by rw [b6 22 (by omega) (by omega) (by omega)]; exact e22
      rw [hn] at h174
      have hop := fun a3 a4 => opened 9 (q + 3) W (-1 :: O) e a3 a4 b5 b6 b2 b3 b4' rfl ⟨Or.inl rfl, hok⟩ hW1 hW2 (by omega) (by omega) hr
      simp only [r197_9]
      repeat' (first | (simp (disch := first | omega | exact Nat.le_of_ble_eq_true rfl | exact rfl | assumption | (simp only [fr_at, Nat.reduceEqDiff, if_false, if_true, reduceIte]; first | assumption | omega)) only [r197_0, r197_1, r197_2, r197_5, r197_6r, r197_7, r197_8i, r197_13, r197_14, r197_20, r197_24, r197_25, v197_25_11, r197_31, r197_32, r197_35, r197_36r, r197_37, r197_40, r197_41, r197_43, v197_43_11, r197_46, r197_47, v197_47_11, r197_50, r197_51, r197_54, v197_54_11, r197_57i, r197_58, r197_59, r197_62, v197_62_11, r197_65i, r197_67, r197_68, r197_70, v197_70_11, r197_73, r197_77, r197_82, r197_87, r197_88, r197_90, v197_90_11, r197_93, r197_94, r197_98, r197_100, r197_103, r197_105, v197_105_11, r197_108, r197_109, r197_109A, r197_110, r197_113, r197_117, r197_118, r197_121, r197_122, r197_123, r197_126, r197_127r, r197_128, r197_131, r197_132, r197_134, v197_134_11, r197_137, r197_138, v197_138_11, r197_141, r197_146, r197_147, v197_147_11, r197_150, r197_155, r197_156, r197_157, r197_158, r197_161, v197_161_11, r197_164, r197_165, r197_165A, r197_166, r197_169, r197_170, r197_171, r197_174, r197_175, r197_175A, r197_176, r197_179, r197_180, r197_181, r197_184, r197_185, r197_185A, r197_186, r197_189, r197_190, r197_191, r197_194, r197_197, r197_198i, r197_199, r197_202, p11_241_11, g11_171_11, g11_174_11, p11_174_11, g11_241_11, g11_244_11, p11_244_11, mo_len, ms75 hS, mt75 hS, mo_s29, mo_g23, mo_g22, mo_s22, mo_g29, mo_g27, mo_s27, il_s, bl_s, bl_z, ll_s, is_s, bs_s, bs_z, ls_s, al_s, al_b, al_l, fr_at, fr_fr, Nat.reduceEqDiff, tc_gf3_s, tc_ql2_s, tc_ws_0, tc_ws_i, tc_ws_l, tc_ws_r, Nat.reduceLeDiff, Nat.reduceAdd, Nat.reduceLT, true_and, and_true, if_true, if_false, tc_K, Option.toList_some, Option.toList_none, List.nil_append, List.cons_append, ite_true, ite_false, Int.cast_ofNat_Int, reduceIte, i3_add_eq, i3_sub_eq, Int.add_sub_cancel, Int.add_neg_cancel_right, h23]) | (simp only [r197_10, r197_17, r197_21, r197_28, r197_74, r197_79, r197_84, r197_95, r197_114, r197_143, r197_152, i6_lt0, i6_0lt, i6_0le, i6_le0, i6_eq0, b10_0, ite_not, Int.reduceLT, Int.reduceLE, Int.reduceEq, Int.reduceNeg, if_true, if_false, ite_true, ite_false, reduceIte, eq_self, not_true, not_false_eq_true]; try refine tc_ite (fun _ => ?_) (fun _ => ?_) <;> try (exfalso; omega)))
      all_goals try omega
      show tc_W 198 0 [rf 75] [] _ _ _
      repeat' (first | (simp (disch := first | omega | exact Nat.le_of_ble_eq_true rfl | exact rfl | assumption | (simp only [fr_at, Nat.reduceEqDiff, if_false, if_true, reduceIte]; first | assumption | omega)) only [r198_0, r198_1, v198_1_11, r198_4, r198_5, r198_7, v198_7_11, r198_13, r198_14, r198_16, v198_16_11, r198_19, r198_20, r198_20A, r198_21, r198_24, r198_25, r198_26, r198_29, r198_30h, r198_30f, r198_30t, r198_31, r198_32, v198_32_11, r198_35, r198_40, r198_41, r198_43, v198_43_11, r198_46, r198_47, r198_47A, r198_48, r198_51, r198_52, r198_53, r198_56, r198_57h, r198_57f, r198_57t, r198_58, r198_59, v198_59_11, r198_62, r198_63h, r198_63f, r198_63t, g11_174_11, p11_174_11, mo_len, ms75 hS, mt75 hS, mo_g22, mo_s22, il_s, bl_s, bl_z, ll_s, is_s, bs_s, bs_z, ls_s, al_s, al_b, al_l, fr_at, fr_fr, Nat.reduceEqDiff, tc_gf3_s, tc_ql2_s, tc_ws_0, tc_ws_i, tc_ws_l, tc_ws_r, Nat.reduceLeDiff, Nat.reduceAdd, Nat.reduceLT, true_and, and_true, if_true, if_false, tc_K, Option.toList_some, Option.toList_none, List.nil_append, List.cons_append, ite_true, ite_false, Int.cast_ofNat_Int, reduceIte, i3_add_eq, i3_sub_eq, Int.add_sub_cancel, Int.add_neg_cancel_right, h171, h174, b1, e22']) | (simp only [r198_10, r198_37, i6_lt0, i6_0lt, i6_0le, i6_le0, i6_eq0, b10_0, ite_not, Int.reduceLT, Int.reduceLE, Int.reduceEq, Int.reduceNeg, if_true, if_false, ite_true, ite_false, reduceIte, eq_self, not_true, not_false_eq_true]; try refine tc_ite (fun _ => ?_) (fun _ => ?_) <;> try (exfalso; omega)))
      all_goals try omega
      repeat' (first | (simp (disch := first | omega | exact Nat.le_of_ble_eq_true rfl | exact rfl | assumption | (simp only [fr_at, Nat.reduceEqDiff, if_false, if_true, reduceIte]; first | assumption | omega)) only [r197_0, r197_1, r197_2, r197_5, r197_6r, r197_7, r197_8i, r197_13, r197_14, r197_20, r197_24, r197_25, v197_25_11, r197_31, r197_32, r197_35, r197_36r, r197_37, r197_40, r197_41, r197_43, v197_43_11, r197_46, r197_47, v197_47_11, r197_50, r197_51, r197_54, v197_54_11, r197_57i, r197_58, r197_59, r197_62, v197_62_11, r197_65i, r197_67, r197_68, r197_70, v197_70_11, r197_73, r197_77, r197_82, r197_87, r197_88, r197_90, v197_90_11, r197_93, r197_94, r197_98, r197_100, r197_103, r197_105, v197_105_11, r197_108, r197_109, r197_109A, r197_110, r197_113, r197_117, r197_118, r197_121, r197_122, r197_123, r197_126, r197_127r, r197_128, r197_131, r197_132, r197_134, v197_134_11, r197_137, r197_138, v197_138_11, r197_141, r197_146, r197_147, v197_147_11, r197_150, r197_155, r197_156, r197_157, r197_158, r197_161, v197_161_11, r197_164, r197_165, r197_165A, r197_166, r197_169, r197_170, r197_171, r197_174, r197_175, r197_175A, r197_176, r197_179, r197_180, r197_181, r197_184, r197_185, r197_185A, r197_186, r197_189, r197_190, r197_191, r197_194, r197_197, r197_198i, r197_199, r197_202, p11_241_11, g11_171_11, g11_174_11, p11_174_11, g11_241_11, g11_244_11, p11_244_11, mo_len, ms75 hS, mt75 hS, mo_s29, mo_g23, mo_g22, mo_s22, mo_g29, mo_g27, mo_s27, il_s, bl_s, bl_z, ll_s, is_s, bs_s, bs_z, ls_s, al_s, al_b, al_l, fr_at, fr_fr, Nat.reduceEqDiff, tc_gf3_s, tc_ql2_s, tc_ws_0, tc_ws_i, tc_ws_l, tc_ws_r, Nat.reduceLeDiff, Nat.reduceAdd, Nat.reduceLT, true_and, and_true, if_true, if_false, tc_K, Option.toList_some, Option.toList_none, List.nil_append, List.cons_append, ite_true, ite_false, Int.cast_ofNat_Int, reduceIte, i3_add_eq, i3_sub_eq, Int.add_sub_cancel, Int.add_neg_cancel_right]) | (simp only [r197_10, r197_17, r197_21, r197_28, r197_74, r197_79, r197_84, r197_95, r197_114, r197_143, r197_152, i6_lt0, i6_0lt, i6_0le, i6_le0, i6_eq0, b10_0, ite_not, Int.reduceLT, Int.reduceLE, Int.reduceEq, Int.reduceNeg, if_true, if_false, ite_true, ite_false, reduceIte, eq_self, not_true, not_false_eq_true]; try refine tc_ite (fun _ => ?_) (fun _ => ?_) <;> try (exfalso; omega)))
      all_goals first
        | exact hop _ _
        | omega
    · rw [show (if stq g N q (chs 22) 3 = 1 then (if 10 ≤ O.length then (1 + 8 * q + 2, 0, [], 0) else opn g N k (q + 3) (-1 :: O) W) else (0, q, O, W)) = (0, q, O, W) from if_neg hn] at hr
      have hn0 : stq g N q (chs 22) 3 = 0 := by
        rcases stq_01 g N q (chs 22) 3 with x | x
        · exact x
        · exact absurd x hn
      rw [hn0] at h174
      by_cases hb91 : byt g N q = 91
      · have hlt := byt_lt hb91 (by omega)
        rw [if_pos hb91] at hr
        obtain ⟨e, b1, b2, b3, b4, b5, b6⟩ := m199 (c := c1) (k := 12) (D := O.length) (p := q) (b := 1) hS hSR1 (by omega) hD1 (by omega) e22 (by omega) h231 (by rw [if_pos (Or.inr rfl)])
        have hsto : (12 :: sto O W) = sto (W :: O) 0 := by
          show _ = if W = -1 then 9 :: sto O 0 else wts 0 ++ 12 :: sto O W
          rw [if_neg (by omega)]
          rfl
        rw [hsto] at b2
        have b4' : e 75 23 = if ((O.length : Nat) : Int) = 10 then 1 + 8 * q + 2 else 0 := by
          rw [b4]
          by_cases x : ((O.length : Nat) : Int) = 10
          · rw [if_pos ⟨rfl, x⟩, if_pos x]
          · rw [if_neg (fun y => x y.2), if_neg x]
        have e22' : e 75 22 = q := by rw [b6 22 (by omega) (by omega) (by omega)]; exact e22
        rw [hb91] at h172
        have hop := fun a3 a4 => opened 12 (q + 1) 0 (W :: O) e a3 a4 b5 b6 b2 b3 b4' rfl ⟨Or.inr ⟨hW1, hW2⟩, hok⟩ (by omega) (by omega) (by omega) (by omega) hr
        simp only [r197_9]
        repeat' (first | (simp (disch := first | omega | exact Nat.le_of_ble_eq_true rfl | exact rfl | assumption | (simp only [fr_at, Nat.reduceEqDiff, if_false, if_true, reduceIte]; first | assumption | omega)) only [r197_0, r197_1, r197_2, r197_5, r197_6r, r197_7, r197_8i, r197_13, r197_14, r197_20, r197_24, r197_25, v197_25_11, r197_31, r197_32, r197_35, r197_36r, r197_37, r197_40, r197_41, r197_43, v197_43_11, r197_46, r197_47, v197_47_11, r197_50, r197_51, r197_54, v197_54_11, r197_57i, r197_58, r197_59, r197_62, v197_62_11, r197_65i, r197_67, r197_68, r197_70, v197_70_11, r197_73, r197_77, r197_82, r197_87, r197_88, r197_90, v197_90_11, r197_93, r197_94, r197_98, r197_100, r197_103, r197_105, v197_105_11, r197_108, r197_109, r197_109A, r197_110, r197_113, r197_117, r197_118, r197_121, r197_122, r197_123, r197_126, r197_127r, r197_128, r197_131, r197_132, r197_134, v197_134_11, r197_137, r197_138, v197_138_11, r197_141, r197_146, r197_147, v197_147_11, r197_150, r197_155, r197_156, r197_157, r197_158, r197_161, v197_161_11, r197_164, r197_165, r197_165A, r197_166, r197_169, r197_170, r197_171, r197_174, r197_175, r197_175A, r197_176, r197_179, r197_180, r197_181, r197_184, r197_185, r197_185A, r197_186, r197_189, r197_190, r197_191, r197_194, r197_197, r197_198i, r197_199, r197_202, p11_241_11, g11_171_11, g11_174_11, p11_174_11, g11_241_11, g11_244_11, p11_244_11, mo_len, ms75 hS, mt75 hS, mo_s29, mo_g23, mo_g22, mo_s22, mo_g29, mo_g27, mo_s27, il_s, bl_s, bl_z, ll_s, is_s, bs_s, bs_z, ls_s, al_s, al_b, al_l, fr_at, fr_fr, Nat.reduceEqDiff, tc_gf3_s, tc_ql2_s, tc_ws_0, tc_ws_i, tc_ws_l, tc_ws_r, Nat.reduceLeDiff, Nat.reduceAdd, Nat.reduceLT, true_and, and_true, if_true, if_false, tc_K, Option.toList_some, Option.toList_none, List.nil_append, List.cons_append, ite_true, ite_false, Int.cast_ofNat_Int, reduceIte, i3_add_eq, i3_sub_eq, Int.add_sub_cancel, Int.add_neg_cancel_right, h23]) | (simp only [r197_10, r197_17, r197_21, r197_28, r197_74, r197_79, r197_84, r197_95, r197_114, r197_143, r197_152, i6_lt0, i6_0lt, i6_0le, i6_le0, i6_eq0, b10_0, ite_not, Int.reduceLT, Int.reduceLE, Int.reduceEq, Int.reduceNeg, if_true, if_false, ite_true, ite_false, reduceIte, eq_self, not_true, not_false_eq_true]; try refine tc_ite (fun _ => ?_) (fun _ => ?_) <;> try (exfalso; omega)))
        all_goals try omega
        show tc_W 198 0 [rf 75] [] _ _ _
        repeat' (first | (simp (disch := first | omega | exact Nat.le_of_ble_eq_true rfl | exact rfl | assumption | (simp only [fr_at, Nat.reduceEqDiff, if_false, if_true, reduceIte]; first | assumption | omega)) only [r198_0, r198_1, v198_1_11, r198_4, r198_5, r198_7, v198_7_11, r198_13, r198_14, r198_16, v198_16_11, r198_19, r198_20, r198_20A, r198_21, r198_24, r198_25, r198_26, r198_29, r198_30h, r198_30f, r198_30t, r198_31, r198_32, v198_32_11, r198_35, r198_40, r198_41, r198_43, v198_43_11, r198_46, r198_47, r198_47A, r198_48, r198_51, r198_52, r198_53, r198_56, r198_57h, r198_57f, r198_57t, r198_58, r198_59, v198_59_11, r198_62, r198_63h, r198_63f, r198_63t, g11_174_11, p11_174_11, mo_len, ms75 hS, mt75 hS, mo_g22, mo_s22, il_s, bl_s, bl_z, ll_s, is_s, bs_s, bs_z, ls_s, al_s, al_b, al_l, fr_at, fr_fr, Nat.reduceEqDiff, tc_gf3_s, tc_ql2_s, tc_ws_0, tc_ws_i, tc_ws_l, tc_ws_r, Nat.reduceLeDiff, Nat.reduceAdd, Nat.reduceLT, true_and, and_true, if_true, if_false, tc_K, Option.toList_some, Option.toList_none, List.nil_append, List.cons_append, ite_true, ite_false, Int.cast_ofNat_Int, reduceIte, i3_add_eq, i3_sub_eq, Int.add_sub_cancel, Int.add_neg_cancel_right, h171, h174, h172, b1, e22']) | (simp only [r198_10, r198_37, i6_lt0, i6_0lt, i6_0le, i6_le0, i6_eq0, b10_0, ite_not, Int.reduceLT, Int.reduceLE, Int.reduceEq, Int.reduceNeg, if_true, if_false, ite_true, ite_false, reduceIte, eq_self, not_true, not_false_eq_true]; try refine tc_ite (fun _ => ?_) (fun _ => ?_) <;> try (exfalso; omega)))
        all_goals try omega
        repeat' (first | (simp (disch := first | omega | exact Nat.le_of_ble_eq_true rfl | exact rfl | assumption | (simp only [fr_at, Nat.reduceEqDiff, if_false, if_true, reduceIte]; first | assumption | omega)) only [r197_0, r197_1, r197_2, r197_5, r197_6r, r197_7, r197_8i, r197_13, r197_14, r197_20, r197_24, r197_25, v197_25_11, r197_31, r197_32, r197_35, r197_36r, r197_37, r197_40, r197_41, r197_43, v197_43_11, r197_46, r197_47, v197_47_11, r197_50, r197_51, r197_54, v197_54_11, r197_57i, r197_58, r197_59, r197_62, v197_62_11, r197_65i, r197_67, r197_68, r197_70, v197_70_11, r197_73, r197_77, r197_82, r197_87, r197_88, r197_90, v197_90_11, r197_93, r197_94, r197_98, r197_100, r197_103, r197_105, v197_105_11, r197_108, r197_109, r197_109A, r197_110, r197_113, r197_117, r197_118, r197_121, r197_122, r197_123, r197_126, r197_127r, r197_128, r197_131, r197_132, r197_134, v197_134_11, r197_137, r197_138, v197_138_11, r197_141, r197_146, r197_147, v197_147_11, r197_150, r197_155, r197_156, r197_157, r197_158, r197_161, v197_161_11, r197_164, r197_165, r197_165A, r197_166, r197_169, r197_170, r197_171, r197_174, r197_175, r197_175A, r197_176, r197_179, r197_180, r197_181, r197_184, r197_185, r197_185A, r197_186, r197_189, r197_190, r197_191, r197_194, r197_197, r197_198i, r197_199, r197_202, p11_241_11, g11_171_11, g11_174_11, p11_174_11, g11_241_11, g11_244_11, p11_244_11, mo_len, ms75 hS, mt75 hS, mo_s29, mo_g23, mo_g22, mo_s22, mo_g29, mo_g27, mo_s27, il_s, bl_s, bl_z, ll_s, is_s, bs_s, bs_z, ls_s, al_s, al_b, al_l, fr_at, fr_fr, Nat.reduceEqDiff, tc_gf3_s, tc_ql2_s, tc_ws_0, tc_ws_i, tc_ws_l, tc_ws_r, Nat.reduceLeDiff, Nat.reduceAdd, Nat.reduceLT, true_and, and_true, if_true, if_false, tc_K, Option.toList_some, Option.toList_none, List.nil_append, List.cons_append, ite_true, ite_false, Int.cast_ofNat_Int, reduceIte, i3_add_eq, i3_sub_eq, Int.add_sub_cancel, Int.add_neg_cancel_right]) | (simp only [r197_10, r197_17, r197_21, r197_28, r197_74, r197_79, r197_84, r197_95, r197_114, r197_143, r197_152, i6_lt0, i6_0lt, i6_0le, i6_le0, i6_eq0, b10_0, ite_not, Int.reduceLT, Int.reduceLE, Int.reduceEq, Int.reduceNeg, if_true, if_false, ite_true, ite_false, reduceIte, eq_self, not_true, not_false_eq_true]; try refine tc_ite (fun _ => ?_) (fun _ => ?_) <;> try (exfalso; omega)))
        all_goals first
          | exact hop _ _
          | omega
      · rw [if_neg hb91] at hr
        exact fin0 hb91 hn hr
end TESTO

/-! the class: acts -/
/-- an act: the past has one row more (y), the sand now and the sea's rows may differ -/
def ACT (L : Nat) (sh : Nat → SH) (c : Nat → Int → Int) (n : Nat) (D : Nat → Option Nat) (ps : Int) (L' : Nat) (sh' : Nat → SH) (e : Nat → Int → Int) (n' : Nat) (D' : Nat → Option Nat) (y : Nat) : Prop :=
  (L ≤ L' ∧ L' ≤ L + 4 ∧ n ≤ n' ∧ n' ≤ n + 44) ∧ (∀ a, a < L → ¬ a = 43 → ¬ a = 49 → sh' a = sh a) ∧ (∃ s1 l1, sh' 49 = (6, 7, [s1, l1, some 50, some 51, some 52, some 53, some 54, some 55])) ∧ PasS L' sh' 42 D' ∧ INJ D' ∧ (∀ i z, i < 20 → D' i = some z → (∃ j, j < 20 ∧ D j = some z) ∨ z = L) ∧ e 42 1 = psk ps + 1 ∧ (∀ i : Nat, (i : Int) < psk ps → D' i = D (i + (pss ps).toNat)) ∧ D' (psk ps).toNat = some y ∧ (∀ a, a < L → ¬ a = 42 → (a < y ∨ y + 3 < a) → (a < 38 ∨ 41 < a) → (a < 50 ∨ 55 < a) → e a = c a) ∧ ∀ k b σ, SAN k b 38 c σ → SAN k b y e σ
section ACTSC
variable {L : Nat} {sh : Nat → SH} {c : Nat → Int → Int} {n : Nat} {Q : Option AV → List SC → Nat → Prop} {s : Nat} {v : Option Nat} {b σ : Nat → Int → Int} {la : Option Law} {D : Nat → Option Nat} {ps : Int}
theorem ACT.fr {L' n' y : Nat} {sh' : Nat → SH} {D' : Nat → Option Nat} {c' e : Nat → Int → Int} (h : ACT L sh c n D ps L' sh' c' n' D' y) (he : ∀ a, (a < 38 ∨ 41 < a) → (a < 50 ∨ 55 < a) → e a = c' a) (hy : 115 ≤ y) : ACT L sh c n D ps L' sh' e n' D' y := by
  obtain ⟨h1, h2, h3, h4, h5, h6, h7, h8, h9, h10, h11⟩ := h
  exact ⟨h1, h2, h3, h4, h5, h6, by rw [he 42 (by omega) (by omega)]; exact h7, h8, h9, fun a a1 a2 a3 a4 a5 => (he a a4 a5).trans (h10 a a1 a2 a3 a4 a5), fun k b σ hσ => (h11 k b σ hσ).fr (he _ (by omega) (by omega)) (he _ (by omega) (by omega)) (he _ (by omega) (by omega)) (he _ (by omega) (by omega))⟩
theorem psk_rng (h : 0 ≤ ps ∧ ps ≤ 20) : 0 ≤ psk ps ∧ psk ps ≤ 19 := by
  unfold psk
  split <;> omega
theorem c85q (h : CQ L sh c s v b σ la) (hP : PasS L sh 42 D) (hI : INJ D) (hps : c 42 1 = ps) (hp0 : 0 ≤ ps ∧ ps ≤ 20) (hD : ∀ i : Nat, (i : Int) < ps → ∃ y, D i = some y)
    (hq : ∀ L' sh' c' n' D' y, ACT L sh c n D ps L' sh' c' n' D' y → 115 ≤ y → CQ L' sh' c' s v b σ la → Q none (hp L' sh' c') n') : tc_C 85 [rf 42, rf 38] (hp L sh c) n Q := by
  obtain ⟨hM, ⟨s1, l1, hE⟩, hSh, hs, h38, h56, ⟨ci, lw, m, f, q1, q2, q3, q4, q5⟩, hb, hw, hB, hσ, hl, hal⟩ := id h
  have hL := hE.1
  refine c85 hP h38 hps hp0 hD (fun i y hi hy e => by have := (hP.2.2.2.2 i y hi hy).1; omega) hI ?_
  intro L' sh' c' n' D' y k1 k2 k3 k4 k5 k6 k7 k8 k9 k10 k11 k12 k13
  have hyd := k8 _ y (by have := psk_rng hp0; omega) k11
  have hy : 115 ≤ y := by
    rcases hyd with ⟨j, j1, j2⟩ | q
    · exact (hP.2.2.2.2 j y j1 j2).1
    · omega
  have k5' : ∀ a, a < L → ¬ a = 43 → sh' a = sh a := k5
  have hof : ∀ {r m : Nat}, BK sh r m → ¬ r = y → r + m ≤ L → ∀ a, r ≤ a → a < r + m → a < y ∨ y + 3 < a := fun {r m} hb hn hL a a1 a2 => by
    rcases hyd with ⟨j, j1, j2⟩ | q
    · have := hb.sep (hP.2.2.2.2 j y j1 j2).2.bk hn
      omega
    · omega
  have hny : ∀ {r ci : Nat} {q : List (Option Nat)}, sh r = (6, ci, q) → ¬ ci = 5 → r < L → ¬ r = y := fun {r ci q} hr hc hL e => by
    rcases hyd with ⟨j, j1, j2⟩ | q
    · exact hd_ne hr (hP.2.2.2.2 j y j1 j2).2.2.1 hc e
    · omega
  refine hq L' sh' c' n' D' y ⟨⟨k1, k2, k3, k4⟩, fun a a1 a2 a3 => k5 a a1 a2, ⟨s1, l1, by rw [k5' 49 (by omega) (by omega)]; exact hE.2.1⟩, k6, k7, k8, k9, k10, k11, fun a a1 a2 a3 _ _ => k12 a a1 a2 a3, k13⟩ hy ?_
  have cc : ∀ a, a < 115 → ¬ a = 42 → c' a = c a := fun a a1 a2 => k12 a (by omega) a2 (by omega)
  have hSsh : ∀ a, s ≤ a → a ≤ s + 7 → sh' a = sh a ∧ c' a = c a := fun a a1 a2 => ⟨k5' a (by have := hSh.1; omega) (by omega), k12 a (by have := hSh.1; omega) (by omega) (hof hSh.bk (hny hSh.2.1 (by decide) (by have := hSh.1; omega)) (by have := hSh.1; omega) a a1 (by omega))⟩
  refine ⟨⟨by rw [k5' 26 (by omega) (by omega)]; exact hM.1, by rw [k5' 29 (by omega) (by omega)]; exact hM.2⟩, ⟨s1, l1, ?_⟩, ?_, hs, ?_, ?_, ⟨ci, lw, m, f, by rw [k5' 28 (by omega) (by omega)]; exact q1, by rw [cc 26 (by omega) (by omega)]; exact q2, q3, by rw [cc 29 (by omega) (by omega)]; exact q4, q5⟩, hb, hw, hB.fr fun a a1 a2 => (hSsh a a1 a2).2, hσ.fr (cc 38 (by omega) (by omega)) (cc 39 (by omega) (by omega)) (cc 40 (by omega) (by omega)) (cc 41 (by omega) (by omega)), ?_, hal⟩
  · obtain ⟨g1, g2, g3, g4, g5, g6, g7, g8⟩ := hE
    exact ⟨by omega, by rw [k5' 49 (by omega) (by omega)]; exact g2, by rw [k5' 50 (by omega) (by omega)]; exact g3, by rw [k5' 51 (by omega) (by omega)]; exact g4, by rw [k5' 52 (by omega) (by omega)]; exact g5, by rw [k5' 53 (by omega) (by omega)]; exact g6, by rw [k5' 54 (by omega) (by omega)]; exact g7, by rw [k5' 55 (by omega) (by omega)]; exact g8⟩
  · exact ShoS_ne hSh k1 k5' (by omega)
  · exact SanS_ne h38 k1 k5' (by omega)
  · exact SanS_ne h56 k1 k5' (by omega)
  · rcases hl with hl | ⟨lr, l, h1, h2, h3⟩
    · exact Or.inl hl
    · refine Or.inr ⟨lr, l, h1, h2, ?_⟩
      obtain ⟨hr, m1, k, hlw, _⟩ := id h3
      have hlL := hlw.1
      refine h3.at k1 fun a a1 a2 => ⟨k5' a (by omega) (by omega), k12 a (by omega) (by omega) (hof hlw.bk (hny hlw.2.1 (by decide) (by omega)) (by omega) a a1 (by omega))⟩
theorem c84 (h : CQ L sh c s v b σ la) (h9 : σ 4 0 ≤ 700) (hP : PasS L sh 42 D) (hI : INJ D) (hps : c 42 1 = ps) (hp0 : 0 ≤ ps ∧ ps ≤ 20) (hD : ∀ i : Nat, (i : Int) < ps → ∃ y, D i = some y)
    (hq : ∀ L' sh' e n' D' y, ACT L sh c n D ps L' sh' e n' D' y → 115 ≤ y → SAN True b 38 e (stp b σ la (tof b (σ 4 0))) → Q (some (.inl (sm (nws (sgb b σ (tof b (σ 4 0)))) (b 0 0 * b 0 1).toNat))) (hp L' sh' e) n') : tc_C 84 [rf 26] (hp L sh c) n Q := by
  obtain ⟨hM, ⟨s1, l1, hE⟩, hSh, hs, h38, h56, _, hb, hw, hB, hσ, hl, hal⟩ := id h
  have hL := hE.1
  have hL26 : 26 < L := by omega
  have hL29 : 29 < L := by omega
  have hL42 : 42 < L := by omega
  have hN4 : 4 ≤ b 0 0 * b 0 1 := by
    have : 2 * 2 ≤ b 0 0 * b 0 1 := Int.mul_le_mul hb.1.1 hb.1.2.2.1 (by omega) (by have := hb.1; omega)
    omega
  have h83 := fun Q => c83 (c := c) (n := n) (Q := Q) hM hSh hL hB.1.2.1
  simp only [if_neg (by omega : ¬ b 0 0 * b 0 1 = 0)] at h83
  have h6 : c 38 6 = σ 4 0 := hσ.2.2.2.2.2
  show tc_W 84 0 [rf 26] [] _ _ Q
  repeat' (first | (simp (disch := first | omega | exact Nat.le_of_ble_eq_true rfl | exact rfl | assumption | (simp (disch := omega) only [fr_ne, fr_same]; first | assumption | omega)) only [r84_0, r84_1, v84_1_10, r84_7, r84_8, r84_11, r84_14, r84_17, r84_23, r84_24, r84_25, r84_26, r84_29, r84_32, r84_33, r84_36, r84_39, v84_39_4, r84_42, r84_43, v84_43_10, r84_46, r84_47, r84_50, r84_53, v84_53_7, r84_56, g10_34_10, g10_109_6, g10_151_5, g10_154_6, o10_len, o10_g4, o6_len, o6_g1, o5_len, o5_g6, o6_g2, il_s, bl_s, bl_z, ll_s, is_s, bs_s, bs_z, ls_s, al_s, al_b, al_l, fr_ne, fr_same, fr_fr, Nat.reduceEqDiff, tc_gf3_s, tc_ql2_s, tc_ws_0, tc_ws_i, tc_ws_l, tc_ws_r, Nat.reduceLeDiff, Nat.reduceAdd, Nat.reduceLT, true_and, and_true, if_true, if_false, tc_K, Option.toList_some, Option.toList_none, List.nil_append, List.cons_append, ite_true, ite_false, Int.cast_ofNat_Int, reduceIte, i3_add_eq, i3_sub_eq, Int.add_sub_cancel, Int.add_neg_cancel_right, hO hL26 hM.1, hO hL29 hM.2, h83, SanS_g0 h38, SanS_s0 h38, SanS_g1 h38, SanS_s1 h38, SanS_g2 h38, SanS_s2 h38, SanS_g3 h38, SanS_s3 h38, h6, hO hL42 hP.2.2.1]) | (simp only [r84_4, r84_20, i6_lt0, i6_0lt, i6_0le, i6_le0, i6_eq0, b10_0, ite_not, Int.reduceLT, Int.reduceLE, Int.reduceEq, Int.reduceNeg, if_true, if_false, ite_true, ite_false, reduceIte, eq_self, not_true, not_false_eq_true]; try refine tc_ite (fun _ => ?_) (fun _ => ?_) <;> try (exfalso; omega)))
  all_goals try omega
  refine c85q h hP hI hps hp0 hD ?_
  intro L' sh' c' n' D' y hA hy hC'
  obtain ⟨hM', ⟨s2, l2, hE'⟩, hSh', _, h38', _⟩ := id hC'
  have hL' := hE'.1
  have h72 := fun Q => c72q (n := n') (Q := Q) hC'
  have hC2 := hC'.next (FQ.refl c')
  have hE2 := SeaS_new hE' (some s) v
  generalize hS2 : seaf sh' (some s) v = S2 at h72 hC2 hE2
  obtain ⟨hM2, _, hSh2, _, h382, _, _, _, _, hB2, hσ2, hl2, _⟩ := id hC2
  have gL26 : 26 < L' := by omega
  have gL29 : 29 < L' := by omega
  repeat' (first | (simp (disch := first | omega | exact Nat.le_of_ble_eq_true rfl | exact rfl | assumption | (simp (disch := omega) only [fr_ne, fr_same]; first | assumption | omega)) only [r84_0, r84_1, v84_1_10, r84_7, r84_8, r84_11, r84_14, r84_17, r84_23, r84_24, r84_25, r84_26, r84_29, r84_32, r84_33, r84_36, r84_39, v84_39_4, r84_42, r84_43, v84_43_10, r84_46, r84_47, r84_50, r84_53, v84_53_7, r84_56, g10_34_10, g10_109_6, g10_151_5, g10_154_6, o10_len, o10_g4, o6_len, o6_g1, o5_len, o5_g6, o6_g2, il_s, bl_s, bl_z, ll_s, is_s, bs_s, bs_z, ls_s, al_s, al_b, al_l, fr_ne, fr_same, fr_fr, Nat.reduceEqDiff, tc_gf3_s, tc_ql2_s, tc_ws_0, tc_ws_i, tc_ws_l, tc_ws_r, Nat.reduceLeDiff, Nat.reduceAdd, Nat.reduceLT, true_and, and_true, if_true, if_false, tc_K, Option.toList_some, Option.toList_none, List.nil_append, List.cons_append, ite_true, ite_false, Int.cast_ofNat_Int, reduceIte, i3_add_eq, i3_sub_eq, Int.add_sub_cancel, Int.add_neg_cancel_right, hO gL26 hM'.1, hO gL29 hM'.2, h72, hO gL26 hM2.1, hO gL29 hM2.2, SeaS_g0 hE2, SeaS_s0 hE2, SeaS_g1 hE2, SeaS_s1 hE2, SeaS_g2 hE2, SeaS_s2 hE2, SeaS_g3 hE2, SeaS_s3 hE2, SeaS_g4 hE2, SeaS_s4 hE2, SeaS_g5 hE2, SeaS_s5 hE2, SeaS_g6 hE2, SeaS_s6 hE2]) | (simp only [r84_4, r84_20, i6_lt0, i6_0lt, i6_0le, i6_le0, i6_eq0, b10_0, ite_not, Int.reduceLT, Int.reduceLE, Int.reduceEq, Int.reduceNeg, if_true, if_false, ite_true, ite_false, reduceIte, eq_self, not_true, not_false_eq_true]; try refine tc_ite (fun _ => ?_) (fun _ => ?_) <;> try (exfalso; omega)))
  refine c89 (k := True) hE2 hSh2 hs h382 (by unfold AP; omega) hb hw hl2 hal hB2 hσ2 (by omega) ?_
  intro e g1 g2
  repeat' (first | (simp (disch := first | omega | exact Nat.le_of_ble_eq_true rfl | exact rfl | assumption | (simp (disch := omega) only [fr_ne, fr_same]; first | assumption | omega)) only [r84_0, r84_1, v84_1_10, r84_7, r84_8, r84_11, r84_14, r84_17, r84_23, r84_24, r84_25, r84_26, r84_29, r84_32, r84_33, r84_36, r84_39, v84_39_4, r84_42, r84_43, v84_43_10, r84_46, r84_47, r84_50, r84_53, v84_53_7, r84_56, g10_34_10, g10_109_6, g10_151_5, g10_154_6, o10_len, o10_g4, o6_len, o6_g1, o5_len, o5_g6, o6_g2, il_s, bl_s, bl_z, ll_s, is_s, bs_s, bs_z, ls_s, al_s, al_b, al_l, fr_ne, fr_same, fr_fr, Nat.reduceEqDiff, tc_gf3_s, tc_ql2_s, tc_ws_0, tc_ws_i, tc_ws_l, tc_ws_r, Nat.reduceLeDiff, Nat.reduceAdd, Nat.reduceLT, true_and, and_true, if_true, if_false, tc_K, Option.toList_some, Option.toList_none, List.nil_append, List.cons_append, ite_true, ite_false, Int.cast_ofNat_Int, reduceIte, i3_add_eq, i3_sub_eq, Int.add_sub_cancel, Int.add_neg_cancel_right]) | (simp only [r84_4, r84_20, i6_lt0, i6_0lt, i6_0le, i6_le0, i6_eq0, b10_0, ite_not, Int.reduceLT, Int.reduceLE, Int.reduceEq, Int.reduceNeg, if_true, if_false, ite_true, ite_false, reduceIte, eq_self, not_true, not_false_eq_true]; try refine tc_ite (fun _ => ?_) (fun _ => ?_) <;> try (exfalso; omega)))
  have hA2 := hA.fr (e := e) (fun a a1 a2 => g1 a (by omega) (by omega) (by omega) (by omega) (by omega) (by omega) (by omega) (by omega)) hy
  refine hq L' S2 e n' D' y ?_ hy g2
  obtain ⟨h1, h2, h3, h4, h5, h6, h7, h8, h9, h10, h11⟩ := hA2
  refine ⟨h1, fun a a1 a2 a3 => ?_, ⟨_, _, hE2.2.1⟩, ?_, h5, h6, h7, h8, h9, h10, h11⟩
  · rw [← hS2]; exact (fs_ne a3).trans (h2 a a1 a2 a3)
  · rw [← hS2]
    exact PasS_ne (p := 49) h4 (Nat.le_refl _) (fun a _ hn => fs_ne hn) hE'.2.1 (by decide) (by omega)
theorem c104 (h : CQ L sh c s v b σ la) (hP : PasS L sh 42 D) (hI : INJ D) (hps : c 42 1 = ps) (hp0 : 0 ≤ ps ∧ ps ≤ 20) (hD : ∀ i : Nat, (i : Int) < ps → ∃ y, D i = some y) {x d : Int} (hx : 0 ≤ x ∧ x < b 0 0 * b 0 1) (hd : 0 ≤ d ∧ d ≤ 3)
    (hq1 : cdg b σ (4 * x + d) = 0 → Q (some (.inl (-1))) (hp L sh c) n)
    (hq : cdg b σ (4 * x + d) = 1 → ∀ L' sh' e n' D' y, ACT L sh c n D ps L' sh' e n' D' y → 115 ≤ y → SAN True b 38 e (dgs b σ (4 * x + d)) → Q (some (.inl (spt b (4 * x + d)))) (hp L' sh' e) n') : tc_C 104 [rf 26, .inl x, .inl d] (hp L sh c) n Q := by
  obtain ⟨hM, ⟨s1, l1, hE⟩, hSh, hs, h38, h56, _, hb, hw, hB, hσ, hl, hal⟩ := id h
  have hL := hE.1
  have hL26 : 26 < L := by omega
  have hL29 : 29 < L := by omega
  have hL42 : 42 < L := by omega
  have hN := hb.n25
  have h68 := fun Q => c68 (c := c) (n := n) (Q := Q) (x := x) hM hSh hL hB.1.2.1
  simp only [if_pos hx] at h68
  have h105 := fun Q => c105 (c := c) (n := n) (Q := Q) (m := 4 * x + d) h38 hSh hb hB hσ hw (by omega) (by omega)
  show tc_W 104 0 [rf 26, .inl x, .inl d, tc_nil] [] _ _ Q
  rcases cdg_01 b σ (4 * x + d) with h0 | h0
  · simp only [h0, if_neg (by omega : ¬ (0 : Int) = 1)] at h105
    have hq' := hq1 h0
    repeat' (first | (simp (disch := first | omega | exact Nat.le_of_ble_eq_true rfl | exact rfl | assumption | (simp (disch := omega) only [fr_ne, fr_same]; first | assumption | omega)) only [r104_0, r104_1, r104_2, v104_2_10, r104_8, r104_12, r104_13, r104_17, r104_18, r104_19, r104_20, r104_23, r104_26, r104_27, r104_30, r104_33, r104_34, r104_35, r104_36, r104_37, r104_38, v104_38_5, r104_41i, r104_42, r104_43, r104_47, r104_48, r104_51, r104_54, r104_55, r104_58, r104_61, v104_61_4, r104_64, r104_65, r104_68, r104_71, r104_72, r104_73, v104_73_5, r104_76, r104_77, g10_34_10, g10_109_6, g10_131_6, g10_154_6, o10_len, o10_g4, o6_len, o6_g1, o6_g0, o6_g2, il_s, bl_s, bl_z, ll_s, is_s, bs_s, bs_z, ls_s, al_s, al_b, al_l, fr_ne, fr_same, fr_fr, Nat.reduceEqDiff, tc_gf3_s, tc_ql2_s, tc_ws_0, tc_ws_i, tc_ws_l, tc_ws_r, Nat.reduceLeDiff, Nat.reduceAdd, Nat.reduceLT, true_and, and_true, if_true, if_false, tc_K, Option.toList_some, Option.toList_none, List.nil_append, List.cons_append, ite_true, ite_false, Int.cast_ofNat_Int, reduceIte, i3_add_eq, i3_sub_eq, Int.add_sub_cancel, Int.add_neg_cancel_right, hO hL26 hM.1, hO hL29 hM.2, h68, i3_mul_eq, SanS_g0 h38, SanS_s0 h38, SanS_g1 h38, SanS_s1 h38, SanS_g2 h38, SanS_s2 h38, SanS_g3 h38, SanS_s3 h38, h105]) | (simp only [r104_5, r104_9, r104_14, r104_44, i6_lt0, i6_0lt, i6_0le, i6_le0, i6_eq0, b10_0, ite_not, Int.reduceLT, Int.reduceLE, Int.reduceEq, Int.reduceNeg, if_true, if_false, ite_true, ite_false, reduceIte, eq_self, not_true, not_false_eq_true]; try refine tc_ite (fun _ => ?_) (fun _ => ?_) <;> try (exfalso; omega)))
    all_goals first
      | exact hq'
      | omega
  · simp only [h0, if_true] at h105
    obtain ⟨z1, z2, z3⟩ := cdg_1 h0
    repeat' (first | (simp (disch := first | omega | exact Nat.le_of_ble_eq_true rfl | exact rfl | assumption | (simp (disch := omega) only [fr_ne, fr_same]; first | assumption | omega)) only [r104_0, r104_1, r104_2, v104_2_10, r104_8, r104_12, r104_13, r104_17, r104_18, r104_19, r104_20, r104_23, r104_26, r104_27, r104_30, r104_33, r104_34, r104_35, r104_36, r104_37, r104_38, v104_38_5, r104_41i, r104_42, r104_43, r104_47, r104_48, r104_51, r104_54, r104_55, r104_58, r104_61, v104_61_4, r104_64, r104_65, r104_68, r104_71, r104_72, r104_73, v104_73_5, r104_76, r104_77, g10_34_10, g10_109_6, g10_131_6, g10_154_6, o10_len, o10_g4, o6_len, o6_g1, o6_g0, o6_g2, il_s, bl_s, bl_z, ll_s, is_s, bs_s, bs_z, ls_s, al_s, al_b, al_l, fr_ne, fr_same, fr_fr, Nat.reduceEqDiff, tc_gf3_s, tc_ql2_s, tc_ws_0, tc_ws_i, tc_ws_l, tc_ws_r, Nat.reduceLeDiff, Nat.reduceAdd, Nat.reduceLT, true_and, and_true, if_true, if_false, tc_K, Option.toList_some, Option.toList_none, List.nil_append, List.cons_append, ite_true, ite_false, Int.cast_ofNat_Int, reduceIte, i3_add_eq, i3_sub_eq, Int.add_sub_cancel, Int.add_neg_cancel_right, hO hL26 hM.1, hO hL29 hM.2, h68, i3_mul_eq, SanS_g0 h38, SanS_s0 h38, SanS_g1 h38, SanS_s1 h38, SanS_g2 h38, SanS_s2 h38, SanS_g3 h38, SanS_s3 h38, h105, hO hL42 hP.2.2.1]) | (simp only [r104_5, r104_9, r104_14, r104_44, i6_lt0, i6_0lt, i6_0le, i6_le0, i6_eq0, b10_0, ite_not, Int.reduceLT, Int.reduceLE, Int.reduceEq, Int.reduceNeg, if_true, if_false, ite_true, ite_false, reduceIte, eq_self, not_true, not_false_eq_true]; try refine tc_ite (fun _ => ?_) (fun _ => ?_) <;> try (exfalso; omega)))
    all_goals try omega
    refine c85q h hP hI hps hp0 hD ?_
    intro L' sh' c' n' D' y hA hy hC'
    obtain ⟨hM', ⟨s2, l2, hE'⟩, hSh', _, h38', _, _, _, _, _, hσ', _⟩ := id hC'
    have hL' := hE'.1
    have gL26 : 26 < L' := by omega
    have gL29 : 29 < L' := by omega
    have hsp := spt_rng (k := 4 * x + d) hb (by omega) (by omega)
    have hdx : (4 * x + d) / 4 = x := by omega
    have u1 : c' 39 x = σ 0 x := hσ'.1 x hx.1 hx.2
    have u2 : c' 39 (spt b (4 * x + d)) = σ 0 (spt b (4 * x + d)) := hσ'.1 _ (by omega) (by omega)
    have v1 := hw.1 x hx.1 hx.2
    have v2 := hw.1 (spt b (4 * x + d)) (by omega) (by omega)
    have h106 := fun Q => c106 (c := c') (n := n') (Q := Q) h38' (x := x) (y := spt b (4 * x + d)) (by omega) (by omega) (by omega) (by show 0 ≤ c' 39 x ∧ c' 39 x ≤ 100; omega) (by show 0 ≤ c' 39 _ ∧ c' 39 _ ≤ 100; omega)
    repeat' (first | (simp (disch := first | omega | exact Nat.le_of_ble_eq_true rfl | exact rfl | assumption | (simp (disch := omega) only [fr_ne, fr_same]; first | assumption | omega)) only [r104_0, r104_1, r104_2, v104_2_10, r104_8, r104_12, r104_13, r104_17, r104_18, r104_19, r104_20, r104_23, r104_26, r104_27, r104_30, r104_33, r104_34, r104_35, r104_36, r104_37, r104_38, v104_38_5, r104_41i, r104_42, r104_43, r104_47, r104_48, r104_51, r104_54, r104_55, r104_58, r104_61, v104_61_4, r104_64, r104_65, r104_68, r104_71, r104_72, r104_73, v104_73_5, r104_76, r104_77, g10_34_10, g10_109_6, g10_131_6, g10_154_6, o10_len, o10_g4, o6_len, o6_g1, o6_g0, o6_g2, il_s, bl_s, bl_z, ll_s, is_s, bs_s, bs_z, ls_s, al_s, al_b, al_l, fr_ne, fr_same, fr_fr, Nat.reduceEqDiff, tc_gf3_s, tc_ql2_s, tc_ws_0, tc_ws_i, tc_ws_l, tc_ws_r, Nat.reduceLeDiff, Nat.reduceAdd, Nat.reduceLT, true_and, and_true, if_true, if_false, tc_K, Option.toList_some, Option.toList_none, List.nil_append, List.cons_append, ite_true, ite_false, Int.cast_ofNat_Int, reduceIte, i3_add_eq, i3_sub_eq, Int.add_sub_cancel, Int.add_neg_cancel_right, hO gL26 hM'.1, hO gL29 hM'.2, SanS_g0 h38', SanS_s0 h38', SanS_g1 h38', SanS_s1 h38', SanS_g2 h38', SanS_s2 h38', SanS_g3 h38', SanS_s3 h38', h106]) | (simp only [r104_5, r104_9, r104_14, r104_44, i6_lt0, i6_0lt, i6_0le, i6_le0, i6_eq0, b10_0, ite_not, Int.reduceLT, Int.reduceLE, Int.reduceEq, Int.reduceNeg, if_true, if_false, ite_true, ite_false, reduceIte, eq_self, not_true, not_false_eq_true]; try refine tc_ite (fun _ => ?_) (fun _ => ?_) <;> try (exfalso; omega)))
    refine hq h0 L' sh' _ n' D' y (hA.fr (fun a a1 a2 => fr_ne (by omega)) hy) hy ?_
    obtain ⟨p1, p2, p3, p4, p5, p6⟩ := hσ'
    refine ⟨fun z z1 z2 => ?_, ?_, ?_, ?_, ?_, ?_⟩
    · show fr c' 39 _ 39 z = fu (fu (σ 0) ((4 * x + d) / 4) (σ 0 ((4 * x + d) / 4) - 1)) (spt b (4 * x + d)) (σ 0 (spt b (4 * x + d)) + 1) z
      rw [fr_same, hdx]
      show fu (fu (c' 39) x (c' 39 x - 1)) (spt b (4 * x + d)) (c' 39 (spt b (4 * x + d)) + 1) z = _
      rw [u1, u2]
      by_cases w1 : z = spt b (4 * x + d)
      · rw [w1, fu_same, fu_same]
      · rw [fu_ne w1, fu_ne w1]
        by_cases w2 : z = x
        · rw [w2, fu_same, fu_same]
        · rw [fu_ne w2, fu_ne w2]
          exact p1 z z1 z2
    · exact p2
    · exact p3
    · exact p4
    · exact p5
    · exact p6
theorem c107 (h : CQ L sh c s v b σ la) (hP : PasS L sh 42 D) (hI : INJ D) (hps : c 42 1 = ps) (hp0 : 0 ≤ ps ∧ ps ≤ 20) (hD : ∀ i : Nat, (i : Int) < ps → ∃ y, D i = some y) {f : Int} (hf : 0 ≤ f ∧ f < b 0 2) (h3 : σ 3 f = -1)
    (hq : ∀ L' sh' e n' D' y, ACT L sh c n D ps L' sh' e n' D' y → 115 ≤ y → SAN True b 38 e (giv σ f) → Q (some (.inl (giv σ f 0 (σ 2 f)))) (hp L' sh' e) n') : tc_C 107 [rf 26, .inl f] (hp L sh c) n Q := by
  obtain ⟨hM, ⟨s1, l1, hE⟩, hSh, hs, h38, h56, _, hb, hw, hB, hσ, hl, hal⟩ := id h
  have hL := hE.1
  have hL26 : 26 < L := by omega
  have hL29 : 29 < L := by omega
  have hL42 : 42 < L := by omega
  have hm2 := hb.2.1
  have h108 := fun Q => c108 (c := c) (n := n) (Q := Q) (f := f) (fe := σ 3) hM hSh h38 hL (by omega) hB.2.1.2.1 hσ.2.2.1
  simp only [if_pos (⟨hf, h3⟩ : (0 ≤ f ∧ f < b 0 2) ∧ σ 3 f = -1)] at h108
  show tc_W 107 0 [rf 26, .inl f] [] _ _ Q
  repeat' (first | (simp (disch := first | omega | exact Nat.le_of_ble_eq_true rfl | exact rfl | assumption | (simp (disch := omega) only [fr_ne, fr_same]; first | assumption | omega)) only [r107_0, r107_1, r107_2, v107_2_10, r107_8, r107_9, r107_10, r107_11, r107_14, r107_17, r107_18, r107_21, r107_24, v107_24_4, r107_27, r107_28, r107_31, r107_34, r107_35, v107_35_5, r107_38, g10_34_10, g10_154_6, g10_109_6, o10_len, o10_g4, o6_len, o6_g2, o6_g1, il_s, bl_s, bl_z, ll_s, is_s, bs_s, bs_z, ls_s, al_s, al_b, al_l, fr_ne, fr_same, fr_fr, Nat.reduceEqDiff, tc_gf3_s, tc_ql2_s, tc_ws_0, tc_ws_i, tc_ws_l, tc_ws_r, Nat.reduceLeDiff, Nat.reduceAdd, Nat.reduceLT, true_and, and_true, if_true, if_false, tc_K, Option.toList_some, Option.toList_none, List.nil_append, List.cons_append, ite_true, ite_false, Int.cast_ofNat_Int, reduceIte, i3_add_eq, i3_sub_eq, Int.add_sub_cancel, Int.add_neg_cancel_right, hO hL26 hM.1, hO hL29 hM.2, h108, hO hL42 hP.2.2.1]) | (simp only [r107_5, i6_lt0, i6_0lt, i6_0le, i6_le0, i6_eq0, b10_0, ite_not, Int.reduceLT, Int.reduceLE, Int.reduceEq, Int.reduceNeg, if_true, if_false, ite_true, ite_false, reduceIte, eq_self, not_true, not_false_eq_true]; try refine tc_ite (fun _ => ?_) (fun _ => ?_) <;> try (exfalso; omega)))
  all_goals try omega
  refine c85q h hP hI hps hp0 hD ?_
  intro L' sh' c' n' D' y hA hy hC'
  obtain ⟨hM', ⟨s2, l2, hE'⟩, hSh', _, h38', _, _, _, _, _, hσ', _⟩ := id hC'
  have hL' := hE'.1
  have gL26 : 26 < L' := by omega
  have gL29 : 29 < L' := by omega
  repeat' (first | (simp (disch := first | omega | exact Nat.le_of_ble_eq_true rfl | exact rfl | assumption | (simp (disch := omega) only [fr_ne, fr_same]; first | assumption | omega)) only [r107_0, r107_1, r107_2, v107_2_10, r107_8, r107_9, r107_10, r107_11, r107_14, r107_17, r107_18, r107_21, r107_24, v107_24_4, r107_27, r107_28, r107_31, r107_34, r107_35, v107_35_5, r107_38, g10_34_10, g10_154_6, g10_109_6, o10_len, o10_g4, o6_len, o6_g2, o6_g1, il_s, bl_s, bl_z, ll_s, is_s, bs_s, bs_z, ls_s, al_s, al_b, al_l, fr_ne, fr_same, fr_fr, Nat.reduceEqDiff, tc_gf3_s, tc_ql2_s, tc_ws_0, tc_ws_i, tc_ws_l, tc_ws_r, Nat.reduceLeDiff, Nat.reduceAdd, Nat.reduceLT, true_and, and_true, if_true, if_false, tc_K, Option.toList_some, Option.toList_none, List.nil_append, List.cons_append, ite_true, ite_false, Int.cast_ofNat_Int, reduceIte, i3_add_eq, i3_sub_eq, Int.add_sub_cancel, Int.add_neg_cancel_right, hO gL26 hM'.1, hO gL29 hM'.2, SanS_g0 h38', SanS_s0 h38', SanS_g1 h38', SanS_s1 h38', SanS_g2 h38', SanS_s2 h38', SanS_g3 h38', SanS_s3 h38']) | (simp only [r107_5, i6_lt0, i6_0lt, i6_0le, i6_le0, i6_eq0, b10_0, ite_not, Int.reduceLT, Int.reduceLE, Int.reduceEq, Int.reduceNeg, if_true, if_false, ite_true, ite_false, reduceIte, eq_self, not_true, not_false_eq_true]; try refine tc_ite (fun _ => ?_) (fun _ => ?_) <;> try (exfalso; omega)))
  refine c109 h38' hb hσ' hw hf ?_
  intro e g1 _ _ _ g2
  repeat' (first | (simp (disch := first | omega | exact Nat.le_of_ble_eq_true rfl | exact rfl | assumption | (simp (disch := omega) only [fr_ne, fr_same]; first | assumption | omega)) only [r107_0, r107_1, r107_2, v107_2_10, r107_8, r107_9, r107_10, r107_11, r107_14, r107_17, r107_18, r107_21, r107_24, v107_24_4, r107_27, r107_28, r107_31, r107_34, r107_35, v107_35_5, r107_38, g10_34_10, g10_154_6, g10_109_6, o10_len, o10_g4, o6_len, o6_g2, o6_g1, il_s, bl_s, bl_z, ll_s, is_s, bs_s, bs_z, ls_s, al_s, al_b, al_l, fr_ne, fr_same, fr_fr, Nat.reduceEqDiff, tc_gf3_s, tc_ql2_s, tc_ws_0, tc_ws_i, tc_ws_l, tc_ws_r, Nat.reduceLeDiff, Nat.reduceAdd, Nat.reduceLT, true_and, and_true, if_true, if_false, tc_K, Option.toList_some, Option.toList_none, List.nil_append, List.cons_append, ite_true, ite_false, Int.cast_ofNat_Int, reduceIte, i3_add_eq, i3_sub_eq, Int.add_sub_cancel, Int.add_neg_cancel_right]) | (simp only [r107_5, i6_lt0, i6_0lt, i6_0le, i6_le0, i6_eq0, b10_0, ite_not, Int.reduceLT, Int.reduceLE, Int.reduceEq, Int.reduceNeg, if_true, if_false, ite_true, ite_false, reduceIte, eq_self, not_true, not_false_eq_true]; try refine tc_ite (fun _ => ?_) (fun _ => ?_) <;> try (exfalso; omega)))
  exact hq L' sh' e n' D' y (hA.fr (fun a a1 a2 => g1 a (by omega) (by omega) (by omega)) hy) hy g2
theorem c110 (h : CQ L sh c s v b σ la) (hP : PasS L sh 42 D) (hI : INJ D) (hps : c 42 1 = ps) (hp0 : 0 ≤ ps ∧ ps ≤ 20) (hD : ∀ i : Nat, (i : Int) < ps → ∃ y, D i = some y) {f x : Int} (hf : 0 ≤ f ∧ f < b 0 2) (h3 : σ 3 f = -1) (hx : 0 ≤ x ∧ x < b 0 0 * b 0 1) (hne : ¬ σ 2 f = x)
    (hq : ∀ L' sh' e n' D' y, ACT L sh c n D ps L' sh' e n' D' y → 115 ≤ y → SAN True b 38 e (fr σ 2 (fu (σ 2) f x)) → Q (some (.inl (σ 2 f))) (hp L' sh' e) n') : tc_C 110 [rf 26, .inl f, .inl x] (hp L sh c) n Q := by
  obtain ⟨hM, ⟨s1, l1, hE⟩, hSh, hs, h38, h56, _, hb, hw, hB, hσ, hl, hal⟩ := id h
  have hL := hE.1
  have hL26 : 26 < L := by omega
  have hL29 : 29 < L := by omega
  have hL42 : 42 < L := by omega
  have hm2 := hb.2.1
  have h108 := fun Q => c108 (c := c) (n := n) (Q := Q) (f := f) (fe := σ 3) hM hSh h38 hL (by omega) hB.2.1.2.1 hσ.2.2.1
  simp only [if_pos (⟨hf, h3⟩ : (0 ≤ f ∧ f < b 0 2) ∧ σ 3 f = -1)] at h108
  have h68 := fun Q => c68 (c := c) (n := n) (Q := Q) (x := x) hM hSh hL hB.1.2.1
  simp only [if_pos hx] at h68
  have ha : c 40 f = σ 2 f := (hσ.2.1 f hf.1 hf.2).1
  have hf6 : f < 6 := by omega
  show tc_W 110 0 [rf 26, .inl f, .inl x, tc_nil] [] _ _ Q
  repeat' (first | (simp (disch := first | omega | exact Nat.le_of_ble_eq_true rfl | exact rfl | assumption | (simp (disch := omega) only [fr_ne, fr_same]; first | assumption | omega)) only [r110_0, r110_1, r110_2, v110_2_10, r110_8, r110_9, r110_10, v110_10_10, r110_16, r110_17, r110_18, r110_19, r110_22, r110_25, r110_28, r110_29, r110_30i, r110_31, r110_32, r110_36, r110_37, r110_38, r110_39, r110_42, r110_45, r110_46, r110_49, r110_52, v110_52_4, r110_55, r110_56, r110_59, r110_62, r110_65, r110_66, r110_67, r110_68, r110_69, g10_34_10, g10_109_6, g10_128_5, g10_154_6, o10_len, o10_g4, o6_len, o6_g1, o5_len, o5_g1, o6_g2, il_s, bl_s, bl_z, ll_s, is_s, bs_s, bs_z, ls_s, al_s, al_b, al_l, fr_ne, fr_same, fr_fr, Nat.reduceEqDiff, tc_gf3_s, tc_ql2_s, tc_ws_0, tc_ws_i, tc_ws_l, tc_ws_r, Nat.reduceLeDiff, Nat.reduceAdd, Nat.reduceLT, true_and, and_true, if_true, if_false, tc_K, Option.toList_some, Option.toList_none, List.nil_append, List.cons_append, ite_true, ite_false, Int.cast_ofNat_Int, reduceIte, i3_add_eq, i3_sub_eq, Int.add_sub_cancel, Int.add_neg_cancel_right, hO hL26 hM.1, hO hL29 hM.2, h108, h68, SanS_g0 h38, SanS_s0 h38, SanS_g1 h38, SanS_s1 h38, SanS_g2 h38, SanS_s2 h38, SanS_g3 h38, SanS_s3 h38, hO hL42 hP.2.2.1, ha]) | (simp only [r110_5, r110_13, r110_33, i6_lt0, i6_0lt, i6_0le, i6_le0, i6_eq0, b10_0, ite_not, Int.reduceLT, Int.reduceLE, Int.reduceEq, Int.reduceNeg, if_true, if_false, ite_true, ite_false, reduceIte, eq_self, not_true, not_false_eq_true]; try refine tc_ite (fun _ => ?_) (fun _ => ?_) <;> try (exfalso; omega)))
  all_goals try omega
  refine c85q h hP hI hps hp0 hD ?_
  intro L' sh' c' n' D' y hA hy hC'
  obtain ⟨hM', ⟨s2, l2, hE'⟩, hSh', _, h38', _, _, _, _, _, hσ', _⟩ := id hC'
  have hL' := hE'.1
  have gL26 : 26 < L' := by omega
  have gL29 : 29 < L' := by omega
  repeat' (first | (simp (disch := first | omega | exact Nat.le_of_ble_eq_true rfl | exact rfl | assumption | (simp (disch := omega) only [fr_ne, fr_same]; first | assumption | omega)) only [r110_0, r110_1, r110_2, v110_2_10, r110_8, r110_9, r110_10, v110_10_10, r110_16, r110_17, r110_18, r110_19, r110_22, r110_25, r110_28, r110_29, r110_30i, r110_31, r110_32, r110_36, r110_37, r110_38, r110_39, r110_42, r110_45, r110_46, r110_49, r110_52, v110_52_4, r110_55, r110_56, r110_59, r110_62, r110_65, r110_66, r110_67, r110_68, r110_69, g10_34_10, g10_109_6, g10_128_5, g10_154_6, o10_len, o10_g4, o6_len, o6_g1, o5_len, o5_g1, o6_g2, il_s, bl_s, bl_z, ll_s, is_s, bs_s, bs_z, ls_s, al_s, al_b, al_l, fr_ne, fr_same, fr_fr, Nat.reduceEqDiff, tc_gf3_s, tc_ql2_s, tc_ws_0, tc_ws_i, tc_ws_l, tc_ws_r, Nat.reduceLeDiff, Nat.reduceAdd, Nat.reduceLT, true_and, and_true, if_true, if_false, tc_K, Option.toList_some, Option.toList_none, List.nil_append, List.cons_append, ite_true, ite_false, Int.cast_ofNat_Int, reduceIte, i3_add_eq, i3_sub_eq, Int.add_sub_cancel, Int.add_neg_cancel_right, hO gL26 hM'.1, hO gL29 hM'.2, SanS_g0 h38', SanS_s0 h38', SanS_g1 h38', SanS_s1 h38', SanS_g2 h38', SanS_s2 h38', SanS_g3 h38', SanS_s3 h38']) | (simp only [r110_5, r110_13, r110_33, i6_lt0, i6_0lt, i6_0le, i6_le0, i6_eq0, b10_0, ite_not, Int.reduceLT, Int.reduceLE, Int.reduceEq, Int.reduceNeg, if_true, if_false, ite_true, ite_false, reduceIte, eq_self, not_true, not_false_eq_true]; try refine tc_ite (fun _ => ?_) (fun _ => ?_) <;> try (exfalso; omega)))
  refine hq L' sh' _ n' D' y (hA.fr (fun a a1 a2 => fr_ne (by omega)) hy) hy ?_
  obtain ⟨p1, p2, p3, p4, p5, p6⟩ := hσ'
  refine ⟨p1, fun g g1 g2 => ⟨?_, ?_⟩, p3, p4, p5, p6⟩
  · show fr c' 40 (fu (c' 40) f x) 40 g = fr σ 2 (fu (σ 2) f x) 2 g
    rw [fr_same, fr_same]
    by_cases w : g = f
    · rw [w, fu_same, fu_same]
    · rw [fu_ne w, fu_ne w]
      exact (p2 g g1 g2).1
  · exact (p2 g g1 g2).2
theorem c111 (hL : 115 ≤ L) (hM : MO sh s) (h38 : SanS L sh 38) (hP : PasS L sh 42 D) (hps : c 42 1 = ps) (hp0 : 0 < ps ∧ ps ≤ 20) {y : Nat} (hy : D (ps - 1).toNat = some y)
    (hq : ∀ e, (∀ a, ¬ a = 42 → (a < 38 ∨ 41 < a) → e a = c a) → e 42 = fu (c 42) 1 (ps - 1) → (∀ k b σ, SAN k b y c σ → SAN k b 38 e σ) → Q (some (.inl (ps - 1))) (hp L sh e) n) : tc_C 111 [rf 26] (hp L sh c) n Q := by
  have hL26 : 26 < L := by omega
  have hL29 : 29 < L := by omega
  have hL42 : 42 < L := by omega
  have hy1 := (hP.2.2.2.2 _ y (by omega) hy).1
  show tc_W 111 0 [rf 26] [] _ _ Q
  repeat' (first | (simp (disch := first | omega | exact Nat.le_of_ble_eq_true rfl | exact rfl | assumption | (simp (disch := omega) only [fr_ne, fr_same]; first | assumption | omega)) only [r111_0, r111_1, r111_4, r111_7, r111_13, r111_15, r111_16, r111_17, r111_20, r111_23, r111_24, r111_27, r111_30, v111_30_4, r111_33, r111_34, r111_37, r111_40, r111_43, g10_34_10, g10_154_6, g10_185_4, g10_109_6, o10_len, o10_g4, o6_len, o6_g2, o4_len, o4_g1, o6_g1, il_s, bl_s, bl_z, ll_s, is_s, bs_s, bs_z, ls_s, al_s, al_b, al_l, fr_ne, fr_same, fr_fr, Nat.reduceEqDiff, tc_gf3_s, tc_ql2_s, tc_ws_0, tc_ws_i, tc_ws_l, tc_ws_r, Nat.reduceLeDiff, Nat.reduceAdd, Nat.reduceLT, true_and, and_true, if_true, if_false, tc_K, Option.toList_some, Option.toList_none, List.nil_append, List.cons_append, ite_true, ite_false, Int.cast_ofNat_Int, reduceIte, i3_add_eq, i3_sub_eq, Int.add_sub_cancel, Int.add_neg_cancel_right, hO hL26 hM.1, hO hL29 hM.2, hO hL42 hP.2.2.1, hps]) | (simp only [r111_10, i6_lt0, i6_0lt, i6_0le, i6_le0, i6_eq0, b10_0, ite_not, Int.reduceLT, Int.reduceLE, Int.reduceEq, Int.reduceNeg, if_true, if_false, ite_true, ite_false, reduceIte, eq_self, not_true, not_false_eq_true]; try refine tc_ite (fun _ => ?_) (fun _ => ?_) <;> try (exfalso; omega)))
  all_goals try omega
  refine c112 hP h38 hps hp0 hy (by omega) ?_
  intro e g1 g2 g3
  have e1 : e 42 1 = ps - 1 := by rw [g2, fu_same]
  repeat' (first | (simp (disch := first | omega | exact Nat.le_of_ble_eq_true rfl | exact rfl | assumption | (simp (disch := omega) only [fr_ne, fr_same]; first | assumption | omega)) only [r111_0, r111_1, r111_4, r111_7, r111_13, r111_15, r111_16, r111_17, r111_20, r111_23, r111_24, r111_27, r111_30, v111_30_4, r111_33, r111_34, r111_37, r111_40, r111_43, g10_34_10, g10_154_6, g10_185_4, g10_109_6, o10_len, o10_g4, o6_len, o6_g2, o4_len, o4_g1, o6_g1, il_s, bl_s, bl_z, ll_s, is_s, bs_s, bs_z, ls_s, al_s, al_b, al_l, fr_ne, fr_same, fr_fr, Nat.reduceEqDiff, tc_gf3_s, tc_ql2_s, tc_ws_0, tc_ws_i, tc_ws_l, tc_ws_r, Nat.reduceLeDiff, Nat.reduceAdd, Nat.reduceLT, true_and, and_true, if_true, if_false, tc_K, Option.toList_some, Option.toList_none, List.nil_append, List.cons_append, ite_true, ite_false, Int.cast_ofNat_Int, reduceIte, i3_add_eq, i3_sub_eq, Int.add_sub_cancel, Int.add_neg_cancel_right, hO hL26 hM.1, hO hL29 hM.2, hO hL42 hP.2.2.1, e1]) | (simp only [r111_10, i6_lt0, i6_0lt, i6_0le, i6_le0, i6_eq0, b10_0, ite_not, Int.reduceLT, Int.reduceLE, Int.reduceEq, Int.reduceNeg, if_true, if_false, ite_true, ite_false, reduceIte, eq_self, not_true, not_false_eq_true]; try refine tc_ite (fun _ => ?_) (fun _ => ?_) <;> try (exfalso; omega)))
  exact hq e (fun a a1 a2 => g1 a a1 (by omega)) g2 g3
theorem c111_z (hL : 115 ≤ L) (hM : MO sh s) (h42 : sh 42 = (6, 4, [some 43])) (hps : c 42 1 = 0) : tc_C 111 [rf 26] (hp L sh c) n Q = Q (some (.inl (-2))) (hp L sh c) n := tc_det fun Q hq => by
  have hL26 : 26 < L := by omega
  have hL29 : 29 < L := by omega
  have hL42 : 42 < L := by omega
  show tc_W 111 0 [rf 26] [] _ _ Q
  repeat' (first | (simp (disch := first | omega | exact Nat.le_of_ble_eq_true rfl | exact rfl | assumption | (simp (disch := omega) only [fr_ne, fr_same]; first | assumption | omega)) only [r111_0, r111_1, r111_4, r111_7, r111_13, r111_15, r111_16, r111_17, r111_20, r111_23, r111_24, r111_27, r111_30, v111_30_4, r111_33, r111_34, r111_37, r111_40, r111_43, g10_34_10, g10_154_6, g10_185_4, g10_109_6, o10_len, o10_g4, o6_len, o6_g2, o4_len, o4_g1, o6_g1, il_s, bl_s, bl_z, ll_s, is_s, bs_s, bs_z, ls_s, al_s, al_b, al_l, fr_ne, fr_same, fr_fr, Nat.reduceEqDiff, tc_gf3_s, tc_ql2_s, tc_ws_0, tc_ws_i, tc_ws_l, tc_ws_r, Nat.reduceLeDiff, Nat.reduceAdd, Nat.reduceLT, true_and, and_true, if_true, if_false, tc_K, Option.toList_some, Option.toList_none, List.nil_append, List.cons_append, ite_true, ite_false, Int.cast_ofNat_Int, reduceIte, i3_add_eq, i3_sub_eq, Int.add_sub_cancel, Int.add_neg_cancel_right, hO hL26 hM.1, hO hL29 hM.2, hO hL42 h42, hps]) | (simp only [r111_10, i6_lt0, i6_0lt, i6_0le, i6_le0, i6_eq0, b10_0, ite_not, Int.reduceLT, Int.reduceLE, Int.reduceEq, Int.reduceNeg, if_true, if_false, ite_true, ite_false, reduceIte, eq_self, not_true, not_false_eq_true]; try refine tc_ite (fun _ => ?_) (fun _ => ?_) <;> try (exfalso; omega)))
  exact hq
end ACTSC

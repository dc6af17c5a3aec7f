/-! the class: which flag to give up -/
theorem gvs_stop {b t : Nat → Int → Int} {la : Option Law} {m : Nat} {T : Int} {a : Nat} (h1 : T ≤ (gvs b la t m a).2) : ∀ k : Nat, (∀ x : Int, a ≤ x → x < (a + k : Nat) → t 3 x = -1 → gos b la (giv t x) m 4 1 ≤ T) → gvs b la t m (a + k) = gvs b la t m a := by
  intro k
  induction k with
  | zero => intro _; rfl
  | succ k ih =>
    intro h
    have e : gvs b la t m (a + (k + 1)) = if t 3 ((a + k : Nat) : Int) = -1 ∧ (gvs b la t m (a + k)).2 < gos b la (giv t ((a + k : Nat) : Int)) m 4 1 then (((a + k : Nat) : Int), gos b la (giv t ((a + k : Nat) : Int)) m 4 1) else gvs b la t m (a + k) := rfl
    have e2 := ih fun x x1 x2 => h x x1 (by omega)
    rw [e, e2, if_neg]
    intro hc
    have := h ((a + k : Nat) : Int) (by omega) (by omega) hc.1
    omega
theorem mrk_giv {b s : Nat → Int → Int} (hb : WB b) (hw : WS b s) (f : Int) : mrk b (giv s f) ≤ mrk b s := by
  unfold mrk
  refine sm_mono fun x x1 x2 => ?_
  have hr := hb.2.2.2.1 x x1 (by omega)
  have h4 := hw.2.2.2.1
  show (if stn (fu (s 3) f (s 4 0)) x = true then b 2 x else 0) ≤ (if stn (s 3) x = true then b 2 x else 0)
  by_cases hx : x = f
  · have e : stn (fu (s 3) f (s 4 0)) x = false := by
      unfold stn
      rw [hx, fu_same]
      exact decide_eq_false (by omega)
    rw [e, if_neg (by decide)]
    split <;> omega
  · have e : stn (fu (s 3) f (s 4 0)) x = stn (s 3) x := by
      unfold stn
      rw [fu_ne hx]
    rw [e]
    exact Int.le_refl _
theorem gos_topg {b s : Nat → Int → Int} {la : Option Law} (hb : WB b) (hw : WS b s) {m : Int} (hm : 0 ≤ m) (h9 : s 4 0 + m ≤ 900) {f : Int} (hf : 0 ≤ f ∧ f < b 0 2) : gos b la (giv s f) m.toNat 4 1 ≤ s 4 1 + m * mrk b s := by
  have h1 : gos b la (giv s f) m.toNat 4 1 ≤ s 4 1 + m * mrk b (giv s f) := gos_top (la := la) (m := m) hb (giv_ws hw hf) hm h9
  have h2 := Int.mul_le_mul_of_nonneg_left (mrk_giv hb hw f) hm
  omega
def TG (c d : Nat → Int → Int) : Prop := (∀ a, (a < 49 ∨ (55 < a ∧ a < 60) ∨ (60 < a ∧ a < 64) ∨ 68 < a) → d a = c a) ∧ d 60 4 = c 60 4 ∧ d 60 5 = c 60 5
section GIVC
variable {L : Nat} {sh : Nat → SH} {c d e : Nat → Int → Int} {n : Nat} {Q : Option AV → List SC → Nat → Prop} {s : Nat} {lo : Option Nat} {b σ : Nat → Int → Int} {la : Option Law} {k : Prop}
theorem TR.tg (h : TR L sh c s lo b la) (hd : TG c d) : TR L sh d s lo b la := h.fr fun a ha => hd.1 a (by omega)
theorem c140 (hT : TR L sh c s lo b la) (hσ : SAN False b 61 c σ) (hw : WS b σ) {m : Int} (hm : 1 ≤ m ∧ m ≤ 60) (h4 : c 60 4 = m) (h5 : c 60 5 = σ 4 1 + m * mrk b σ) (h9 : σ 4 0 + m ≤ 900) (h90 : c 60 9 = -1)
    (hq : ∀ e, TG c e → e 60 7 = (gvs b la σ m.toNat (b 0 2).toNat).2 → e 60 9 = (gvs b la σ m.toNat (b 0 2).toNat).1 → Q none (hp L sh e) n) : tc_C 140 [rf 60] (hp L sh c) n Q := by
  obtain ⟨hE, hSh, hs, ⟨h61, h65, h60⟩, hb, hl, hal, hBs⟩ := id hT
  have hL := hE.1
  have hL60 : 60 < L := by omega
  have hN := hb.n25
  have hm2 := hb.2.1
  have hc3 := hBs.2.1.2.1
  have hrk := mrk_rng (s := σ) hb
  have hpn : 0 ≤ m * mrk b σ := Int.mul_nonneg (by omega) hrk.1
  have hpl : m * mrk b σ ≤ 60 * 300 := Int.mul_le_mul (by omega) hrk.2 hrk.1 (by omega)
  have hmk0 := hw.2.2.2
  have ht0 := gos_mk (la := la) (k := m.toNat) hb hw (by omega)
  show tc_W 140 0 [rf 60, tc_nil, tc_nil, tc_nil, tc_nil] [] _ _ Q
  repeat' (first | (simp (disch := first | omega | exact Nat.le_of_ble_eq_true rfl | exact rfl | assumption | (simp (disch := omega) only [fr_ne, fr_same]; first | assumption | omega)) only [r140_0, r140_1, r140_2, r140_3, r140_5, v140_5_9, r140_8, r140_11, r140_12r, r140_14, r140_15, r140_18, r140_24, r140_25, r140_28, r140_29, r140_35, r140_36, r140_39, r140_40, v140_40_5, r140_46, r140_47, r140_50, r140_53, r140_54, r140_55i, r140_56, r140_57, r140_60, r140_63, r140_64, r140_65i, r140_66, r140_67, r140_70, r140_71, v140_71_5, r140_74, r140_74A, r140_75, r140_76, r140_77, r140_80, r140_82, v140_82_9, r140_85i, r140_87, r140_88, r140_91, r140_94, r140_95, r140_96, r140_97, r140_98, r140_101, r140_101A, r140_102, r140_105, r140_106, r140_107, r140_108, r140_109, r140_112, r140_114, r140_115, r140_121, r140_122, r140_124, r140_127, r140_128, r140_129, r140_132r, r140_135, r140_138, p9_39_9, g9_15_9, g9_97_8, g9_39_9, g9_33_9, g9_22_9, g9_104_5, g9_108_5, g9_61_5, p9_61_5, p9_45_9, o9_len, o9_s7, o9_g1, o8_len, o8_g3, o9_g7, o9_g5, o9_g2, o5_len, o5_g1, o5_g0, o5_g3, o5_s3, o9_s9, il_s, bl_s, bl_z, ll_s, is_s, bs_s, bs_z, ls_s, al_s, al_b, al_l, fr_ne, fr_same, fr_fr, Nat.reduceEqDiff, tc_gf3_s, tc_ql2_s, tc_ws_0, tc_ws_i, tc_ws_l, tc_ws_r, Nat.reduceLeDiff, Nat.reduceAdd, Nat.reduceLT, true_and, and_true, if_true, if_false, tc_K, Option.toList_some, Option.toList_none, List.nil_append, List.cons_append, ite_true, ite_false, Int.cast_ofNat_Int, reduceIte, i3_add_eq, i3_sub_eq, Int.add_sub_cancel, Int.add_neg_cancel_right, hO hL60 h60, hOs h60]) | (simp only [r140_21, r140_32, r140_43, r140_118, i6_lt0, i6_0lt, i6_0le, i6_le0, i6_eq0, b10_0, ite_not, Int.reduceLT, Int.reduceLE, Int.reduceEq, Int.reduceNeg, if_true, if_false, ite_true, ite_false, reduceIte, eq_self, not_true, not_false_eq_true]; try refine tc_ite (fun _ => ?_) (fun _ => ?_) <;> try (exfalso; omega)))
  refine c122 hT hσ hw hm h4 h9 ?_
  intro e v g1 g2
  have e60 : e 60 = c 60 := g1 60 (by omega)
  have hv : v = (gvs b la σ m.toNat 0).2 := by
    show v = gos b la σ m.toNat 4 1
    unfold MA at g2
    omega
  rw [hv]
  have hg0 : 0 ≤ (gvs b la σ m.toNat 0).2 ∧ (gvs b la σ m.toNat 0).2 ≤ 270000 := ht0
  repeat' (first | (simp (disch := first | omega | exact Nat.le_of_ble_eq_true rfl | exact rfl | assumption | (simp (disch := omega) only [fr_ne, fr_same]; first | assumption | omega)) only [r140_0, r140_1, r140_2, r140_3, r140_5, v140_5_9, r140_8, r140_11, r140_12r, r140_14, r140_15, r140_18, r140_24, r140_25, r140_28, r140_29, r140_35, r140_36, r140_39, r140_40, v140_40_5, r140_46, r140_47, r140_50, r140_53, r140_54, r140_55i, r140_56, r140_57, r140_60, r140_63, r140_64, r140_65i, r140_66, r140_67, r140_70, r140_71, v140_71_5, r140_74, r140_74A, r140_75, r140_76, r140_77, r140_80, r140_82, v140_82_9, r140_85i, r140_87, r140_88, r140_91, r140_94, r140_95, r140_96, r140_97, r140_98, r140_101, r140_101A, r140_102, r140_105, r140_106, r140_107, r140_108, r140_109, r140_112, r140_114, r140_115, r140_121, r140_122, r140_124, r140_127, r140_128, r140_129, r140_132r, r140_135, r140_138, p9_39_9, g9_15_9, g9_97_8, g9_39_9, g9_33_9, g9_22_9, g9_104_5, g9_108_5, g9_61_5, p9_61_5, p9_45_9, o9_len, o9_s7, o9_g1, o8_len, o8_g3, o9_g7, o9_g5, o9_g2, o5_len, o5_g1, o5_g0, o5_g3, o5_s3, o9_s9, il_s, bl_s, bl_z, ll_s, is_s, bs_s, bs_z, ls_s, al_s, al_b, al_l, fr_ne, fr_same, fr_fr, Nat.reduceEqDiff, tc_gf3_s, tc_ql2_s, tc_ws_0, tc_ws_i, tc_ws_l, tc_ws_r, Nat.reduceLeDiff, Nat.reduceAdd, Nat.reduceLT, true_and, and_true, if_true, if_false, tc_K, Option.toList_some, Option.toList_none, List.nil_append, List.cons_append, ite_true, ite_false, Int.cast_ofNat_Int, reduceIte, i3_add_eq, i3_sub_eq, Int.add_sub_cancel, Int.add_neg_cancel_right, hO hL60 h60, hOs h60]) | (simp only [r140_21, r140_32, r140_43, r140_118, i6_lt0, i6_0lt, i6_0le, i6_le0, i6_eq0, b10_0, ite_not, Int.reduceLT, Int.reduceLE, Int.reduceEq, Int.reduceNeg, if_true, if_false, ite_true, ite_false, reduceIte, eq_self, not_true, not_false_eq_true]; try refine tc_ite (fun _ => ?_) (fun _ => ?_) <;> try (exfalso; omega)))
  refine lq_4 (N := b 0 2) (P := fun f (d : Nat → Int → Int) (a2 a3 a4 : AV) => tc_W 140 13 [rf 60, .inl f, a2, a3, a4] [] (hp L sh d) n Q) (I := fun f d _ _ _ => TG c d ∧ SAN False b 61 d σ ∧ d 60 7 = (gvs b la σ m.toNat f.toNat).2 ∧ d 60 9 = (gvs b la σ m.toNat f.toNat).1) ?_ ?_ 0 _ _ _ _ (by omega) (by omega) ⟨⟨fun a ha => by
    rw [fr_ne (by omega)]
    exact g1 a (by omega), by rw [fr_same, fu_ne (by omega), e60], by rw [fr_same, fu_ne (by omega), e60]⟩, hσ.fr (by rw [fr_ne (by omega), g1 61 (by omega)]) (by rw [fr_ne (by omega), g1 62 (by omega)]) (by rw [fr_ne (by omega), g1 63 (by omega)]) (by rw [fr_ne (by omega), g1 64 (by omega)]), by rw [fr_same, fu_same]; rfl, by rw [fr_same, fu_ne (by omega), e60]; exact h90⟩
  · intro f d a2 a3 a4 hf hf2 ⟨htg, hσd, d7, d9⟩ ih
    have hTd := hT.tg htg
    have dc3 : d s 3 = b 0 2 := by rw [htg.1 s (by omega)]; exact hc3
    have d5 : d 60 5 = σ 4 1 + m * mrk b σ := by rw [htg.2.2, h5]
    have d4 : d 60 4 = m := by rw [htg.2.1, h4]
    have h70 := fun Q => c70 (c := d) (n := n) (Q := Q) h61 (m := (b 0 2).toNat) (by omega) hσd.2.2.1 (f := f) hf (by omega)
    have e1 : gvs b la σ m.toNat (f + 1).toNat = if σ 3 f = -1 ∧ (gvs b la σ m.toNat f.toNat).2 < gos b la (giv σ f) m.toNat 4 1 then (f, gos b la (giv σ f) m.toNat 4 1) else gvs b la σ m.toNat f.toNat := by
      rw [show (f + 1).toNat = f.toNat + 1 by omega]
      show (if σ 3 (f.toNat : Int) = -1 ∧ (gvs b la σ m.toNat f.toNat).2 < gos b la (giv σ (f.toNat : Int)) m.toNat 4 1 then ((f.toNat : Int), gos b la (giv σ (f.toNat : Int)) m.toNat 4 1) else gvs b la σ m.toNat f.toNat) = _
      rw [Int.toNat_of_nonneg hf]
    rw [e1] at ih
    simp only [r140_13]
    by_cases hbr : (gvs b la σ m.toNat f.toNat).2 < σ 4 1 + m * mrk b σ
    · generalize gvs b la σ m.toNat f.toNat = R at ih d7 d9 hbr
      by_cases hst : σ 3 f = -1
      · have hst' : stn (σ 3) f = true := decide_eq_true hst
        simp only [hst', if_true] at h70
        have hw3 := hw.2.2.1 f hf hf2
        have x1 : d 63 f = σ 2 f := (hσd.2.1 f hf hf2).1
        have x2 : d 62 (σ 2 f) = σ 0 (σ 2 f) := hσd.1 _ hw3.1 hw3.2.1
        repeat' (first | (simp (disch := first | omega | exact Nat.le_of_ble_eq_true rfl | exact rfl | assumption | (simp (disch := omega) only [fr_ne, fr_same]; first | assumption | omega)) only [r140_0, r140_1, r140_2, r140_3, r140_5, v140_5_9, r140_8, r140_11, r140_12r, r140_14, r140_15, r140_18, r140_24, r140_25, r140_28, r140_29, r140_35, r140_36, r140_39, r140_40, v140_40_5, r140_46, r140_47, r140_50, r140_53, r140_54, r140_55i, r140_56, r140_57, r140_60, r140_63, r140_64, r140_65i, r140_66, r140_67, r140_70, r140_71, v140_71_5, r140_74, r140_74A, r140_75, r140_76, r140_77, r140_80, r140_82, v140_82_9, r140_85i, r140_87, r140_88, r140_91, r140_94, r140_95, r140_96, r140_97, r140_98, r140_101, r140_101A, r140_102, r140_105, r140_106, r140_107, r140_108, r140_109, r140_112, r140_114, r140_115, r140_121, r140_122, r140_124, r140_127, r140_128, r140_129, r140_132r, r140_135, r140_138, p9_39_9, g9_15_9, g9_97_8, g9_39_9, g9_33_9, g9_22_9, g9_104_5, g9_108_5, g9_61_5, p9_61_5, p9_45_9, o9_len, o9_s7, o9_g1, o8_len, o8_g3, o9_g7, o9_g5, o9_g2, o5_len, o5_g1, o5_g0, o5_g3, o5_s3, o9_s9, il_s, bl_s, bl_z, ll_s, is_s, bs_s, bs_z, ls_s, al_s, al_b, al_l, fr_ne, fr_same, fr_fr, Nat.reduceEqDiff, tc_gf3_s, tc_ql2_s, tc_ws_0, tc_ws_i, tc_ws_l, tc_ws_r, Nat.reduceLeDiff, Nat.reduceAdd, Nat.reduceLT, true_and, and_true, if_true, if_false, tc_K, Option.toList_some, Option.toList_none, List.nil_append, List.cons_append, ite_true, ite_false, Int.cast_ofNat_Int, reduceIte, i3_add_eq, i3_sub_eq, Int.add_sub_cancel, Int.add_neg_cancel_right, hO hL60 h60, hOs h60, SanS_g0 h61, SanS_s0 h61, SanS_g1 h61, SanS_s1 h61, SanS_g2 h61, SanS_s2 h61, SanS_g3 h61, SanS_s3 h61, ShoS_g0 hSh, ShoS_s0 hSh, ShoS_g1 hSh, ShoS_s1 hSh, ShoS_g2 hSh, ShoS_s2 hSh, ShoS_g3 hSh, ShoS_s3 hSh, ShoS_g4 hSh, ShoS_s4 hSh, ShoS_g5 hSh, ShoS_s5 hSh, ShoS_g6 hSh, ShoS_s6 hSh, ShoS_g7 hSh, ShoS_s7 hSh, dc3, d5, d7, h70, x1, x2]) | (simp only [r140_21, r140_32, r140_43, r140_118, i6_lt0, i6_0lt, i6_0le, i6_le0, i6_eq0, b10_0, ite_not, Int.reduceLT, Int.reduceLE, Int.reduceEq, Int.reduceNeg, if_true, if_false, ite_true, ite_false, reduceIte, eq_self, not_true, not_false_eq_true]; try refine tc_ite (fun _ => ?_) (fun _ => ?_) <;> try (exfalso; omega)))
        refine c109 (c := d) (r := 61) (k := False) h61 hb hσd hw ⟨hf, hf2⟩ ?_
        intro e2 q1 q2 q3 q4 q5
        simp only [Nat.reduceAdd] at q1 q2 q4
        have e260 : e2 60 = d 60 := q1 60 (by omega) (by omega) (by omega)
        have e27 : e2 60 7 = R.2 := by rw [e260, d7]
        have hT2 : TR L sh e2 s lo b la := hTd.fr fun a ha => q1 a (by omega) (by omega) (by omega)
        repeat' (first | (simp (disch := first | omega | exact Nat.le_of_ble_eq_true rfl | exact rfl | assumption | (simp (disch := omega) only [fr_ne, fr_same]; first | assumption | omega)) only [r140_0, r140_1, r140_2, r140_3, r140_5, v140_5_9, r140_8, r140_11, r140_12r, r140_14, r140_15, r140_18, r140_24, r140_25, r140_28, r140_29, r140_35, r140_36, r140_39, r140_40, v140_40_5, r140_46, r140_47, r140_50, r140_53, r140_54, r140_55i, r140_56, r140_57, r140_60, r140_63, r140_64, r140_65i, r140_66, r140_67, r140_70, r140_71, v140_71_5, r140_74, r140_74A, r140_75, r140_76, r140_77, r140_80, r140_82, v140_82_9, r140_85i, r140_87, r140_88, r140_91, r140_94, r140_95, r140_96, r140_97, r140_98, r140_101, r140_101A, r140_102, r140_105, r140_106, r140_107, r140_108, r140_109, r140_112, r140_114, r140_115, r140_121, r140_122, r140_124, r140_127, r140_128, r140_129, r140_132r, r140_135, r140_138, p9_39_9, g9_15_9, g9_97_8, g9_39_9, g9_33_9, g9_22_9, g9_104_5, g9_108_5, g9_61_5, p9_61_5, p9_45_9, o9_len, o9_s7, o9_g1, o8_len, o8_g3, o9_g7, o9_g5, o9_g2, o5_len, o5_g1, o5_g0, o5_g3, o5_s3, o9_s9, il_s, bl_s, bl_z, ll_s, is_s, bs_s, bs_z, ls_s, al_s, al_b, al_l, fr_ne, fr_same, fr_fr, Nat.reduceEqDiff, tc_gf3_s, tc_ql2_s, tc_ws_0, tc_ws_i, tc_ws_l, tc_ws_r, Nat.reduceLeDiff, Nat.reduceAdd, Nat.reduceLT, true_and, and_true, if_true, if_false, tc_K, Option.toList_some, Option.toList_none, List.nil_append, List.cons_append, ite_true, ite_false, Int.cast_ofNat_Int, reduceIte, i3_add_eq, i3_sub_eq, Int.add_sub_cancel, Int.add_neg_cancel_right, hO hL60 h60, hOs h60, e27]) | (simp only [r140_21, r140_32, r140_43, r140_118, i6_lt0, i6_0lt, i6_0le, i6_le0, i6_eq0, b10_0, ite_not, Int.reduceLT, Int.reduceLE, Int.reduceEq, Int.reduceNeg, if_true, if_false, ite_true, ite_false, reduceIte, eq_self, not_true, not_false_eq_true]; try refine tc_ite (fun _ => ?_) (fun _ => ?_) <;> try (exfalso; omega)))
        refine c122 (c := e2) (σ := giv σ f) (fl := R.2) hT2 q5 (giv_ws hw ⟨hf, hf2⟩) hm (by rw [e260, d4]) h9 ?_
        intro e3 v3 p1 p2
        have ht3 := gos_mk (la := la) (k := m.toNat) hb (giv_ws hw ⟨hf, hf2⟩) (by show σ 4 0 + _ ≤ _; omega)
        have e361 : e3 61 = e2 61 := p1 61 (by omega)
        have e362 : e3 62 = e2 62 := p1 62 (by omega)
        have e360 : e3 60 = d 60 := (p1 60 (by omega)).trans e260
        have h62 : fu (e3 62) (σ 2 f) (σ 0 (σ 2 f)) = d 62 := by
          rw [e362, q2, fu_fu]
          exact fu_idv x2
        have m61 : i3_or (e3 61 3) (i3_shl 1 f) = (mk (stn (σ 3)) (b 0 2).toNat : Nat) := by
          rw [e361, q5.2.2.1, mk_set (by omega) hf (by omega)]
          congr 1
          refine mk_ext fun j j1 j2 => ?_
          show (decide (fu (σ 3) f (σ 4 0) j = -1) || decide (j = f)) = decide (σ 3 j = -1)
          by_cases hj : j = f
          · rw [hj, decide_eq_true (rfl : f = f), Bool.or_true, decide_eq_true hst]
          · rw [fu_ne hj, decide_eq_false hj, Bool.or_false]
        have h61r : fu (e3 61) 3 (mk (stn (σ 3)) (b 0 2).toNat : Nat) = d 61 := by
          funext i
          rw [fu_at]
          by_cases hi : i = 3
          · rw [if_pos hi, hi]
            exact hσd.2.2.1.symm
          · rw [if_neg hi, e361]
            exact q3 i hi
        have hg64 : ∀ g, ¬ g = f → e3 64 g = d 64 g := fun g hg => by
          rw [p1 64 (by omega)]
          exact q4 g hg
        have ho : ∀ a, (a < 49 ∨ (55 < a ∧ a < 60) ∨ (60 < a ∧ a < 64) ∨ 68 < a) → ¬ a = 61 → ¬ a = 62 → e3 a = d a := fun a ha a1 a2 => (p1 a (by omega)).trans (q1 a a1 a2 (by omega))
        have fin : ∀ D : Nat → Int → Int, D 61 = d 61 → D 62 = d 62 → (∀ a, ¬ a = 60 → ¬ a = 61 → ¬ a = 62 → D a = e3 a) → D 60 4 = d 60 4 → D 60 5 = d 60 5 → TG c D ∧ SAN False b 61 D σ := by
          intro D D1 D2 D3 D4 D5
          refine ⟨⟨fun a ha => ?_, D4.trans htg.2.1, D5.trans htg.2.2⟩, ?_⟩
          · by_cases a1 : a = 61
            · rw [a1, D1]
              exact htg.1 61 (by omega)
            by_cases a2 : a = 62
            · rw [a2, D2]
              exact htg.1 62 (by omega)
            rw [D3 a (by omega) a1 a2, ho a ha a1 a2]
            exact htg.1 a ha
          · have D63 : D 63 = d 63 := (D3 63 (by omega) (by omega) (by omega)).trans (ho 63 (by omega) (by omega) (by omega))
            refine ⟨fun x x1 x2 => ?_, fun g g1 g2 => ⟨?_, fun hk => ?_⟩, ?_, ?_, ?_, ?_⟩
            · show D 62 x = _
              rw [D2]
              exact hσd.1 x x1 x2
            · show D 63 g = _
              rw [D63]
              exact (hσd.2.1 g g1 g2).1
            · show D 64 g = _
              have hk' : ¬ σ 3 g = -1 := by
                rcases hk with h | h
                · exact h.elim
                · exact h
              rw [D3 64 (by omega) (by omega) (by omega), hg64 g (fun h => hk' (h ▸ hst))]
              exact (hσd.2.1 g g1 g2).2 hk
            · rw [D1]; exact hσd.2.2.1
            · rw [D1]; exact hσd.2.2.2.1
            · rw [D1]; exact hσd.2.2.2.2.1
            · rw [D1]; exact hσd.2.2.2.2.2
        generalize gos b la (giv σ f) m.toNat 4 1 = V at ih p2 ht3
        unfold MA at p2
        have f7 : e3 60 7 = R.2 := by rw [e360, d7]
        by_cases hlt : R.2 < V
        · have hvV : v3 = V := by omega
          rw [if_pos ⟨hst, hlt⟩] at ih
          rw [hvV]
          repeat' (first | (simp (disch := first | omega | exact Nat.le_of_ble_eq_true rfl | exact rfl | assumption | (simp (disch := omega) only [fr_ne, fr_same]; first | assumption | omega)) only [r140_0, r140_1, r140_2, r140_3, r140_5, v140_5_9, r140_8, r140_11, r140_12r, r140_14, r140_15, r140_18, r140_24, r140_25, r140_28, r140_29, r140_35, r140_36, r140_39, r140_40, v140_40_5, r140_46, r140_47, r140_50, r140_53, r140_54, r140_55i, r140_56, r140_57, r140_60, r140_63, r140_64, r140_65i, r140_66, r140_67, r140_70, r140_71, v140_71_5, r140_74, r140_74A, r140_75, r140_76, r140_77, r140_80, r140_82, v140_82_9, r140_85i, r140_87, r140_88, r140_91, r140_94, r140_95, r140_96, r140_97, r140_98, r140_101, r140_101A, r140_102, r140_105, r140_106, r140_107, r140_108, r140_109, r140_112, r140_114, r140_115, r140_121, r140_122, r140_124, r140_127, r140_128, r140_129, r140_132r, r140_135, r140_138, p9_39_9, g9_15_9, g9_97_8, g9_39_9, g9_33_9, g9_22_9, g9_104_5, g9_108_5, g9_61_5, p9_61_5, p9_45_9, o9_len, o9_s7, o9_g1, o8_len, o8_g3, o9_g7, o9_g5, o9_g2, o5_len, o5_g1, o5_g0, o5_g3, o5_s3, o9_s9, il_s, bl_s, bl_z, ll_s, is_s, bs_s, bs_z, ls_s, al_s, al_b, al_l, fr_ne, fr_same, fr_fr, Nat.reduceEqDiff, tc_gf3_s, tc_ql2_s, tc_ws_0, tc_ws_i, tc_ws_l, tc_ws_r, Nat.reduceLeDiff, Nat.reduceAdd, Nat.reduceLT, true_and, and_true, if_true, if_false, tc_K, Option.toList_some, Option.toList_none, List.nil_append, List.cons_append, ite_true, ite_false, Int.cast_ofNat_Int, reduceIte, i3_add_eq, i3_sub_eq, Int.add_sub_cancel, Int.add_neg_cancel_right, hO hL60 h60, hOs h60, SanS_g0 h61, SanS_s0 h61, SanS_g1 h61, SanS_s1 h61, SanS_g2 h61, SanS_s2 h61, SanS_g3 h61, SanS_s3 h61, h62, m61, h61r, f7]) | (simp only [r140_21, r140_32, r140_43, r140_118, i6_lt0, i6_0lt, i6_0le, i6_le0, i6_eq0, b10_0, ite_not, Int.reduceLT, Int.reduceLE, Int.reduceEq, Int.reduceNeg, if_true, if_false, ite_true, ite_false, reduceIte, eq_self, not_true, not_false_eq_true]; try refine tc_ite (fun _ => ?_) (fun _ => ?_) <;> try (exfalso; omega)))
          have hfn := fin (fr (fr (fr e3 62 (d 62)) 61 (d 61)) 60 (fu (fu (e3 60) 7 V) 9 f)) (by rw [fr_ne (by omega), fr_same]) (by rw [fr_ne (by omega), fr_ne (by omega), fr_same]) (fun a a1 a2 a3 => by rw [fr_ne a1, fr_ne a2, fr_ne a3]) (by rw [fr_same, fu_ne (by omega), fu_ne (by omega), e360]) (by rw [fr_same, fu_ne (by omega), fu_ne (by omega), e360])
          refine ih _ _ _ _ ⟨hfn.1, hfn.2, ?_, ?_⟩
          · rw [fr_same, fu_ne (by omega), fu_same]
          · rw [fr_same, fu_same]
        · rw [if_neg (fun h => hlt h.2)] at ih
          have hv4 : v3 ≤ R.2 := by omega
          repeat' (first | (simp (disch := first | omega | exact Nat.le_of_ble_eq_true rfl | exact rfl | assumption | (simp (disch := omega) only [fr_ne, fr_same]; first | assumption | omega)) only [r140_0, r140_1, r140_2, r140_3, r140_5, v140_5_9, r140_8, r140_11, r140_12r, r140_14, r140_15, r140_18, r140_24, r140_25, r140_28, r140_29, r140_35, r140_36, r140_39, r140_40, v140_40_5, r140_46, r140_47, r140_50, r140_53, r140_54, r140_55i, r140_56, r140_57, r140_60, r140_63, r140_64, r140_65i, r140_66, r140_67, r140_70, r140_71, v140_71_5, r140_74, r140_74A, r140_75, r140_76, r140_77, r140_80, r140_82, v140_82_9, r140_85i, r140_87, r140_88, r140_91, r140_94, r140_95, r140_96, r140_97, r140_98, r140_101, r140_101A, r140_102, r140_105, r140_106, r140_107, r140_108, r140_109, r140_112, r140_114, r140_115, r140_121, r140_122, r140_124, r140_127, r140_128, r140_129, r140_132r, r140_135, r140_138, p9_39_9, g9_15_9, g9_97_8, g9_39_9, g9_33_9, g9_22_9, g9_104_5, g9_108_5, g9_61_5, p9_61_5, p9_45_9, o9_len, o9_s7, o9_g1, o8_len, o8_g3, o9_g7, o9_g5, o9_g2, o5_len, o5_g1, o5_g0, o5_g3, o5_s3, o9_s9, il_s, bl_s, bl_z, ll_s, is_s, bs_s, bs_z, ls_s, al_s, al_b, al_l, fr_ne, fr_same, fr_fr, Nat.reduceEqDiff, tc_gf3_s, tc_ql2_s, tc_ws_0, tc_ws_i, tc_ws_l, tc_ws_r, Nat.reduceLeDiff, Nat.reduceAdd, Nat.reduceLT, true_and, and_true, if_true, if_false, tc_K, Option.toList_some, Option.toList_none, List.nil_append, List.cons_append, ite_true, ite_false, Int.cast_ofNat_Int, reduceIte, i3_add_eq, i3_sub_eq, Int.add_sub_cancel, Int.add_neg_cancel_right, hO hL60 h60, hOs h60, SanS_g0 h61, SanS_s0 h61, SanS_g1 h61, SanS_s1 h61, SanS_g2 h61, SanS_s2 h61, SanS_g3 h61, SanS_s3 h61, h62, m61, h61r, f7]) | (simp only [r140_21, r140_32, r140_43, r140_118, i6_lt0, i6_0lt, i6_0le, i6_le0, i6_eq0, b10_0, ite_not, Int.reduceLT, Int.reduceLE, Int.reduceEq, Int.reduceNeg, if_true, if_false, ite_true, ite_false, reduceIte, eq_self, not_true, not_false_eq_true]; try refine tc_ite (fun _ => ?_) (fun _ => ?_) <;> try (exfalso; omega)))
          have hfn := fin (fr (fr e3 62 (d 62)) 61 (d 61)) (by rw [fr_same]) (by rw [fr_ne (by omega), fr_same]) (fun a a1 a2 a3 => by rw [fr_ne a2, fr_ne a3]) (by rw [fr_ne (by omega), fr_ne (by omega), e360]) (by rw [fr_ne (by omega), fr_ne (by omega), e360])
          refine ih _ _ _ _ ⟨hfn.1, hfn.2, ?_, ?_⟩
          · rw [fr_ne (by omega), fr_ne (by omega), f7]
          · rw [fr_ne (by omega), fr_ne (by omega), e360, d9]
      · have hst' : stn (σ 3) f = false := decide_eq_false hst
        simp only [hst', Bool.false_eq_true, if_false] at h70
        rw [if_neg (fun h => hst h.1)] at ih
        repeat' (first | (simp (disch := first | omega | exact Nat.le_of_ble_eq_true rfl | exact rfl | assumption | (simp (disch := omega) only [fr_ne, fr_same]; first | assumption | omega)) only [r140_0, r140_1, r140_2, r140_3, r140_5, v140_5_9, r140_8, r140_11, r140_12r, r140_14, r140_15, r140_18, r140_24, r140_25, r140_28, r140_29, r140_35, r140_36, r140_39, r140_40, v140_40_5, r140_46, r140_47, r140_50, r140_53, r140_54, r140_55i, r140_56, r140_57, r140_60, r140_63, r140_64, r140_65i, r140_66, r140_67, r140_70, r140_71, v140_71_5, r140_74, r140_74A, r140_75, r140_76, r140_77, r140_80, r140_82, v140_82_9, r140_85i, r140_87, r140_88, r140_91, r140_94, r140_95, r140_96, r140_97, r140_98, r140_101, r140_101A, r140_102, r140_105, r140_106, r140_107, r140_108, r140_109, r140_112, r140_114, r140_115, r140_121, r140_122, r140_124, r140_127, r140_128, r140_129, r140_132r, r140_135, r140_138, p9_39_9, g9_15_9, g9_97_8, g9_39_9, g9_33_9, g9_22_9, g9_104_5, g9_108_5, g9_61_5, p9_61_5, p9_45_9, o9_len, o9_s7, o9_g1, o8_len, o8_g3, o9_g7, o9_g5, o9_g2, o5_len, o5_g1, o5_g0, o5_g3, o5_s3, o9_s9, il_s, bl_s, bl_z, ll_s, is_s, bs_s, bs_z, ls_s, al_s, al_b, al_l, fr_ne, fr_same, fr_fr, Nat.reduceEqDiff, tc_gf3_s, tc_ql2_s, tc_ws_0, tc_ws_i, tc_ws_l, tc_ws_r, Nat.reduceLeDiff, Nat.reduceAdd, Nat.reduceLT, true_and, and_true, if_true, if_false, tc_K, Option.toList_some, Option.toList_none, List.nil_append, List.cons_append, ite_true, ite_false, Int.cast_ofNat_Int, reduceIte, i3_add_eq, i3_sub_eq, Int.add_sub_cancel, Int.add_neg_cancel_right, hO hL60 h60, hOs h60, SanS_g0 h61, SanS_s0 h61, SanS_g1 h61, SanS_s1 h61, SanS_g2 h61, SanS_s2 h61, SanS_g3 h61, SanS_s3 h61, ShoS_g0 hSh, ShoS_s0 hSh, ShoS_g1 hSh, ShoS_s1 hSh, ShoS_g2 hSh, ShoS_s2 hSh, ShoS_g3 hSh, ShoS_s3 hSh, ShoS_g4 hSh, ShoS_s4 hSh, ShoS_g5 hSh, ShoS_s5 hSh, ShoS_g6 hSh, ShoS_s6 hSh, ShoS_g7 hSh, ShoS_s7 hSh, dc3, d5, d7, h70]) | (simp only [r140_21, r140_32, r140_43, r140_118, i6_lt0, i6_0lt, i6_0le, i6_le0, i6_eq0, b10_0, ite_not, Int.reduceLT, Int.reduceLE, Int.reduceEq, Int.reduceNeg, if_true, if_false, ite_true, ite_false, reduceIte, eq_self, not_true, not_false_eq_true]; try refine tc_ite (fun _ => ?_) (fun _ => ?_) <;> try (exfalso; omega)))
        exact ih d _ _ _ ⟨htg, hσd, d7, d9⟩
    · have hstp := gvs_stop (b := b) (t := σ) (la := la) (m := m.toNat) (T := σ 4 1 + m * mrk b σ) (a := f.toNat) (by omega) ((b 0 2).toNat - f.toNat) (fun x x1 x2 x3 => gos_topg (la := la) (m := m) hb hw (by omega) h9 ⟨by omega, by omega⟩)
      rw [show f.toNat + ((b 0 2).toNat - f.toNat) = (b 0 2).toNat by omega] at hstp
      rw [hstp] at hq
      repeat' (first | (simp (disch := first | omega | exact Nat.le_of_ble_eq_true rfl | exact rfl | assumption | (simp (disch := omega) only [fr_ne, fr_same]; first | assumption | omega)) only [r140_0, r140_1, r140_2, r140_3, r140_5, v140_5_9, r140_8, r140_11, r140_12r, r140_14, r140_15, r140_18, r140_24, r140_25, r140_28, r140_29, r140_35, r140_36, r140_39, r140_40, v140_40_5, r140_46, r140_47, r140_50, r140_53, r140_54, r140_55i, r140_56, r140_57, r140_60, r140_63, r140_64, r140_65i, r140_66, r140_67, r140_70, r140_71, v140_71_5, r140_74, r140_74A, r140_75, r140_76, r140_77, r140_80, r140_82, v140_82_9, r140_85i, r140_87, r140_88, r140_91, r140_94, r140_95, r140_96, r140_97, r140_98, r140_101, r140_101A, r140_102, r140_105, r140_106, r140_107, r140_108, r140_109, r140_112, r140_114, r140_115, r140_121, r140_122, r140_124, r140_127, r140_128, r140_129, r140_132r, r140_135, r140_138, p9_39_9, g9_15_9, g9_97_8, g9_39_9, g9_33_9, g9_22_9, g9_104_5, g9_108_5, g9_61_5, p9_61_5, p9_45_9, o9_len, o9_s7, o9_g1, o8_len, o8_g3, o9_g7, o9_g5, o9_g2, o5_len, o5_g1, o5_g0, o5_g3, o5_s3, o9_s9, il_s, bl_s, bl_z, ll_s, is_s, bs_s, bs_z, ls_s, al_s, al_b, al_l, fr_ne, fr_same, fr_fr, Nat.reduceEqDiff, tc_gf3_s, tc_ql2_s, tc_ws_0, tc_ws_i, tc_ws_l, tc_ws_r, Nat.reduceLeDiff, Nat.reduceAdd, Nat.reduceLT, true_and, and_true, if_true, if_false, tc_K, Option.toList_some, Option.toList_none, List.nil_append, List.cons_append, ite_true, ite_false, Int.cast_ofNat_Int, reduceIte, i3_add_eq, i3_sub_eq, Int.add_sub_cancel, Int.add_neg_cancel_right, hO hL60 h60, hOs h60, SanS_g0 h61, SanS_s0 h61, SanS_g1 h61, SanS_s1 h61, SanS_g2 h61, SanS_s2 h61, SanS_g3 h61, SanS_s3 h61, ShoS_g0 hSh, ShoS_s0 hSh, ShoS_g1 hSh, ShoS_s1 hSh, ShoS_g2 hSh, ShoS_s2 hSh, ShoS_g3 hSh, ShoS_s3 hSh, ShoS_g4 hSh, ShoS_s4 hSh, ShoS_g5 hSh, ShoS_s5 hSh, ShoS_g6 hSh, ShoS_s6 hSh, ShoS_g7 hSh, ShoS_s7 hSh, dc3, d5, d7]) | (simp only [r140_21, r140_32, r140_43, r140_118, i6_lt0, i6_0lt, i6_0le, i6_le0, i6_eq0, b10_0, ite_not, Int.reduceLT, Int.reduceLE, Int.reduceEq, Int.reduceNeg, if_true, if_false, ite_true, ite_false, reduceIte, eq_self, not_true, not_false_eq_true]; try refine tc_ite (fun _ => ?_) (fun _ => ?_) <;> try (exfalso; omega)))
      exact hq d htg d7 d9
  · intro d a2 a3 a4 ⟨htg, hσd, d7, d9⟩
    have dc3 : d s 3 = b 0 2 := by rw [htg.1 s (by omega)]; exact hc3
    simp only [r140_13]
    repeat' (first | (simp (disch := first | omega | exact Nat.le_of_ble_eq_true rfl | exact rfl | assumption | (simp (disch := omega) only [fr_ne, fr_same]; first | assumption | omega)) only [r140_0, r140_1, r140_2, r140_3, r140_5, v140_5_9, r140_8, r140_11, r140_12r, r140_14, r140_15, r140_18, r140_24, r140_25, r140_28, r140_29, r140_35, r140_36, r140_39, r140_40, v140_40_5, r140_46, r140_47, r140_50, r140_53, r140_54, r140_55i, r140_56, r140_57, r140_60, r140_63, r140_64, r140_65i, r140_66, r140_67, r140_70, r140_71, v140_71_5, r140_74, r140_74A, r140_75, r140_76, r140_77, r140_80, r140_82, v140_82_9, r140_85i, r140_87, r140_88, r140_91, r140_94, r140_95, r140_96, r140_97, r140_98, r140_101, r140_101A, r140_102, r140_105, r140_106, r140_107, r140_108, r140_109, r140_112, r140_114, r140_115, r140_121, r140_122, r140_124, r140_127, r140_128, r140_129, r140_132r, r140_135, r140_138, p9_39_9, g9_15_9, g9_97_8, g9_39_9, g9_33_9, g9_22_9, g9_104_5, g9_108_5, g9_61_5, p9_61_5, p9_45_9, o9_len, o9_s7, o9_g1, o8_len, o8_g3, o9_g7, o9_g5, o9_g2, o5_len, o5_g1, o5_g0, o5_g3, o5_s3, o9_s9, il_s, bl_s, bl_z, ll_s, is_s, bs_s, bs_z, ls_s, al_s, al_b, al_l, fr_ne, fr_same, fr_fr, Nat.reduceEqDiff, tc_gf3_s, tc_ql2_s, tc_ws_0, tc_ws_i, tc_ws_l, tc_ws_r, Nat.reduceLeDiff, Nat.reduceAdd, Nat.reduceLT, true_and, and_true, if_true, if_false, tc_K, Option.toList_some, Option.toList_none, List.nil_append, List.cons_append, ite_true, ite_false, Int.cast_ofNat_Int, reduceIte, i3_add_eq, i3_sub_eq, Int.add_sub_cancel, Int.add_neg_cancel_right, hO hL60 h60, hOs h60, ShoS_g0 hSh, ShoS_s0 hSh, ShoS_g1 hSh, ShoS_s1 hSh, ShoS_g2 hSh, ShoS_s2 hSh, ShoS_g3 hSh, ShoS_s3 hSh, ShoS_g4 hSh, ShoS_s4 hSh, ShoS_g5 hSh, ShoS_s5 hSh, ShoS_g6 hSh, ShoS_s6 hSh, ShoS_g7 hSh, ShoS_s7 hSh, dc3]) | (simp only [r140_21, r140_32, r140_43, r140_118, i6_lt0, i6_0lt, i6_0le, i6_le0, i6_eq0, b10_0, ite_not, Int.reduceLT, Int.reduceLE, Int.reduceEq, Int.reduceNeg, if_true, if_false, ite_true, ite_false, reduceIte, eq_self, not_true, not_false_eq_true]; try refine tc_ite (fun _ => ?_) (fun _ => ?_) <;> try (exfalso; omega)))
    exact hq d htg d7 d9
end GIVC

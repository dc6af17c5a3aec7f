/-! the class: what to dig -/
theorem dig_back {h : Int → Int} {x y : Int} (hn : ¬ y = x) : fu (fu (fu (fu h x (h x - 1)) y (h y + 1)) y (fu (fu h x (h x - 1)) y (h y + 1) y - 1)) x (fu (fu h x (h x - 1)) y (h y + 1) x + 1) = h := by
  funext j
  rw [fu_same, fu_ne (f := fu h x (h x - 1)) (k := y) (j := x) (fun q => hn q.symm), fu_same, fu_at]
  by_cases h1 : j = x
  · rw [if_pos h1, h1]
    omega
  · rw [if_neg h1, fu_at]
    by_cases h2 : j = y
    · rw [if_pos h2, h2]
      omega
    · rw [if_neg h2, fu_ne h2, fu_ne h1]
def BN (d : Nat → Int → Int) (B : B4) : Prop := d 60 7 = B.1 ∧ d 60 8 = B.2.1 ∧ d 60 9 = B.2.2.1 ∧ d 60 10 = B.2.2.2
/-- what a trial leaves as it was -/
def TE (c d : Nat → Int → Int) : Prop := (∀ a, (a < 49 ∨ (55 < a ∧ a < 60) ∨ (60 < a ∧ a < 65) ∨ 68 < a) → d a = c a) ∧ d 60 4 = c 60 4 ∧ d 60 5 = c 60 5
theorem TE.refl (c : Nat → Int → Int) : TE c c := ⟨fun _ _ => rfl, rfl, rfl⟩
theorem TE.trans {c d e : Nat → Int → Int} (h : TE c d) (k : TE d e) : TE c e := ⟨fun a ha => (k.1 a ha).trans (h.1 a ha), k.2.1.trans h.2.1, k.2.2.trans h.2.2⟩
theorem TR.te {L : Nat} {sh : Nat → SH} {c d : Nat → Int → Int} {s : Nat} {lo : Option Nat} {b : Nat → Int → Int} {la : Option Law} (h : TR L sh c s lo b la) (hd : TE c d) : TR L sh d s lo b la := h.fr fun a ha => hd.1 a (by omega)
theorem SAN.te {k : Prop} {b c d σ : Nat → Int → Int} (h : SAN k b 61 c σ) (hd : TE c d) : SAN k b 61 d σ := h.fr (hd.1 61 (by omega)) (hd.1 62 (by omega)) (hd.1 63 (by omega)) (hd.1 64 (by omega))
theorem san_dig {k : Prop} {b d σ : Nat → Int → Int} (h : SAN k b 61 d σ) (hb : WB b) {a : Int} (ha : 0 ≤ a) (ha2 : a < 4 * (b 0 0 * b 0 1)) (hc : cdg b σ a = 1) : SAN k b 61 (fr d 62 (fu (fu (d 62) (a / 4) (d 62 (a / 4) - 1)) (spt b a) (d 62 (spt b a) + 1))) (dgs b σ a) := by
  have h1 := cdg_1 hc
  have h2 := spt_rng hb ha ha2
  have h3 : 0 ≤ spt b a ∧ spt b a < b 0 0 * b 0 1 := by
    rcases h2.1 with q | q
    · exact absurd q h1.1
    · exact q
  refine ⟨fun x x1 x2 => ?_, h.2.1, h.2.2.1, h.2.2.2.1, h.2.2.2.2.1, h.2.2.2.2.2⟩
  show fu (fu (d 62) (a / 4) (d 62 (a / 4) - 1)) (spt b a) (d 62 (spt b a) + 1) x = fu (fu (σ 0) (a / 4) (σ 0 (a / 4) - 1)) (spt b a) (σ 0 (spt b a) + 1) x
  have e : ∀ y, 0 ≤ y → y < b 0 0 * b 0 1 → d 62 y = σ 0 y := h.1
  rw [fu_at, fu_at, fu_at, fu_at, e x x1 x2, e _ h2.2.2.1 h2.2.2.2, e _ h3.1 h3.2]
theorem mrk_dgs (b s : Nat → Int → Int) (a : Int) : mrk b (dgs b s a) = mrk b s := rfl
theorem gos_top {b s : Nat → Int → Int} {la : Option Law} (hb : WB b) (hw : WS b s) {m : Int} (hm : 0 ≤ m) (h9 : s 4 0 + m ≤ 900) : gos b la s m.toNat 4 1 ≤ s 4 1 + m * mrk b s := by
  have h := gos_most (la := la) hb hw 0 m.toNat (by omega)
  have e : ((m.toNat : Nat) : Int) = m := by omega
  rw [Nat.zero_add, e] at h
  exact h.2.1
section DIGC
variable {L : Nat} {sh : Nat → SH} {c : Nat → Int → Int} {n : Nat} {Q : Option AV → List SC → Nat → Prop} {s : Nat} {lo : Option Nat} {b σ : Nat → Int → Int} {la : Option Law} {k : Prop}
theorem c121 (hT : TR L sh c s lo b la) (hσ : SAN k b 61 c σ) (hw : WS b σ) {m : Int} (hm : 1 ≤ m ∧ m ≤ 60) (h4 : c 60 4 = m) (h9 : σ 4 0 + m ≤ 900) {B : B4} (hB : BN c B) {ma x y : Int}
    (hq : ∀ e, TE c e → e 60 6 = c 60 6 → BN e (nbt B (gos b la σ m.toNat 4 1, ma, x, y)) → Q none (hp L sh e) n) : tc_C 121 [rf 60, .inl ma, .inl x, .inl y] (hp L sh c) n Q := by
  obtain ⟨hE, hSh, hs, ⟨h61, h65, h60⟩, hb, hl, hal, hBs⟩ := id hT
  have hL := hE.1
  have hL60 : 60 < L := by omega
  obtain ⟨b1, b2, b3, b4⟩ := id hB
  have ht := gos_mk (la := la) (k := m.toNat) hb hw (by omega)
  show tc_W 121 0 [rf 60, .inl ma, .inl x, .inl y, tc_nil] [] _ _ Q
  repeat' (first | (simp (disch := first | omega | exact Nat.le_of_ble_eq_true rfl | exact rfl | assumption | (simp (disch := omega) only [fr_ne, fr_same]; first | assumption | omega)) only [r121_0, r121_1, r121_2, r121_5, r121_7, v121_7_9, r121_10i, r121_12, r121_14, r121_15, r121_21, r121_22, r121_24, r121_27, r121_28, r121_29, r121_32, r121_33, r121_34, r121_37, r121_38, r121_39, r121_42, g9_39_9, p9_39_9, p9_42_9, p9_45_9, p9_48_9, o9_len, o9_g7, o9_s7, o9_s8, o9_s9, o9_s10, il_s, bl_s, bl_z, ll_s, is_s, bs_s, bs_z, ls_s, al_s, al_b, al_l, fr_ne, fr_same, fr_fr, Nat.reduceEqDiff, tc_gf3_s, tc_ql2_s, tc_ws_0, tc_ws_i, tc_ws_l, tc_ws_r, Nat.reduceLeDiff, Nat.reduceAdd, Nat.reduceLT, true_and, and_true, if_true, if_false, tc_K, Option.toList_some, Option.toList_none, List.nil_append, List.cons_append, ite_true, ite_false, Int.cast_ofNat_Int, reduceIte, i3_add_eq, i3_sub_eq, Int.add_sub_cancel, Int.add_neg_cancel_right, hO hL60 h60, hOs h60, b1]) | (simp only [r121_18, i6_lt0, i6_0lt, i6_0le, i6_le0, i6_eq0, b10_0, ite_not, Int.reduceLT, Int.reduceLE, Int.reduceEq, Int.reduceNeg, if_true, if_false, ite_true, ite_false, reduceIte, eq_self, not_true, not_false_eq_true]; try refine tc_ite (fun _ => ?_) (fun _ => ?_) <;> try (exfalso; omega)))
  refine c122 (fl := B.1) hT hσ hw hm h4 h9 ?_
  intro e v g1 g2
  have e60 : e 60 = c 60 := g1 60 (by omega)
  have e7 : e 60 7 = B.1 := by rw [e60, b1]
  have enb : nbt B (gos b la σ m.toNat 4 1, ma, x, y) = if B.1 < gos b la σ m.toNat 4 1 then (gos b la σ m.toNat 4 1, ma, x, y) else B := rfl
  rw [enb] at hq
  generalize gos b la σ m.toNat 4 1 = t at hq g2 ht
  unfold MA at g2
  by_cases hlt : B.1 < t
  · have hv : v = t := by omega
    rw [if_pos hlt] at hq
    subst hv
    repeat' (first | (simp (disch := first | omega | exact Nat.le_of_ble_eq_true rfl | exact rfl | assumption | (simp (disch := omega) only [fr_ne, fr_same]; first | assumption | omega)) only [r121_0, r121_1, r121_2, r121_5, r121_7, v121_7_9, r121_10i, r121_12, r121_14, r121_15, r121_21, r121_22, r121_24, r121_27, r121_28, r121_29, r121_32, r121_33, r121_34, r121_37, r121_38, r121_39, r121_42, g9_39_9, p9_39_9, p9_42_9, p9_45_9, p9_48_9, o9_len, o9_g7, o9_s7, o9_s8, o9_s9, o9_s10, il_s, bl_s, bl_z, ll_s, is_s, bs_s, bs_z, ls_s, al_s, al_b, al_l, fr_ne, fr_same, fr_fr, Nat.reduceEqDiff, tc_gf3_s, tc_ql2_s, tc_ws_0, tc_ws_i, tc_ws_l, tc_ws_r, Nat.reduceLeDiff, Nat.reduceAdd, Nat.reduceLT, true_and, and_true, if_true, if_false, tc_K, Option.toList_some, Option.toList_none, List.nil_append, List.cons_append, ite_true, ite_false, Int.cast_ofNat_Int, reduceIte, i3_add_eq, i3_sub_eq, Int.add_sub_cancel, Int.add_neg_cancel_right, hO hL60 h60, hOs h60, e7]) | (simp only [r121_18, i6_lt0, i6_0lt, i6_0le, i6_le0, i6_eq0, b10_0, ite_not, Int.reduceLT, Int.reduceLE, Int.reduceEq, Int.reduceNeg, if_true, if_false, ite_true, ite_false, reduceIte, eq_self, not_true, not_false_eq_true]; try refine tc_ite (fun _ => ?_) (fun _ => ?_) <;> try (exfalso; omega)))
    refine hq _ ⟨fun a ha => ?_, ?_, ?_⟩ ?_ ⟨?_, ?_, ?_, ?_⟩
    · rw [fr_ne (by omega)]
      exact g1 a (by omega)
    all_goals (simp (disch := omega) only [fr_same, fu_ne, fu_same]; try rw [e60])
  · rw [if_neg hlt] at hq
    have hv : v ≤ B.1 := by omega
    repeat' (first | (simp (disch := first | omega | exact Nat.le_of_ble_eq_true rfl | exact rfl | assumption | (simp (disch := omega) only [fr_ne, fr_same]; first | assumption | omega)) only [r121_0, r121_1, r121_2, r121_5, r121_7, v121_7_9, r121_10i, r121_12, r121_14, r121_15, r121_21, r121_22, r121_24, r121_27, r121_28, r121_29, r121_32, r121_33, r121_34, r121_37, r121_38, r121_39, r121_42, g9_39_9, p9_39_9, p9_42_9, p9_45_9, p9_48_9, o9_len, o9_g7, o9_s7, o9_s8, o9_s9, o9_s10, il_s, bl_s, bl_z, ll_s, is_s, bs_s, bs_z, ls_s, al_s, al_b, al_l, fr_ne, fr_same, fr_fr, Nat.reduceEqDiff, tc_gf3_s, tc_ql2_s, tc_ws_0, tc_ws_i, tc_ws_l, tc_ws_r, Nat.reduceLeDiff, Nat.reduceAdd, Nat.reduceLT, true_and, and_true, if_true, if_false, tc_K, Option.toList_some, Option.toList_none, List.nil_append, List.cons_append, ite_true, ite_false, Int.cast_ofNat_Int, reduceIte, i3_add_eq, i3_sub_eq, Int.add_sub_cancel, Int.add_neg_cancel_right, hO hL60 h60, hOs h60, e7]) | (simp only [r121_18, i6_lt0, i6_0lt, i6_0le, i6_le0, i6_eq0, b10_0, ite_not, Int.reduceLT, Int.reduceLE, Int.reduceEq, Int.reduceNeg, if_true, if_false, ite_true, ite_false, reduceIte, eq_self, not_true, not_false_eq_true]; try refine tc_ite (fun _ => ?_) (fun _ => ?_) <;> try (exfalso; omega)))
    refine hq e ⟨fun a ha => g1 a (by omega), by rw [e60], by rw [e60]⟩ (by rw [e60]) ⟨?_, ?_, ?_, ?_⟩
    all_goals (rw [e60]; assumption)
theorem c123 (hT : TR L sh c s lo b la) (hσ : SAN k b 61 c σ) (hw : WS b σ) {m : Int} (hm : 1 ≤ m ∧ m ≤ 60) (h4 : c 60 4 = m) (h5 : c 60 5 = σ 4 1 + m * mrk b σ) (h9 : σ 4 0 + m ≤ 900) (hB : BN c (k0 b la σ m.toNat))
    (hq : ∀ e B, TE c e → BN e B → OP b la σ m.toNat 1 B (4 * (b 0 0 * b 0 1)) → Q none (hp L sh e) n) : tc_C 123 [rf 60] (hp L sh c) n Q := by
  obtain ⟨hE, hSh, hs, ⟨h61, h65, h60⟩, hb, hl, hal, hBs⟩ := id hT
  have hL := hE.1
  have hL60 : 60 < L := by omega
  have hN := hb.n25
  have hc2 := hBs.1.2.1
  have hrk := mrk_rng (s := σ) hb
  have hpn : 0 ≤ m * mrk b σ := Int.mul_nonneg (by omega) hrk.1
  have hpl : m * mrk b σ ≤ 60 * 300 := Int.mul_le_mul (by omega) hrk.2 hrk.1 (by omega)
  have hmk0 := hw.2.2.2
  show tc_W 123 0 [rf 60, tc_nil, tc_nil] [] _ _ Q
  repeat' (first | (simp (disch := first | omega | exact Nat.le_of_ble_eq_true rfl | exact rfl | assumption | (simp (disch := omega) only [fr_ne, fr_same]; first | assumption | omega)) only [r123_0, r123_1r, r123_3, r123_4, r123_5, r123_8, r123_11, r123_15, r123_16, r123_19, r123_20, r123_26, r123_27, r123_30, r123_31, r123_34, r123_35, v123_35_5, r123_38i, r123_39, r123_40, r123_44, r123_45, r123_48, r123_49, r123_50, r123_51, r123_52, v123_52_5, r123_55, r123_56, r123_57, r123_58, r123_60, v123_60_9, r123_63, r123_64, r123_67, r123_68, r123_69, r123_70, r123_71, v123_71_5, r123_74r, r123_77, r123_80, g9_15_9, g9_74_8, g9_39_9, g9_33_9, g9_22_9, o9_len, o9_g1, o8_len, o8_g2, o9_g7, o9_g5, o9_g2, il_s, bl_s, bl_z, ll_s, is_s, bs_s, bs_z, ls_s, al_s, al_b, al_l, fr_ne, fr_same, fr_fr, Nat.reduceEqDiff, tc_gf3_s, tc_ql2_s, tc_ws_0, tc_ws_i, tc_ws_l, tc_ws_r, Nat.reduceLeDiff, Nat.reduceAdd, Nat.reduceLT, true_and, and_true, if_true, if_false, tc_K, Option.toList_some, Option.toList_none, List.nil_append, List.cons_append, ite_true, ite_false, Int.cast_ofNat_Int, reduceIte, i3_add_eq, i3_sub_eq, Int.add_sub_cancel, Int.add_neg_cancel_right]) | (simp only [r123_12, r123_23, r123_41, i6_lt0, i6_0lt, i6_0le, i6_le0, i6_eq0, b10_0, ite_not, Int.reduceLT, Int.reduceLE, Int.reduceEq, Int.reduceNeg, if_true, if_false, ite_true, ite_false, reduceIte, eq_self, not_true, not_false_eq_true]; try refine tc_ite (fun _ => ?_) (fun _ => ?_) <;> try (exfalso; omega)))
  refine lq_2 (N := 4 * (b 0 0 * b 0 1)) (P := fun a (d : Nat → Int → Int) (a2 : AV) => tc_W 123 2 [rf 60, .inl a, a2] [] (hp L sh d) n Q) (I := fun a d _ => TE c d ∧ ∃ B, BN d B ∧ OP b la σ m.toNat 1 B a) ?_ ?_ 0 c tc_nil (by omega) (by omega) ⟨TE.refl c, _, hB, ⟨BE.refl _, fun x x1 x2 => by omega, fun h => by omega⟩, Or.inl rfl⟩
  · intro a d a2 ha ha2 ⟨hte, B, hBN, hOP⟩ ih
    have hTd := hT.te hte
    have hσd := hσ.te hte
    have dc2 : d s 2 = b 0 0 * b 0 1 := by rw [hte.1 s (by omega)]; exact hc2
    have d5 : d 60 5 = σ 4 1 + m * mrk b σ := by rw [hte.2.2, h5]
    have d4 : d 60 4 = m := by rw [hte.2.1, h4]
    obtain ⟨_, _, _, _, _, _, _, hBd⟩ := id hTd
    obtain ⟨b1, b2, b3, b4⟩ := id hBN
    have h105 := fun Q => c105 (c := d) (n := n) (Q := Q) h61 hSh hb hBd hσd hw ha ha2
    have h3 := spt_rng hb ha ha2
    simp only [r123_2]
    by_cases hbr : B.1 < σ 4 1 + m * mrk b σ
    · rcases cdg_01 b σ a with hc | hc
      · simp only [hc, Int.reduceEq, if_false] at h105
        repeat' (first | (simp (disch := first | omega | exact Nat.le_of_ble_eq_true rfl | exact rfl | assumption | (simp (disch := omega) only [fr_ne, fr_same]; first | assumption | omega)) only [r123_0, r123_1r, r123_3, r123_4, r123_5, r123_8, r123_11, r123_15, r123_16, r123_19, r123_20, r123_26, r123_27, r123_30, r123_31, r123_34, r123_35, v123_35_5, r123_38i, r123_39, r123_40, r123_44, r123_45, r123_48, r123_49, r123_50, r123_51, r123_52, v123_52_5, r123_55, r123_56, r123_57, r123_58, r123_60, v123_60_9, r123_63, r123_64, r123_67, r123_68, r123_69, r123_70, r123_71, v123_71_5, r123_74r, r123_77, r123_80, g9_15_9, g9_74_8, g9_39_9, g9_33_9, g9_22_9, o9_len, o9_g1, o8_len, o8_g2, o9_g7, o9_g5, o9_g2, il_s, bl_s, bl_z, ll_s, is_s, bs_s, bs_z, ls_s, al_s, al_b, al_l, fr_ne, fr_same, fr_fr, Nat.reduceEqDiff, tc_gf3_s, tc_ql2_s, tc_ws_0, tc_ws_i, tc_ws_l, tc_ws_r, Nat.reduceLeDiff, Nat.reduceAdd, Nat.reduceLT, true_and, and_true, if_true, if_false, tc_K, Option.toList_some, Option.toList_none, List.nil_append, List.cons_append, ite_true, ite_false, Int.cast_ofNat_Int, reduceIte, i3_add_eq, i3_sub_eq, Int.add_sub_cancel, Int.add_neg_cancel_right, hO hL60 h60, hOs h60, SanS_g0 h61, SanS_s0 h61, SanS_g1 h61, SanS_s1 h61, SanS_g2 h61, SanS_s2 h61, SanS_g3 h61, SanS_s3 h61, ShoS_g0 hSh, ShoS_s0 hSh, ShoS_g1 hSh, ShoS_s1 hSh, ShoS_g2 hSh, ShoS_s2 hSh, ShoS_g3 hSh, ShoS_s3 hSh, ShoS_g4 hSh, ShoS_s4 hSh, ShoS_g5 hSh, ShoS_s5 hSh, ShoS_g6 hSh, ShoS_s6 hSh, ShoS_g7 hSh, ShoS_s7 hSh, dc2, d5, b1, h105, i3_mul_eq]) | (simp only [r123_12, r123_23, r123_41, i6_lt0, i6_0lt, i6_0le, i6_le0, i6_eq0, b10_0, ite_not, Int.reduceLT, Int.reduceLE, Int.reduceEq, Int.reduceNeg, if_true, if_false, ite_true, ite_false, reduceIte, eq_self, not_true, not_false_eq_true]; try refine tc_ite (fun _ => ?_) (fun _ => ?_) <;> try (exfalso; omega)))
        refine ih d _ ⟨hte, B, hBN, ⟨hOP.1.1, fun x x1 x2 x3 => ?_, fun h => by omega⟩, ?_⟩
        · by_cases hx : x = a
          · rw [hx] at x3
            omega
          · exact hOP.1.2.1 x x1 (by omega) x3
        · rcases hOP.2 with h | ⟨x, x1, x2, x3, h⟩ | ⟨h, _⟩
          · exact Or.inl h
          · exact Or.inr (Or.inl ⟨x, x1, by omega, x3, h⟩)
          · omega
      · have hc1 := cdg_1 hc
        have h31 : 0 ≤ spt b a ∧ spt b a < b 0 0 * b 0 1 := by
          rcases h3.1 with q | q
          · exact absurd q hc1.1
          · exact q
        simp only [hc, if_true] at h105
        have w1 : 0 ≤ d 62 (a / 4) ∧ d 62 (a / 4) ≤ 9 := by
          rw [show d 62 (a / 4) = σ 0 (a / 4) from hσd.1 _ h3.2.2.1 h3.2.2.2]
          exact hw.1 _ h3.2.2.1 h3.2.2.2
        have w2 : 0 ≤ d 62 (spt b a) ∧ d 62 (spt b a) ≤ 9 := by
          rw [show d 62 (spt b a) = σ 0 (spt b a) from hσd.1 _ h31.1 h31.2]
          exact hw.1 _ h31.1 h31.2
        have h106 := fun Q => c106 (c := d) (n := n) (Q := Q) h61 (x := a / 4) (y := spt b a) (by omega) (by omega) h3.2.1 (by show 0 ≤ d 62 (a / 4) ∧ d 62 (a / 4) ≤ 100; omega) (by show 0 ≤ d 62 (spt b a) ∧ d 62 (spt b a) ≤ 100; omega)
        simp only [Nat.reduceAdd] at h106
        have hσ2 := san_dig hσd hb ha ha2 hc
        repeat' (first | (simp (disch := first | omega | exact Nat.le_of_ble_eq_true rfl | exact rfl | assumption | (simp (disch := omega) only [fr_ne, fr_same]; first | assumption | omega)) only [r123_0, r123_1r, r123_3, r123_4, r123_5, r123_8, r123_11, r123_15, r123_16, r123_19, r123_20, r123_26, r123_27, r123_30, r123_31, r123_34, r123_35, v123_35_5, r123_38i, r123_39, r123_40, r123_44, r123_45, r123_48, r123_49, r123_50, r123_51, r123_52, v123_52_5, r123_55, r123_56, r123_57, r123_58, r123_60, v123_60_9, r123_63, r123_64, r123_67, r123_68, r123_69, r123_70, r123_71, v123_71_5, r123_74r, r123_77, r123_80, g9_15_9, g9_74_8, g9_39_9, g9_33_9, g9_22_9, o9_len, o9_g1, o8_len, o8_g2, o9_g7, o9_g5, o9_g2, il_s, bl_s, bl_z, ll_s, is_s, bs_s, bs_z, ls_s, al_s, al_b, al_l, fr_ne, fr_same, fr_fr, Nat.reduceEqDiff, tc_gf3_s, tc_ql2_s, tc_ws_0, tc_ws_i, tc_ws_l, tc_ws_r, Nat.reduceLeDiff, Nat.reduceAdd, Nat.reduceLT, true_and, and_true, if_true, if_false, tc_K, Option.toList_some, Option.toList_none, List.nil_append, List.cons_append, ite_true, ite_false, Int.cast_ofNat_Int, reduceIte, i3_add_eq, i3_sub_eq, Int.add_sub_cancel, Int.add_neg_cancel_right, hO hL60 h60, hOs h60, SanS_g0 h61, SanS_s0 h61, SanS_g1 h61, SanS_s1 h61, SanS_g2 h61, SanS_s2 h61, SanS_g3 h61, SanS_s3 h61, ShoS_g0 hSh, ShoS_s0 hSh, ShoS_g1 hSh, ShoS_s1 hSh, ShoS_g2 hSh, ShoS_s2 hSh, ShoS_g3 hSh, ShoS_s3 hSh, ShoS_g4 hSh, ShoS_s4 hSh, ShoS_g5 hSh, ShoS_s5 hSh, ShoS_g6 hSh, ShoS_s6 hSh, ShoS_g7 hSh, ShoS_s7 hSh, dc2, d5, b1, h105, h106, i3_mul_eq, i3_div_nn]) | (simp only [r123_12, r123_23, r123_41, i6_lt0, i6_0lt, i6_0le, i6_le0, i6_eq0, b10_0, ite_not, Int.reduceLT, Int.reduceLE, Int.reduceEq, Int.reduceNeg, if_true, if_false, ite_true, ite_false, reduceIte, eq_self, not_true, not_false_eq_true]; try refine tc_ite (fun _ => ?_) (fun _ => ?_) <;> try (exfalso; omega)))
        generalize hd1 : fr d 62 (fu (fu (d 62) (a / 4) (d 62 (a / 4) - 1)) (spt b a) (d 62 (spt b a) + 1)) = d1 at hσ2
        have o1 : ∀ y, ¬ y = 62 → d1 y = d y := fun y y1 => by rw [← hd1, fr_ne y1]
        have p62 : d1 62 = fu (fu (d 62) (a / 4) (d 62 (a / 4) - 1)) (spt b a) (d 62 (spt b a) + 1) := by rw [← hd1, fr_same]
        have hT1 : TR L sh d1 s lo b la := hTd.fr fun y y1 => o1 y (by omega)
        have hBN1 : BN d1 B := by
          unfold BN
          rw [o1 60 (by omega)]
          exact hBN
        refine c121 (c := d1) (σ := dgs b σ a) hT1 hσ2 (dgs_ws hb hw ha ha2 hc) hm (by rw [o1 60 (by omega), d4]) h9 hBN1 ?_
        intro e te1 _ hBN2
        have e62 : e 62 = d1 62 := te1.1 62 (by omega)
        have h106b := fun Q => c106 (c := e) (n := n) (Q := Q) h61 (x := spt b a) (y := a / 4) (by omega) (by omega) (fun q => h3.2.1 q.symm) (by
          show 0 ≤ e 62 (spt b a) ∧ e 62 (spt b a) ≤ 100
          rw [e62, p62, fu_same]
          omega) (by
          show 0 ≤ e 62 (a / 4) ∧ e 62 (a / 4) ≤ 100
          rw [e62, p62, fu_ne (fun q => h3.2.1 q.symm), fu_same]
          have : 0 < d 62 (a / 4) := by
            rw [show d 62 (a / 4) = σ 0 (a / 4) from hσd.1 _ h3.2.2.1 h3.2.2.2]
            exact hc1.2.1
          omega)
        simp only [Nat.reduceAdd, e62, p62, dig_back h3.2.1] at h106b
        repeat' (first | (simp (disch := first | omega | exact Nat.le_of_ble_eq_true rfl | exact rfl | assumption | (simp (disch := omega) only [fr_ne, fr_same]; first | assumption | omega)) only [r123_0, r123_1r, r123_3, r123_4, r123_5, r123_8, r123_11, r123_15, r123_16, r123_19, r123_20, r123_26, r123_27, r123_30, r123_31, r123_34, r123_35, v123_35_5, r123_38i, r123_39, r123_40, r123_44, r123_45, r123_48, r123_49, r123_50, r123_51, r123_52, v123_52_5, r123_55, r123_56, r123_57, r123_58, r123_60, v123_60_9, r123_63, r123_64, r123_67, r123_68, r123_69, r123_70, r123_71, v123_71_5, r123_74r, r123_77, r123_80, g9_15_9, g9_74_8, g9_39_9, g9_33_9, g9_22_9, o9_len, o9_g1, o8_len, o8_g2, o9_g7, o9_g5, o9_g2, il_s, bl_s, bl_z, ll_s, is_s, bs_s, bs_z, ls_s, al_s, al_b, al_l, fr_ne, fr_same, fr_fr, Nat.reduceEqDiff, tc_gf3_s, tc_ql2_s, tc_ws_0, tc_ws_i, tc_ws_l, tc_ws_r, Nat.reduceLeDiff, Nat.reduceAdd, Nat.reduceLT, true_and, and_true, if_true, if_false, tc_K, Option.toList_some, Option.toList_none, List.nil_append, List.cons_append, ite_true, ite_false, Int.cast_ofNat_Int, reduceIte, i3_add_eq, i3_sub_eq, Int.add_sub_cancel, Int.add_neg_cancel_right, hO hL60 h60, hOs h60, SanS_g0 h61, SanS_s0 h61, SanS_g1 h61, SanS_s1 h61, SanS_g2 h61, SanS_s2 h61, SanS_g3 h61, SanS_s3 h61, h106b, i3_div_nn]) | (simp only [r123_12, r123_23, r123_41, i6_lt0, i6_0lt, i6_0le, i6_le0, i6_eq0, b10_0, ite_not, Int.reduceLT, Int.reduceLE, Int.reduceEq, Int.reduceNeg, if_true, if_false, ite_true, ite_false, reduceIte, eq_self, not_true, not_false_eq_true]; try refine tc_ite (fun _ => ?_) (fun _ => ?_) <;> try (exfalso; omega)))
        have hbb := nbt_be (B := B) (C := k1 b la σ m.toNat a) (fun _ => by
          rcases hOP.2 with h | ⟨x, x1, x2, x3, h⟩ | ⟨h, _⟩
          · rw [h]
            exact Or.inl (by show (0 : Int) < 1; omega)
          · rw [h]
            exact Or.inr ⟨rfl, Or.inl x2⟩
          · omega)
        refine ih _ _ ⟨⟨fun y y1 => ?_, ?_, ?_⟩, nbt B (k1 b la σ m.toNat a), ?_, ⟨hbb.1.trans hOP.1.1, fun x x1 x2 x3 => ?_, fun h => by omega⟩, ?_⟩
        · by_cases hy : y = 62
          · rw [hy, fr_same]
            exact hte.1 62 (by omega)
          · rw [fr_ne hy, te1.1 y y1, o1 y hy]
            exact hte.1 y y1
        · rw [fr_ne (by omega), te1.2.1, o1 60 (by omega)]
          exact hte.2.1
        · rw [fr_ne (by omega), te1.2.2, o1 60 (by omega)]
          exact hte.2.2
        · unfold BN
          rw [fr_ne (by omega)]
          exact hBN2
        · by_cases hx : x = a
          · rw [hx]
            exact hbb.2.1
          · exact hbb.1.trans (hOP.1.2.1 x x1 (by omega) x3)
        · rcases hbb.2.2 with h | h
          · rw [h]
            rcases hOP.2 with h | ⟨x, x1, x2, x3, h⟩ | ⟨h, _⟩
            · exact Or.inl h
            · exact Or.inr (Or.inl ⟨x, x1, by omega, x3, h⟩)
            · omega
          · exact Or.inr (Or.inl ⟨a, ha, by omega, hc, h⟩)
    · repeat' (first | (simp (disch := first | omega | exact Nat.le_of_ble_eq_true rfl | exact rfl | assumption | (simp (disch := omega) only [fr_ne, fr_same]; first | assumption | omega)) only [r123_0, r123_1r, r123_3, r123_4, r123_5, r123_8, r123_11, r123_15, r123_16, r123_19, r123_20, r123_26, r123_27, r123_30, r123_31, r123_34, r123_35, v123_35_5, r123_38i, r123_39, r123_40, r123_44, r123_45, r123_48, r123_49, r123_50, r123_51, r123_52, v123_52_5, r123_55, r123_56, r123_57, r123_58, r123_60, v123_60_9, r123_63, r123_64, r123_67, r123_68, r123_69, r123_70, r123_71, v123_71_5, r123_74r, r123_77, r123_80, g9_15_9, g9_74_8, g9_39_9, g9_33_9, g9_22_9, o9_len, o9_g1, o8_len, o8_g2, o9_g7, o9_g5, o9_g2, il_s, bl_s, bl_z, ll_s, is_s, bs_s, bs_z, ls_s, al_s, al_b, al_l, fr_ne, fr_same, fr_fr, Nat.reduceEqDiff, tc_gf3_s, tc_ql2_s, tc_ws_0, tc_ws_i, tc_ws_l, tc_ws_r, Nat.reduceLeDiff, Nat.reduceAdd, Nat.reduceLT, true_and, and_true, if_true, if_false, tc_K, Option.toList_some, Option.toList_none, List.nil_append, List.cons_append, ite_true, ite_false, Int.cast_ofNat_Int, reduceIte, i3_add_eq, i3_sub_eq, Int.add_sub_cancel, Int.add_neg_cancel_right, hO hL60 h60, hOs h60, SanS_g0 h61, SanS_s0 h61, SanS_g1 h61, SanS_s1 h61, SanS_g2 h61, SanS_s2 h61, SanS_g3 h61, SanS_s3 h61, ShoS_g0 hSh, ShoS_s0 hSh, ShoS_g1 hSh, ShoS_s1 hSh, ShoS_g2 hSh, ShoS_s2 hSh, ShoS_g3 hSh, ShoS_s3 hSh, ShoS_g4 hSh, ShoS_s4 hSh, ShoS_g5 hSh, ShoS_s5 hSh, ShoS_g6 hSh, ShoS_s6 hSh, ShoS_g7 hSh, ShoS_s7 hSh, dc2, d5, b1, i3_mul_eq]) | (simp only [r123_12, r123_23, r123_41, i6_lt0, i6_0lt, i6_0le, i6_le0, i6_eq0, b10_0, ite_not, Int.reduceLT, Int.reduceLE, Int.reduceEq, Int.reduceNeg, if_true, if_false, ite_true, ite_false, reduceIte, eq_self, not_true, not_false_eq_true]; try refine tc_ite (fun _ => ?_) (fun _ => ?_) <;> try (exfalso; omega)))
      refine hq d B hte hBN ⟨⟨hOP.1.1, fun x x1 x2 x3 => ?_, fun h => by omega⟩, ?_⟩
      · by_cases hx : x < a
        · exact hOP.1.2.1 x x1 hx x3
        · have ht := gos_top (la := la) (m := m) hb (dgs_ws hb hw x1 x2 x3) (by omega) h9
          have ht' : gos b la (dgs b σ x) m.toNat 4 1 ≤ σ 4 1 + m * mrk b σ := ht
          unfold BE
          show gos b la (dgs b σ x) m.toNat 4 1 < B.1 ∨ (gos b la (dgs b σ x) m.toNat 4 1 = B.1 ∧ (B.2.1 < 1 ∨ (B.2.1 = 1 ∧ lxl B (k1 b la σ m.toNat x))))
          by_cases hlt : gos b la (dgs b σ x) m.toNat 4 1 < B.1
          · exact Or.inl hlt
          · refine Or.inr ⟨by omega, ?_⟩
            rcases hOP.2 with h | ⟨y, y1, y2, y3, h⟩ | ⟨h, _⟩
            · rw [h]
              exact Or.inl (by show (0 : Int) < 1; omega)
            · rw [h]
              exact Or.inr ⟨rfl, Or.inl (by show y < x; omega)⟩
            · omega
      · rcases hOP.2 with h | ⟨x, x1, x2, x3, h⟩ | ⟨h, _⟩
        · exact Or.inl h
        · exact Or.inr (Or.inl ⟨x, x1, by omega, x3, h⟩)
        · omega
  · intro d a2 ⟨hte, B, hBN, hOP⟩
    have dc2 : d s 2 = b 0 0 * b 0 1 := by rw [hte.1 s (by omega)]; exact hc2
    simp only [r123_2]
    repeat' (first | (simp (disch := first | omega | exact Nat.le_of_ble_eq_true rfl | exact rfl | assumption | (simp (disch := omega) only [fr_ne, fr_same]; first | assumption | omega)) only [r123_0, r123_1r, r123_3, r123_4, r123_5, r123_8, r123_11, r123_15, r123_16, r123_19, r123_20, r123_26, r123_27, r123_30, r123_31, r123_34, r123_35, v123_35_5, r123_38i, r123_39, r123_40, r123_44, r123_45, r123_48, r123_49, r123_50, r123_51, r123_52, v123_52_5, r123_55, r123_56, r123_57, r123_58, r123_60, v123_60_9, r123_63, r123_64, r123_67, r123_68, r123_69, r123_70, r123_71, v123_71_5, r123_74r, r123_77, r123_80, g9_15_9, g9_74_8, g9_39_9, g9_33_9, g9_22_9, o9_len, o9_g1, o8_len, o8_g2, o9_g7, o9_g5, o9_g2, il_s, bl_s, bl_z, ll_s, is_s, bs_s, bs_z, ls_s, al_s, al_b, al_l, fr_ne, fr_same, fr_fr, Nat.reduceEqDiff, tc_gf3_s, tc_ql2_s, tc_ws_0, tc_ws_i, tc_ws_l, tc_ws_r, Nat.reduceLeDiff, Nat.reduceAdd, Nat.reduceLT, true_and, and_true, if_true, if_false, tc_K, Option.toList_some, Option.toList_none, List.nil_append, List.cons_append, ite_true, ite_false, Int.cast_ofNat_Int, reduceIte, i3_add_eq, i3_sub_eq, Int.add_sub_cancel, Int.add_neg_cancel_right, hO hL60 h60, hOs h60, ShoS_g0 hSh, ShoS_s0 hSh, ShoS_g1 hSh, ShoS_s1 hSh, ShoS_g2 hSh, ShoS_s2 hSh, ShoS_g3 hSh, ShoS_s3 hSh, ShoS_g4 hSh, ShoS_s4 hSh, ShoS_g5 hSh, ShoS_s5 hSh, ShoS_g6 hSh, ShoS_s6 hSh, ShoS_g7 hSh, ShoS_s7 hSh, dc2, i3_mul_eq]) | (simp only [r123_12, r123_23, r123_41, i6_lt0, i6_0lt, i6_0le, i6_le0, i6_eq0, b10_0, ite_not, Int.reduceLT, Int.reduceLE, Int.reduceEq, Int.reduceNeg, if_true, if_false, ite_true, ite_false, reduceIte, eq_self, not_true, not_false_eq_true]; try refine tc_ite (fun _ => ?_) (fun _ => ?_) <;> try (exfalso; omega)))
    exact hq d B hte hBN hOP
end DIGC

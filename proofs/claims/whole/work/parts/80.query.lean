/-! the reference: questions -/
def QG (c d : Nat → Int → Int) : Prop := (∀ a, ¬ a = 75 → ¬ a = 76 → ¬ a = 77 → ¬ a = 78 → ¬ a = 79 → ¬ a = 82 → (a < 103 ∨ 113 < a ∨ a = 107 ∨ a = 108) → d a = c a) ∧ (∀ i, ¬ i = 8 → ¬ i = 9 → ¬ i = 11 → ¬ i = 12 → d 76 i = c 76 i) ∧ (∀ i, ¬ i = 50 → ¬ i = 51 → ¬ i = 56 → ¬ i = 57 → d 75 i = c 75 i) ∧ (∀ j, j < 6000 → d 113 j = c 113 j) ∧ (∀ j, 0 ≤ j → j < 75 → d 113 (6000 + j) = IM c j)
def QR (c d : Nat → Int → Int) : Prop := QG c d ∧ d 76 = c 76 ∧ d 77 = c 77 ∧ d 78 = c 78 ∧ d 79 = c 79 ∧ d 82 = c 82
/-- what a question keeps for itself -/
def KE (d e : Nat → Int → Int) : Prop := (∀ a, (a = 109 ∨ a = 110 ∨ a = 111 ∨ a = 112) → e a = d a) ∧ e 75 50 = d 75 50 ∧ e 75 51 = d 75 51
theorem KE.refl (d : Nat → Int → Int) : KE d d := ⟨fun _ _ => rfl, rfl, rfl⟩
theorem KE.trans {c d e : Nat → Int → Int} (h : KE c d) (k : KE d e) : KE c e := ⟨fun a ha => (k.1 a ha).trans (h.1 a ha), k.2.1.trans h.2.1, k.2.2.trans h.2.2⟩
theorem QG.beq {c d : Nat → Int → Int} (h : QG c d) : BEq (bm c) (bm d) := by
  obtain ⟨h, k, _⟩ := h
  exact bm_beq (fun i h1 h2 => k i (by omega) (by omega) (by omega) (by omega)) (h _ (by omega) (by omega) (by omega) (by omega) (by omega) (by omega) (by omega)) (h _ (by omega) (by omega) (by omega) (by omega) (by omega) (by omega) (by omega)) (h _ (by omega) (by omega) (by omega) (by omega) (by omega) (by omega) (by omega)) (h _ (by omega) (by omega) (by omega) (by omega) (by omega) (by omega) (by omega)) (h _ (by omega) (by omega) (by omega) (by omega) (by omega) (by omega) (by omega))
theorem QG.lr {c d : Nat → Int → Int} (h : QG c d) : LR c d := by
  obtain ⟨h, _⟩ := h
  unfold LR
  exact ⟨h _ (by omega) (by omega) (by omega) (by omega) (by omega) (by omega) (by omega), h _ (by omega) (by omega) (by omega) (by omega) (by omega) (by omega) (by omega), h _ (by omega) (by omega) (by omega) (by omega) (by omega) (by omega) (by omega), h _ (by omega) (by omega) (by omega) (by omega) (by omega) (by omega) (by omega), h _ (by omega) (by omega) (by omega) (by omega) (by omega) (by omega) (by omega), h _ (by omega) (by omega) (by omega) (by omega) (by omega) (by omega) (by omega)⟩
theorem QG.gf {c d e : Nat → Int → Int} (h : QG c d) (k : GF d e) : QG c e ∧ KE d e := by
  obtain ⟨h1, h2, h3, h4, h5⟩ := h
  obtain ⟨k1, k2⟩ := k
  have k75 := k1 75 (by omega) (by omega) (by omega) (by omega) (by omega) (by omega) (by omega) (by omega)
  have k113 := k1 113 (by omega) (by omega) (by omega) (by omega) (by omega) (by omega) (by omega) (by omega)
  refine ⟨⟨fun a a1 a2 a3 a4 a5 a6 a7 => ?_, fun i i1 i2 i3 i4 => ?_, fun i i1 i2 i3 i4 => ?_, fun j j1 => ?_, fun j j1 j2 => ?_⟩, ⟨fun a ha => ?_, ?_, ?_⟩⟩
  · rw [k1 a (by omega) (by omega) (by omega) (by omega) (by omega) (by omega) (by omega) (by omega)]
    exact h1 a a1 a2 a3 a4 a5 a6 a7
  · rw [k2 i i1 i2]
    exact h2 i i1 i2 i3 i4
  · rw [k75]
    exact h3 i i1 i2 i3 i4
  · rw [k113]
    exact h4 j j1
  · rw [k113]
    exact h5 j j1 j2
  · exact k1 a (by omega) (by omega) (by omega) (by omega) (by omega) (by omega) (by omega) (by omega)
  · rw [k75]
  · rw [k75]
/-- when a flag falls -/
noncomputable def fls (b : Nat → Int → Int) (la : Option Law) (f : Int) : Nat → (Nat → Int → Int) → Int
  | 0, _ => -2
  | m + 1, s => if stp b s la (tof b (s 4 0)) 3 f = -1 then fls b la f m (stp b s la (tof b (s 4 0))) else stp b s la (tof b (s 4 0)) 3 f
section MOD10
variable {L : Nat} {sh : Nat → SH} {c : Nat → Int → Int} {n : Nat} {Q : Option AV → List SC → Nat → Prop}
theorem c241q (hS : MS L sh) (hq : ∀ e, QR c e → KE c e → Q none (hp L sh e) n) : tc_C 241 [rf 75] (hp L sh c) n Q := by
  refine c241 hS fun e K => ?_
  obtain ⟨h1, h2, _, _, h5, h6⟩ := K
  refine hq e ⟨⟨fun a a1 a2 a3 a4 a5 a6 a7 => h1 a a1 (by omega), fun i _ _ _ _ => by rw [h1 76 (by omega) (by omega)], fun i i1 i2 i3 i4 => h2 i i3 i4, fun j j1 => h5 j (by omega), h6⟩, h1 _ (by omega) (by omega), h1 _ (by omega) (by omega), h1 _ (by omega) (by omega), h1 _ (by omega) (by omega), h1 _ (by omega) (by omega)⟩ ⟨fun a ha => h1 a (by omega) (by omega), h2 50 (by omega) (by omega), h2 51 (by omega) (by omega)⟩
theorem c246q (hS : MS L sh) {d : Nat → Int → Int} (hd : QG c d) (hq : ∀ e, QR c e → KE d e → Q none (hp L sh e) n) : tc_C 246 [rf 75] (hp L sh d) n Q := by
  obtain ⟨h1, h2, h3, h4, h5⟩ := hd
  refine c246 (c := d) (c0 := c) hS h5 fun e k1 k2 k3 k4 k5 k6 k7 => ?_
  have k113 := k1 113 (by omega) (by omega) (by omega) (by omega) (by omega) (by omega)
  refine hq e ⟨⟨fun a a1 a2 a3 a4 a5 a6 a7 => (k1 a a1 a2 a3 a4 a5 a6).trans (h1 a a1 a2 a3 a4 a5 a6 a7), fun i _ _ _ _ => by rw [k3], fun i i1 i2 i3 i4 => (k2 i i3 i4).trans (h3 i i1 i2 i3 i4), fun j j1 => by rw [k113]; exact h4 j j1, fun j j1 j2 => by rw [k113]; exact h5 j j1 j2⟩, k3, k4, k5, k6, k7⟩ ⟨fun a ha => k1 a (by omega) (by omega) (by omega) (by omega) (by omega) (by omega), k2 50 (by omega) (by omega), k2 51 (by omega) (by omega)⟩
theorem QR.pm {d : Nat → Int → Int} (h : QR c d) : pm d = pm c := pm_ext h.2.2.1 h.2.2.2.1 h.2.2.2.2.1 h.2.2.2.2.2 h.2.1
theorem QR.lm {d : Nat → Int → Int} (h : QR c d) : lm d = lm c := lm_ext h.1.lr (by rw [h.2.1])
theorem QR.lf {d : Nat → Int → Int} (h : QR c d) (k : LF c) : LF d := LF_ext h.1.lr (by rw [h.2.1]) k
theorem QG.dm {d : Nat → Int → Int} (h : QG c d) (hd : DM (c 76)) : DM (d 76) := by
  unfold DM
  rw [h.2.1 0 (by omega) (by omega) (by omega) (by omega), h.2.1 1 (by omega) (by omega) (by omega) (by omega), h.2.1 2 (by omega) (by omega) (by omega) (by omega), h.2.1 3 (by omega) (by omega) (by omega) (by omega)]
  exact hd
/-- a wave -/
theorem c224q (hS : MS L sh) (hb : WB (bm c)) {d : Nat → Int → Int} (hd : QG c d) (hf : LF d) {t : Nat → Int → Int} (ht : WS (bm c) t) (he : SEq (bm c) (pm d) t) (h9 : t 4 0 < 900) {F : Int} (hF : 0 ≤ F ∧ F ≤ 100)
    (hq : ∀ e, QG c e → KE d e → GF d e → SEq (bm c) (pm e) (stp (bm c) t (lm d) F) → Q (some (.inl (sm (nws (sgb (bm c) t F)) (c 76 0 * c 76 1).toNat))) (hp L sh e) n) : tc_C 224 [rf 75, .inl F] (hp L sh d) n Q := by
  have hbe := hd.beq
  have hbd : WB (bm d) := WB.beq hbe hb
  have hw : WS (bm d) (pm d) := WS.beq hbe (WS.of he.symm ht)
  refine c224n (c := d) (d := d) (t := t) hS hbd hw hf (GF.refl d) (WS.beq hbe ht) (SEq.beq hbe he) h9 hF ?_
  intro e h1 h2
  have h3 := hd.gf h1
  have e1 : d 76 0 * d 76 1 = c 76 0 * c 76 1 := by
    rw [hd.2.1 0 (by omega) (by omega) (by omega) (by omega), hd.2.1 1 (by omega) (by omega) (by omega) (by omega)]
  have e2 : sgb (bm d) t F = sgb (bm c) t F := by
    unfold sgb
    rw [hbe.1 0 (by omega) (by omega), hbe.1 1 (by omega) (by omega)]
  rw [e1, e2]
  refine hq e h3.1 h3.2 h1 ?_
  have h4 := SEq.beq hbe.symm h2
  rw [← stp_beq hbe] at h4
  exact h4
theorem c244q (hS : MS L sh) (hb : WB (bm c)) {d : Nat → Int → Int} (hd : QG c d) (hf : LF d) {t : Nat → Int → Int} (ht : WS (bm c) t) (he : SEq (bm c) (pm d) t) {m : Int} (hm : 0 ≤ m) (h9 : t 4 0 + m ≤ 900)
    (hq : ∀ e, QG c e → KE d e → GF d e → SEq (bm c) (pm e) (gos (bm c) (lm d) t m.toNat) → Q none (hp L sh e) n) : tc_C 244 [rf 75, .inl m] (hp L sh d) n Q := by
  have hbe := hd.beq
  have hbd : WB (bm d) := WB.beq hbe hb
  have hw : WS (bm d) (pm d) := WS.beq hbe (WS.of he.symm ht)
  refine c244 (c := d) (d := d) (t := t) hS hbd hw hf hm (GF.refl d) (WS.beq hbe ht) (SEq.beq hbe he) h9 ?_
  intro e h1 h2
  have h3 := hd.gf h1
  refine hq e h3.1 h3.2 h1 ?_
  have h4 := SEq.beq hbe.symm h2
  rw [← gos_beq hbe] at h4
  exact h4
theorem c249 (hS : MS L sh) (hb : WB (bm c)) {d : Nat → Int → Int} (hd : QG c d) (hf : LF d) {t : Nat → Int → Int} (ht : WS (bm c) t) (he : SEq (bm c) (pm d) t) {m : Int} (hm : 0 ≤ m) (h9 : t 4 0 + m ≤ 900)
    (hq : ∀ e, QR c e → KE d e → Q (some (.inl (gos (bm c) (lm d) t m.toNat 4 1))) (hp L sh e) n) : tc_C 249 [rf 75, .inl m] (hp L sh d) n Q := by
  show tc_W 249 0 [rf 75, .inl m, tc_nil] [] _ _ Q
  repeat' (simp (disch := first | omega | exact Nat.le_of_ble_eq_true rfl | exact rfl | assumption | (simp only [fr_at, Nat.reduceEqDiff, if_false, if_true, reduceIte]; first | assumption | omega)) only [r249_0, r249_1, r249_2, v249_2_11, r249_5, r249_6, r249_9, r249_11, r249_12i, r249_13, r249_14, v249_14_11, r249_17, r249_18, g11_9_11, mo_len, ms75 hS, mt75 hS, mo_g1, ms76 hS, mt76 hS, il_s, bl_s, bl_z, ll_s, is_s, bs_s, bs_z, ls_s, al_s, al_b, al_l, fr_at, fr_fr, Nat.reduceEqDiff, tc_gf3_s, tc_ql2_s, tc_ws_0, tc_ws_i, tc_ws_l, tc_ws_r, Nat.reduceLeDiff, Nat.reduceAdd, Nat.reduceLT, true_and, and_true, if_true, if_false, tc_K, Option.toList_some, Option.toList_none, List.nil_append, List.cons_append, ite_true, ite_false, Int.cast_ofNat_Int, reduceIte, i3_add_eq, i3_sub_eq, Int.add_sub_cancel, Int.add_neg_cancel_right])
  refine c244q (c := c) hS hb hd hf ht he hm h9 ?_
  intro e h1 h2 h3 h4
  have e1 : e 76 9 = gos (bm c) (lm d) t m.toNat 4 1 := h4.2.2.2
  repeat' (simp (disch := first | omega | exact Nat.le_of_ble_eq_true rfl | exact rfl | assumption | (simp only [fr_at, Nat.reduceEqDiff, if_false, if_true, reduceIte]; first | assumption | omega)) only [r249_0, r249_1, r249_2, v249_2_11, r249_5, r249_6, r249_9, r249_11, r249_12i, r249_13, r249_14, v249_14_11, r249_17, r249_18, g11_9_11, mo_len, ms75 hS, mt75 hS, mo_g1, ms76 hS, mt76 hS, il_s, bl_s, bl_z, ll_s, is_s, bs_s, bs_z, ls_s, al_s, al_b, al_l, fr_at, fr_fr, Nat.reduceEqDiff, tc_gf3_s, tc_ql2_s, tc_ws_0, tc_ws_i, tc_ws_l, tc_ws_r, Nat.reduceLeDiff, Nat.reduceAdd, Nat.reduceLT, true_and, and_true, if_true, if_false, tc_K, Option.toList_some, Option.toList_none, List.nil_append, List.cons_append, ite_true, ite_false, Int.cast_ofNat_Int, reduceIte, i3_add_eq, i3_sub_eq, Int.add_sub_cancel, Int.add_neg_cancel_right, e1])
  refine c246q (c := c) hS h1 ?_
  intro e2 h5 h6
  repeat' (simp (disch := first | omega | exact Nat.le_of_ble_eq_true rfl | exact rfl | assumption | (simp only [fr_at, Nat.reduceEqDiff, if_false, if_true, reduceIte]; first | assumption | omega)) only [r249_0, r249_1, r249_2, v249_2_11, r249_5, r249_6, r249_9, r249_11, r249_12i, r249_13, r249_14, v249_14_11, r249_17, r249_18, g11_9_11, mo_len, ms75 hS, mt75 hS, mo_g1, ms76 hS, mt76 hS, il_s, bl_s, bl_z, ll_s, is_s, bs_s, bs_z, ls_s, al_s, al_b, al_l, fr_at, fr_fr, Nat.reduceEqDiff, tc_gf3_s, tc_ql2_s, tc_ws_0, tc_ws_i, tc_ws_l, tc_ws_r, Nat.reduceLeDiff, Nat.reduceAdd, Nat.reduceLT, true_and, and_true, if_true, if_false, tc_K, Option.toList_some, Option.toList_none, List.nil_append, List.cons_append, ite_true, ite_false, Int.cast_ofNat_Int, reduceIte, i3_add_eq, i3_sub_eq, Int.add_sub_cancel, Int.add_neg_cancel_right])
  exact hq e2 h5 (h2.trans h6)
theorem c207q (hS : MS L sh) (hb : WB (bm c)) {d : Nat → Int → Int} (hd : QG c d) {w : Int} (hw : d 76 8 = w) (hw2 : 0 ≤ w ∧ w < 2147483648) : tc_C 207 [rf 75] (hp L sh d) n Q = Q (some (.inl (tof (bm c) w))) (hp L sh d) n := by
  have hbd : WB (bm d) := WB.beq hd.beq hb
  rw [c207n (c := d) (d := d) hS hbd (GF.refl d) hw hw2, tof_beq hd.beq]
theorem c240 (hS : MS L sh) (hb : WB (bm c)) (hw : WS (bm c) (pm c)) (hf : LF c) (h9 : c 76 8 ≤ 700) {x m w : Int} (hx : 0 ≤ x ∧ x < c 76 0 * c 76 1) (hm : 0 ≤ m ∧ m ≤ 100) (hw2 : 0 ≤ w ∧ w ≤ 2)
    (hq : ∀ e, QR c e → Q (some (.inl (if w = 0 then gos (bm c) (lm c) (pm c) m.toNat 0 x else if w = 1 then gos (bm c) (lm c) (pm c) m.toNat 4 1 else (mk (stn (gos (bm c) (lm c) (pm c) m.toNat 3)) (c 76 2).toNat : Nat)))) (hp L sh e) n) : tc_C 240 [rf 75, .inl x, .inl m, .inl w] (hp L sh c) n Q := by
  show tc_W 240 0 [rf 75, .inl x, .inl m, .inl w, tc_nil] [] _ _ Q
  obtain ⟨hd, hbd⟩ := hb.dm
  have hN := hd.m.1
  repeat' (first | (simp (disch := first | omega | exact Nat.le_of_ble_eq_true rfl | exact rfl | assumption | (simp only [fr_at, Nat.reduceEqDiff, if_false, if_true, reduceIte]; first | assumption | omega)) only [r240_0, r240_1, r240_2, v240_2_11, r240_8, r240_9, r240_10, r240_11, r240_14, r240_20, r240_21, r240_22, r240_23, r240_26, r240_32, r240_33, r240_34, r240_35, v240_35_11, r240_38, r240_39, r240_40, v240_40_11, r240_43, r240_47, r240_48, r240_51, r240_52, r240_53, r240_56, r240_57, r240_61, r240_62, r240_65, r240_67, r240_68, r240_71, r240_72, v240_72_11, r240_75i, r240_77, r240_78, v240_78_11, r240_81, r240_83, g11_13_11, g11_9_11, mo_len, ms75 hS, mt75 hS, mo_g2, ms77 hS, mt77 hS, mo_g1, ms76 hS, mt76 hS, il_s, bl_s, bl_z, ll_s, is_s, bs_s, bs_z, ls_s, al_s, al_b, al_l, fr_at, fr_fr, Nat.reduceEqDiff, tc_gf3_s, tc_ql2_s, tc_ws_0, tc_ws_i, tc_ws_l, tc_ws_r, Nat.reduceLeDiff, Nat.reduceAdd, Nat.reduceLT, true_and, and_true, if_true, if_false, tc_K, Option.toList_some, Option.toList_none, List.nil_append, List.cons_append, ite_true, ite_false, Int.cast_ofNat_Int, reduceIte, i3_add_eq, i3_sub_eq, Int.add_sub_cancel, Int.add_neg_cancel_right, c205 hS hd, c181]) | (simp only [r240_5, r240_17, r240_29, r240_44, r240_58, i6_lt0, i6_0lt, i6_0le, i6_le0, i6_eq0, b10_0, ite_not, Int.reduceLT, Int.reduceLE, Int.reduceEq, Int.reduceNeg, if_true, if_false, ite_true, ite_false, reduceIte, eq_self, not_true, not_false_eq_true]; try refine tc_ite (fun _ => ?_) (fun _ => ?_) <;> try (exfalso; omega)))
  refine c241q hS ?_
  intro e h1 _
  repeat' (first | (simp (disch := first | omega | exact Nat.le_of_ble_eq_true rfl | exact rfl | assumption | (simp only [fr_at, Nat.reduceEqDiff, if_false, if_true, reduceIte]; first | assumption | omega)) only [r240_0, r240_1, r240_2, v240_2_11, r240_8, r240_9, r240_10, r240_11, r240_14, r240_20, r240_21, r240_22, r240_23, r240_26, r240_32, r240_33, r240_34, r240_35, v240_35_11, r240_38, r240_39, r240_40, v240_40_11, r240_43, r240_47, r240_48, r240_51, r240_52, r240_53, r240_56, r240_57, r240_61, r240_62, r240_65, r240_67, r240_68, r240_71, r240_72, v240_72_11, r240_75i, r240_77, r240_78, v240_78_11, r240_81, r240_83, g11_13_11, g11_9_11, mo_len, ms75 hS, mt75 hS, mo_g2, ms77 hS, mt77 hS, mo_g1, ms76 hS, mt76 hS, il_s, bl_s, bl_z, ll_s, is_s, bs_s, bs_z, ls_s, al_s, al_b, al_l, fr_at, fr_fr, Nat.reduceEqDiff, tc_gf3_s, tc_ql2_s, tc_ws_0, tc_ws_i, tc_ws_l, tc_ws_r, Nat.reduceLeDiff, Nat.reduceAdd, Nat.reduceLT, true_and, and_true, if_true, if_false, tc_K, Option.toList_some, Option.toList_none, List.nil_append, List.cons_append, ite_true, ite_false, Int.cast_ofNat_Int, reduceIte, i3_add_eq, i3_sub_eq, Int.add_sub_cancel, Int.add_neg_cancel_right]) | (simp only [r240_5, r240_17, r240_29, r240_44, r240_58, i6_lt0, i6_0lt, i6_0le, i6_le0, i6_eq0, b10_0, ite_not, Int.reduceLT, Int.reduceLE, Int.reduceEq, Int.reduceNeg, if_true, if_false, ite_true, ite_false, reduceIte, eq_self, not_true, not_false_eq_true]; try refine tc_ite (fun _ => ?_) (fun _ => ?_) <;> try (exfalso; omega)))
  refine c244q (c := c) (t := pm c) hS hb h1.1 (h1.lf hf) hw (by rw [h1.pm]; exact SEq.refl _ _) hm.1 (by show c 76 8 + m ≤ 900; omega) ?_
  intro e2 h2 h3 h4 h5
  rw [h1.lm] at h5
  have v0 : e2 77 x = gos (bm c) (lm c) (pm c) m.toNat 0 x := (h5.1 x hx.1 hx.2).1
  have v1 : e2 76 9 = gos (bm c) (lm c) (pm c) m.toNat 4 1 := h5.2.2.2
  have hd2 := h2.dm hd
  have v2 : mk (stn (e2 82)) (e2 76 2).toNat = mk (stn (gos (bm c) (lm c) (pm c) m.toNat 3)) (c 76 2).toNat := by
    rw [h2.2.1 2 (by omega) (by omega) (by omega) (by omega)]
    refine mk_ext fun j j1 j2 => ?_
    unfold stn
    have v := (h5.2.1 j j1 (by show j < c 76 2; omega)).2
    rw [show pm e2 3 j = e2 82 j from rfl] at v
    rw [v]
  have h245 := fun Q => c245 (c := e2) (n := n) (Q := Q) hS hd2
  simp only [v2] at h245
  rcases (by omega : w = 0 ∨ w = 1 ∨ w = 2) with rfl | rfl | rfl
  · repeat' (first | (simp (disch := first | omega | exact Nat.le_of_ble_eq_true rfl | exact rfl | assumption | (simp only [fr_at, Nat.reduceEqDiff, if_false, if_true, reduceIte]; first | assumption | omega)) only [r240_0, r240_1, r240_2, v240_2_11, r240_8, r240_9, r240_10, r240_11, r240_14, r240_20, r240_21, r240_22, r240_23, r240_26, r240_32, r240_33, r240_34, r240_35, v240_35_11, r240_38, r240_39, r240_40, v240_40_11, r240_43, r240_47, r240_48, r240_51, r240_52, r240_53, r240_56, r240_57, r240_61, r240_62, r240_65, r240_67, r240_68, r240_71, r240_72, v240_72_11, r240_75i, r240_77, r240_78, v240_78_11, r240_81, r240_83, g11_13_11, g11_9_11, mo_len, ms75 hS, mt75 hS, mo_g2, ms77 hS, mt77 hS, mo_g1, ms76 hS, mt76 hS, il_s, bl_s, bl_z, ll_s, is_s, bs_s, bs_z, ls_s, al_s, al_b, al_l, fr_at, fr_fr, Nat.reduceEqDiff, tc_gf3_s, tc_ql2_s, tc_ws_0, tc_ws_i, tc_ws_l, tc_ws_r, Nat.reduceLeDiff, Nat.reduceAdd, Nat.reduceLT, true_and, and_true, if_true, if_false, tc_K, Option.toList_some, Option.toList_none, List.nil_append, List.cons_append, ite_true, ite_false, Int.cast_ofNat_Int, reduceIte, i3_add_eq, i3_sub_eq, Int.add_sub_cancel, Int.add_neg_cancel_right, v0]) | (simp only [r240_5, r240_17, r240_29, r240_44, r240_58, i6_lt0, i6_0lt, i6_0le, i6_le0, i6_eq0, b10_0, ite_not, Int.reduceLT, Int.reduceLE, Int.reduceEq, Int.reduceNeg, if_true, if_false, ite_true, ite_false, reduceIte, eq_self, not_true, not_false_eq_true]; try refine tc_ite (fun _ => ?_) (fun _ => ?_) <;> try (exfalso; omega)))
    refine c246q (c := c) hS h2 ?_
    intro e3 h6 h7
    repeat' (first | (simp (disch := first | omega | exact Nat.le_of_ble_eq_true rfl | exact rfl | assumption | (simp only [fr_at, Nat.reduceEqDiff, if_false, if_true, reduceIte]; first | assumption | omega)) only [r240_0, r240_1, r240_2, v240_2_11, r240_8, r240_9, r240_10, r240_11, r240_14, r240_20, r240_21, r240_22, r240_23, r240_26, r240_32, r240_33, r240_34, r240_35, v240_35_11, r240_38, r240_39, r240_40, v240_40_11, r240_43, r240_47, r240_48, r240_51, r240_52, r240_53, r240_56, r240_57, r240_61, r240_62, r240_65, r240_67, r240_68, r240_71, r240_72, v240_72_11, r240_75i, r240_77, r240_78, v240_78_11, r240_81, r240_83, g11_13_11, g11_9_11, mo_len, ms75 hS, mt75 hS, mo_g2, ms77 hS, mt77 hS, mo_g1, ms76 hS, mt76 hS, il_s, bl_s, bl_z, ll_s, is_s, bs_s, bs_z, ls_s, al_s, al_b, al_l, fr_at, fr_fr, Nat.reduceEqDiff, tc_gf3_s, tc_ql2_s, tc_ws_0, tc_ws_i, tc_ws_l, tc_ws_r, Nat.reduceLeDiff, Nat.reduceAdd, Nat.reduceLT, true_and, and_true, if_true, if_false, tc_K, Option.toList_some, Option.toList_none, List.nil_append, List.cons_append, ite_true, ite_false, Int.cast_ofNat_Int, reduceIte, i3_add_eq, i3_sub_eq, Int.add_sub_cancel, Int.add_neg_cancel_right]) | (simp only [r240_5, r240_17, r240_29, r240_44, r240_58, i6_lt0, i6_0lt, i6_0le, i6_le0, i6_eq0, b10_0, ite_not, Int.reduceLT, Int.reduceLE, Int.reduceEq, Int.reduceNeg, if_true, if_false, ite_true, ite_false, reduceIte, eq_self, not_true, not_false_eq_true]; try refine tc_ite (fun _ => ?_) (fun _ => ?_) <;> try (exfalso; omega)))
    exact hq e3 h6
  · repeat' (first | (simp (disch := first | omega | exact Nat.le_of_ble_eq_true rfl | exact rfl | assumption | (simp only [fr_at, Nat.reduceEqDiff, if_false, if_true, reduceIte]; first | assumption | omega)) only [r240_0, r240_1, r240_2, v240_2_11, r240_8, r240_9, r240_10, r240_11, r240_14, r240_20, r240_21, r240_22, r240_23, r240_26, r240_32, r240_33, r240_34, r240_35, v240_35_11, r240_38, r240_39, r240_40, v240_40_11, r240_43, r240_47, r240_48, r240_51, r240_52, r240_53, r240_56, r240_57, r240_61, r240_62, r240_65, r240_67, r240_68, r240_71, r240_72, v240_72_11, r240_75i, r240_77, r240_78, v240_78_11, r240_81, r240_83, g11_13_11, g11_9_11, mo_len, ms75 hS, mt75 hS, mo_g2, ms77 hS, mt77 hS, mo_g1, ms76 hS, mt76 hS, il_s, bl_s, bl_z, ll_s, is_s, bs_s, bs_z, ls_s, al_s, al_b, al_l, fr_at, fr_fr, Nat.reduceEqDiff, tc_gf3_s, tc_ql2_s, tc_ws_0, tc_ws_i, tc_ws_l, tc_ws_r, Nat.reduceLeDiff, Nat.reduceAdd, Nat.reduceLT, true_and, and_true, if_true, if_false, tc_K, Option.toList_some, Option.toList_none, List.nil_append, List.cons_append, ite_true, ite_false, Int.cast_ofNat_Int, reduceIte, i3_add_eq, i3_sub_eq, Int.add_sub_cancel, Int.add_neg_cancel_right, v1]) | (simp only [r240_5, r240_17, r240_29, r240_44, r240_58, i6_lt0, i6_0lt, i6_0le, i6_le0, i6_eq0, b10_0, ite_not, Int.reduceLT, Int.reduceLE, Int.reduceEq, Int.reduceNeg, if_true, if_false, ite_true, ite_false, reduceIte, eq_self, not_true, not_false_eq_true]; try refine tc_ite (fun _ => ?_) (fun _ => ?_) <;> try (exfalso; omega)))
    refine c246q (c := c) hS h2 ?_
    intro e3 h6 h7
    repeat' (first | (simp (disch := first | omega | exact Nat.le_of_ble_eq_true rfl | exact rfl | assumption | (simp only [fr_at, Nat.reduceEqDiff, if_false, if_true, reduceIte]; first | assumption | omega)) only [r240_0, r240_1, r240_2, v240_2_11, r240_8, r240_9, r240_10, r240_11, r240_14, r240_20, r240_21, r240_22, r240_23, r240_26, r240_32, r240_33, r240_34, r240_35, v240_35_11, r240_38, r240_39, r240_40, v240_40_11, r240_43, r240_47, r240_48, r240_51, r240_52, r240_53, r240_56, r240_57, r240_61, r240_62, r240_65, r240_67, r240_68, r240_71, r240_72, v240_72_11, r240_75i, r240_77, r240_78, v240_78_11, r240_81, r240_83, g11_13_11, g11_9_11, mo_len, ms75 hS, mt75 hS, mo_g2, ms77 hS, mt77 hS, mo_g1, ms76 hS, mt76 hS, il_s, bl_s, bl_z, ll_s, is_s, bs_s, bs_z, ls_s, al_s, al_b, al_l, fr_at, fr_fr, Nat.reduceEqDiff, tc_gf3_s, tc_ql2_s, tc_ws_0, tc_ws_i, tc_ws_l, tc_ws_r, Nat.reduceLeDiff, Nat.reduceAdd, Nat.reduceLT, true_and, and_true, if_true, if_false, tc_K, Option.toList_some, Option.toList_none, List.nil_append, List.cons_append, ite_true, ite_false, Int.cast_ofNat_Int, reduceIte, i3_add_eq, i3_sub_eq, Int.add_sub_cancel, Int.add_neg_cancel_right]) | (simp only [r240_5, r240_17, r240_29, r240_44, r240_58, i6_lt0, i6_0lt, i6_0le, i6_le0, i6_eq0, b10_0, ite_not, Int.reduceLT, Int.reduceLE, Int.reduceEq, Int.reduceNeg, if_true, if_false, ite_true, ite_false, reduceIte, eq_self, not_true, not_false_eq_true]; try refine tc_ite (fun _ => ?_) (fun _ => ?_) <;> try (exfalso; omega)))
    exact hq e3 h6
  · repeat' (first | (simp (disch := first | omega | exact Nat.le_of_ble_eq_true rfl | exact rfl | assumption | (simp only [fr_at, Nat.reduceEqDiff, if_false, if_true, reduceIte]; first | assumption | omega)) only [r240_0, r240_1, r240_2, v240_2_11, r240_8, r240_9, r240_10, r240_11, r240_14, r240_20, r240_21, r240_22, r240_23, r240_26, r240_32, r240_33, r240_34, r240_35, v240_35_11, r240_38, r240_39, r240_40, v240_40_11, r240_43, r240_47, r240_48, r240_51, r240_52, r240_53, r240_56, r240_57, r240_61, r240_62, r240_65, r240_67, r240_68, r240_71, r240_72, v240_72_11, r240_75i, r240_77, r240_78, v240_78_11, r240_81, r240_83, g11_13_11, g11_9_11, mo_len, ms75 hS, mt75 hS, mo_g2, ms77 hS, mt77 hS, mo_g1, ms76 hS, mt76 hS, il_s, bl_s, bl_z, ll_s, is_s, bs_s, bs_z, ls_s, al_s, al_b, al_l, fr_at, fr_fr, Nat.reduceEqDiff, tc_gf3_s, tc_ql2_s, tc_ws_0, tc_ws_i, tc_ws_l, tc_ws_r, Nat.reduceLeDiff, Nat.reduceAdd, Nat.reduceLT, true_and, and_true, if_true, if_false, tc_K, Option.toList_some, Option.toList_none, List.nil_append, List.cons_append, ite_true, ite_false, Int.cast_ofNat_Int, reduceIte, i3_add_eq, i3_sub_eq, Int.add_sub_cancel, Int.add_neg_cancel_right, h245]) | (simp only [r240_5, r240_17, r240_29, r240_44, r240_58, i6_lt0, i6_0lt, i6_0le, i6_le0, i6_eq0, b10_0, ite_not, Int.reduceLT, Int.reduceLE, Int.reduceEq, Int.reduceNeg, if_true, if_false, ite_true, ite_false, reduceIte, eq_self, not_true, not_false_eq_true]; try refine tc_ite (fun _ => ?_) (fun _ => ?_) <;> try (exfalso; omega)))
    refine c246q (c := c) hS h2 ?_
    intro e3 h6 h7
    repeat' (first | (simp (disch := first | omega | exact Nat.le_of_ble_eq_true rfl | exact rfl | assumption | (simp only [fr_at, Nat.reduceEqDiff, if_false, if_true, reduceIte]; first | assumption | omega)) only [r240_0, r240_1, r240_2, v240_2_11, r240_8, r240_9, r240_10, r240_11, r240_14, r240_20, r240_21, r240_22, r240_23, r240_26, r240_32, r240_33, r240_34, r240_35, v240_35_11, r240_38, r240_39, r240_40, v240_40_11, r240_43, r240_47, r240_48, r240_51, r240_52, r240_53, r240_56, r240_57, r240_61, r240_62, r240_65, r240_67, r240_68, r240_71, r240_72, v240_72_11, r240_75i, r240_77, r240_78, v240_78_11, r240_81, r240_83, g11_13_11, g11_9_11, mo_len, ms75 hS, mt75 hS, mo_g2, ms77 hS, mt77 hS, mo_g1, ms76 hS, mt76 hS, il_s, bl_s, bl_z, ll_s, is_s, bs_s, bs_z, ls_s, al_s, al_b, al_l, fr_at, fr_fr, Nat.reduceEqDiff, tc_gf3_s, tc_ql2_s, tc_ws_0, tc_ws_i, tc_ws_l, tc_ws_r, Nat.reduceLeDiff, Nat.reduceAdd, Nat.reduceLT, true_and, and_true, if_true, if_false, tc_K, Option.toList_some, Option.toList_none, List.nil_append, List.cons_append, ite_true, ite_false, Int.cast_ofNat_Int, reduceIte, i3_add_eq, i3_sub_eq, Int.add_sub_cancel, Int.add_neg_cancel_right]) | (simp only [r240_5, r240_17, r240_29, r240_44, r240_58, i6_lt0, i6_0lt, i6_0le, i6_le0, i6_eq0, b10_0, ite_not, Int.reduceLT, Int.reduceLE, Int.reduceEq, Int.reduceNeg, if_true, if_false, ite_true, ite_false, reduceIte, eq_self, not_true, not_false_eq_true]; try refine tc_ite (fun _ => ?_) (fun _ => ?_) <;> try (exfalso; omega)))
    exact hq e3 h6
end MOD10

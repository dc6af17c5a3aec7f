/-! the class: MARKS ahead -/
def mrk (b s : Nat → Int → Int) : Int := sm (fun f => if stn (s 3) f = true then b 2 f else 0) (b 0 2).toNat
theorem sm_mono {s t : Int → Int} : ∀ {k : Nat}, (∀ x : Int, 0 ≤ x → x < k → s x ≤ t x) → sm s k ≤ sm t k := by
  intro k
  induction k with
  | zero => intro _; exact Int.le_refl 0
  | succ k ih =>
    intro h
    show sm s k + s k ≤ sm t k + t k
    have h1 := ih fun x x1 x2 => h x x1 (by omega)
    have h2 := h k (by omega) (by omega)
    omega
theorem mrk_rng {b s : Nat → Int → Int} (hb : WB b) : 0 ≤ mrk b s ∧ mrk b s ≤ 300 := by
  have hm := hb.2.1
  have h1 : ∀ x : Int, 0 ≤ x → x < (b 0 2).toNat → 0 ≤ (if stn (s 3) x = true then b 2 x else 0) ∧ (if stn (s 3) x = true then b 2 x else 0) ≤ 50 := fun x x1 x2 => by
    have := hb.2.2.2.1 x x1 (by omega)
    split <;> omega
  have h2 := sm_ge (s := fun f => if stn (s 3) f = true then b 2 f else 0) (b 0 2).toNat fun x x1 x2 => (h1 x x1 x2).1
  have h3 := sm_le (s := fun f => if stn (s 3) f = true then b 2 f else 0) (F := 50) (by omega) (b 0 2).toNat fun x x1 x2 => (h1 x x1 x2).2
  unfold mrk
  omega
theorem stp_mk {b s : Nat → Int → Int} {la : Option Law} {F : Int} (hb : WB b) (hw : WS b s) : stp b s la F 4 1 = s 4 1 + mrk b (stp b s la F) ∧ mrk b (stp b s la F) ≤ mrk b s := by
  have h4 := hw.2.2.2.1
  have e1 : mrk b (stp b s la F) = sm (mks b s la F (sgb b s F)) (b 0 2).toNat := by
    unfold mrk
    refine sm_ext fun f _ _ => ?_
    show (if stn (nes b s la F (sgb b s F)) f = true then b 2 f else 0) = _
    unfold mks stn
    simp only [decide_eq_true_eq]
  constructor
  · rw [e1]
    show (if (1 : Int) = 0 then s 4 0 + 1 else s 4 1 + sm (mks b s la F (sgb b s F)) (b 0 2).toNat) = _
    rw [if_neg (by omega)]
  · unfold mrk
    refine sm_mono fun f f1 f2 => ?_
    have hr := hb.2.2.2.1 f f1 (by omega)
    show (if stn (nes b s la F (sgb b s F)) f = true then b 2 f else 0) ≤ (if stn (s 3) f = true then b 2 f else 0)
    unfold stn nes
    simp only [decide_eq_true_eq]
    by_cases h : s 3 f = -1
    · rw [if_pos h]
      split <;> omega
    · rw [if_neg h, if_neg (by rw [if_neg (fun q => h q.1)]; exact h)]
      omega
theorem gos_most {b s : Nat → Int → Int} {la : Option Law} (hb : WB b) (hw : WS b s) (i : Nat) : ∀ d : Nat, s 4 0 + (i + d : Nat) ≤ 900 → gos b la s i 4 1 ≤ gos b la s (i + d) 4 1 ∧ gos b la s (i + d) 4 1 ≤ gos b la s i 4 1 + d * mrk b (gos b la s i) ∧ mrk b (gos b la s (i + d)) ≤ mrk b (gos b la s i) := by
  intro d
  induction d with
  | zero =>
    intro _
    refine ⟨Int.le_refl _, ?_, Int.le_refl _⟩
    show gos b la s i 4 1 ≤ gos b la s i 4 1 + ((0 : Nat) : Int) * mrk b (gos b la s i)
    omega
  | succ d ih =>
    intro h
    have h1 := ih (by omega)
    have hws := gos_ws (la := la) hb hw (i + d) (by omega)
    have h2 := stp_mk (la := la) (F := tof b (gos b la s (i + d) 4 0)) hb hws
    have e : gos b la s (i + (d + 1)) = stp b (gos b la s (i + d)) la (tof b (gos b la s (i + d) 4 0)) := rfl
    have h3 := mrk_rng (s := gos b la s (i + (d + 1))) hb
    rw [← e] at h2
    have e2 : (((d + 1 : Nat)) : Int) * mrk b (gos b la s i) = (d : Int) * mrk b (gos b la s i) + mrk b (gos b la s i) := by
      rw [show (((d + 1 : Nat)) : Int) = (d : Int) + 1 by omega, Int.add_mul, Int.one_mul]
    rw [e2]
    omega
/-- v stands for t, as far as it lies above the floor and below the roof -/
def MA (fl rf' t v : Int) : Prop := v = t ∨ (t ≤ v ∧ v ≤ fl) ∨ (rf' ≤ v ∧ v ≤ t)
/-- where the trials are made -/
def TR (L : Nat) (sh : Nat → SH) (c : Nat → Int → Int) (s : Nat) (lo : Option Nat) (b : Nat → Int → Int) (la : Option Law) : Prop := SeaS L sh (some s) lo ∧ ShoS L sh s ∧ (s = 30 ∨ 115 ≤ s) ∧ (SanS L sh 61 ∧ SanS L sh 65 ∧ sh 60 = (6, 9, [some 49, some s, some 61, some 65])) ∧ WB b ∧ LA L sh c lo la ∧ (∀ lr, lo = some lr → 115 ≤ lr) ∧ SHO b s c
theorem TR.fr {L : Nat} {sh : Nat → SH} {c d : Nat → Int → Int} {s : Nat} {lo : Option Nat} {b : Nat → Int → Int} {la : Option Law} (h : TR L sh c s lo b la) (hd : ∀ a, (a < 49 ∨ 68 < a) → d a = c a) : TR L sh d s lo b la := by
  obtain ⟨h1, h2, h3, h4, h5, h6, h7, h8⟩ := h
  refine ⟨h1, h2, h3, h4, h5, h6.of (Nat.le_refl L) (fun _ _ => rfl) (fun lr a l1 l2 l3 => ?_), h7, h8.fr fun a a1 a2 => ?_⟩
  · have := h7 lr l1
    exact hd a (by omega)
  · exact hd a (by omega)
section TRIALS
variable {L : Nat} {sh : Nat → SH} {c : Nat → Int → Int} {n : Nat} {Q : Option AV → List SC → Nat → Prop} {r s : Nat} {lo : Option Nat} {b σ : Nat → Int → Int} {la : Option Law} {k : Prop}
theorem c76b (hO : ShoS L sh s) (hb : WB b) (hB : SHO b s c) {w : Int} (hw : 0 ≤ w ∧ w < 2147483648) : tc_C 76 [rf s, .inl w] (hp L sh c) n Q = Q (some (.inl (tof b w))) (hp L sh c) n := by
  have hm := hb.2.1
  rw [c76 hO (m := b 0 3) (by omega) hB.2.1.2.2 hw]
  have e : (if b 0 3 = 0 then 5 else c (s + 5) (w % b 0 3)) = tof b w := by
    unfold tof
    by_cases h : b 0 3 = 0
    · rw [if_pos h, if_pos h]
    · rw [if_neg h, if_neg h]
      exact hB.2.2.2.1 _ (Int.emod_nonneg w h) (Int.emod_lt_of_pos w (by omega))
  rw [e]
theorem c102b (hO : ShoS L sh s) (hb : WB b) (hB : SHO b s c) {m : Int} (hm : m = (mk (stn (σ 3)) (b 0 2).toNat : Nat)) : tc_C 102 [rf s, .inl m] (hp L sh c) n Q = Q (some (.inl (mrk b σ))) (hp L sh c) n := by
  have h2 := hb.2.1
  rw [hm, c102 hO (m := b 0 2) (by omega) hB.2.1.2.1 (fun f f1 f2 => by
    rw [(hB.2.2.1 f f1 f2).2.2]
    have := hb.2.2.2.1 f f1 f2
    omega)]
  have e : sm (fun f => if stn (σ 3) f = true then c (s + 4) f else 0) (b 0 2).toNat = mrk b σ := sm_ext fun f f1 f2 => by
    rw [(hB.2.2.1 f f1 (by omega)).2.2]
  rw [e]
theorem c122 (hT : TR L sh c s lo b la) (hσ : SAN k b 61 c σ) (hw : WS b σ) {m fl rf' : Int} (hm : 1 ≤ m ∧ m ≤ 60) (h4 : c 60 4 = m) (h9 : σ 4 0 + m ≤ 900)
    (hq : ∀ e v, (∀ a, (a < 49 ∨ (55 < a ∧ a < 65) ∨ 68 < a) → e a = c a) → MA fl rf' (gos b la σ m.toNat 4 1) v → Q (some (.inl v)) (hp L sh e) n) : tc_C 122 [rf 60, .inl fl, .inl rf'] (hp L sh c) n Q := by
  obtain ⟨hE, hSh, hs, ⟨h61, h65, h60⟩, hb, hl, hal, hB⟩ := id hT
  have hL := hE.1
  have hL60 : 60 < L := by omega
  show tc_W 122 0 [rf 60, .inl fl, .inl rf', tc_nil, tc_nil] [] _ _ Q
  repeat' (first | (simp (disch := first | omega | exact Nat.le_of_ble_eq_true rfl | exact rfl | assumption | (simp (disch := omega) only [fr_ne, fr_same]; first | assumption | omega)) only [r122_0, r122_1, r122_4, r122_5, r122_8, v122_8_5, r122_11, r122_12i, r122_14, r122_15, r122_21, r122_22, r122_25, r122_28, r122_29, r122_32, r122_33, r122_34, r122_35, r122_38, r122_39, r122_42, r122_45, v122_45_8, r122_48, r122_49, r122_50i, r122_52, r122_54, r122_58, r122_60, r122_61, r122_64, r122_70, r122_72, r122_73, r122_74, r122_77, r122_80, r122_84, r122_85, r122_88, r122_91, r122_92, r122_93, r122_96, r122_97, r122_100, r122_101, r122_104, r122_105, r122_108, r122_111, v122_111_8, r122_114, v122_114_7, r122_117, r122_117A, r122_118i, r122_121, r122_124, r122_125, r122_128, r122_131, g9_26_9, g9_22_9, g9_29_9, g9_58_5, g9_15_9, g9_61_5, g9_9_9, g9_114_5, o9_len, o9_g3, o9_g2, o9_g4, o5_len, o5_g5, o9_g1, o5_g3, o9_g0, o5_g6, il_s, bl_s, bl_z, ll_s, is_s, bs_s, bs_z, ls_s, al_s, al_b, al_l, fr_ne, fr_same, fr_fr, Nat.reduceEqDiff, tc_gf3_s, tc_ql2_s, tc_ws_0, tc_ws_i, tc_ws_l, tc_ws_r, Nat.reduceLeDiff, Nat.reduceAdd, Nat.reduceLT, true_and, and_true, if_true, if_false, tc_K, Option.toList_some, Option.toList_none, List.nil_append, List.cons_append, ite_true, ite_false, Int.cast_ofNat_Int, reduceIte, i3_add_eq, i3_sub_eq, Int.add_sub_cancel, Int.add_neg_cancel_right, hO hL60 h60, hOs h60, SanS_g0 h61, SanS_s0 h61, SanS_g1 h61, SanS_s1 h61, SanS_g2 h61, SanS_s2 h61, SanS_g3 h61, SanS_s3 h61, SanS_g0 h65, SanS_s0 h65, SanS_g1 h65, SanS_s1 h65, SanS_g2 h65, SanS_s2 h65, SanS_g3 h65, SanS_s3 h65]) | (simp only [r122_18, r122_55, r122_67, r122_81, i6_lt0, i6_0lt, i6_0le, i6_le0, i6_eq0, b10_0, ite_not, Int.reduceLT, Int.reduceLE, Int.reduceEq, Int.reduceNeg, if_true, if_false, ite_true, ite_false, reduceIte, eq_self, not_true, not_false_eq_true]; try refine tc_ite (fun _ => ?_) (fun _ => ?_) <;> try (exfalso; omega)))
  refine c88 h65 h61 (by omega) ?_
  intro e g1 g2 g3 g4 g5
  have hσ65 : SAN k b 65 e σ := hσ.cp g2 g3 g4 g5
  repeat' (first | (simp (disch := first | omega | exact Nat.le_of_ble_eq_true rfl | exact rfl | assumption | (simp (disch := omega) only [fr_ne, fr_same]; first | assumption | omega)) only [r122_0, r122_1, r122_4, r122_5, r122_8, v122_8_5, r122_11, r122_12i, r122_14, r122_15, r122_21, r122_22, r122_25, r122_28, r122_29, r122_32, r122_33, r122_34, r122_35, r122_38, r122_39, r122_42, r122_45, v122_45_8, r122_48, r122_49, r122_50i, r122_52, r122_54, r122_58, r122_60, r122_61, r122_64, r122_70, r122_72, r122_73, r122_74, r122_77, r122_80, r122_84, r122_85, r122_88, r122_91, r122_92, r122_93, r122_96, r122_97, r122_100, r122_101, r122_104, r122_105, r122_108, r122_111, v122_111_8, r122_114, v122_114_7, r122_117, r122_117A, r122_118i, r122_121, r122_124, r122_125, r122_128, r122_131, g9_26_9, g9_22_9, g9_29_9, g9_58_5, g9_15_9, g9_61_5, g9_9_9, g9_114_5, o9_len, o9_g3, o9_g2, o9_g4, o5_len, o5_g5, o9_g1, o5_g3, o9_g0, o5_g6, il_s, bl_s, bl_z, ll_s, is_s, bs_s, bs_z, ls_s, al_s, al_b, al_l, fr_ne, fr_same, fr_fr, Nat.reduceEqDiff, tc_gf3_s, tc_ql2_s, tc_ws_0, tc_ws_i, tc_ws_l, tc_ws_r, Nat.reduceLeDiff, Nat.reduceAdd, Nat.reduceLT, true_and, and_true, if_true, if_false, tc_K, Option.toList_some, Option.toList_none, List.nil_append, List.cons_append, ite_true, ite_false, Int.cast_ofNat_Int, reduceIte, i3_add_eq, i3_sub_eq, Int.add_sub_cancel, Int.add_neg_cancel_right]) | (simp only [r122_18, r122_55, r122_67, r122_81, i6_lt0, i6_0lt, i6_0le, i6_le0, i6_eq0, b10_0, ite_not, Int.reduceLT, Int.reduceLE, Int.reduceEq, Int.reduceNeg, if_true, if_false, ite_true, ite_false, reduceIte, eq_self, not_true, not_false_eq_true]; try refine tc_ite (fun _ => ?_) (fun _ => ?_) <;> try (exfalso; omega)))
  refine lq_2 (N := m) (P := fun i (d : Nat → Int → Int) (a4 : AV) => tc_W 122 13 [rf 60, .inl fl, .inl rf', .inl i, a4] [] (hp L sh d) n Q) (I := fun i d _ => (∀ a, (a < 49 ∨ (55 < a ∧ a < 65) ∨ 68 < a) → d a = c a) ∧ SAN k b 65 d (gos b la σ i.toNat)) ?_ ?_ 0 e tc_nil (by omega) (by omega) ⟨fun a ha => g1 a (by omega), hσ65⟩
  · intro i d a4 hi hi2 ⟨hf, hσd⟩ ih
    have d60 : d 60 = c 60 := hf 60 (by omega)
    have d4 : d 60 4 = m := by rw [d60, h4]
    have hTd := hT.fr fun a ha => hf a (by omega)
    obtain ⟨_, _, _, _, _, hld, _, hBd⟩ := id hTd
    have hws := gos_ws (la := la) hb hw i.toNat (by omega)
    have hgw := gos_w (b := b) (s := σ) (la := la) i.toNat
    have h0 := hw.2.2.2.1
    have m5 : d 65 5 = gos b la σ i.toNat 4 1 := hσd.2.2.2.2.1
    have m6 : d 65 6 = gos b la σ i.toNat 4 0 := hσd.2.2.2.2.2
    have h102 := fun Q => c102b (c := d) (n := n) (Q := Q) (σ := gos b la σ i.toNat) (m := d 65 3) hSh hb hBd hσd.2.2.1
    have hrk := mrk_rng (s := gos b la σ i.toNat) hb
    have hmost := gos_most (la := la) hb hw i.toNat (m.toNat - i.toNat) (by omega)
    rw [show i.toNat + (m.toNat - i.toNat) = m.toNat by omega, show ((m.toNat - i.toNat : Nat) : Int) = m - i by omega] at hmost
    have hmk := hws.2.2.2
    have hpn : 0 ≤ (m - i) * mrk b (gos b la σ i.toNat) := Int.mul_nonneg (by omega) hrk.1
    have hpl : (m - i) * mrk b (gos b la σ i.toNat) ≤ 60 * 300 := Int.mul_le_mul (by omega) hrk.2 hrk.1 (by omega)
    have h76 := fun Q => c76b (c := d) (n := n) (Q := Q) (w := gos b la σ i.toNat 4 0) hSh hb hBd (by omega)
    have htf := tof_rng hb (gos b la σ i.toNat 4 0)
    have fin : ¬ (gos b la σ i.toNat 4 1 + (m - i) * mrk b (gos b la σ i.toNat) ≤ fl) → ¬ (rf' ≤ gos b la σ i.toNat 4 1) → ∀ a4 : AV, tc_W 122 92 [rf 60, .inl fl, .inl rf', .inl i, a4] [] (hp L sh d) n Q := by
      intro _ _ a4
      repeat' (first | (simp (disch := first | omega | exact Nat.le_of_ble_eq_true rfl | exact rfl | assumption | (simp (disch := omega) only [fr_ne, fr_same]; first | assumption | omega)) only [r122_0, r122_1, r122_4, r122_5, r122_8, v122_8_5, r122_11, r122_12i, r122_14, r122_15, r122_21, r122_22, r122_25, r122_28, r122_29, r122_32, r122_33, r122_34, r122_35, r122_38, r122_39, r122_42, r122_45, v122_45_8, r122_48, r122_49, r122_50i, r122_52, r122_54, r122_58, r122_60, r122_61, r122_64, r122_70, r122_72, r122_73, r122_74, r122_77, r122_80, r122_84, r122_85, r122_88, r122_91, r122_92, r122_93, r122_96, r122_97, r122_100, r122_101, r122_104, r122_105, r122_108, r122_111, v122_111_8, r122_114, v122_114_7, r122_117, r122_117A, r122_118i, r122_121, r122_124, r122_125, r122_128, r122_131, g9_26_9, g9_22_9, g9_29_9, g9_58_5, g9_15_9, g9_61_5, g9_9_9, g9_114_5, o9_len, o9_g3, o9_g2, o9_g4, o5_len, o5_g5, o9_g1, o5_g3, o9_g0, o5_g6, il_s, bl_s, bl_z, ll_s, is_s, bs_s, bs_z, ls_s, al_s, al_b, al_l, fr_ne, fr_same, fr_fr, Nat.reduceEqDiff, tc_gf3_s, tc_ql2_s, tc_ws_0, tc_ws_i, tc_ws_l, tc_ws_r, Nat.reduceLeDiff, Nat.reduceAdd, Nat.reduceLT, true_and, and_true, if_true, if_false, tc_K, Option.toList_some, Option.toList_none, List.nil_append, List.cons_append, ite_true, ite_false, Int.cast_ofNat_Int, reduceIte, i3_add_eq, i3_sub_eq, Int.add_sub_cancel, Int.add_neg_cancel_right, hO hL60 h60, hOs h60, SanS_g0 h65, SanS_s0 h65, SanS_g1 h65, SanS_s1 h65, SanS_g2 h65, SanS_s2 h65, SanS_g3 h65, SanS_s3 h65, ShoS_g0 hSh, ShoS_s0 hSh, ShoS_g1 hSh, ShoS_s1 hSh, ShoS_g2 hSh, ShoS_s2 hSh, ShoS_g3 hSh, ShoS_s3 hSh, ShoS_g4 hSh, ShoS_s4 hSh, ShoS_g5 hSh, ShoS_s5 hSh, ShoS_g6 hSh, ShoS_s6 hSh, ShoS_g7 hSh, ShoS_s7 hSh, SeaS_g0 hE, SeaS_s0 hE, SeaS_g1 hE, SeaS_s1 hE, SeaS_g2 hE, SeaS_s2 hE, SeaS_g3 hE, SeaS_s3 hE, SeaS_g4 hE, SeaS_s4 hE, SeaS_g5 hE, SeaS_s5 hE, SeaS_g6 hE, SeaS_s6 hE, m6, h76]) | (simp only [r122_18, r122_55, r122_67, r122_81, i6_lt0, i6_0lt, i6_0le, i6_le0, i6_eq0, b10_0, ite_not, Int.reduceLT, Int.reduceLE, Int.reduceEq, Int.reduceNeg, if_true, if_false, ite_true, ite_false, reduceIte, eq_self, not_true, not_false_eq_true]; try refine tc_ite (fun _ => ?_) (fun _ => ?_) <;> try (exfalso; omega)))
      refine c90 (r := 65) (b := b) (σ := gos b la σ i.toNat) (la := la) (k := k) (F := tof b (gos b la σ i.toNat 4 0)) hE hSh hs h65 (by unfold AP; omega) hb hws hld hal hBd hσd (by omega) (by omega) ?_
      intro e2 k1 k2
      repeat' (first | (simp (disch := first | omega | exact Nat.le_of_ble_eq_true rfl | exact rfl | assumption | (simp (disch := omega) only [fr_ne, fr_same]; first | assumption | omega)) only [r122_0, r122_1, r122_4, r122_5, r122_8, v122_8_5, r122_11, r122_12i, r122_14, r122_15, r122_21, r122_22, r122_25, r122_28, r122_29, r122_32, r122_33, r122_34, r122_35, r122_38, r122_39, r122_42, r122_45, v122_45_8, r122_48, r122_49, r122_50i, r122_52, r122_54, r122_58, r122_60, r122_61, r122_64, r122_70, r122_72, r122_73, r122_74, r122_77, r122_80, r122_84, r122_85, r122_88, r122_91, r122_92, r122_93, r122_96, r122_97, r122_100, r122_101, r122_104, r122_105, r122_108, r122_111, v122_111_8, r122_114, v122_114_7, r122_117, r122_117A, r122_118i, r122_121, r122_124, r122_125, r122_128, r122_131, g9_26_9, g9_22_9, g9_29_9, g9_58_5, g9_15_9, g9_61_5, g9_9_9, g9_114_5, o9_len, o9_g3, o9_g2, o9_g4, o5_len, o5_g5, o9_g1, o5_g3, o9_g0, o5_g6, il_s, bl_s, bl_z, ll_s, is_s, bs_s, bs_z, ls_s, al_s, al_b, al_l, fr_ne, fr_same, fr_fr, Nat.reduceEqDiff, tc_gf3_s, tc_ql2_s, tc_ws_0, tc_ws_i, tc_ws_l, tc_ws_r, Nat.reduceLeDiff, Nat.reduceAdd, Nat.reduceLT, true_and, and_true, if_true, if_false, tc_K, Option.toList_some, Option.toList_none, List.nil_append, List.cons_append, ite_true, ite_false, Int.cast_ofNat_Int, reduceIte, i3_add_eq, i3_sub_eq, Int.add_sub_cancel, Int.add_neg_cancel_right]) | (simp only [r122_18, r122_55, r122_67, r122_81, i6_lt0, i6_0lt, i6_0le, i6_le0, i6_eq0, b10_0, ite_not, Int.reduceLT, Int.reduceLE, Int.reduceEq, Int.reduceNeg, if_true, if_false, ite_true, ite_false, reduceIte, eq_self, not_true, not_false_eq_true]; try refine tc_ite (fun _ => ?_) (fun _ => ?_) <;> try (exfalso; omega)))
      refine ih e2 _ ⟨fun a ha => ?_, ?_⟩
      · rw [k1 a (by omega) (by omega) (by omega) (by omega) (by omega) (by omega) (by omega) (by omega)]
        exact hf a ha
      · rw [show (i + 1).toNat = i.toNat + 1 by omega]
        exact k2
    simp only [r122_13]
    generalize gos b la σ i.toNat 4 1 = M at m5 hmost hmk hq fin
    generalize hPr : (m - i) * mrk b (gos b la σ i.toNat) = Pr at hmost hpn hpl fin
    generalize gos b la σ m.toNat 4 1 = t at hq hmost
    repeat' (first | (simp (disch := first | omega | exact Nat.le_of_ble_eq_true rfl | exact rfl | assumption | (simp (disch := omega) only [fr_ne, fr_same]; first | assumption | omega)) only [r122_0, r122_1, r122_4, r122_5, r122_8, v122_8_5, r122_11, r122_12i, r122_14, r122_15, r122_21, r122_22, r122_25, r122_28, r122_29, r122_32, r122_33, r122_34, r122_35, r122_38, r122_39, r122_42, r122_45, v122_45_8, r122_48, r122_49, r122_50i, r122_52, r122_54, r122_58, r122_60, r122_61, r122_64, r122_70, r122_72, r122_73, r122_74, r122_77, r122_80, r122_84, r122_85, r122_88, r122_91, r122_93, r122_96, r122_97, r122_100, r122_101, r122_104, r122_105, r122_108, r122_111, v122_111_8, r122_114, v122_114_7, r122_117, r122_117A, r122_118i, r122_121, r122_124, r122_125, r122_128, r122_131, g9_26_9, g9_22_9, g9_29_9, g9_58_5, g9_15_9, g9_61_5, g9_9_9, g9_114_5, o9_len, o9_g3, o9_g2, o9_g4, o5_len, o5_g5, o9_g1, o5_g3, o9_g0, o5_g6, il_s, bl_s, bl_z, ll_s, is_s, bs_s, bs_z, ls_s, al_s, al_b, al_l, fr_ne, fr_same, fr_fr, Nat.reduceEqDiff, tc_gf3_s, tc_ql2_s, tc_ws_0, tc_ws_i, tc_ws_l, tc_ws_r, Nat.reduceLeDiff, Nat.reduceAdd, Nat.reduceLT, true_and, and_true, if_true, if_false, tc_K, Option.toList_some, Option.toList_none, List.nil_append, List.cons_append, ite_true, ite_false, Int.cast_ofNat_Int, reduceIte, i3_add_eq, i3_sub_eq, Int.add_sub_cancel, Int.add_neg_cancel_right, hO hL60 h60, hOs h60, SanS_g0 h65, SanS_s0 h65, SanS_g1 h65, SanS_s1 h65, SanS_g2 h65, SanS_s2 h65, SanS_g3 h65, SanS_s3 h65, ShoS_g0 hSh, ShoS_s0 hSh, ShoS_g1 hSh, ShoS_s1 hSh, ShoS_g2 hSh, ShoS_s2 hSh, ShoS_g3 hSh, ShoS_s3 hSh, ShoS_g4 hSh, ShoS_s4 hSh, ShoS_g5 hSh, ShoS_s5 hSh, ShoS_g6 hSh, ShoS_s6 hSh, ShoS_g7 hSh, ShoS_s7 hSh, d4, m5, h102, i3_mul_eq, hPr]) | (simp only [r122_18, r122_55, r122_67, r122_81, i6_lt0, i6_0lt, i6_0le, i6_le0, i6_eq0, b10_0, ite_not, Int.reduceLT, Int.reduceLE, Int.reduceEq, Int.reduceNeg, if_true, if_false, ite_true, ite_false, reduceIte, eq_self, not_true, not_false_eq_true]; try refine tc_ite (fun _ => ?_) (fun _ => ?_) <;> try (exfalso; omega)))
    all_goals first
      | exact hq d _ hf (Or.inr (Or.inl ⟨hmost.2.1, by omega⟩))
      | exact hq d _ hf (Or.inl (by omega))
      | exact hq d _ hf (Or.inr (Or.inr ⟨by omega, by omega⟩))
      | exact fin (by omega) (by omega) _
  · intro d a4 ⟨hf, hσd⟩
    have d4 : d 60 4 = m := by rw [hf 60 (by omega), h4]
    have m5 : d 65 5 = gos b la σ m.toNat 4 1 := hσd.2.2.2.2.1
    simp only [r122_13]
    repeat' (first | (simp (disch := first | omega | exact Nat.le_of_ble_eq_true rfl | exact rfl | assumption | (simp (disch := omega) only [fr_ne, fr_same]; first | assumption | omega)) only [r122_0, r122_1, r122_4, r122_5, r122_8, v122_8_5, r122_11, r122_12i, r122_14, r122_15, r122_21, r122_22, r122_25, r122_28, r122_29, r122_32, r122_33, r122_34, r122_35, r122_38, r122_39, r122_42, r122_45, v122_45_8, r122_48, r122_49, r122_50i, r122_52, r122_54, r122_58, r122_60, r122_61, r122_64, r122_70, r122_72, r122_73, r122_74, r122_77, r122_80, r122_84, r122_85, r122_88, r122_91, r122_92, r122_93, r122_96, r122_97, r122_100, r122_101, r122_104, r122_105, r122_108, r122_111, v122_111_8, r122_114, v122_114_7, r122_117, r122_117A, r122_118i, r122_121, r122_124, r122_125, r122_128, r122_131, g9_26_9, g9_22_9, g9_29_9, g9_58_5, g9_15_9, g9_61_5, g9_9_9, g9_114_5, o9_len, o9_g3, o9_g2, o9_g4, o5_len, o5_g5, o9_g1, o5_g3, o9_g0, o5_g6, il_s, bl_s, bl_z, ll_s, is_s, bs_s, bs_z, ls_s, al_s, al_b, al_l, fr_ne, fr_same, fr_fr, Nat.reduceEqDiff, tc_gf3_s, tc_ql2_s, tc_ws_0, tc_ws_i, tc_ws_l, tc_ws_r, Nat.reduceLeDiff, Nat.reduceAdd, Nat.reduceLT, true_and, and_true, if_true, if_false, tc_K, Option.toList_some, Option.toList_none, List.nil_append, List.cons_append, ite_true, ite_false, Int.cast_ofNat_Int, reduceIte, i3_add_eq, i3_sub_eq, Int.add_sub_cancel, Int.add_neg_cancel_right, hO hL60 h60, hOs h60, SanS_g0 h65, SanS_s0 h65, SanS_g1 h65, SanS_s1 h65, SanS_g2 h65, SanS_s2 h65, SanS_g3 h65, SanS_s3 h65, d4, m5]) | (simp only [r122_18, r122_55, r122_67, r122_81, i6_lt0, i6_0lt, i6_0le, i6_le0, i6_eq0, b10_0, ite_not, Int.reduceLT, Int.reduceLE, Int.reduceEq, Int.reduceNeg, if_true, if_false, ite_true, ite_false, reduceIte, eq_self, not_true, not_false_eq_true]; try refine tc_ite (fun _ => ?_) (fun _ => ?_) <;> try (exfalso; omega)))
    exact hq d _ hf (Or.inl rfl)
end TRIALS

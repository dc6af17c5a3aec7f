/-! the class: rule -/
section LAWS7
variable {L : Nat} {sh : Nat → SH} {c : Nat → Int → Int} {n : Nat} {Q : Option AV → List SC → Nat → Prop} {g : Int → Int} {N p m z f p' m' k : Int} {X Y : List Tk} {l l' : Law}
theorem c17_l (hL : 115 ≤ L) {t0 : Option Nat} (h70 : sh 70 = (6, 2, [t0, some 71, some 72, some 73])) (h27 : sh 27 = (1, 400, [])) (hN : 0 ≤ N ∧ N ≤ 400) : tc_C 17 [rf 70, rf 27, .inl N] (hp L sh c) n Q = Q none (hp L (fs sh 70 (6, 2, [some 27, some 71, some 72, some 73])) (fr c 70 (fu (fu (fu (fu (c 70) 1 N) 2 0) 3 0) 4 0))) n := tc_det fun Q hq => by
  have hL70 : 70 < L := by omega
  have hL27 : 27 < L := by omega
  have e1 : (if (400 : Int) < N then 400 else N) = N := if_neg (by omega)
  generalize hS1 : fs sh 70 (6, 2, [some 27, some 71, some 72, some 73]) = S1 at hq
  have h70' : S1 70 = (6, 2, [some 27, some 71, some 72, some 73]) := by rw [← hS1, fs_same]
  have h27' : S1 27 = (1, 400, []) := by rw [← hS1, fs_ne (by omega)]; exact h27
  show tc_W 17 0 [rf 70, rf 27, .inl N] [] _ _ Q
  repeat' (simp (disch := first | omega | exact Nat.le_of_ble_eq_true rfl | exact rfl | assumption | (simp (disch := omega) only [fr_ne, fr_same]; first | assumption | omega)) only [r17_0, r17_1, r17_2, r17_5, r17_6, r17_7, r17_7A, r17_10, r17_11, r17_14, r17_15, r17_16, r17_17, r17_20, r17_23, r17_24, r17_25, r17_28, r17_29, r17_30, r17_33, r17_34, r17_35, r17_38, p12_9_0, p12_9_2, p12_15_0, p12_15_2, p12_19_0, p12_19_2, p12_22_0, p12_22_2, p12_25_0, p12_25_2, o0_len, o0_s0, o2_len, o2_s0, o0_s1, o2_s1, o0_s2, o2_s2, o0_s3, o2_s3, o0_s4, o2_s4, il_s, bl_s, bl_z, ll_s, is_s, bs_s, bs_z, ls_s, al_s, al_b, al_l, fr_ne, fr_same, fr_fr, Nat.reduceEqDiff, tc_gf3_s, tc_ql2_s, tc_ws_0, tc_ws_i, tc_ws_l, tc_ws_r, Nat.reduceLeDiff, Nat.reduceAdd, Nat.reduceLT, true_and, and_true, if_true, if_false, tc_K, Option.toList_some, Option.toList_none, List.nil_append, List.cons_append, ite_true, ite_false, Int.cast_ofNat_Int, reduceIte, i3_add_eq, i3_sub_eq, Int.add_sub_cancel, Int.add_neg_cancel_right, hO hL70 h70, hOr, fr_id, hS1, hB hL27 h27', e1, hO hL70 h70', hOs h70'])
  exact hq
/-- the end of a reading without a fault: the rule -/
theorem c50_e (hR : LRd L sh) (hD : LDL c g N p m l) (hk : k = l.length) (hk12 : k ≤ 12) (hm : m ≤ 60) (hp0 : p ≤ 400) (hz : 3 * tz l ≤ 7 * m + p) (hok : LOk l) (hvc : ∀ q ∈ l, vcn q.1 ≤ 60 ∧ vcn q.2 ≤ 60)
    (hq : ∀ sh' e n', n ≤ n' → n' ≤ n + 500 → (∀ a, a < L → sh' a = sh a) → (∀ a, a < L → ¬ a = 72 → e a = c a) → CL (L + 3) sh' e L l → Q (some (rf L)) (hp (L + 3) sh' e) n') {a4 : AV} : tc_W 50 64 [rf 70, rf 27, .inl N, .inl k, a4] [] (hp L sh c) n Q := by
  obtain ⟨hL, h70, h27, h71, h72, h73⟩ := id hR
  have hL70 : 70 < L := by omega
  have hL72 : 72 < L := by omega
  have hL71 : 71 < L := by omega
  obtain ⟨d27, d1, d2, d4, d8, d9, dc⟩ := id hD
  have htz := tz_nn l
  obtain ⟨tzn, htn⟩ : ∃ t : Nat, tz l = (t : Int) := ⟨(tz l).toNat, (Int.toNat_of_nonneg htz).symm⟩
  have htn4 : tzn ≤ 273 := by omega
  generalize hc1 : fr c 72 (fu (c 72) (2 * k) (tz l)) = c1
  have x8 : c1 70 8 = (tzn : Int) := by rw [← hc1, fr_ne (by omega), d8, htn]
  repeat' (first | (simp (disch := first | omega | exact Nat.le_of_ble_eq_true rfl | exact rfl | assumption | (simp (disch := omega) only [fr_ne, fr_same]; first | assumption | omega)) only [r50_0, r50_1, r50_2, r50_3, v50_3_2, r50_6, r50_7, r50_8, r50_11, r50_12, r50_13, r50_16, r50_17i, r50_18, r50_19i, r50_26, r50_27, r50_32, r50_33, r50_34, v50_34_2, r50_37i, r50_40, r50_41, v50_41_2, r50_44i, r50_46, r50_49, r50_50, r50_56, r50_57, r50_62, r50_63, r50_64, r50_65, r50_68, r50_69, r50_70, r50_71, r50_72, r50_75, r50_76, r50_79, r50_79A, r50_80, r50_81, r50_84, r50_85, r50_88, r50_91, r50_92, r50_95, r50_96, r50_97, r50_98, r50_99, r50_100, r50_103, r50_106, p2_21_2, p2_25_2, g2_46_0, g2_46_2, g2_15_2, g2_21_2, g2_9_2, o2_len, o2_s8, o2_s9, o0_len, o0_g4, o2_g4, o2_g6, o2_g8, o2_g5, il_s, bl_s, bl_z, ll_s, is_s, bs_s, bs_z, ls_s, al_s, al_b, al_l, fr_ne, fr_same, fr_fr, Nat.reduceEqDiff, tc_gf3_s, tc_ql2_s, tc_ws_0, tc_ws_i, tc_ws_l, tc_ws_r, Nat.reduceLeDiff, Nat.reduceAdd, Nat.reduceLT, true_and, and_true, if_true, if_false, tc_K, Option.toList_some, Option.toList_none, List.nil_append, List.cons_append, ite_true, ite_false, Int.cast_ofNat_Int, reduceIte, i3_add_eq, i3_sub_eq, Int.add_sub_cancel, Int.add_neg_cancel_right, hO hL70 h70, hI hL72 h72, hIs h72, i3_mul_eq, d8, hc1, o1_new, nap_o, hp_len, x8]) | (simp only [r50_23, r50_29, r50_53, r50_59, i6_lt0, i6_0lt, i6_0le, i6_le0, i6_eq0, b10_0, ite_not, Int.reduceLT, Int.reduceLE, Int.reduceEq, Int.reduceNeg, if_true, if_false, ite_true, ite_false, reduceIte, eq_self, not_true, not_false_eq_true]; try refine tc_ite (fun _ => ?_) (fun _ => ?_) <;> try (exfalso; omega)))
  all_goals try omega
  generalize hS1 : fs sh L (6, 1, [none, none]) = S1
  generalize hc2 : fr c1 L (fun _ => 0) = c2
  have s1 : ∀ a, a < L → S1 a = sh a := fun a ha => by rw [← hS1, fs_ne (by omega)]
  have r1 : ∀ a, a < L → c2 a = c1 a := fun a ha => by rw [← hc2, fr_ne (by omega)]
  have hL70' : 70 < L + 1 := by omega
  have hL71' : 71 < L + 1 := by omega
  have g70 : S1 70 = (6, 2, [some 27, some 71, some 72, some 73]) := by rw [s1 70 hL70]; exact h70
  have x8' : c2 70 8 = (tzn : Int) := by rw [r1 70 hL70]; exact x8
  have h64 := fun n Q => c64 (L := L + 1) (sh := S1) (c := c2) (n := n) (Q := Q) (a := 71) (M := 400) (m := tzn) hL71' (by rw [s1 71 hL71]; exact h71) (by omega) (by omega)
  generalize hS2 : fs S1 (L + 1) (0, tzn, []) = S2 at h64
  generalize hc3 : fr c2 (L + 1) (c2 71) = c3 at h64
  have s2 : ∀ a, a < L + 1 → S2 a = S1 a := fun a ha => by rw [← hS2, fs_ne (by omega)]
  have r2 : ∀ a, a < L + 1 → c3 a = c2 a := fun a ha => by rw [← hc3, fr_ne (by omega)]
  have hL70'' : 70 < L + 1 + 1 := by omega
  have hL72'' : 72 < L + 1 + 1 := by omega
  have g70' : S2 70 = (6, 2, [some 27, some 71, some 72, some 73]) := by rw [s2 70 (by omega)]; exact g70
  obtain ⟨kn, hkn⟩ : ∃ t : Nat, 2 * k + 1 = (t : Int) := ⟨(2 * k + 1).toNat, (Int.toNat_of_nonneg (by omega)).symm⟩
  have h64b := fun n Q => c64 (L := L + 1 + 1) (sh := S2) (c := c3) (n := n) (Q := Q) (a := 72) (M := 25) (m := kn) hL72'' (by rw [s2 72 (by omega), s1 72 hL72]; exact h72) (by omega) (by omega)
  generalize hS3 : fs S2 (L + 1 + 1) (0, kn, []) = S3 at h64b
  generalize hc4 : fr c3 (L + 1 + 1) (c3 72) = c4 at h64b
  have s3 : ∀ a, a < L + 1 + 1 → S3 a = S2 a := fun a ha => by rw [← hS3, fs_ne (by omega)]
  have r3 : ∀ a, a < L + 1 + 1 → c4 a = c3 a := fun a ha => by rw [← hc4, fr_ne (by omega)]
  repeat' (first | (simp (disch := first | omega | exact Nat.le_of_ble_eq_true rfl | exact rfl | assumption | (simp (disch := omega) only [fr_ne, fr_same]; first | assumption | omega)) only [r50_0, r50_1, r50_2, r50_3, v50_3_2, r50_6, r50_7, r50_8, r50_11, r50_12, r50_13, r50_16, r50_17i, r50_18, r50_19i, r50_26, r50_27, r50_32, r50_33, r50_34, v50_34_2, r50_37i, r50_40, r50_41, v50_41_2, r50_44i, r50_46, r50_49, r50_50, r50_56, r50_57, r50_62, r50_63, r50_64, r50_65, r50_68, r50_69, r50_70, r50_71, r50_72, r50_75, r50_76, r50_79, r50_79A, r50_80, r50_81, r50_84, r50_85, r50_88, r50_91, r50_92, r50_95, r50_96, r50_97, r50_98, r50_99, r50_100, r50_103, r50_106, p2_21_2, p2_25_2, g2_46_0, g2_46_2, g2_15_2, g2_21_2, g2_9_2, o2_len, o2_s8, o2_s9, o0_len, o0_g4, o2_g4, o2_g6, o2_g8, o2_g5, il_s, bl_s, bl_z, ll_s, is_s, bs_s, bs_z, ls_s, al_s, al_b, al_l, fr_ne, fr_same, fr_fr, Nat.reduceEqDiff, tc_gf3_s, tc_ql2_s, tc_ws_0, tc_ws_i, tc_ws_l, tc_ws_r, Nat.reduceLeDiff, Nat.reduceAdd, Nat.reduceLT, true_and, and_true, if_true, if_false, tc_K, Option.toList_some, Option.toList_none, List.nil_append, List.cons_append, ite_true, ite_false, Int.cast_ofNat_Int, reduceIte, i3_add_eq, i3_sub_eq, Int.add_sub_cancel, Int.add_neg_cancel_right, hO hL70' g70, x8', h64, hO hL70'' g70', i3_mul_eq, hkn, h64b]) | (simp only [r50_23, r50_29, r50_53, r50_59, i6_lt0, i6_0lt, i6_0le, i6_le0, i6_eq0, b10_0, ite_not, Int.reduceLT, Int.reduceLE, Int.reduceEq, Int.reduceNeg, if_true, if_false, ite_true, ite_false, reduceIte, eq_self, not_true, not_false_eq_true]; try refine tc_ite (fun _ => ?_) (fun _ => ?_) <;> try (exfalso; omega)))
  all_goals try omega
  have hr4 : S3 L = (6, 1, [none, none]) := by rw [s3 L (by omega), s2 L (by omega), ← hS1, fs_same]
  have ha4 : S3 (L + 1) = (0, tzn, []) := by rw [s3 (L + 1) (by omega), ← hS2, fs_same]
  have hb4 : S3 (L + 1 + 1) = (0, kn, []) := by rw [← hS3, fs_same]
  refine c65 (L := L + 1 + 1 + 1) (r := L) (a1 := L + 1) (a2 := L + 1 + 1) (m1 := tzn) (by omega) (by omega) hr4 ha4 (by omega) (by omega) ?_
  intro F hF
  repeat' (first | (simp (disch := first | omega | exact Nat.le_of_ble_eq_true rfl | exact rfl | assumption | (simp (disch := omega) only [fr_ne, fr_same]; first | assumption | omega)) only [r50_0, r50_1, r50_2, r50_3, v50_3_2, r50_6, r50_7, r50_8, r50_11, r50_12, r50_13, r50_16, r50_17i, r50_18, r50_19i, r50_26, r50_27, r50_32, r50_33, r50_34, v50_34_2, r50_37i, r50_40, r50_41, v50_41_2, r50_44i, r50_46, r50_49, r50_50, r50_56, r50_57, r50_62, r50_63, r50_64, r50_65, r50_68, r50_69, r50_70, r50_71, r50_72, r50_75, r50_76, r50_79, r50_79A, r50_80, r50_81, r50_84, r50_85, r50_88, r50_91, r50_92, r50_95, r50_96, r50_97, r50_98, r50_99, r50_100, r50_103, r50_106, p2_21_2, p2_25_2, g2_46_0, g2_46_2, g2_15_2, g2_21_2, g2_9_2, o2_len, o2_s8, o2_s9, o0_len, o0_g4, o2_g4, o2_g6, o2_g8, o2_g5, il_s, bl_s, bl_z, ll_s, is_s, bs_s, bs_z, ls_s, al_s, al_b, al_l, fr_ne, fr_same, fr_fr, Nat.reduceEqDiff, tc_gf3_s, tc_ql2_s, tc_ws_0, tc_ws_i, tc_ws_l, tc_ws_r, Nat.reduceLeDiff, Nat.reduceAdd, Nat.reduceLT, true_and, and_true, if_true, if_false, tc_K, Option.toList_some, Option.toList_none, List.nil_append, List.cons_append, ite_true, ite_false, Int.cast_ofNat_Int, reduceIte, i3_add_eq, i3_sub_eq, Int.add_sub_cancel, Int.add_neg_cancel_right]) | (simp only [r50_23, r50_29, r50_53, r50_59, i6_lt0, i6_0lt, i6_0le, i6_le0, i6_eq0, b10_0, ite_not, Int.reduceLT, Int.reduceLE, Int.reduceEq, Int.reduceNeg, if_true, if_false, ite_true, ite_false, reduceIte, eq_self, not_true, not_false_eq_true]; try refine tc_ite (fun _ => ?_) (fun _ => ?_) <;> try (exfalso; omega)))
  have q1 : c4 (L + 1) = c 71 := by rw [r3 (L + 1) (by omega), ← hc3, fr_same, r1 71 hL71, ← hc1, fr_ne (by omega)]
  have q2 : c4 (L + 1 + 1) = fu (c 72) (2 * k) (tz l) := by rw [← hc4, fr_same, r2 72 (by omega), r1 72 hL72, ← hc1, fr_same]
  have hc72 : clr (c 71) (fu (c 72) (2 * k) (tz l)) l 0 0 := clr_ex l 0 0 (by omega) (by omega) (fun _ _ _ => rfl) (fun i i1 i2 => fu_ne (by omega)) dc
  have hend : fu (c 72) (2 * k) (tz l) (2 * (0 + (l.length : Int))) = 0 + tz l := by
    rw [show 2 * (0 + (l.length : Int)) = 2 * k by omega, fu_same]
    omega
  refine hq _ _ _ (by omega) (by omega) (fun a ha => ?_) (fun a ha hn => ?_) ⟨hL, tzn, l.length, ⟨by omega, ?_, ?_, ?_⟩, by omega, by omega, ?_, ?_, hok, hvc, ?_⟩
  · rw [fs_ne (by omega), s3 a (by omega), s2 a (by omega), s1 a ha]
  · rw [fr_ne (by omega), r3 a (by omega), r2 a (by omega), r1 a ha, ← hc1, fr_ne hn]
  · exact fs_same _ _ _
  · rw [fs_ne (by omega)]
    exact ha4
  · rw [fs_ne (by omega)]
    show S3 (L + 1 + 1) = _
    rw [hb4]
    congr 2
    omega
  · have := clr_cla (c := fr c4 L F) (r := L) l 0 0 (by rw [fr_ne (show ¬ L + 1 = L by omega), fr_ne (show ¬ L + 2 = L by omega), q1]; show clr (c 71) (c4 (L + 1 + 1)) l 0 0; rw [q2]; exact hc72) (by rw [fr_ne (show ¬ L + 2 = L by omega)]; show c4 (L + 1 + 1) _ = _; rw [q2]; exact hend)
    exact this
  · intro x x1 x2
    rw [fr_ne (show ¬ L + 2 = L by omega)]
    show 0 ≤ c4 (L + 1 + 1) x ∧ c4 (L + 1 + 1) x ≤ c4 (L + 1 + 1) (x + 1) ∧ c4 (L + 1 + 1) (x + 1) ≤ tzn
    rw [q2]
    have := clr_mono l 0 0 (by omega) hc72 hend x (by omega) (by omega)
    omega
  · intro w w1 w2 hex
    obtain ⟨j, j1, j2, j3⟩ := clr_mem l 0 0 dc hex
    obtain ⟨k1, k2, k3⟩ := ctk_1 j3
    rw [fr_same, hF, mk_i3bit (by omega) w1 (by omega), q1, if_pos]
    refine ⟨by omega, ?_⟩
    have := msk_of (g := c 71) tzn j.toNat (by omega) (by rw [Int.toNat_of_nonneg j1]; exact k1) (by rw [Int.toNat_of_nonneg j1]; exact k2)
    rw [Int.toNat_of_nonneg j1] at this
    rw [k3]
    exact this
theorem c50_l (hR : LRd L sh) (hST : STRS sh c) (hTP : TP g N) {K : Nat} (hK : N ≤ K) (hq1 : ¬ f = 0 → ∀ e, LQL c e → e 70 4 = f → Q (some (.inr (.inr (.inl none)))) (hp L sh e) n)
    (hq : f = 0 → ∀ sh' e n', n ≤ n' → n' ≤ n + 500 → (∀ a, a < L → sh' a = sh a) → (∀ a, a < L → ¬ a = 70 → ¬ a = 71 → ¬ a = 72 → ¬ a = 73 → e a = c a) → CL (L + 3) sh' e L l' → Q (some (rf L)) (hp (L + 3) sh' e) n') : ∀ (j : Nat) (k p m : Int) (l : Law) (d : Nat → Int → Int), k + j = 13 → LDL d g N p m l → LQL c d → k = l.length → 0 ≤ p → p ≤ N → 0 ≤ m → m ≤ 60 → 3 * tz l ≤ 7 * m + p → LOk l → (∀ q ∈ l, vcn q.1 ≤ 60 ∧ vcn q.2 ≤ 60) → lpr g N K j k p m l = (f, l') → k ≤ 12 → tc_W 50 21 [rf 70, rf 27, .inl N, .inl k, .inl 1] [] (hp L sh d) n Q := by
  obtain ⟨hL, h70, h27, h71, h72, h73⟩ := id hR
  have hL70 : 70 < L := by omega
  have hN := hTP.1
  intro j
  induction j with
  | zero => intro k p m l d hk _ _ _ _ _ _ _ _ _ _ _ h12; omega
  | succ j ih =>
    intro k p m l d hk hD hLQ hkl hp1 hp2 hm1 hm2 hz hok hvc hr h12
    rcases hrc : rcl g N K k p m with ⟨f1, p1, m1, X, Y⟩
    rw [lpr_st hrc] at hr
    have hST1 : STRS sh d := fun a ha => ⟨(hST a ha).1, by rw [hLQ.1 a (by omega) (by omega) (by omega) (by omega)]; exact (hST a ha).2⟩
    simp only [r50_21]
    repeat' (first | (simp (disch := first | omega | exact Nat.le_of_ble_eq_true rfl | exact rfl | assumption | (simp (disch := omega) only [fr_ne, fr_same]; first | assumption | omega)) only [r50_0, r50_1, r50_2, r50_3, v50_3_2, r50_6, r50_7, r50_8, r50_11, r50_12, r50_13, r50_16, r50_17i, r50_18, r50_19i, r50_26, r50_27, r50_32, r50_33, r50_34, v50_34_2, r50_37i, r50_40, r50_41, v50_41_2, r50_44i, r50_46, r50_49, r50_50, r50_56, r50_57, r50_62, r50_63, r50_65, r50_68, r50_69, r50_70, r50_71, r50_72, r50_75, r50_76, r50_79, r50_79A, r50_80, r50_81, r50_84, r50_85, r50_88, r50_91, r50_92, r50_95, r50_96, r50_97, r50_98, r50_99, r50_100, r50_103, r50_106, p2_21_2, p2_25_2, g2_46_0, g2_46_2, g2_15_2, g2_21_2, g2_9_2, o2_len, o2_s8, o2_s9, o0_len, o0_g4, o2_g4, o2_g6, o2_g8, o2_g5, il_s, bl_s, bl_z, ll_s, is_s, bs_s, bs_z, ls_s, al_s, al_b, al_l, fr_ne, fr_same, fr_fr, Nat.reduceEqDiff, tc_gf3_s, tc_ql2_s, tc_ws_0, tc_ws_i, tc_ws_l, tc_ws_r, Nat.reduceLeDiff, Nat.reduceAdd, Nat.reduceLT, true_and, and_true, if_true, if_false, tc_K, Option.toList_some, Option.toList_none, List.nil_append, List.cons_append, ite_true, ite_false, Int.cast_ofNat_Int, reduceIte, i3_add_eq, i3_sub_eq, Int.add_sub_cancel, Int.add_neg_cancel_right, hO hL70 h70]) | (simp only [r50_23, r50_29, r50_53, r50_59, i6_lt0, i6_0lt, i6_0le, i6_le0, i6_eq0, b10_0, ite_not, Int.reduceLT, Int.reduceLE, Int.reduceEq, Int.reduceNeg, if_true, if_false, ite_true, ite_false, reduceIte, eq_self, not_true, not_false_eq_true]; try refine tc_ite (fun _ => ?_) (fun _ => ?_) <;> try (exfalso; omega)))
    all_goals try omega
    refine c51 (c := d) hR hST1 hTP hD ⟨hp1, hp2⟩ ⟨hm1, hm2⟩ hz hkl h12 hK hrc ?_
    intro e k1 k2 k3 k4
    have hLe := hLQ.trans k1
    have e27 : e 27 = g := by rw [k1.1 27 (by omega) (by omega) (by omega) (by omega)]; exact hD.1
    have e1N : e 70 1 = N := by rw [k1.2]; exact hD.2.1
    by_cases hf1 : f1 = 0
    · subst hf1
      rw [if_neg (fun x => x rfl)] at hr
      obtain ⟨b1, b2, b3, b4, b5, b6, b7⟩ := rcl_g (z := tz l) hrc ⟨hp1, hp2⟩ hK hz
      have hD2 := k4 rfl
      have h45 := fun Q => c45_l (c := e) (n := n) (Q := Q) (N := N) (p := p1) h70 h27 hL (by rw [e27]; exact hTP) e1N hD2.2.2.1 (by omega) k3
      rw [e27] at h45
      have hs := nm_rng (g := g) (p := p1) (N := N) (by omega)
      have hkr := sk_rng (g := g) (n := N) (p := p1)
      generalize hq0 : sk g N p1 = q at hr h45 hs hkr
      have htz2 : tz (l ++ [(X, Y)]) = tz l + X.length + Y.length := by
        rw [tz_app]
        show tz l + ((X.length : Int) + Y.length) = _
        omega
      have hlen2 : (((l ++ [(X, Y)]).length : Nat) : Int) = l.length + 1 := by
        rw [List.length_append]
        rfl
      have hok2 : LOk (l ++ [(X, Y)]) := fun q hq => by
        rcases List.mem_append.mp hq with x | x
        · exact hok q x
        · rw [List.mem_singleton.mp x]
          exact ⟨b5, b6⟩
      have hvx := vcn_nn X
      have hvy := vcn_nn Y
      have hvc2 : ∀ q ∈ l ++ [(X, Y)], vcn q.1 ≤ 60 ∧ vcn q.2 ≤ 60 := fun q hq => by
        rcases List.mem_append.mp hq with x | x
        · exact hvc q x
        · rw [List.mem_singleton.mp x]
          show vcn X ≤ 60 ∧ vcn Y ≤ 60
          omega
      have hDe : ∀ F2 p2, LDL (fr e 70 (fu (fu (e 70) 4 F2) 2 p2)) g N p2 m1 (l ++ [(X, Y)]) ∨ ¬ F2 = 0 := fun F2 p2 => by
        by_cases hF2 : F2 = 0
        · obtain ⟨l1, l2, l3, l4, l5, l6, l7⟩ := hD2
          refine Or.inl ⟨l1, by rw [fr_same, fu_ne (by omega), fu_ne (by omega)]; exact l2, by rw [fr_same, fu_same], by rw [fr_same, fu_ne (by omega), fu_same]; exact hF2, by rw [fr_same, fu_ne (by omega), fu_ne (by omega)]; exact l5, by rw [fr_same, fu_ne (by omega), fu_ne (by omega)]; exact l6, l7⟩
        · exact Or.inr hF2
      have hLs : ∀ F, F 1 = e 70 1 → LQL c (fr e 70 F) := fun F h1 => hLe.trans ⟨fun a x1 _ _ _ => fr_ne x1, by rw [fr_same]; exact h1⟩
      by_cases hgf : gof g N q = 0
      · rw [if_neg (fun x => x hgf)] at hr
        rw [hgf] at h45
        rcases gon_01 g N q with hgn | hgn
        · rw [if_neg (by omega)] at hr
          rw [hgn, if_neg (by omega)] at h45
          injection hr with hr1 hr2
          have hD3 : LDL (fr e 70 (fu (fu (e 70) 4 0) 2 q)) g N q m1 (l ++ [(X, Y)]) := by
            rcases hDe 0 q with x | x
            · exact x
            · exact absurd rfl x
          have e34 := hD3.2.2.2.1
          have fin := fun (a4 : AV) => c50_e (n := n) (Q := Q) (k := k + 1) (a4 := a4) hR hD3 (by omega) (by omega) (by omega) (by omega) (by omega) hok2 hvc2 fun sh' e2 n' y1 y2 y3 y4 y5 => by
            rw [hr2] at y5
            exact hq hr1.symm sh' e2 n' y1 y2 y3 (fun a a0 a1 a2 a3 a4 => by rw [y4 a a0 a3, fr_ne a1]; exact hLe.1 a a1 a2 a3 a4) y5
          repeat' (first | (simp (disch := first | omega | exact Nat.le_of_ble_eq_true rfl | exact rfl | assumption | (simp (disch := omega) only [fr_ne, fr_same]; first | assumption | omega)) only [r50_0, r50_1, r50_2, r50_3, v50_3_2, r50_6, r50_7, r50_8, r50_11, r50_12, r50_13, r50_16, r50_17i, r50_18, r50_19i, r50_26, r50_27, r50_32, r50_33, r50_34, v50_34_2, r50_37i, r50_40, r50_41, v50_41_2, r50_44i, r50_46, r50_49, r50_50, r50_56, r50_57, r50_62, r50_63, r50_65, r50_68, r50_69, r50_70, r50_71, r50_72, r50_75, r50_76, r50_79, r50_79A, r50_80, r50_81, r50_84, r50_85, r50_88, r50_91, r50_92, r50_95, r50_96, r50_97, r50_98, r50_99, r50_100, r50_103, r50_106, p2_21_2, p2_25_2, g2_46_0, g2_46_2, g2_15_2, g2_21_2, g2_9_2, o2_len, o2_s8, o2_s9, o0_len, o0_g4, o2_g4, o2_g6, o2_g8, o2_g5, il_s, bl_s, bl_z, ll_s, is_s, bs_s, bs_z, ls_s, al_s, al_b, al_l, fr_ne, fr_same, fr_fr, Nat.reduceEqDiff, tc_gf3_s, tc_ql2_s, tc_ws_0, tc_ws_i, tc_ws_l, tc_ws_r, Nat.reduceLeDiff, Nat.reduceAdd, Nat.reduceLT, true_and, and_true, if_true, if_false, tc_K, Option.toList_some, Option.toList_none, List.nil_append, List.cons_append, ite_true, ite_false, Int.cast_ofNat_Int, reduceIte, i3_add_eq, i3_sub_eq, Int.add_sub_cancel, Int.add_neg_cancel_right, hO hL70 h70, h45]) | (simp only [r50_23, r50_29, r50_53, r50_59, i6_lt0, i6_0lt, i6_0le, i6_le0, i6_eq0, b10_0, ite_not, Int.reduceLT, Int.reduceLE, Int.reduceEq, Int.reduceNeg, if_true, if_false, ite_true, ite_false, reduceIte, eq_self, not_true, not_false_eq_true]; try refine tc_ite (fun _ => ?_) (fun _ => ?_) <;> try (exfalso; omega)))
          simp only [r50_21]
          repeat' (first | (simp (disch := first | omega | exact Nat.le_of_ble_eq_true rfl | exact rfl | assumption | (simp (disch := omega) only [fr_ne, fr_same]; first | assumption | omega)) only [r50_0, r50_1, r50_2, r50_3, v50_3_2, r50_6, r50_7, r50_8, r50_11, r50_12, r50_13, r50_16, r50_17i, r50_18, r50_19i, r50_26, r50_27, r50_32, r50_33, r50_34, v50_34_2, r50_37i, r50_40, r50_41, v50_41_2, r50_44i, r50_46, r50_49, r50_50, r50_56, r50_57, r50_62, r50_63, r50_65, r50_68, r50_69, r50_70, r50_71, r50_72, r50_75, r50_76, r50_79, r50_79A, r50_80, r50_81, r50_84, r50_85, r50_88, r50_91, r50_92, r50_95, r50_96, r50_97, r50_98, r50_99, r50_100, r50_103, r50_106, p2_21_2, p2_25_2, g2_46_0, g2_46_2, g2_15_2, g2_21_2, g2_9_2, o2_len, o2_s8, o2_s9, o0_len, o0_g4, o2_g4, o2_g6, o2_g8, o2_g5, il_s, bl_s, bl_z, ll_s, is_s, bs_s, bs_z, ls_s, al_s, al_b, al_l, fr_ne, fr_same, fr_fr, Nat.reduceEqDiff, tc_gf3_s, tc_ql2_s, tc_ws_0, tc_ws_i, tc_ws_l, tc_ws_r, Nat.reduceLeDiff, Nat.reduceAdd, Nat.reduceLT, true_and, and_true, if_true, if_false, tc_K, Option.toList_some, Option.toList_none, List.nil_append, List.cons_append, ite_true, ite_false, Int.cast_ofNat_Int, reduceIte, i3_add_eq, i3_sub_eq, Int.add_sub_cancel, Int.add_neg_cancel_right, hO hL70 h70, fu_ne, fu_same]) | (simp only [r50_23, r50_29, r50_53, r50_59, i6_lt0, i6_0lt, i6_0le, i6_le0, i6_eq0, b10_0, ite_not, Int.reduceLT, Int.reduceLE, Int.reduceEq, Int.reduceNeg, if_true, if_false, ite_true, ite_false, reduceIte, eq_self, not_true, not_false_eq_true]; try refine tc_ite (fun _ => ?_) (fun _ => ?_) <;> try (exfalso; omega)))
          all_goals first
            | exact fin _
            | omega
        · rw [if_pos hgn] at hr
          rw [hgn, if_pos rfl] at h45
          have hg1 := gon_1 hgn
          have hD3 : LDL (fr e 70 (fu (fu (e 70) 4 0) 2 (q + 1))) g N (q + 1) m1 (l ++ [(X, Y)]) := by
            rcases hDe 0 (q + 1) with x | x
            · exact x
            · exact absurd rfl x
          repeat' (first | (simp (disch := first | omega | exact Nat.le_of_ble_eq_true rfl | exact rfl | assumption | (simp (disch := omega) only [fr_ne, fr_same]; first | assumption | omega)) only [r50_0, r50_1, r50_2, r50_3, v50_3_2, r50_6, r50_7, r50_8, r50_11, r50_12, r50_13, r50_16, r50_17i, r50_18, r50_19i, r50_26, r50_27, r50_32, r50_33, r50_34, v50_34_2, r50_37i, r50_40, r50_41, v50_41_2, r50_44i, r50_46, r50_49, r50_50, r50_56, r50_57, r50_62, r50_63, r50_65, r50_68, r50_69, r50_70, r50_71, r50_72, r50_75, r50_76, r50_79, r50_79A, r50_80, r50_81, r50_84, r50_85, r50_88, r50_91, r50_92, r50_95, r50_96, r50_97, r50_98, r50_99, r50_100, r50_103, r50_106, p2_21_2, p2_25_2, g2_46_0, g2_46_2, g2_15_2, g2_21_2, g2_9_2, o2_len, o2_s8, o2_s9, o0_len, o0_g4, o2_g4, o2_g6, o2_g8, o2_g5, il_s, bl_s, bl_z, ll_s, is_s, bs_s, bs_z, ls_s, al_s, al_b, al_l, fr_ne, fr_same, fr_fr, Nat.reduceEqDiff, tc_gf3_s, tc_ql2_s, tc_ws_0, tc_ws_i, tc_ws_l, tc_ws_r, Nat.reduceLeDiff, Nat.reduceAdd, Nat.reduceLT, true_and, and_true, if_true, if_false, tc_K, Option.toList_some, Option.toList_none, List.nil_append, List.cons_append, ite_true, ite_false, Int.cast_ofNat_Int, reduceIte, i3_add_eq, i3_sub_eq, Int.add_sub_cancel, Int.add_neg_cancel_right, hO hL70 h70, h45]) | (simp only [r50_23, r50_29, r50_53, r50_59, i6_lt0, i6_0lt, i6_0le, i6_le0, i6_eq0, b10_0, ite_not, Int.reduceLT, Int.reduceLE, Int.reduceEq, Int.reduceNeg, if_true, if_false, ite_true, ite_false, reduceIte, eq_self, not_true, not_false_eq_true]; try refine tc_ite (fun _ => ?_) (fun _ => ?_) <;> try (exfalso; omega)))
          exact ih (k + 1) (q + 1) m1 (l ++ [(X, Y)]) _ (by omega) hD3 (hLs _ (by rw [fu_ne (by omega), fu_ne (by omega)])) (by omega) (by omega) (by omega) (by omega) (by omega) (by omega) hok2 hvc2 hr (by omega)
      · rw [if_pos hgf] at hr
        rw [gof_gon hgf, if_neg (by omega)] at h45
        injection hr with hr1 hr2
        rw [hr1] at h45 hgf
        have hq' := hq1 hgf (fr e 70 (fu (fu (e 70) 4 f) 2 q)) (hLs _ (by rw [fu_ne (by omega), fu_ne (by omega)])) (by rw [fr_same, fu_ne (by omega), fu_same])
        repeat' (first | (simp (disch := first | omega | exact Nat.le_of_ble_eq_true rfl | exact rfl | assumption | (simp (disch := omega) only [fr_ne, fr_same]; first | assumption | omega)) only [r50_0, r50_1, r50_2, r50_3, v50_3_2, r50_6, r50_7, r50_8, r50_11, r50_12, r50_13, r50_16, r50_17i, r50_18, r50_19i, r50_26, r50_27, r50_32, r50_33, r50_34, v50_34_2, r50_37i, r50_40, r50_41, v50_41_2, r50_44i, r50_46, r50_49, r50_50, r50_56, r50_57, r50_62, r50_63, r50_65, r50_68, r50_69, r50_70, r50_71, r50_72, r50_75, r50_76, r50_79, r50_79A, r50_80, r50_81, r50_84, r50_85, r50_88, r50_91, r50_92, r50_95, r50_96, r50_97, r50_98, r50_99, r50_100, r50_103, r50_106, p2_21_2, p2_25_2, g2_46_0, g2_46_2, g2_15_2, g2_21_2, g2_9_2, o2_len, o2_s8, o2_s9, o0_len, o0_g4, o2_g4, o2_g6, o2_g8, o2_g5, il_s, bl_s, bl_z, ll_s, is_s, bs_s, bs_z, ls_s, al_s, al_b, al_l, fr_ne, fr_same, fr_fr, Nat.reduceEqDiff, tc_gf3_s, tc_ql2_s, tc_ws_0, tc_ws_i, tc_ws_l, tc_ws_r, Nat.reduceLeDiff, Nat.reduceAdd, Nat.reduceLT, true_and, and_true, if_true, if_false, tc_K, Option.toList_some, Option.toList_none, List.nil_append, List.cons_append, ite_true, ite_false, Int.cast_ofNat_Int, reduceIte, i3_add_eq, i3_sub_eq, Int.add_sub_cancel, Int.add_neg_cancel_right, hO hL70 h70, h45]) | (simp only [r50_23, r50_29, r50_53, r50_59, i6_lt0, i6_0lt, i6_0le, i6_le0, i6_eq0, b10_0, ite_not, Int.reduceLT, Int.reduceLE, Int.reduceEq, Int.reduceNeg, if_true, if_false, ite_true, ite_false, reduceIte, eq_self, not_true, not_false_eq_true]; try refine tc_ite (fun _ => ?_) (fun _ => ?_) <;> try (exfalso; omega)))
        simp only [r50_21]
        repeat' (first | (simp (disch := first | omega | exact Nat.le_of_ble_eq_true rfl | exact rfl | assumption | (simp (disch := omega) only [fr_ne, fr_same]; first | assumption | omega)) only [r50_0, r50_1, r50_2, r50_3, v50_3_2, r50_6, r50_7, r50_8, r50_11, r50_12, r50_13, r50_16, r50_17i, r50_18, r50_19i, r50_26, r50_27, r50_32, r50_33, r50_34, v50_34_2, r50_37i, r50_40, r50_41, v50_41_2, r50_44i, r50_46, r50_49, r50_50, r50_56, r50_57, r50_62, r50_63, r50_65, r50_68, r50_69, r50_70, r50_71, r50_72, r50_75, r50_76, r50_79, r50_79A, r50_80, r50_81, r50_84, r50_85, r50_88, r50_91, r50_92, r50_95, r50_96, r50_97, r50_98, r50_99, r50_100, r50_103, r50_106, p2_21_2, p2_25_2, g2_46_0, g2_46_2, g2_15_2, g2_21_2, g2_9_2, o2_len, o2_s8, o2_s9, o0_len, o0_g4, o2_g4, o2_g6, o2_g8, o2_g5, il_s, bl_s, bl_z, ll_s, is_s, bs_s, bs_z, ls_s, al_s, al_b, al_l, fr_ne, fr_same, fr_fr, Nat.reduceEqDiff, tc_gf3_s, tc_ql2_s, tc_ws_0, tc_ws_i, tc_ws_l, tc_ws_r, Nat.reduceLeDiff, Nat.reduceAdd, Nat.reduceLT, true_and, and_true, if_true, if_false, tc_K, Option.toList_some, Option.toList_none, List.nil_append, List.cons_append, ite_true, ite_false, Int.cast_ofNat_Int, reduceIte, i3_add_eq, i3_sub_eq, Int.add_sub_cancel, Int.add_neg_cancel_right, hO hL70 h70, fu_ne, fu_same]) | (simp only [r50_23, r50_29, r50_53, r50_59, i6_lt0, i6_0lt, i6_0le, i6_le0, i6_eq0, b10_0, ite_not, Int.reduceLT, Int.reduceLE, Int.reduceEq, Int.reduceNeg, if_true, if_false, ite_true, ite_false, reduceIte, eq_self, not_true, not_false_eq_true]; try refine tc_ite (fun _ => ?_) (fun _ => ?_) <;> try (exfalso; omega)))
        all_goals first
          | exact hq'
          | omega
    · rw [if_pos hf1] at hr
      injection hr with hr1 hr2
      subst hr1
      have h45 := fun Q => c45f_l (c := e) (n := n) (Q := Q) h70 h27 hL (by rw [k3]; exact hf1)
      have hq' := hq1 hf1 e hLe k3
      repeat' (first | (simp (disch := first | omega | exact Nat.le_of_ble_eq_true rfl | exact rfl | assumption | (simp (disch := omega) only [fr_ne, fr_same]; first | assumption | omega)) only [r50_0, r50_1, r50_2, r50_3, v50_3_2, r50_6, r50_7, r50_8, r50_11, r50_12, r50_13, r50_16, r50_17i, r50_18, r50_19i, r50_26, r50_27, r50_32, r50_33, r50_34, v50_34_2, r50_37i, r50_40, r50_41, v50_41_2, r50_44i, r50_46, r50_49, r50_50, r50_56, r50_57, r50_62, r50_63, r50_65, r50_68, r50_69, r50_70, r50_71, r50_72, r50_75, r50_76, r50_79, r50_79A, r50_80, r50_81, r50_84, r50_85, r50_88, r50_91, r50_92, r50_95, r50_96, r50_97, r50_98, r50_99, r50_100, r50_103, r50_106, p2_21_2, p2_25_2, g2_46_0, g2_46_2, g2_15_2, g2_21_2, g2_9_2, o2_len, o2_s8, o2_s9, o0_len, o0_g4, o2_g4, o2_g6, o2_g8, o2_g5, il_s, bl_s, bl_z, ll_s, is_s, bs_s, bs_z, ls_s, al_s, al_b, al_l, fr_ne, fr_same, fr_fr, Nat.reduceEqDiff, tc_gf3_s, tc_ql2_s, tc_ws_0, tc_ws_i, tc_ws_l, tc_ws_r, Nat.reduceLeDiff, Nat.reduceAdd, Nat.reduceLT, true_and, and_true, if_true, if_false, tc_K, Option.toList_some, Option.toList_none, List.nil_append, List.cons_append, ite_true, ite_false, Int.cast_ofNat_Int, reduceIte, i3_add_eq, i3_sub_eq, Int.add_sub_cancel, Int.add_neg_cancel_right, hO hL70 h70, h45]) | (simp only [r50_23, r50_29, r50_53, r50_59, i6_lt0, i6_0lt, i6_0le, i6_le0, i6_eq0, b10_0, ite_not, Int.reduceLT, Int.reduceLE, Int.reduceEq, Int.reduceNeg, if_true, if_false, ite_true, ite_false, reduceIte, eq_self, not_true, not_false_eq_true]; try refine tc_ite (fun _ => ?_) (fun _ => ?_) <;> try (exfalso; omega)))
      simp only [r50_21]
      repeat' (first | (simp (disch := first | omega | exact Nat.le_of_ble_eq_true rfl | exact rfl | assumption | (simp (disch := omega) only [fr_ne, fr_same]; first | assumption | omega)) only [r50_0, r50_1, r50_2, r50_3, v50_3_2, r50_6, r50_7, r50_8, r50_11, r50_12, r50_13, r50_16, r50_17i, r50_18, r50_19i, r50_26, r50_27, r50_32, r50_33, r50_34, v50_34_2, r50_37i, r50_40, r50_41, v50_41_2, r50_44i, r50_46, r50_49, r50_50, r50_56, r50_57, r50_62, r50_63, r50_65, r50_68, r50_69, r50_70, r50_71, r50_72, r50_75, r50_76, r50_79, r50_79A, r50_80, r50_81, r50_84, r50_85, r50_88, r50_91, r50_92, r50_95, r50_96, r50_97, r50_98, r50_99, r50_100, r50_103, r50_106, p2_21_2, p2_25_2, g2_46_0, g2_46_2, g2_15_2, g2_21_2, g2_9_2, o2_len, o2_s8, o2_s9, o0_len, o0_g4, o2_g4, o2_g6, o2_g8, o2_g5, il_s, bl_s, bl_z, ll_s, is_s, bs_s, bs_z, ls_s, al_s, al_b, al_l, fr_ne, fr_same, fr_fr, Nat.reduceEqDiff, tc_gf3_s, tc_ql2_s, tc_ws_0, tc_ws_i, tc_ws_l, tc_ws_r, Nat.reduceLeDiff, Nat.reduceAdd, Nat.reduceLT, true_and, and_true, if_true, if_false, tc_K, Option.toList_some, Option.toList_none, List.nil_append, List.cons_append, ite_true, ite_false, Int.cast_ofNat_Int, reduceIte, i3_add_eq, i3_sub_eq, Int.add_sub_cancel, Int.add_neg_cancel_right, hO hL70 h70, k3]) | (simp only [r50_23, r50_29, r50_53, r50_59, i6_lt0, i6_0lt, i6_0le, i6_le0, i6_eq0, b10_0, ite_not, Int.reduceLT, Int.reduceLE, Int.reduceEq, Int.reduceNeg, if_true, if_false, ite_true, ite_false, reduceIte, eq_self, not_true, not_false_eq_true]; try refine tc_ite (fun _ => ?_) (fun _ => ?_) <;> try (exfalso; omega)))
      all_goals first
        | exact hq'
        | omega
theorem c50 (hL : 115 ≤ L) {t0 : Option Nat} (h70 : sh 70 = (6, 2, [t0, some 71, some 72, some 73])) (h27 : sh 27 = (1, 400, [])) (h71 : sh 71 = (0, 400, [])) (h72 : sh 72 = (0, 25, [])) (h73 : sh 73 = (0, 10, [])) (hST : STRS sh c) (hTP : TP (c 27) N) (hb : lpr (c 27) N 400 13 0 0 0 [] = (f, l'))
    (hq1 : ¬ f = 0 → ∀ sh' e, (∀ a, ¬ a = 70 → sh' a = sh a) → sh' 70 = (6, 2, [some 27, some 71, some 72, some 73]) → (∀ a, ¬ a = 70 → ¬ a = 71 → ¬ a = 72 → ¬ a = 73 → e a = c a) → e 70 4 = f → Q (some (.inr (.inr (.inl none)))) (hp L sh' e) n)
    (hq : f = 0 → ∀ sh' e n', n ≤ n' → n' ≤ n + 500 → (∀ a, a < L → ¬ a = 70 → sh' a = sh a) → sh' 70 = (6, 2, [some 27, some 71, some 72, some 73]) → (∀ a, a < L → ¬ a = 70 → ¬ a = 71 → ¬ a = 72 → ¬ a = 73 → e a = c a) → CL (L + 3) sh' e L l' → Q (some (rf L)) (hp (L + 3) sh' e) n') : tc_C 50 [rf 70, rf 27, .inl N] (hp L sh c) n Q := by
  have hL70 : 70 < L := by omega
  have h17 := fun Q => c17_l (c := c) (n := n) (Q := Q) (N := N) hL h70 h27 hTP.1
  generalize hS1 : fs sh 70 (6, 2, [some 27, some 71, some 72, some 73]) = S1 at h17
  generalize hc1 : fr c 70 (fu (fu (fu (fu (c 70) 1 N) 2 0) 3 0) 4 0) = c1 at h17
  have h70' : S1 70 = (6, 2, [some 27, some 71, some 72, some 73]) := by rw [← hS1, fs_same]
  have sS : ∀ a, ¬ a = 70 → S1 a = sh a := fun a ha => by rw [← hS1, fs_ne ha]
  have g70 : ∀ i, c1 70 i = fu (fu (fu (fu (c 70) 1 N) 2 0) 3 0) 4 0 i := fun i => by rw [← hc1, fr_same]
  have go : ∀ a, ¬ a = 70 → c1 a = c a := fun a ha => by rw [← hc1, fr_ne ha]
  have hR : LRd L S1 := ⟨hL, h70', by rw [sS 27 (by omega)]; exact h27, by rw [sS 71 (by omega)]; exact h71, by rw [sS 72 (by omega)]; exact h72, by rw [sS 73 (by omega)]; exact h73⟩
  have hST1 : STRS S1 c := fun a ha => ⟨by rw [sS a (by omega)]; exact (hST a ha).1, (hST a ha).2⟩
  show tc_W 50 0 [rf 70, rf 27, .inl N, tc_nil, tc_nil] [] _ _ Q
  repeat' (first | (simp (disch := first | omega | exact Nat.le_of_ble_eq_true rfl | exact rfl | assumption | (simp (disch := omega) only [fr_ne, fr_same]; first | assumption | omega)) only [r50_0, r50_1, r50_2, r50_3, v50_3_2, r50_6, r50_7, r50_8, r50_11, r50_12, r50_13, r50_16, r50_17i, r50_18, r50_19i, r50_26, r50_27, r50_32, r50_33, r50_34, v50_34_2, r50_37i, r50_40, r50_41, v50_41_2, r50_44i, r50_46, r50_49, r50_50, r50_56, r50_57, r50_62, r50_63, r50_64, r50_65, r50_68, r50_69, r50_70, r50_71, r50_72, r50_75, r50_76, r50_79, r50_79A, r50_80, r50_81, r50_84, r50_85, r50_88, r50_91, r50_92, r50_95, r50_96, r50_97, r50_98, r50_99, r50_100, r50_103, r50_106, p2_21_2, p2_25_2, g2_46_0, g2_46_2, g2_15_2, g2_21_2, g2_9_2, o2_len, o2_s8, o2_s9, o0_len, o0_g4, o2_g4, o2_g6, o2_g8, o2_g5, il_s, bl_s, bl_z, ll_s, is_s, bs_s, bs_z, ls_s, al_s, al_b, al_l, fr_ne, fr_same, fr_fr, Nat.reduceEqDiff, tc_gf3_s, tc_ql2_s, tc_ws_0, tc_ws_i, tc_ws_l, tc_ws_r, Nat.reduceLeDiff, Nat.reduceAdd, Nat.reduceLT, true_and, and_true, if_true, if_false, tc_K, Option.toList_some, Option.toList_none, List.nil_append, List.cons_append, ite_true, ite_false, Int.cast_ofNat_Int, reduceIte, i3_add_eq, i3_sub_eq, Int.add_sub_cancel, Int.add_neg_cancel_right, hO hL70 h70, h17, hO hL70 h70', hOs h70']) | (simp only [r50_23, r50_29, r50_53, r50_59, i6_lt0, i6_0lt, i6_0le, i6_le0, i6_eq0, b10_0, ite_not, Int.reduceLT, Int.reduceLE, Int.reduceEq, Int.reduceNeg, if_true, if_false, ite_true, ite_false, reduceIte, eq_self, not_true, not_false_eq_true]; try refine tc_ite (fun _ => ?_) (fun _ => ?_) <;> try (exfalso; omega)))
  generalize hc2 : fr c1 70 (fu (fu (c1 70) 8 0) 9 0) = c2
  have w70 : ∀ i, c2 70 i = fu (fu (c1 70) 8 0) 9 0 i := fun i => by rw [← hc2, fr_same]
  have wo : ∀ a, ¬ a = 70 → c2 a = c a := fun a ha => by rw [← hc2, fr_ne ha, go a ha]
  refine c50_l (c := c2) (K := 400) (f := f) (l' := l') (g := c 27) (N := N) hR ?_ hTP (by have := hTP.1; omega) ?_ ?_ 13 0 0 0 [] c2 (by omega) ⟨?_, ?_, ?_, ?_, ?_, ?_, trivial⟩ ⟨fun _ _ _ _ _ => rfl, rfl⟩ rfl (by omega) hTP.1.1 (by omega) (by omega) (by show 3 * (0 : Int) ≤ _; omega) (fun q hq => absurd hq (by simp)) (fun q hq => absurd hq (by simp)) hb (by omega)
  · intro a ha
    rw [wo a (by omega)]
    exact hST1 a ha
  · intro hf e k1 k2
    exact hq1 hf S1 e sS h70' (fun a x1 x2 x3 x4 => by rw [k1.1 a x1 x2 x3 x4, wo a x1]) k2
  · intro hf sh' e n' k1 k2 k3 k4 k5
    exact hq hf sh' e n' k1 k2 (fun a x0 x1 => by rw [k3 a x0, sS a x1]) (by rw [k3 70 hL70]; exact h70') (fun a x0 x1 x2 x3 x4 => by rw [k4 a x0 x1 x2 x3 x4, wo a x1]) k5
  · exact wo 27 (by omega)
  · rw [w70, fu_ne (by omega), fu_ne (by omega), g70]
    simp (disch := omega) only [fu_ne, fu_same]
  · rw [w70, fu_ne (by omega), fu_ne (by omega), g70]
    simp (disch := omega) only [fu_ne, fu_same]
  · rw [w70, fu_ne (by omega), fu_ne (by omega), g70]
    simp (disch := omega) only [fu_ne, fu_same]
  · rw [w70, fu_ne (by omega), fu_same]
    rfl
  · rw [w70, fu_same]
end LAWS7

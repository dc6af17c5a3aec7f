/-! the reference: values -/
def ME (c : Nat → Int → Int) (g : Int → Int) (N p m s z : Int) (T : List Tk) : Prop := c 95 = g ∧ c 75 21 = N ∧ c 75 22 = p ∧ c 75 24 = s ∧ c 75 26 = z + T.length ∧ c 75 28 = m ∧ c 75 30 = 9 ∧ sg (c 96) (c 97) (300 * s + z) T.length = T
section LAWN
variable {L : Nat} {sh : Nat → SH} {c : Nat → Int → Int} {n : Nat} {Q : Option AV → List SC → Nat → Prop} {g : Int → Int} {N p m s z f p' m' F : Int} {T T' : List Tk}
theorem ME.md (h : ME c g N p m s z T) (h0 : c 75 23 = 0) : MD c g N p m s z T := ⟨h.1, h.2.1, h.2.2.1, h0, h.2.2.2.1, h.2.2.2.2.1, h.2.2.2.2.2.1, h.2.2.2.2.2.2.2⟩
theorem MD.me (h : MD c g N p m s z T) (h9 : c 75 30 = 9) : ME c g N p m s z T := ⟨h.1, h.2.1, h.2.2.1, h.2.2.2.2.1, h.2.2.2.2.2.1, h.2.2.2.2.2.2.1, h9, h.2.2.2.2.2.2.2⟩
theorem fl_as {a b d : Int} : fl (fl a b) d = fl a (fl b d) := by
  unfold fl
  repeat' split
  all_goals first
    | rfl
    | omega
    | simp_all
/-- a part counted, and an entry behind it -/
theorem m192_t (hS : MS L sh) {q k v : Int} (hq0 : 0 ≤ q ∧ q ≤ N) (hN : N ≤ 400) (hE : ME c g N p m s z T) (hp0 : 0 ≤ p ∧ p ≤ N) (h23 : c 75 23 = F) (hm : 0 ≤ m ∧ m ≤ 62) (hm0 : F = 0 → m ≤ 60) (hs : 0 ≤ s ∧ s ≤ 5) (hz : 0 ≤ z ∧ z + T.length < 300) {e1 : Nat → Int → Int} (he1 : ∀ n Q, tc_C 193 [rf 75, .inl q] (hp L sh c) n Q = Q none (hp L sh e1) n → True) :
    ∃ e2, (∀ n Q, tc_C 193 [rf 75, .inl q] (hp L sh c) n Q = Q none (hp L sh e2) n) ∧ ME e2 g N p (m + 1) s z T ∧ MLQ c e2 (300 * s + (z + T.length)) ∧ e2 75 23 = fl F (if 60 ≤ m then 1 + 8 * q + 3 else 0) ∧ RN e2 N (m + 1) := by
  obtain ⟨h95, h21, h22, h24, h26, h28, h30, hT⟩ := hE
  by_cases h60 : m = 60
  · refine ⟨fr c 75 (fu (fu (c 75) 23 (if c 75 23 = 0 then 1 + 8 * q + 3 else c 75 23)) 28 (m + 1)), fun n Q => by rw [m193 hS (by omega) h28 (by omega), if_pos h60], ⟨?_, ?_, ?_, ?_, ?_, ?_, ?_, ?_⟩, MLQ.of75 (fun a ha => fr_ne ha) (fun i i1 i2 i3 i4 => by rw [fr_same, fu_ne i4, fu_ne i2]), ?_, ⟨?_, ?_⟩⟩
    · rw [fr_ne (by omega)]; exact h95
    · rw [fr_same, fu_ne (by omega), fu_ne (by omega)]; exact h21
    · rw [fr_same, fu_ne (by omega), fu_ne (by omega)]; exact h22
    · rw [fr_same, fu_ne (by omega), fu_ne (by omega)]; exact h24
    · rw [fr_same, fu_ne (by omega), fu_ne (by omega)]; exact h26
    · rw [fr_same, fu_same]
    · rw [fr_same, fu_ne (by omega), fu_ne (by omega)]; exact h30
    · exact hT
    · rw [fr_same, fu_ne (by omega), fu_same, h23]
      unfold fl
      rw [if_pos (show 60 ≤ m by omega)]
    · rw [fr_same, fu_ne (by omega), fu_ne (by omega), h22]; exact hp0
    · rw [fr_same, fu_same]; omega
  · refine ⟨fr c 75 (fu (c 75) 28 (m + 1)), fun n Q => by rw [m193 hS (by omega) h28 (by omega), if_neg h60], ⟨?_, ?_, ?_, ?_, ?_, ?_, ?_, ?_⟩, MLQ.of75 (fun a ha => fr_ne ha) (fun i i1 i2 i3 i4 => by rw [fr_same, fu_ne i4]), ?_, ⟨?_, ?_⟩⟩
    · rw [fr_ne (by omega)]; exact h95
    · rw [fr_same, fu_ne (by omega)]; exact h21
    · rw [fr_same, fu_ne (by omega)]; exact h22
    · rw [fr_same, fu_ne (by omega)]; exact h24
    · rw [fr_same, fu_ne (by omega)]; exact h26
    · rw [fr_same, fu_same]
    · rw [fr_same, fu_ne (by omega)]; exact h30
    · exact hT
    · rw [fr_same, fu_ne (by omega), h23]
      unfold fl
      by_cases hF : F = 0
      · rw [if_pos hF, if_neg (by have := hm0 hF; omega), hF]
      · rw [if_neg hF]
    · rw [fr_same, fu_ne (by omega), h22]; exact hp0
    · rw [fr_same, fu_same]; omega
theorem m192 (hS : MS L sh) (hST : STRS sh c) (hTP : TP g N) (hE : ME c g N p m s z T) (hp0 : 0 ≤ p ∧ p ≤ N) (h23 : c 75 23 = F) (hm : 0 ≤ m ∧ m ≤ 62) (hm0 : F = 0 → m ≤ 60) (hs : 0 ≤ s ∧ s ≤ 5) (hz : 0 ≤ z ∧ z + T.length < 300) (hb : vlf g N p m T = (f, p', m', T'))
    (hq : ∀ e, MLQ c e (300 * s + (z + T.length)) → RN e N (m + 1) → e 75 23 = fl F f → (fl F f = 0 → ME e g N p' m' s z T') → Q none (hp L sh e) n) : tc_C 192 [rf 75] (hp L sh c) n Q := by
  have hN := hTP.1
  have hL := hS.1
  have hsr := nm_rng (g := g) hp0
  obtain ⟨h95, h21, h22, h24, h26, h28, h30, hTT⟩ := id hE
  have h171 := fun Q => c171q (c := c) (n := n) (Q := Q) (N := N) (p := p) hS (by rw [h95]; exact hTP) h21 h22 (by omega)
  rw [h95] at h171
  unfold vlf at hb
  generalize hq0 : sk g N p = q at hb hsr h171
  generalize hc1 : fr c 75 (fu (c 75) 22 q) = c1 at h171
  have x75 : ∀ i, c1 75 i = fu (c 75) 22 q i := fun i => by rw [← hc1, fr_same]
  have xo : ∀ a, ¬ a = 75 → c1 a = c a := fun a ha => by rw [← hc1, fr_ne ha]
  have hE1 : ∀ (F2 : Int → Int) (p2 : Int), (∀ i, ¬ i = 22 → ¬ i = 23 → F2 i = c 75 i) → F2 22 = p2 → ME (fr c1 75 F2) g N p2 m s z T := fun F2 p2 f1 f2 => ⟨by rw [fr_ne (by omega), xo 95 (by omega)]; exact h95, by rw [fr_same, f1 21 (by omega) (by omega)]; exact h21, by rw [fr_same]; exact f2, by rw [fr_same, f1 24 (by omega) (by omega)]; exact h24, by rw [fr_same, f1 26 (by omega) (by omega)]; exact h26, by rw [fr_same, f1 28 (by omega) (by omega)]; exact h28, by rw [fr_same, f1 30 (by omega) (by omega)]; exact h30, by rw [fr_ne (show ¬ 96 = 75 by omega), fr_ne (show ¬ 97 = 75 by omega), xo 96 (by omega), xo 97 (by omega)]; exact hTT⟩
  have hM1 : ∀ F2 : Int → Int, (∀ i, ¬ i = 22 → ¬ i = 23 → F2 i = c 75 i) → MLQ c (fr c1 75 F2) (300 * s + (z + T.length)) := fun F2 f1 => MLQ.of75 (fun a ha => by rw [fr_ne ha, xo a ha]) fun i i1 i2 _ _ => by rw [fr_same]; exact f1 i i1 i2
  have a95 : c1 95 = g := by rw [xo 95 (by omega)]; exact h95
  have a21 : c1 75 21 = N := by rw [x75, fu_ne (by omega)]; exact h21
  have a22 : c1 75 22 = q := by rw [x75, fu_same]
  have a23 : c1 75 23 = F := by rw [x75, fu_ne (by omega)]; exact h23
  have a30 : c1 75 30 = 9 := by rw [x75, fu_ne (by omega)]; exact h30
  have h180 := fun Q => c180 (c := c1) (n := n) (Q := Q) (N := N) (p := q) hS (by rw [a95]; exact hTP) a21 a22 (by omega)
  rw [a95] at h180
  show tc_W 192 0 [rf 75, tc_nil, tc_nil] [] _ _ Q
  by_cases hdg : isdg g N q = 1
  · rw [if_pos hdg] at hb
    have hdr := dgt_1 hdg
    have h179 := fun Q => c179 (c := c1) (n := n) (Q := Q) (N := N) (p := q) (most := 99999) hS (by rw [a95]; exact hTP) a21 a22 (by omega)
    rw [a95, ← amf_dfl, a23] at h179
    generalize hA : amf g N q 0 99999 = A at hb h179
    generalize hv : (dgt g N q).2 = v at hb h179
    generalize hp2 : (dgt g N q).1 = p2 at hb h179 hdr
    obtain ⟨e2, b1, b2, b3, b4, b5⟩ := m192_t (k := 0) (v := v) (q := q) (F := fl F A) hS (by omega) hN.2 (hE1 (fu (fu (c1 75) 22 p2) 23 (fl F A)) p2 (fun i i1 i2 => by rw [fu_ne i2, fu_ne i1, x75, fu_ne i1]) (by rw [fu_ne (by omega), fu_same])) (by omega) (by rw [fr_same, fu_same]) hm (fun h => hm0 (by unfold fl at h; split at h <;> omega)) hs hz (e1 := c) (fun _ _ _ => trivial)
    have hM2 := (hM1 (fu (fu (c1 75) 22 p2) 23 (fl F A)) (fun i i1 i2 => by rw [fu_ne i2, fu_ne i1, x75, fu_ne i1])).trans b3 (Int.le_refl _)
    have hff : fl (fl F A) (if 60 ≤ m then 1 + 8 * q + 3 else 0) = fl F f := by
      rw [fl_as]
      congr 1
      by_cases hA0 : A = 0
      · rw [if_neg (fun x => x hA0)] at hb
        by_cases h60 : 60 ≤ m
        · rw [if_pos h60] at hb ⊢
          rw [hA0, fl_0]
          exact (prL hb).1
        · rw [if_neg h60] at hb ⊢
          rw [hA0, fl_0]
          exact (prL hb).1
      · rw [if_pos hA0] at hb
        rw [fl_n hA0]
        exact (prL hb).1
    rw [hff] at b4
    by_cases hz0 : fl F f = 0
    · have hF0 : F = 0 ∧ f = 0 := by unfold fl at hz0; split at hz0 <;> omega
      have hA0 : A = 0 := by
        by_cases x : A = 0
        · exact x
        · rw [if_pos x] at hb
          have := (prL hb).1
          omega
      rw [if_neg (fun x => x hA0)] at hb
      have h60 : ¬ 60 ≤ m := fun x => by
        rw [if_pos x] at hb
        have := (prL hb).1
        omega
      rw [if_neg h60] at hb
      obtain ⟨_, e5, e6, e7⟩ := prL hb
      have h194 := fun Q => m194 (c := e2) (n := n) (Q := Q) (k := 0) (v := v) hS (by rw [b4]; exact hz0) b2.2.2.2.1 b2.2.2.2.2.1 hs (by omega)
      have hpu := (b2.md (by rw [b4]; exact hz0)).push (k := 0) (v := v) hz.1
      have hq' := hq _ (hM2.trans hpu.2 (Int.le_refl _)) ⟨by rw [hpu.1.2.2.1]; omega, by rw [hpu.1.2.2.2.2.2.2.1]; omega⟩ (by rw [hpu.1.2.2.2.1]; exact hz0.symm) (fun _ => by
        rw [← e5, ← e6, ← e7]
        exact hpu.1.me (by rw [hpu.2.2.2 30 (by omega) (by omega) (by omega) (by omega)]; exact b2.2.2.2.2.2.2.1))
      repeat' (first | (simp (disch := first | omega | exact Nat.le_of_ble_eq_true rfl | exact rfl | assumption | (simp only [fr_at, Nat.reduceEqDiff, if_false, if_true, reduceIte]; first | assumption | omega)) only [r192_0, r192_1, v192_1_11, r192_4, r192_5, r192_8r, r192_9, r192_10, v192_10_11, r192_16, r192_17, r192_19, v192_19_11, r192_22i, r192_23, r192_24, r192_25, v192_25_11, r192_28, r192_29, r192_30, r192_31, v192_31_11, r192_34, r192_35, r192_36i, r192_38, r192_39, r192_45, r192_46, r192_47, r192_50, v192_50_11, r192_56i, r192_59, r192_62, r192_63, r192_64, r192_70, r192_71, r192_72, r192_73, v192_73_11, r192_76, r192_77, r192_78, r192_79, v192_79_11, r192_82, r192_83, r192_83A, r192_84, r192_87, r192_88, r192_91, r192_94, r192_95, r192_98, r192_99, r192_100, r192_101, v192_101_11, r192_104, g11_174_11, g11_67_11, p11_174_11, mo_len, ms75 hS, mt75 hS, mo_g22, mo_g30, mo_s22, il_s, bl_s, bl_z, ll_s, is_s, bs_s, bs_z, ls_s, al_s, al_b, al_l, fr_at, fr_fr, Nat.reduceEqDiff, tc_gf3_s, tc_ql2_s, tc_ws_0, tc_ws_i, tc_ws_l, tc_ws_r, Nat.reduceLeDiff, Nat.reduceAdd, Nat.reduceLT, true_and, and_true, if_true, if_false, tc_K, Option.toList_some, Option.toList_none, List.nil_append, List.cons_append, ite_true, ite_false, Int.cast_ofNat_Int, reduceIte, i3_add_eq, i3_sub_eq, Int.add_sub_cancel, Int.add_neg_cancel_right, h171, a22, h180, hdg, h179, b1, h194]) | (simp only [r192_13, r192_42, r192_53, r192_67, i6_lt0, i6_0lt, i6_0le, i6_le0, i6_eq0, b10_0, ite_not, Int.reduceLT, Int.reduceLE, Int.reduceEq, Int.reduceNeg, if_true, if_false, ite_true, ite_false, reduceIte, eq_self, not_true, not_false_eq_true]; try refine tc_ite (fun _ => ?_) (fun _ => ?_) <;> try (exfalso; omega)))
      all_goals first
        | exact hq'
        | omega
    · have h194 := fun Q => m194f (c := e2) (n := n) (Q := Q) (k := 0) (v := v) hS b4 hz0
      have hq' := hq e2 hM2 b5 b4 (fun x => absurd x hz0)
      repeat' (first | (simp (disch := first | omega | exact Nat.le_of_ble_eq_true rfl | exact rfl | assumption | (simp only [fr_at, Nat.reduceEqDiff, if_false, if_true, reduceIte]; first | assumption | omega)) only [r192_0, r192_1, v192_1_11, r192_4, r192_5, r192_8r, r192_9, r192_10, v192_10_11, r192_16, r192_17, r192_19, v192_19_11, r192_22i, r192_23, r192_24, r192_25, v192_25_11, r192_28, r192_29, r192_30, r192_31, v192_31_11, r192_34, r192_35, r192_36i, r192_38, r192_39, r192_45, r192_46, r192_47, r192_50, v192_50_11, r192_56i, r192_59, r192_62, r192_63, r192_64, r192_70, r192_71, r192_72, r192_73, v192_73_11, r192_76, r192_77, r192_78, r192_79, v192_79_11, r192_82, r192_83, r192_83A, r192_84, r192_87, r192_88, r192_91, r192_94, r192_95, r192_98, r192_99, r192_100, r192_101, v192_101_11, r192_104, g11_174_11, g11_67_11, p11_174_11, mo_len, ms75 hS, mt75 hS, mo_g22, mo_g30, mo_s22, il_s, bl_s, bl_z, ll_s, is_s, bs_s, bs_z, ls_s, al_s, al_b, al_l, fr_at, fr_fr, Nat.reduceEqDiff, tc_gf3_s, tc_ql2_s, tc_ws_0, tc_ws_i, tc_ws_l, tc_ws_r, Nat.reduceLeDiff, Nat.reduceAdd, Nat.reduceLT, true_and, and_true, if_true, if_false, tc_K, Option.toList_some, Option.toList_none, List.nil_append, List.cons_append, ite_true, ite_false, Int.cast_ofNat_Int, reduceIte, i3_add_eq, i3_sub_eq, Int.add_sub_cancel, Int.add_neg_cancel_right, h171, a22, h180, hdg, h179, b1, h194]) | (simp only [r192_13, r192_42, r192_53, r192_67, i6_lt0, i6_0lt, i6_0le, i6_le0, i6_eq0, b10_0, ite_not, Int.reduceLT, Int.reduceLE, Int.reduceEq, Int.reduceNeg, if_true, if_false, ite_true, ite_false, reduceIte, eq_self, not_true, not_false_eq_true]; try refine tc_ite (fun _ => ?_) (fun _ => ?_) <;> try (exfalso; omega)))
      all_goals first
        | exact hq'
        | omega
  · rw [if_neg hdg] at hb
    have hdg0 : isdg g N q = 0 := by
      rcases isdg_01 g N q with x | x
      · exact x
      · exact absurd x hdg
    have hST1 : ∀ a, a < 25 → sh a = (9, (tc_chs.getD a []).length, []) ∧ c1 a = chs a := fun a ha => ⟨(hST a ha).1, by rw [xo a (by omega)]; exact (hST a ha).2⟩
    repeat' (first | (simp (disch := first | omega | exact Nat.le_of_ble_eq_true rfl | exact rfl | assumption | (simp only [fr_at, Nat.reduceEqDiff, if_false, if_true, reduceIte]; first | assumption | omega)) only [r192_0, r192_1, v192_1_11, r192_4, r192_5, r192_8r, r192_9, r192_10, v192_10_11, r192_16, r192_17, r192_19, v192_19_11, r192_22i, r192_23, r192_24, r192_25, v192_25_11, r192_28, r192_29, r192_30, r192_31, v192_31_11, r192_34, r192_35, r192_36i, r192_38, r192_39, r192_45, r192_46, r192_47, r192_50, v192_50_11, r192_56i, r192_59, r192_62, r192_63, r192_64, r192_70, r192_71, r192_72, r192_73, v192_73_11, r192_76, r192_77, r192_78, r192_79, v192_79_11, r192_82, r192_83, r192_83A, r192_84, r192_87, r192_88, r192_91, r192_94, r192_95, r192_98, r192_99, r192_100, r192_101, v192_101_11, r192_104, g11_174_11, g11_67_11, p11_174_11, mo_len, ms75 hS, mt75 hS, mo_g22, mo_g30, mo_s22, il_s, bl_s, bl_z, ll_s, is_s, bs_s, bs_z, ls_s, al_s, al_b, al_l, fr_at, fr_fr, Nat.reduceEqDiff, tc_gf3_s, tc_ql2_s, tc_ws_0, tc_ws_i, tc_ws_l, tc_ws_r, Nat.reduceLeDiff, Nat.reduceAdd, Nat.reduceLT, true_and, and_true, if_true, if_false, tc_K, Option.toList_some, Option.toList_none, List.nil_append, List.cons_append, ite_true, ite_false, Int.cast_ofNat_Int, reduceIte, i3_add_eq, i3_sub_eq, Int.add_sub_cancel, Int.add_neg_cancel_right, h171, a22, h180, hdg0]) | (simp only [r192_13, r192_42, r192_53, r192_67, i6_lt0, i6_0lt, i6_0le, i6_le0, i6_eq0, b10_0, ite_not, Int.reduceLT, Int.reduceLE, Int.reduceEq, Int.reduceNeg, if_true, if_false, ite_true, ite_false, reduceIte, eq_self, not_true, not_false_eq_true]; try refine tc_ite (fun _ => ?_) (fun _ => ?_) <;> try (exfalso; omega)))
    all_goals try omega
    refine lq_1 (N := 9) (P := fun w (_ : Unit) => tc_W 192 37 [rf 75, .inl q, .inl w] [] (hp L sh c1) n Q) (I := fun w _ => ∀ v, 0 ≤ v → v < w → ¬ stq g N q (chs (wcl v)) (tc_chs.getD (wcl v) []).length = 1) ?_ ?_ 0 () (by omega) (by omega) (fun v v1 v2 => by omega)
    · intro w _ hw hw2 hI ih
      have hwl := wcl_len (w := w) (by omega)
      have hst := hST1 (wcl w) hwl.1
      have h195 := fun (h : List SC) n Q => m195 (h := h) (n := n) (Q := Q) (w := w) (by omega)
      have hlen : (tc_chs.getD (wcl w) []).length ≤ 100 := by
        have : wl9 w ≤ 8 := by
          unfold wl9
          repeat' split
          all_goals omega
        omega
      have hal : wcl w < L := by omega
      have h174 : ∀ n Q, tc_C 174 [rf 75, rf (wcl w)] (hp L sh c1) n Q = Q (some (.inl (stq g N q (chs (wcl w)) (tc_chs.getD (wcl w) []).length))) (hp L sh c1) n := fun n Q => by
        rw [c174 hS (by rw [a95]; exact hTP) a21 a22 (by omega) hal hst.1 hlen, a95, hst.2]
      simp only [r192_37]
      by_cases h1 : stq g N q (chs (wcl w)) (tc_chs.getD (wcl w) []).length = 1
      · have hwd := (wd9_st (w := w) (q := q) (g := g) (N := N) (by omega)).2 hI h1
        have hwp := wd9_place (g := g) (N := N) (q := q) (by omega)
        rw [hwd] at hb hwp
        rw [if_neg (by omega)] at hb
        rw [h1] at h174
        obtain ⟨e2, b1, b2, b3, b4, b5⟩ := m192_t (c := c1) (k := 1) (v := w) (q := q) (p := q) (F := F) hS (by omega) hN.2 (by
          have := hE1 (c1 75) q (fun i i1 i2 => by rw [x75, fu_ne i1]) a22
          rw [fr_id] at this
          exact this) (by omega) a23 hm hm0 hs hz (e1 := c) (fun _ _ _ => trivial)
        have hM2 : MLQ c e2 (300 * s + (z + T.length)) := by
          have := hM1 (c1 75) (fun i i1 i2 => by rw [x75, fu_ne i1])
          rw [fr_id] at this
          exact this.trans b3 (Int.le_refl _)
        have e22 : e2 75 22 = q := b2.2.2.1
        have hff : fl F (if 60 ≤ m then 1 + 8 * q + 3 else 0) = fl F f := by
          congr 1
          by_cases h60 : 60 ≤ m
          · rw [if_pos h60] at hb ⊢
            exact (prL hb).1
          · rw [if_neg h60] at hb ⊢
            exact (prL hb).1
        rw [hff] at b4
        generalize hWL : wl9 w = WL at hb hwp hwl
        have hlw := hwl.2
        generalize hp2 : q + WL = p2 at hb hwp
        generalize hc3 : fr e2 75 (fu (e2 75) 22 p2) = c3
        have hE3 : ME c3 g N p2 (m + 1) s z T := by
          rw [← hc3]
          obtain ⟨y1, y2, y3, y4, y5, y6, y7, y8⟩ := b2
          exact ⟨by rw [fr_ne (by omega)]; exact y1, by rw [fr_same, fu_ne (by omega)]; exact y2, by rw [fr_same, fu_same], by rw [fr_same, fu_ne (by omega)]; exact y4, by rw [fr_same, fu_ne (by omega)]; exact y5, by rw [fr_same, fu_ne (by omega)]; exact y6, by rw [fr_same, fu_ne (by omega)]; exact y7, y8⟩
        have hM3 : MLQ c c3 (300 * s + (z + T.length)) := hM2.trans (by rw [← hc3]; exact MLQ.of75 (fun a ha => fr_ne ha) fun i i1 i2 i3 i4 => by rw [fr_same, fu_ne i1]) (Int.le_refl _)
        have c23 : c3 75 23 = fl F f := by rw [← hc3, fr_same, fu_ne (by omega)]; exact b4
        by_cases hz0 : fl F f = 0
        · have hF0 : F = 0 ∧ f = 0 := by unfold fl at hz0; split at hz0 <;> omega
          have h60 : ¬ 60 ≤ m := fun x => by
            rw [if_pos x] at hb
            have := (prL hb).1
            omega
          rw [if_neg h60] at hb
          obtain ⟨_, e5, e6, e7⟩ := prL hb
          have h194 := fun Q => m194 (c := c3) (n := n) (Q := Q) (k := 1) (v := w) hS (by rw [c23]; exact hz0) hE3.2.2.2.1 hE3.2.2.2.2.1 hs (by omega)
          have hpu := (hE3.md (by rw [c23]; exact hz0)).push (k := 1) (v := w) hz.1
          have hq' := hq _ (hM3.trans hpu.2 (Int.le_refl _)) ⟨by rw [hpu.1.2.2.1]; omega, by rw [hpu.1.2.2.2.2.2.2.1]; omega⟩ (by rw [hpu.1.2.2.2.1]; exact hz0.symm) (fun _ => by
            rw [← e5, ← e6, ← e7]
            exact hpu.1.me (by rw [hpu.2.2.2 30 (by omega) (by omega) (by omega) (by omega)]; exact hE3.2.2.2.2.2.2.1))
          repeat' (first | (simp (disch := first | omega | exact Nat.le_of_ble_eq_true rfl | exact rfl | assumption | (simp (disch := omega) only [fr_ne, fr_same]; first | assumption | omega)) only [r192_0, r192_1, v192_1_11, r192_4, r192_5, r192_8r, r192_9, r192_10, v192_10_11, r192_16, r192_17, r192_19, v192_19_11, r192_22i, r192_23, r192_24, r192_25, v192_25_11, r192_28, r192_29, r192_30, r192_31, v192_31_11, r192_34, r192_35, r192_36i, r192_38, r192_39, r192_45, r192_46, r192_47, r192_50, v192_50_11, r192_56i, r192_59, r192_62, r192_63, r192_64, r192_70, r192_71, r192_72, r192_73, v192_73_11, r192_76, r192_77, r192_78, r192_79, v192_79_11, r192_82, r192_83, r192_83A, r192_84, r192_87, r192_88, r192_91, r192_94, r192_95, r192_98, r192_99, r192_100, r192_101, v192_101_11, r192_104, g11_174_11, g11_67_11, p11_174_11, mo_len, ms75 hS, mt75 hS, mo_g22, mo_g30, mo_s22, il_s, bl_s, bl_z, ll_s, is_s, bs_s, bs_z, ls_s, al_s, al_b, al_l, fr_ne, fr_same, fr_fr, Nat.reduceEqDiff, tc_gf3_s, tc_ql2_s, tc_ws_0, tc_ws_i, tc_ws_l, tc_ws_r, Nat.reduceLeDiff, Nat.reduceAdd, Nat.reduceLT, true_and, and_true, if_true, if_false, tc_K, Option.toList_some, Option.toList_none, List.nil_append, List.cons_append, ite_true, ite_false, Int.cast_ofNat_Int, reduceIte, i3_add_eq, i3_sub_eq, Int.add_sub_cancel, Int.add_neg_cancel_right, a30, h195, h174, b1, hT hal hst.1, sL_s, hlw, e22, hp2, hc3, h194]) | (simp only [r192_13, r192_42, r192_53, r192_67, i6_lt0, i6_0lt, i6_0le, i6_le0, i6_eq0, b10_0, ite_not, Int.reduceLT, Int.reduceLE, Int.reduceEq, Int.reduceNeg, if_true, if_false, ite_true, ite_false, reduceIte, eq_self, not_true, not_false_eq_true]; try refine tc_ite (fun _ => ?_) (fun _ => ?_) <;> try (exfalso; omega)))
          all_goals first
            | exact hq'
            | omega
        · have h194 := fun Q => m194f (c := c3) (n := n) (Q := Q) (k := 1) (v := w) hS c23 hz0
          have hq' := hq c3 hM3 ⟨by rw [hE3.2.2.1]; omega, by rw [hE3.2.2.2.2.2.1]; omega⟩ c23 (fun x => absurd x hz0)
          repeat' (first | (simp (disch := first | omega | exact Nat.le_of_ble_eq_true rfl | exact rfl | assumption | (simp (disch := omega) only [fr_ne, fr_same]; first | assumption | omega)) only [r192_0, r192_1, v192_1_11, r192_4, r192_5, r192_8r, r192_9, r192_10, v192_10_11, r192_16, r192_17, r192_19, v192_19_11, r192_22i, r192_23, r192_24, r192_25, v192_25_11, r192_28, r192_29, r192_30, r192_31, v192_31_11, r192_34, r192_35, r192_36i, r192_38, r192_39, r192_45, r192_46, r192_47, r192_50, v192_50_11, r192_56i, r192_59, r192_62, r192_63, r192_64, r192_70, r192_71, r192_72, r192_73, v192_73_11, r192_76, r192_77, r192_78, r192_79, v192_79_11, r192_82, r192_83, r192_83A, r192_84, r192_87, r192_88, r192_91, r192_94, r192_95, r192_98, r192_99, r192_100, r192_101, v192_101_11, r192_104, g11_174_11, g11_67_11, p11_174_11, mo_len, ms75 hS, mt75 hS, mo_g22, mo_g30, mo_s22, il_s, bl_s, bl_z, ll_s, is_s, bs_s, bs_z, ls_s, al_s, al_b, al_l, fr_ne, fr_same, fr_fr, Nat.reduceEqDiff, tc_gf3_s, tc_ql2_s, tc_ws_0, tc_ws_i, tc_ws_l, tc_ws_r, Nat.reduceLeDiff, Nat.reduceAdd, Nat.reduceLT, true_and, and_true, if_true, if_false, tc_K, Option.toList_some, Option.toList_none, List.nil_append, List.cons_append, ite_true, ite_false, Int.cast_ofNat_Int, reduceIte, i3_add_eq, i3_sub_eq, Int.add_sub_cancel, Int.add_neg_cancel_right, a30, h195, h174, b1, hT hal hst.1, sL_s, hlw, e22, hp2, hc3, h194]) | (simp only [r192_13, r192_42, r192_53, r192_67, i6_lt0, i6_0lt, i6_0le, i6_le0, i6_eq0, b10_0, ite_not, Int.reduceLT, Int.reduceLE, Int.reduceEq, Int.reduceNeg, if_true, if_false, ite_true, ite_false, reduceIte, eq_self, not_true, not_false_eq_true]; try refine tc_ite (fun _ => ?_) (fun _ => ?_) <;> try (exfalso; omega)))
          all_goals first
            | exact hq'
            | omega
      · have h0 : stq g N q (chs (wcl w)) (tc_chs.getD (wcl w) []).length = 0 := by
          unfold stq at h1 ⊢
          split
          · next x => rw [if_pos x] at h1; exact absurd rfl h1
          · rfl
        rw [h0] at h174
        repeat' (first | (simp (disch := first | omega | exact Nat.le_of_ble_eq_true rfl | exact rfl | assumption | (simp (disch := omega) only [fr_ne, fr_same]; first | assumption | omega)) only [r192_0, r192_1, v192_1_11, r192_4, r192_5, r192_8r, r192_9, r192_10, v192_10_11, r192_16, r192_17, r192_19, v192_19_11, r192_22i, r192_23, r192_24, r192_25, v192_25_11, r192_28, r192_29, r192_30, r192_31, v192_31_11, r192_34, r192_35, r192_36i, r192_38, r192_39, r192_45, r192_46, r192_47, r192_50, v192_50_11, r192_56i, r192_59, r192_62, r192_63, r192_64, r192_70, r192_71, r192_72, r192_73, v192_73_11, r192_76, r192_77, r192_78, r192_79, v192_79_11, r192_82, r192_83, r192_83A, r192_84, r192_87, r192_88, r192_91, r192_94, r192_95, r192_98, r192_99, r192_100, r192_101, v192_101_11, r192_104, g11_174_11, g11_67_11, p11_174_11, mo_len, ms75 hS, mt75 hS, mo_g22, mo_g30, mo_s22, il_s, bl_s, bl_z, ll_s, is_s, bs_s, bs_z, ls_s, al_s, al_b, al_l, fr_ne, fr_same, fr_fr, Nat.reduceEqDiff, tc_gf3_s, tc_ql2_s, tc_ws_0, tc_ws_i, tc_ws_l, tc_ws_r, Nat.reduceLeDiff, Nat.reduceAdd, Nat.reduceLT, true_and, and_true, if_true, if_false, tc_K, Option.toList_some, Option.toList_none, List.nil_append, List.cons_append, ite_true, ite_false, Int.cast_ofNat_Int, reduceIte, i3_add_eq, i3_sub_eq, Int.add_sub_cancel, Int.add_neg_cancel_right, a30, h195, h174]) | (simp only [r192_13, r192_42, r192_53, r192_67, i6_lt0, i6_0lt, i6_0le, i6_le0, i6_eq0, b10_0, ite_not, Int.reduceLT, Int.reduceLE, Int.reduceEq, Int.reduceNeg, if_true, if_false, ite_true, ite_false, reduceIte, eq_self, not_true, not_false_eq_true]; try refine tc_ite (fun _ => ?_) (fun _ => ?_) <;> try (exfalso; omega)))
        all_goals first
          | exact ih () (fun v v1 v2 => by
              by_cases hv : v = w
              · rw [hv]
                exact h1
              · exact hI v v1 (by omega))
          | omega
    · intro _ hI
      have hwd := wd9_no hI
      rw [if_pos hwd] at hb
      obtain ⟨e1, _⟩ := prL hb
      have h175 := fun Q => c175 (c := c1) (n := n) (Q := Q) (k := 0) (p := q) hS (by omega) (by omega)
      rw [a23] at h175
      have hFx : (if F = 0 then 1 + 8 * q + 0 else F) = fl F f := by
        unfold fl
        by_cases x : F = 0
        · rw [if_pos x, if_pos x]
          omega
        · rw [if_neg x, if_neg x]
      rw [hFx] at h175
      have hnz : ¬ fl F f = 0 := by
        unfold fl
        split <;> omega
      have hq' := hq (fr c1 75 (fu (c1 75) 23 (fl F f))) (hM1 _ fun i i1 i2 => by rw [fu_ne i2, x75, fu_ne i1]) ⟨by rw [fr_same, fu_ne (by omega), a22]; omega, by rw [fr_same, fu_ne (by omega), x75, fu_ne (by omega), h28]; omega⟩ (by rw [fr_same, fu_same]) (fun x => absurd x hnz)
      simp only [r192_37]
      repeat' (first | (simp (disch := first | omega | exact Nat.le_of_ble_eq_true rfl | exact rfl | assumption | (simp only [fr_at, Nat.reduceEqDiff, if_false, if_true, reduceIte]; first | assumption | omega)) only [r192_0, r192_1, v192_1_11, r192_4, r192_5, r192_8r, r192_9, r192_10, v192_10_11, r192_16, r192_17, r192_19, v192_19_11, r192_22i, r192_23, r192_24, r192_25, v192_25_11, r192_28, r192_29, r192_30, r192_31, v192_31_11, r192_34, r192_35, r192_36i, r192_38, r192_39, r192_45, r192_46, r192_47, r192_50, v192_50_11, r192_56i, r192_59, r192_62, r192_63, r192_64, r192_70, r192_71, r192_72, r192_73, v192_73_11, r192_76, r192_77, r192_78, r192_79, v192_79_11, r192_82, r192_83, r192_83A, r192_84, r192_87, r192_88, r192_91, r192_94, r192_95, r192_98, r192_99, r192_100, r192_101, v192_101_11, r192_104, g11_174_11, g11_67_11, p11_174_11, mo_len, ms75 hS, mt75 hS, mo_g22, mo_g30, mo_s22, il_s, bl_s, bl_z, ll_s, is_s, bs_s, bs_z, ls_s, al_s, al_b, al_l, fr_at, fr_fr, Nat.reduceEqDiff, tc_gf3_s, tc_ql2_s, tc_ws_0, tc_ws_i, tc_ws_l, tc_ws_r, Nat.reduceLeDiff, Nat.reduceAdd, Nat.reduceLT, true_and, and_true, if_true, if_false, tc_K, Option.toList_some, Option.toList_none, List.nil_append, List.cons_append, ite_true, ite_false, Int.cast_ofNat_Int, reduceIte, i3_add_eq, i3_sub_eq, Int.add_sub_cancel, Int.add_neg_cancel_right, a30, h175]) | (simp only [r192_13, r192_42, r192_53, r192_67, i6_lt0, i6_0lt, i6_0le, i6_le0, i6_eq0, b10_0, ite_not, Int.reduceLT, Int.reduceLE, Int.reduceEq, Int.reduceNeg, if_true, if_false, ite_true, ite_false, reduceIte, eq_self, not_true, not_false_eq_true]; try refine tc_ite (fun _ => ?_) (fun _ => ?_) <;> try (exfalso; omega)))
      all_goals first
        | exact hq'
        | omega
end LAWN

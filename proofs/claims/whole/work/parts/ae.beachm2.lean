/-! the reference: a beach read, more -/
section BEACHN
variable {L : Nat} {sh : Nat → SH} {c : Nat → Int → Int} {n : Nat} {Q : Option AV → List SC → Nat → Prop} {g : Int → Int} {N p R f p' R' k : Int} {B B' : Nat → Int → Int}
/-- a number, with a fault behind it or ahead of it or none -/
theorem m178a (hS : MS L sh) (hT : TP g N) (h95 : c 95 = g) (h21 : c 75 21 = N) (h22 : c 75 22 = p) (hp0 : 0 ≤ p ∧ p ≤ N) {F lo hi : Int} (h23 : c 75 23 = F) : ∃ d v p2, (∀ n Q, tc_C 178 [rf 75, .inl lo, .inl hi] (hp L sh c) n Q = Q (some (.inl v)) (hp L sh d) n) ∧ (∀ a, ¬ a = 75 → d a = c a) ∧ (∀ i, ¬ i = 22 → ¬ i = 23 → d 75 i = c 75 i) ∧ d 75 22 = p2 ∧ (0 ≤ p2 ∧ p2 ≤ N) ∧ (F = 0 → v = nmv g N p ∧ p2 = nmp g N p) ∧ (0 ≤ v ∧ v ≤ 99999) ∧ d 75 23 = fl F (nmf g N p lo hi) := by
  have r1 := nm_rng (g := g) hp0
  by_cases hF : F = 0
  · subst hF
    obtain ⟨d, a1, a2, a3, a4, a5⟩ := m178x (lo := lo) (hi := hi) hS hT ⟨h95, h21, h22, h23⟩ hp0 rfl
    exact ⟨d, nmv g N p, nmp g N p, a1, a2, a3, a4, ⟨r1.1, r1.2.1⟩, fun _ => ⟨rfl, rfl⟩, nmv_rng g N p, by rw [a5]; exact (if_pos rfl).symm⟩
  · obtain ⟨d, a1, a2, a3, a4⟩ := m178f (lo := lo) (hi := hi) hS hT h95 h21 h22 hp0 h23 hF
    exact ⟨d, 0, sk g N p, a1, a2, fun i i1 _ => a3 i i1, a4, ⟨r1.2.2.1, r1.2.2.2⟩, fun z => absurd z hF, by omega, by rw [a3 23 (by omega), h23]; exact (if_neg hF).symm⟩
theorem fl_0 (x : Int) : fl 0 x = x := if_pos rfl
theorem fl_n {F x : Int} (h : ¬ F = 0) : fl F x = F := if_neg h
theorem m177_2 (hS : MS L sh) (hT : TP g N) (hR : RM c g N p) (hp0 : 0 ≤ p ∧ p ≤ N) (hRR : RRM c B R) (hB2 : 0 ≤ B 0 2 ∧ B 0 2 < 6) (hWH : 2 ≤ B 0 0 ∧ B 0 0 ≤ 5 ∧ 2 ≤ B 0 1 ∧ B 0 1 ≤ 5) (hb : bpt g N 2 p R B = (f, p', R', B'))
    (hq : ∀ e, MF c e → (0 ≤ e 75 22 ∧ e 75 22 ≤ N) → e 75 23 = f → (f = 0 → e 75 22 = p' ∧ RRM e B' R') → Q none (hp L sh e) n) : tc_C 177 [rf 75, .inl 2] (hp L sh c) n Q := by
  unfold bpt at hb
  rw [if_neg (by omega), if_neg (by omega), if_pos rfl] at hb
  obtain ⟨w1, w2, w3, w4, w5⟩ := hRR
  obtain ⟨r95, r21, r22, r23⟩ := hR
  have e2 : c 89 2 = B 0 2 := w1 2 (by omega) (by omega)
  have e0 : c 89 0 = B 0 0 := w1 0 (by omega) (by omega)
  have e1 : c 89 1 = B 0 1 := w1 1 (by omega) (by omega)
  have hN25 : 0 ≤ B 0 0 * B 0 1 ∧ B 0 0 * B 0 1 ≤ 25 := by
    have q1 := Int.mul_le_mul hWH.2.1 hWH.2.2.2 (by omega) (by omega)
    have q2 := Int.mul_nonneg (show 0 ≤ B 0 0 by omega) (show 0 ≤ B 0 1 by omega)
    omega
  obtain ⟨d1, v1, p1, a1, a2, a3, a4, a5, a6, a7, a8⟩ := m178a (lo := 0) (hi := B 0 0 * B 0 1 - 1) hS hT r95 r21 r22 hp0 r23
  generalize hc1 : fr d1 91 (fu (d1 91) (B 0 2) v1) = c1
  have o1 : ∀ a, ¬ a = 75 → ¬ a = 91 → c1 a = c a := fun a q1 q2 => by rw [← hc1, fr_ne q2, a2 a q1]
  have i1 : ∀ i, ¬ i = 22 → ¬ i = 23 → c1 75 i = c 75 i := fun i q1 q2 => by rw [← hc1, fr_ne (by omega), a3 i q1 q2]
  obtain ⟨d2, v2, p2, b1, b2, b3, b4, b5, b6, b7, b8⟩ := m178a (c := c1) (p := p1) (lo := 1) (hi := 20) (F := fl 0 (nmf g N p 0 (B 0 0 * B 0 1 - 1))) hS hT ((o1 95 (by omega) (by omega)).trans r95) ((i1 21 (by omega) (by omega)).trans r21) (by rw [← hc1, fr_ne (by omega)]; exact a4) a5 (by rw [← hc1, fr_ne (by omega)]; exact a8)
  generalize hc2 : fr d2 92 (fu (d2 92) (B 0 2) v2) = c2
  have o2 : ∀ a, ¬ a = 75 → ¬ a = 91 → ¬ a = 92 → c2 a = c a := fun a q1 q2 q3 => by rw [← hc2, fr_ne q3, b2 a q1, o1 a q1 q2]
  have i2 : ∀ i, ¬ i = 22 → ¬ i = 23 → c2 75 i = c 75 i := fun i q1 q2 => by rw [← hc2, fr_ne (by omega), b3 i q1 q2, i1 i q1 q2]
  obtain ⟨d3, v3, p3, l1, l2, l3, l4, l5, l6, l7, l8⟩ := m178a (c := c2) (p := p2) (lo := 1) (hi := 50) (F := fl (fl 0 (nmf g N p 0 (B 0 0 * B 0 1 - 1))) (nmf g N p1 1 20)) hS hT ((o2 95 (by omega) (by omega) (by omega)).trans r95) ((i2 21 (by omega) (by omega)).trans r21) (by rw [← hc2, fr_ne (by omega)]; exact b4) b5 (by rw [← hc2, fr_ne (by omega)]; exact b8)
  have s2 : d3 89 2 = B 0 2 := by rw [l2 89 (by omega), o2 89 (by omega) (by omega) (by omega)]; exact e2
  show tc_W 177 0 [rf 75, .inl 2, tc_nil] [] _ _ Q
  repeat' (simp (disch := first | omega | exact Nat.le_of_ble_eq_true rfl | exact rfl | assumption | (simp only [fr_at, Nat.reduceEqDiff, if_false, if_true, reduceIte]; first | assumption | omega)) only [r177_0, r177_1_0, r177_1_1, r177_1_2, r177_1_3, r177_1_d, r177_32, r177_33, r177_36, r177_37, r177_38, r177_39, r177_40, v177_40_11, r177_43, r177_44, r177_45, r177_48, r177_49, r177_50, r177_51, r177_52, v177_52_11, r177_55, r177_56, r177_59, r177_60, v177_60_11, r177_63, r177_66, r177_67, r177_70, r177_71, r177_72i, r177_73, r177_74, r177_77, r177_78, r177_79, r177_80, r177_81, r177_84, r177_85, r177_86, r177_87, r177_90, r177_91, r177_92, r177_93, r177_94, r177_95, v177_95_11, r177_98, r177_99, r177_100, r177_103, r177_104, r177_105, r177_106, r177_108, v177_108_11, r177_111, r177_112, r177_113, r177_116, r177_117, r177_118, r177_119, r177_121, v177_121_11, r177_124, r177_125, r177_126, r177_129, r177_130, r177_131, r177_132, r177_133, r177_134, r177_135, r177_138, r177_139, r177_142, r177_143, r177_146, r177_147, r177_148, r177_149, r177_150, r177_152, v177_152_11, r177_155, r177_156, r177_157, r177_160, r177_161, r177_162, r177_163, r177_164, r177_165, r177_166, r177_169, r177_170, v177_170_11, r177_173, g11_49_11, g11_55_11, g11_58_11, g11_61_11, g11_64_11, mo_len, ms75 hS, mt75 hS, mo_g14, ms89 hS, mt89 hS, mo_g16, ms91 hS, mt91 hS, mo_g17, ms92 hS, mt92 hS, mo_g18, ms93 hS, mt93 hS, mo_g19, ms94 hS, mt94 hS, il_s, bl_s, bl_z, ll_s, is_s, bs_s, bs_z, ls_s, al_s, al_b, al_l, fr_at, fr_fr, Nat.reduceEqDiff, tc_gf3_s, tc_ql2_s, tc_ws_0, tc_ws_i, tc_ws_l, tc_ws_r, Nat.reduceLeDiff, Nat.reduceAdd, Nat.reduceLT, true_and, and_true, if_true, if_false, tc_K, Option.toList_some, Option.toList_none, List.nil_append, List.cons_append, ite_true, ite_false, Int.cast_ofNat_Int, reduceIte, i3_add_eq, i3_sub_eq, Int.add_sub_cancel, Int.add_neg_cancel_right, e2, e0, e1, i3_mul_eq, a1, hc1, b1, hc2, l1, s2])
  have o3 : ∀ a, ¬ a = 75 → ¬ a = 91 → ¬ a = 92 → d3 a = c a := fun a q1 q2 q3 => by rw [l2 a q1, o2 a q1 q2 q3]
  have hMF : ∀ F1 F2, MF c (fr (fr d3 93 F1) 89 F2) := fun F1 F2 => ⟨fun a q1 q2 => by rw [fr_ne (by omega), fr_ne (by omega), o3 a q1 (by omega) (by omega)], fun i q1 q2 q3 => by rw [fr_ne (by omega), fr_ne (by omega), l3 i q2 q3, i2 i q2 q3]⟩
  have q23 : ∀ F1 F2, fr (fr d3 93 F1) 89 F2 75 23 = fl (fl (fl 0 (nmf g N p 0 (B 0 0 * B 0 1 - 1))) (nmf g N p1 1 20)) (nmf g N p2 1 50) := fun F1 F2 => by rw [fr_ne (by omega), fr_ne (by omega)]; exact l8
  have hrg : ∀ {F1 F2}, 0 ≤ fr (fr d3 93 F1) 89 F2 75 22 ∧ fr (fr d3 93 F1) 89 F2 75 22 ≤ N := fun {F1 F2} => by
    rw [fr_ne (by omega), fr_ne (by omega), l4]
    exact l5
  obtain ⟨rfl, rfl⟩ := a6 rfl
  rw [fl_0] at q23 b6 l6
  by_cases f1 : nmf g N p 0 (B 0 0 * B 0 1 - 1) = 0
  · rw [if_neg (fun q => q f1)] at hb
    rw [f1, fl_0] at q23 l6
    obtain ⟨rfl, rfl⟩ := b6 f1
    by_cases f2 : nmf g N (nmp g N p) 1 20 = 0
    · rw [if_neg (fun q => q f2)] at hb
      rw [f2, fl_0] at q23
      obtain ⟨rfl, rfl⟩ := l6 f2
      by_cases f3 : nmf g N (nmp g N (nmp g N p)) 1 50 = 0
      · rw [if_neg (fun q => q f3)] at hb
        obtain ⟨h1, h2, h3, h4⟩ := pr4 hb
        refine hq _ (hMF _ _) hrg (by rw [q23, ← h1]; exact f3) fun _ => ⟨by rw [fr_ne (by omega), fr_ne (by omega), l4, ← h2], ?_⟩
        have y0 : B' 0 = fu (B 0) 2 (B 0 2 + 1) := by rw [← h4, fr_same]
        have y1 : B' 1 = fu (B 1) (B 0 2) (nmv g N (nmp g N p)) := by rw [← h4]; simp (disch := omega) only [fr_ne, fr_same]
        have y2 : B' 2 = fu (B 2) (B 0 2) (nmv g N (nmp g N (nmp g N p))) := by rw [← h4]; simp (disch := omega) only [fr_ne, fr_same]
        have y3 : B' 3 = B 3 := by rw [← h4]; simp (disch := omega) only [fr_ne]
        have y4 : B' 4 = B 4 := by rw [← h4]; simp (disch := omega) only [fr_ne]
        have y5 : B' 5 = fu (B 5) (B 0 2) (nmv g N p) := by rw [← h4]; simp (disch := omega) only [fr_ne, fr_same]
        have z91 : d3 91 = fu (c 91) (B 0 2) (nmv g N p) := by rw [l2 91 (by omega), ← hc2, fr_ne (by omega), b2 91 (by omega), ← hc1, fr_same, a2 91 (by omega)]
        have z92 : d3 92 = fu (c 92) (B 0 2) (nmv g N (nmp g N p)) := by rw [l2 92 (by omega), ← hc2, fr_same, b2 92 (by omega), o1 92 (by omega) (by omega)]
        have z93 : d3 93 = c 93 := o3 93 (by omega) (by omega) (by omega)
        unfold RRM
        rw [y0, y1, y2, y3, y4, y5]
        simp (disch := omega) only [fr_ne, fr_same, z91, z92, z93, o3, l3, i2, fu_ne, fu_same]
        refine ⟨fun i i1 i2 => ?_, fun j j1 j2 => ?_, w3, w4, by rw [← h3]; exact w5⟩
        · by_cases q0 : i = 2
          · rw [q0, fu_same, fu_same]
          · rw [fu_ne q0, fu_ne q0]
            exact w1 i i1 i2
        · by_cases q0 : j = B 0 2
          · rw [q0, fu_same, fu_same, fu_same, fu_same, fu_same, fu_same]
            exact ⟨rfl, rfl, rfl⟩
          · rw [fu_ne q0, fu_ne q0, fu_ne q0, fu_ne q0, fu_ne q0, fu_ne q0]
            exact w2 j j1 (by omega)
      · rw [if_pos f3] at hb
        obtain ⟨h1, _⟩ := pr4 hb
        exact hq _ (hMF _ _) hrg (by rw [q23]; exact h1) fun z => absurd (h1.trans z) f3
    · rw [if_pos f2] at hb
      obtain ⟨h1, _⟩ := pr4 hb
      exact hq _ (hMF _ _) hrg (by rw [q23, fl_n f2]; exact h1) fun z => absurd (h1.trans z) f2
  · rw [if_pos f1] at hb
    obtain ⟨h1, _⟩ := pr4 hb
    exact hq _ (hMF _ _) hrg (by rw [q23, fl_n f1, fl_n f1]; exact h1) fun z => absurd (h1.trans z) f1
theorem m183 (hS : MS L sh) (hT : TP g N) (hR : RM c g N p) (hp0 : 0 ≤ p ∧ p ≤ N) (hRR : RRM c B R) (hb : bpt g N 4 p R B = (f, p', R', B'))
    (hq : ∀ e, MF c e → (0 ≤ e 75 22 ∧ e 75 22 ≤ N) → e 75 23 = f → (f = 0 → e 75 22 = p' ∧ RRM e B' R') → Q none (hp L sh e) n) : tc_C 183 [rf 75] (hp L sh c) n Q := by
  unfold bpt at hb
  rw [if_neg (by omega), if_neg (by omega), if_neg (by omega), if_neg (by omega)] at hb
  obtain ⟨w1, w2, w3, w4, w5⟩ := hRR
  obtain ⟨r95, r21, r22, r23⟩ := hR
  have hN := hT.1
  obtain ⟨d1, v1, p1, a1, a2, a3, a4, a5, a6, a7, a8⟩ := m178a (lo := 0) (hi := 9) hS hT r95 r21 r22 hp0 r23
  generalize hc1 : fr d1 89 (fu (d1 89) 5 v1) = c1
  have o1 : ∀ a, ¬ a = 75 → ¬ a = 89 → c1 a = c a := fun a q1 q2 => by rw [← hc1, fr_ne q2, a2 a q1]
  have i1 : ∀ i, ¬ i = 22 → ¬ i = 23 → c1 75 i = c 75 i := fun i q1 q2 => by rw [← hc1, fr_ne (by omega), a3 i q1 q2]
  obtain ⟨d2, v2, p2, b1, b2, b3, b4, b5, b6, b7, b8⟩ := m178a (c := c1) (p := p1) (lo := 0) (hi := 9) (F := fl 0 (nmf g N p 0 9)) hS hT ((o1 95 (by omega) (by omega)).trans r95) ((i1 21 (by omega) (by omega)).trans r21) (by rw [← hc1, fr_ne (by omega)]; exact a4) a5 (by rw [← hc1, fr_ne (by omega)]; exact a8)
  generalize hc2 : fr d2 89 (fu (d2 89) 6 v2) = c2
  have o2 : ∀ a, ¬ a = 75 → ¬ a = 89 → c2 a = c a := fun a q1 q2 => by rw [← hc2, fr_ne q2, b2 a q1, o1 a q1 q2]
  have i2 : ∀ i, ¬ i = 22 → ¬ i = 23 → c2 75 i = c 75 i := fun i q1 q2 => by rw [← hc2, fr_ne (by omega), b3 i q1 q2, i1 i q1 q2]
  have j22 : c2 75 22 = p2 := by rw [← hc2, fr_ne (by omega)]; exact b4
  have j23 : c2 75 23 = fl (fl 0 (nmf g N p 0 9)) (nmf g N p1 0 9) := by rw [← hc2, fr_ne (by omega)]; exact b8
  have j95 : c2 95 = g := (o2 95 (by omega) (by omega)).trans r95
  have j21 : c2 75 21 = N := (i2 21 (by omega) (by omega)).trans r21
  have h171 := fun Q => c171q (c := c2) (n := n) (Q := Q) (N := N) (p := p2) hS (by rw [j95]; exact hT) j21 j22 (by omega)
  rw [j95] at h171
  have hr2 := nm_rng (g := g) b5
  generalize hc3 : fr c2 75 (fu (c2 75) 22 (sk g N p2)) = c3 at h171
  obtain ⟨d3, v3, p3, l1, l2, l3, l4, l5, l6, l7, l8⟩ := m178a (c := c3) (p := sk g N p2) (lo := 0) (hi := 9) (F := fl (fl 0 (nmf g N p 0 9)) (nmf g N p1 0 9)) hS hT (by rw [← hc3, fr_ne (by omega)]; exact j95) (by rw [← hc3, fr_same, fu_ne (by omega)]; exact j21) (by rw [← hc3, fr_same, fu_same]) ⟨hr2.2.2.1, hr2.2.2.2⟩ (by rw [← hc3, fr_same, fu_ne (by omega)]; exact j23)
  rw [nmf_sk] at l8
  rw [nmv_sk, nmp_sk] at l6
  have k22 : c3 75 22 = sk g N p2 := by rw [← hc3, fr_same, fu_same]
  have z89 : d3 89 = fu (fu (c 89) 5 v1) 6 v2 := by rw [l2 89 (by omega), ← hc3, fr_ne (by omega), ← hc2, fr_same, b2 89 (by omega), ← hc1, fr_same, a2 89 (by omega)]
  have s5 : d3 89 5 = v1 := by rw [z89, fu_ne (by omega), fu_same]
  have s6 : d3 89 6 = v2 := by rw [z89, fu_same]
  have o3 : ∀ a, ¬ a = 75 → ¬ a = 89 → d3 a = c a := fun a q1 q2 => by rw [l2 a q1, ← hc3, fr_ne q1, o2 a q1 q2]
  have i3 : ∀ i, ¬ i = 22 → ¬ i = 23 → d3 75 i = c 75 i := fun i q1 q2 => by rw [l3 i q1 q2, ← hc3, fr_same, fu_ne q1, i2 i q1 q2]
  have hMF : ∀ F1, MF c (fr d3 89 F1) := fun F1 => ⟨fun a q1 q2 => by rw [fr_ne (by omega), o3 a q1 (by omega)], fun i q1 q2 q3 => by rw [fr_ne (by omega), i3 i q2 q3]⟩
  have hrg : ∀ {F1}, 0 ≤ fr d3 89 F1 75 22 ∧ fr d3 89 F1 75 22 ≤ N := fun {F1} => by
    rw [fr_ne (by omega), l4]
    exact l5
  show tc_W 183 0 [rf 75, tc_nil] [] _ _ Q
  obtain ⟨rfl, rfl⟩ := a6 rfl
  rw [fl_0] at b6 l8 l6
  by_cases f1 : nmf g N p 0 9 = 0
  · rw [if_neg (fun q => q f1)] at hb
    rw [f1, fl_0] at l6 l8
    obtain ⟨rfl, rfl⟩ := b6 f1
    by_cases f2 : nmf g N (nmp g N p) 0 9 = 0
    · rw [if_neg (fun q => q f2)] at hb
      rw [f2, fl_0] at l8
      obtain ⟨rfl, rfl⟩ := l6 f2
      by_cases f3 : nmf g N (nmp g N (nmp g N p)) 0 9 = 0
      · rw [if_neg (fun q => q f3)] at hb
        rw [f3] at l8
        have r1 := nm_rng (g := g) hp0
        have u1 := nmf_0 f1 hp0.1
        have u2 := nmf_0 f2 r1.1
        have u3 := nmf_0 f3 b5.1
        by_cases f4 : nmv g N p + nmv g N (nmp g N p) + nmv g N (nmp g N (nmp g N p)) = 0
        · rw [if_pos f4] at hb
          obtain ⟨h1, _⟩ := pr4 hb
          have h175 := fun (d : Nat → Int → Int) Q => c175 (c := d) (n := n) (Q := Q) (k := 1) (p := sk g N (nmp g N (nmp g N p))) hS (by omega) (by omega)
          repeat' (first | (simp (disch := first | omega | exact Nat.le_of_ble_eq_true rfl | exact rfl | assumption | (simp only [fr_at, Nat.reduceEqDiff, if_false, if_true, reduceIte]; first | assumption | omega)) only [r183_0, r183_1, r183_4, r183_5, r183_6, r183_7, r183_9, v183_9_11, r183_12, r183_13, r183_14, r183_17, r183_19, r183_20, r183_21, r183_23, v183_23_11, r183_26, r183_27, r183_28, v183_28_11, r183_31, r183_32, r183_35r, r183_36, r183_37, r183_40, r183_42, r183_43, r183_44, r183_46, v183_46_11, r183_49, r183_50, r183_51, r183_57, r183_58, r183_61, r183_62, r183_63, r183_64, r183_67, r183_69, r183_70, r183_71, r183_72, r183_75, r183_77, r183_78, r183_82, r183_83, r183_84, r183_85, v183_85_11, r183_88, r183_89, r183_92, r183_93, r183_94, r183_95, g11_49_11, g11_174_11, g11_171_11, mo_len, ms75 hS, mt75 hS, mo_g14, ms89 hS, mt89 hS, mo_g22, mo_g23, il_s, bl_s, bl_z, ll_s, is_s, bs_s, bs_z, ls_s, al_s, al_b, al_l, fr_at, fr_fr, Nat.reduceEqDiff, tc_gf3_s, tc_ql2_s, tc_ws_0, tc_ws_i, tc_ws_l, tc_ws_r, Nat.reduceLeDiff, Nat.reduceAdd, Nat.reduceLT, true_and, and_true, if_true, if_false, tc_K, Option.toList_some, Option.toList_none, List.nil_append, List.cons_append, ite_true, ite_false, Int.cast_ofNat_Int, reduceIte, i3_add_eq, i3_sub_eq, Int.add_sub_cancel, Int.add_neg_cancel_right, a1, hc1, b1, hc2, h171, k22, l1, s5, s6, fu_ne, fu_same, l8, h175, f4]) | (simp only [r183_54, r183_79, i6_lt0, i6_0lt, i6_0le, i6_le0, i6_eq0, b10_0, ite_not, Int.reduceLT, Int.reduceLE, Int.reduceEq, Int.reduceNeg, if_true, if_false, ite_true, ite_false, reduceIte, eq_self, not_true, not_false_eq_true]; try refine tc_ite (fun _ => ?_) (fun _ => ?_) <;> try (exfalso; omega)))
          refine hq _ ⟨fun a q1 q2 => ?_, fun i q1 q2 q3 => ?_⟩ ?_ ?_ (fun z => by omega)
          · simp (disch := omega) only [fr_ne]
            exact o3 a q1 (by omega)
          · simp (disch := omega) only [fr_ne, fr_same, fu_ne]
            exact i3 i q2 q3
          · simp (disch := omega) only [fr_ne, fr_same, fu_ne]
            rw [l4]
            exact l5
          · simp (disch := omega) only [fr_ne, fr_same, fu_same]
            first
              | exact h1
              | omega
        · rw [if_neg f4] at hb
          obtain ⟨h1, h2, h3, h4⟩ := pr4 hb
          repeat' (first | (simp (disch := first | omega | exact Nat.le_of_ble_eq_true rfl | exact rfl | assumption | (simp only [fr_at, Nat.reduceEqDiff, if_false, if_true, reduceIte]; first | assumption | omega)) only [r183_0, r183_1, r183_4, r183_5, r183_6, r183_7, r183_9, v183_9_11, r183_12, r183_13, r183_14, r183_17, r183_19, r183_20, r183_21, r183_23, v183_23_11, r183_26, r183_27, r183_28, v183_28_11, r183_31, r183_32, r183_35r, r183_36, r183_37, r183_40, r183_42, r183_43, r183_44, r183_46, v183_46_11, r183_49, r183_50, r183_51, r183_57, r183_58, r183_61, r183_62, r183_63, r183_64, r183_67, r183_69, r183_70, r183_71, r183_72, r183_75, r183_77, r183_78, r183_82, r183_83, r183_84, r183_85, v183_85_11, r183_88, r183_89, r183_92, r183_93, r183_94, r183_95, g11_49_11, g11_174_11, g11_171_11, mo_len, ms75 hS, mt75 hS, mo_g14, ms89 hS, mt89 hS, mo_g22, mo_g23, il_s, bl_s, bl_z, ll_s, is_s, bs_s, bs_z, ls_s, al_s, al_b, al_l, fr_at, fr_fr, Nat.reduceEqDiff, tc_gf3_s, tc_ql2_s, tc_ws_0, tc_ws_i, tc_ws_l, tc_ws_r, Nat.reduceLeDiff, Nat.reduceAdd, Nat.reduceLT, true_and, and_true, if_true, if_false, tc_K, Option.toList_some, Option.toList_none, List.nil_append, List.cons_append, ite_true, ite_false, Int.cast_ofNat_Int, reduceIte, i3_add_eq, i3_sub_eq, Int.add_sub_cancel, Int.add_neg_cancel_right, a1, hc1, b1, hc2, h171, k22, l1, s5, s6, fu_ne, fu_same, l8, f4]) | (simp only [r183_54, r183_79, i6_lt0, i6_0lt, i6_0le, i6_le0, i6_eq0, b10_0, ite_not, Int.reduceLT, Int.reduceLE, Int.reduceEq, Int.reduceNeg, if_true, if_false, ite_true, ite_false, reduceIte, eq_self, not_true, not_false_eq_true]; try refine tc_ite (fun _ => ?_) (fun _ => ?_) <;> try (exfalso; omega)))
          refine hq _ (hMF _) hrg (by rw [fr_ne (by omega), l8]; exact h1) fun _ => ⟨by rw [fr_ne (by omega), l4]; exact h2, ?_⟩
          have y0 : B' 0 = fu (fu (fu (fu (B 0) 5 (nmv g N p)) 6 (nmv g N (nmp g N p))) 7 (nmv g N (nmp g N (nmp g N p)))) 4 1 := by rw [← h4, fr_same]
          have eo : ∀ a, ¬ a = 0 → B' a = B a := fun a h1 => by rw [← h4, fr_ne h1]
          unfold RRM
          rw [y0, eo 1 (by omega), eo 2 (by omega), eo 3 (by omega), eo 4 (by omega), eo 5 (by omega)]
          simp (disch := omega) only [fr_ne, fr_same, z89, o3, i3, fu_ne, fu_same]
          refine ⟨fun i i1 i2 => ?_, w2, w3, w4, by rw [← h3]; exact w5⟩
          have hi := w1 i i1 i2
          unfold fu
          repeat' split
          all_goals first
            | rfl
            | exact hi
      · rw [if_pos f3] at hb
        obtain ⟨h1, _⟩ := pr4 hb
        rw [h1] at l8 f3
        repeat' (first | (simp (disch := first | omega | exact Nat.le_of_ble_eq_true rfl | exact rfl | assumption | (simp only [fr_at, Nat.reduceEqDiff, if_false, if_true, reduceIte]; first | assumption | omega)) only [r183_0, r183_1, r183_4, r183_5, r183_6, r183_7, r183_9, v183_9_11, r183_12, r183_13, r183_14, r183_17, r183_19, r183_20, r183_21, r183_23, v183_23_11, r183_26, r183_27, r183_28, v183_28_11, r183_31, r183_32, r183_35r, r183_36, r183_37, r183_40, r183_42, r183_43, r183_44, r183_46, v183_46_11, r183_49, r183_50, r183_51, r183_57, r183_58, r183_61, r183_62, r183_63, r183_64, r183_67, r183_69, r183_70, r183_71, r183_72, r183_75, r183_77, r183_78, r183_82, r183_83, r183_84, r183_85, v183_85_11, r183_88, r183_89, r183_92, r183_93, r183_94, r183_95, g11_49_11, g11_174_11, g11_171_11, mo_len, ms75 hS, mt75 hS, mo_g14, ms89 hS, mt89 hS, mo_g22, mo_g23, il_s, bl_s, bl_z, ll_s, is_s, bs_s, bs_z, ls_s, al_s, al_b, al_l, fr_at, fr_fr, Nat.reduceEqDiff, tc_gf3_s, tc_ql2_s, tc_ws_0, tc_ws_i, tc_ws_l, tc_ws_r, Nat.reduceLeDiff, Nat.reduceAdd, Nat.reduceLT, true_and, and_true, if_true, if_false, tc_K, Option.toList_some, Option.toList_none, List.nil_append, List.cons_append, ite_true, ite_false, Int.cast_ofNat_Int, reduceIte, i3_add_eq, i3_sub_eq, Int.add_sub_cancel, Int.add_neg_cancel_right, a1, hc1, b1, hc2, h171, k22, l1, s5, s6, fu_ne, fu_same, l8]) | (simp only [r183_54, r183_79, i6_lt0, i6_0lt, i6_0le, i6_le0, i6_eq0, b10_0, ite_not, Int.reduceLT, Int.reduceLE, Int.reduceEq, Int.reduceNeg, if_true, if_false, ite_true, ite_false, reduceIte, eq_self, not_true, not_false_eq_true]; try refine tc_ite (fun _ => ?_) (fun _ => ?_) <;> try (exfalso; omega)))
        all_goals first
          | exact hq _ (hMF _) hrg (by rw [fr_ne (by omega)]; exact l8) fun z => absurd z f3
          | omega
    · rw [if_pos f2] at hb
      obtain ⟨h1, _⟩ := pr4 hb
      rw [fl_n f2, h1] at l8
      rw [h1] at f2
      repeat' (first | (simp (disch := first | omega | exact Nat.le_of_ble_eq_true rfl | exact rfl | assumption | (simp only [fr_at, Nat.reduceEqDiff, if_false, if_true, reduceIte]; first | assumption | omega)) only [r183_0, r183_1, r183_4, r183_5, r183_6, r183_7, r183_9, v183_9_11, r183_12, r183_13, r183_14, r183_17, r183_19, r183_20, r183_21, r183_23, v183_23_11, r183_26, r183_27, r183_28, v183_28_11, r183_31, r183_32, r183_35r, r183_36, r183_37, r183_40, r183_42, r183_43, r183_44, r183_46, v183_46_11, r183_49, r183_50, r183_51, r183_57, r183_58, r183_61, r183_62, r183_63, r183_64, r183_67, r183_69, r183_70, r183_71, r183_72, r183_75, r183_77, r183_78, r183_82, r183_83, r183_84, r183_85, v183_85_11, r183_88, r183_89, r183_92, r183_93, r183_94, r183_95, g11_49_11, g11_174_11, g11_171_11, mo_len, ms75 hS, mt75 hS, mo_g14, ms89 hS, mt89 hS, mo_g22, mo_g23, il_s, bl_s, bl_z, ll_s, is_s, bs_s, bs_z, ls_s, al_s, al_b, al_l, fr_at, fr_fr, Nat.reduceEqDiff, tc_gf3_s, tc_ql2_s, tc_ws_0, tc_ws_i, tc_ws_l, tc_ws_r, Nat.reduceLeDiff, Nat.reduceAdd, Nat.reduceLT, true_and, and_true, if_true, if_false, tc_K, Option.toList_some, Option.toList_none, List.nil_append, List.cons_append, ite_true, ite_false, Int.cast_ofNat_Int, reduceIte, i3_add_eq, i3_sub_eq, Int.add_sub_cancel, Int.add_neg_cancel_right, a1, hc1, b1, hc2, h171, k22, l1, s5, s6, fu_ne, fu_same, l8]) | (simp only [r183_54, r183_79, i6_lt0, i6_0lt, i6_0le, i6_le0, i6_eq0, b10_0, ite_not, Int.reduceLT, Int.reduceLE, Int.reduceEq, Int.reduceNeg, if_true, if_false, ite_true, ite_false, reduceIte, eq_self, not_true, not_false_eq_true]; try refine tc_ite (fun _ => ?_) (fun _ => ?_) <;> try (exfalso; omega)))
      all_goals first
        | exact hq _ (hMF _) hrg (by rw [fr_ne (by omega)]; exact l8) fun z => absurd z f2
        | omega
  · rw [if_pos f1] at hb
    obtain ⟨h1, _⟩ := pr4 hb
    rw [fl_n f1, fl_n f1, h1] at l8
    rw [h1] at f1
    repeat' (first | (simp (disch := first | omega | exact Nat.le_of_ble_eq_true rfl | exact rfl | assumption | (simp only [fr_at, Nat.reduceEqDiff, if_false, if_true, reduceIte]; first | assumption | omega)) only [r183_0, r183_1, r183_4, r183_5, r183_6, r183_7, r183_9, v183_9_11, r183_12, r183_13, r183_14, r183_17, r183_19, r183_20, r183_21, r183_23, v183_23_11, r183_26, r183_27, r183_28, v183_28_11, r183_31, r183_32, r183_35r, r183_36, r183_37, r183_40, r183_42, r183_43, r183_44, r183_46, v183_46_11, r183_49, r183_50, r183_51, r183_57, r183_58, r183_61, r183_62, r183_63, r183_64, r183_67, r183_69, r183_70, r183_71, r183_72, r183_75, r183_77, r183_78, r183_82, r183_83, r183_84, r183_85, v183_85_11, r183_88, r183_89, r183_92, r183_93, r183_94, r183_95, g11_49_11, g11_174_11, g11_171_11, mo_len, ms75 hS, mt75 hS, mo_g14, ms89 hS, mt89 hS, mo_g22, mo_g23, il_s, bl_s, bl_z, ll_s, is_s, bs_s, bs_z, ls_s, al_s, al_b, al_l, fr_at, fr_fr, Nat.reduceEqDiff, tc_gf3_s, tc_ql2_s, tc_ws_0, tc_ws_i, tc_ws_l, tc_ws_r, Nat.reduceLeDiff, Nat.reduceAdd, Nat.reduceLT, true_and, and_true, if_true, if_false, tc_K, Option.toList_some, Option.toList_none, List.nil_append, List.cons_append, ite_true, ite_false, Int.cast_ofNat_Int, reduceIte, i3_add_eq, i3_sub_eq, Int.add_sub_cancel, Int.add_neg_cancel_right, a1, hc1, b1, hc2, h171, k22, l1, s5, s6, fu_ne, fu_same, l8]) | (simp only [r183_54, r183_79, i6_lt0, i6_0lt, i6_0le, i6_le0, i6_eq0, b10_0, ite_not, Int.reduceLT, Int.reduceLE, Int.reduceEq, Int.reduceNeg, if_true, if_false, ite_true, ite_false, reduceIte, eq_self, not_true, not_false_eq_true]; try refine tc_ite (fun _ => ?_) (fun _ => ?_) <;> try (exfalso; omega)))
    all_goals first
      | exact hq _ (hMF _) hrg (by rw [fr_ne (by omega)]; exact l8) fun z => absurd z f1
      | omega
end BEACHN

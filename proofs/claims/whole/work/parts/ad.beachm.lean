/-! the reference: a beach read -/
def RM (c : Nat → Int → Int) (g : Int → Int) (N p : Int) : Prop := c 95 = g ∧ c 75 21 = N ∧ c 75 22 = p ∧ c 75 23 = 0
def RRM (c : Nat → Int → Int) (B : Nat → Int → Int) (R : Int) : Prop := (∀ i, 0 ≤ i → i ≤ 7 → c 89 i = B 0 i) ∧ (∀ f, 0 ≤ f → f < B 0 2 → c 91 f = B 5 f ∧ c 92 f = B 1 f ∧ c 93 f = B 2 f) ∧ (∀ j, 0 ≤ j → j < B 0 3 → c 94 j = B 3 j) ∧ (∀ x, 0 ≤ x → x < 25 → c 90 x = B 4 x) ∧ c 75 20 = R
def MF (c e : Nat → Int → Int) : Prop := (∀ a, ¬ a = 75 → (a < 89 ∨ 94 < a) → e a = c a) ∧ ∀ i, ¬ i = 20 → ¬ i = 22 → ¬ i = 23 → e 75 i = c 75 i
theorem nmf_sk (g : Int → Int) (N p lo hi : Int) : nmf g N (sk g N p) lo hi = nmf g N p lo hi := by
  unfold nmf
  rw [sk_2]
theorem nmv_sk (g : Int → Int) (N p : Int) : nmv g N (sk g N p) = nmv g N p := by
  unfold nmv
  rw [sk_2]
theorem nmp_sk (g : Int → Int) (N p : Int) : nmp g N (sk g N p) = nmp g N p := by
  unfold nmp
  rw [sk_2]
section BEACHM
variable {L : Nat} {sh : Nat → SH} {c : Nat → Int → Int} {n : Nat} {Q : Option AV → List SC → Nat → Prop} {g : Int → Int} {N p R f p' R' k : Int} {B B' : Nat → Int → Int}
theorem MF.refl : MF c c := ⟨fun _ _ _ => rfl, fun _ _ _ _ => rfl⟩
theorem MF.trans {d e : Nat → Int → Int} (h : MF c d) (k : MF d e) : MF c e := ⟨fun a a1 a2 => (k.1 a a1 a2).trans (h.1 a a1 a2), fun i i1 i2 i3 => (k.2 i i1 i2 i3).trans (h.2 i i1 i2 i3)⟩
theorem MF.of75 {e : Nat → Int → Int} (h : ∀ a, ¬ a = 75 → e a = c a) (k : ∀ i, ¬ i = 22 → ¬ i = 23 → e 75 i = c 75 i) : MF c e := ⟨fun a a1 _ => h a a1, fun i _ i2 i3 => k i i2 i3⟩
theorem m178k (hS : MS L sh) (hT : TP g N) (hR : RM c g N p) (hp0 : 0 ≤ p ∧ p ≤ N) {lo hi : Int} (h0 : nmf g N p lo hi = 0) : ∃ d, (∀ n Q, tc_C 178 [rf 75, .inl lo, .inl hi] (hp L sh c) n Q = Q (some (.inl (nmv g N p))) (hp L sh d) n) ∧ RM d g N (nmp g N p) ∧ (∀ a, ¬ a = 75 → d a = c a) ∧ (∀ i, ¬ i = 22 → ¬ i = 23 → d 75 i = c 75 i) := by
  obtain ⟨rfl, r1, r2, r4⟩ := hR
  have hN := hT.1
  refine ⟨fr c 75 (fu (fu (c 75) 22 (dgt (c 95) N (sk (c 95) N p)).1) 23 (amf (c 95) N (sk (c 95) N p) lo hi)), fun n Q => ?_, ⟨?_, ?_, ?_, ?_⟩, fun a ha => fr_ne ha, fun i i1 i2 => by rw [fr_same, fu_ne i2, fu_ne i1]⟩
  · rw [c178 hS hT r1 r2 (by omega) r4]
    rfl
  · rw [fr_ne (by omega)]
  · rw [fr_same, fu_ne (by omega), fu_ne (by omega)]; exact r1
  · rw [fr_same, fu_ne (by omega), fu_same]; rfl
  · rw [fr_same, fu_same]; exact h0
theorem m178x (hS : MS L sh) (hT : TP g N) (hR : RM c g N p) (hp0 : 0 ≤ p ∧ p ≤ N) {lo hi F : Int} (hF : nmf g N p lo hi = F) : ∃ d, (∀ n Q, tc_C 178 [rf 75, .inl lo, .inl hi] (hp L sh c) n Q = Q (some (.inl (nmv g N p))) (hp L sh d) n) ∧ (∀ a, ¬ a = 75 → d a = c a) ∧ (∀ i, ¬ i = 22 → ¬ i = 23 → d 75 i = c 75 i) ∧ d 75 22 = nmp g N p ∧ d 75 23 = F := by
  obtain ⟨rfl, r1, r2, r4⟩ := hR
  have hN := hT.1
  refine ⟨fr c 75 (fu (fu (c 75) 22 (dgt (c 95) N (sk (c 95) N p)).1) 23 (amf (c 95) N (sk (c 95) N p) lo hi)), fun n Q => ?_, fun a ha => fr_ne ha, fun i i1 i2 => by rw [fr_same, fu_ne i2, fu_ne i1], ?_, ?_⟩
  · rw [c178 hS hT r1 r2 (by omega) r4]
    rfl
  · rw [fr_same, fu_ne (by omega), fu_same]; rfl
  · rw [fr_same, fu_same]; exact hF
/-- a number behind a fault -/
theorem m178f (hS : MS L sh) (hT : TP g N) (h95 : c 95 = g) (h21 : c 75 21 = N) (h22 : c 75 22 = p) (hp0 : 0 ≤ p ∧ p ≤ N) {F : Int} (h23 : c 75 23 = F) (hF : ¬ F = 0) {lo hi : Int} : ∃ d, (∀ n Q, tc_C 178 [rf 75, .inl lo, .inl hi] (hp L sh c) n Q = Q (some (.inl 0)) (hp L sh d) n) ∧ (∀ a, ¬ a = 75 → d a = c a) ∧ (∀ i, ¬ i = 22 → d 75 i = c 75 i) ∧ d 75 22 = sk g N p := by
  subst h95
  have hN := hT.1
  refine ⟨fr c 75 (fu (c 75) 22 (sk (c 95) N p)), fun n Q => c178f hS hT h21 h22 (by omega) (by rw [h23]; exact hF), fun a ha => fr_ne ha, fun i i1 => by rw [fr_same, fu_ne i1], by rw [fr_same, fu_same]⟩
theorem nmv_rng (g : Int → Int) (N p : Int) : 0 ≤ nmv g N p ∧ nmv g N p ≤ 99999 := dgt_v g N (sk g N p)
theorem m177_0 (hS : MS L sh) (hT : TP g N) (hR : RM c g N p) (hp0 : 0 ≤ p ∧ p ≤ N) (hRR : RRM c B R) (hb : bpt g N 0 p R B = (f, p', R', B'))
    (hq : ∀ e, MF c e → (0 ≤ e 75 22 ∧ e 75 22 ≤ N) → e 75 23 = f → (f = 0 → e 75 22 = p' ∧ RRM e B' R') → Q none (hp L sh e) n) : tc_C 177 [rf 75, .inl 0] (hp L sh c) n Q := by
  have r1 := nm_rng (g := g) hp0
  have r2 := nm_rng (g := g) (p := nmp g N p) ⟨r1.1, r1.2.1⟩
  unfold bpt at hb
  rw [if_pos rfl] at hb
  obtain ⟨w1, w2, w3, w4, w5⟩ := hRR
  show tc_W 177 0 [rf 75, .inl 0, tc_nil] [] _ _ Q
  by_cases f1 : nmf g N p 2 5 = 0
  · rw [if_neg (fun q => q f1)] at hb
    obtain ⟨d1, a1, ⟨a27, b1, b2, b4⟩, a3, a4⟩ := m178k hS hT hR hp0 f1
    generalize hc1 : fr d1 89 (fu (d1 89) 0 (nmv g N p)) = c1
    have hR1 : RM c1 g N (nmp g N p) := by
      rw [← hc1]
      exact ⟨by rw [fr_ne (by omega)]; exact a27, by rw [fr_ne (by omega)]; exact b1, by rw [fr_ne (by omega)]; exact b2, by rw [fr_ne (by omega)]; exact b4⟩
    have e1 : ∀ a, ¬ a = 75 → ¬ a = 89 → c1 a = c a := fun a q1 q2 => by rw [← hc1, fr_ne q2, a3 a q1]
    have e75 : ∀ i, ¬ i = 22 → ¬ i = 23 → c1 75 i = c 75 i := fun i q1 q2 => by rw [← hc1, fr_ne (by omega), a4 i q1 q2]
    have e89 : c1 89 = fu (c 89) 0 (nmv g N p) := by rw [← hc1, fr_same, a3 89 (by omega)]
    obtain ⟨d2, l1, l2, l3, l4, l5⟩ := m178x (lo := 2) (hi := 5) hS hT hR1 ⟨r1.1, r1.2.1⟩ rfl
    repeat' (simp (disch := first | omega | exact Nat.le_of_ble_eq_true rfl | exact rfl | assumption | (simp only [fr_at, Nat.reduceEqDiff, if_false, if_true, reduceIte]; first | assumption | omega)) only [r177_0, r177_1_0, r177_1_1, r177_1_2, r177_1_3, r177_1_d, r177_32, r177_33, r177_36, r177_37, r177_38, r177_39, r177_40, v177_40_11, r177_43, r177_44, r177_45, r177_48, r177_49, r177_50, r177_51, r177_52, v177_52_11, r177_55, r177_56, r177_59, r177_60, v177_60_11, r177_63, r177_66, r177_67, r177_70, r177_71, r177_72i, r177_73, r177_74, r177_77, r177_78, r177_79, r177_80, r177_81, r177_84, r177_85, r177_86, r177_87, r177_90, r177_91, r177_92, r177_93, r177_94, r177_95, v177_95_11, r177_98, r177_99, r177_100, r177_103, r177_104, r177_105, r177_106, r177_108, v177_108_11, r177_111, r177_112, r177_113, r177_116, r177_117, r177_118, r177_119, r177_121, v177_121_11, r177_124, r177_125, r177_126, r177_129, r177_130, r177_131, r177_132, r177_133, r177_134, r177_135, r177_138, r177_139, r177_142, r177_143, r177_146, r177_147, r177_148, r177_149, r177_150, r177_152, v177_152_11, r177_155, r177_156, r177_157, r177_160, r177_161, r177_162, r177_163, r177_164, r177_165, r177_166, r177_169, r177_170, v177_170_11, r177_173, g11_49_11, g11_55_11, g11_58_11, g11_61_11, g11_64_11, mo_len, ms75 hS, mt75 hS, mo_g14, ms89 hS, mt89 hS, mo_g16, ms91 hS, mt91 hS, mo_g17, ms92 hS, mt92 hS, mo_g18, ms93 hS, mt93 hS, mo_g19, ms94 hS, mt94 hS, il_s, bl_s, bl_z, ll_s, is_s, bs_s, bs_z, ls_s, al_s, al_b, al_l, fr_at, fr_fr, Nat.reduceEqDiff, tc_gf3_s, tc_ql2_s, tc_ws_0, tc_ws_i, tc_ws_l, tc_ws_r, Nat.reduceLeDiff, Nat.reduceAdd, Nat.reduceLT, true_and, and_true, if_true, if_false, tc_K, Option.toList_some, Option.toList_none, List.nil_append, List.cons_append, ite_true, ite_false, Int.cast_ofNat_Int, reduceIte, i3_add_eq, i3_sub_eq, Int.add_sub_cancel, Int.add_neg_cancel_right, a1, hc1, l1])
    have hMF : MF c (fr d2 89 (fu (d2 89) 1 (nmv g N (nmp g N p)))) := ⟨fun a q1 q2 => by rw [fr_ne (by omega), l2 a q1, e1 a q1 (by omega)], fun i q1 q2 q3 => by rw [fr_ne (by omega), l3 i q2 q3, e75 i q2 q3]⟩
    have hrg : ∀ {F}, 0 ≤ fr d2 89 F 75 22 ∧ fr d2 89 F 75 22 ≤ N := fun {F} => by
      rw [fr_ne (by omega), l4]
      exact ⟨r2.1, r2.2.1⟩
    by_cases f2 : nmf g N (nmp g N p) 2 5 = 0
    · rw [if_neg (fun q => q f2)] at hb
      obtain ⟨h1, h2, h3, h4⟩ := pr4 hb
      refine hq _ hMF hrg (by rw [fr_ne (by omega), l5, ← h1]; exact f2) fun _ => ⟨by rw [fr_ne (by omega), l4, ← h2], ?_⟩
      have e0 : B' 0 = fu (fu (B 0) 0 (nmv g N p)) 1 (nmv g N (nmp g N p)) := by rw [← h4, fr_same]
      have eo : ∀ a, ¬ a = 0 → B' a = B a := fun a ha => by rw [← h4, fr_ne ha]
      unfold RRM
      rw [e0, eo 1 (by omega), eo 2 (by omega), eo 3 (by omega), eo 4 (by omega), eo 5 (by omega)]
      rw [fr_same, fr_ne (show ¬ 90 = 89 by omega), fr_ne (show ¬ 91 = 89 by omega), fr_ne (show ¬ 92 = 89 by omega), fr_ne (show ¬ 93 = 89 by omega), fr_ne (show ¬ 94 = 89 by omega), fr_ne (show ¬ 75 = 89 by omega), l2 89 (by omega), l2 90 (by omega), l2 91 (by omega), l2 92 (by omega), l2 93 (by omega), l2 94 (by omega), e89, e1 90 (by omega) (by omega), e1 91 (by omega) (by omega), e1 92 (by omega) (by omega), e1 93 (by omega) (by omega), e1 94 (by omega) (by omega), l3 20 (by omega) (by omega), e75 20 (by omega) (by omega)]
      simp (disch := omega) only [fu_ne]
      refine ⟨fun i i1 i2 => ?_, w2, w3, w4, by rw [← h3]; exact w5⟩
      by_cases q1 : i = 1
      · rw [q1, fu_same, fu_same]
      · rw [fu_ne q1, fu_ne q1]
        by_cases q0 : i = 0
        · rw [q0, fu_same, fu_same]
        · rw [fu_ne q0, fu_ne q0]
          exact w1 i i1 i2
    · rw [if_pos f2] at hb
      obtain ⟨h1, _⟩ := pr4 hb
      exact hq _ hMF hrg (by rw [fr_ne (by omega), l5]; exact h1) fun z => absurd (h1.trans z) f2
  · rw [if_pos f1] at hb
    obtain ⟨h1, _⟩ := pr4 hb
    have hf : ¬ f = 0 := fun q => f1 (h1.trans q)
    obtain ⟨d1, a1, a2, a3, a4, a5⟩ := m178x hS hT hR hp0 h1
    generalize hc1 : fr d1 89 (fu (d1 89) 0 (nmv g N p)) = c1
    obtain ⟨d2, l1, l2, l3, l4⟩ := m178f (c := c1) (lo := 2) (hi := 5) (p := nmp g N p) hS hT (by rw [← hc1, fr_ne (by omega), a2 95 (by omega)]; exact hR.1) (by rw [← hc1, fr_ne (by omega), a3 21 (by omega) (by omega)]; exact hR.2.1) (by rw [← hc1, fr_ne (by omega)]; exact a4) ⟨r1.1, r1.2.1⟩ (by rw [← hc1, fr_ne (by omega)]; exact a5) hf
    repeat' (simp (disch := first | omega | exact Nat.le_of_ble_eq_true rfl | exact rfl | assumption | (simp only [fr_at, Nat.reduceEqDiff, if_false, if_true, reduceIte]; first | assumption | omega)) only [r177_0, r177_1_0, r177_1_1, r177_1_2, r177_1_3, r177_1_d, r177_32, r177_33, r177_36, r177_37, r177_38, r177_39, r177_40, v177_40_11, r177_43, r177_44, r177_45, r177_48, r177_49, r177_50, r177_51, r177_52, v177_52_11, r177_55, r177_56, r177_59, r177_60, v177_60_11, r177_63, r177_66, r177_67, r177_70, r177_71, r177_72i, r177_73, r177_74, r177_77, r177_78, r177_79, r177_80, r177_81, r177_84, r177_85, r177_86, r177_87, r177_90, r177_91, r177_92, r177_93, r177_94, r177_95, v177_95_11, r177_98, r177_99, r177_100, r177_103, r177_104, r177_105, r177_106, r177_108, v177_108_11, r177_111, r177_112, r177_113, r177_116, r177_117, r177_118, r177_119, r177_121, v177_121_11, r177_124, r177_125, r177_126, r177_129, r177_130, r177_131, r177_132, r177_133, r177_134, r177_135, r177_138, r177_139, r177_142, r177_143, r177_146, r177_147, r177_148, r177_149, r177_150, r177_152, v177_152_11, r177_155, r177_156, r177_157, r177_160, r177_161, r177_162, r177_163, r177_164, r177_165, r177_166, r177_169, r177_170, v177_170_11, r177_173, g11_49_11, g11_55_11, g11_58_11, g11_61_11, g11_64_11, mo_len, ms75 hS, mt75 hS, mo_g14, ms89 hS, mt89 hS, mo_g16, ms91 hS, mt91 hS, mo_g17, ms92 hS, mt92 hS, mo_g18, ms93 hS, mt93 hS, mo_g19, ms94 hS, mt94 hS, il_s, bl_s, bl_z, ll_s, is_s, bs_s, bs_z, ls_s, al_s, al_b, al_l, fr_at, fr_fr, Nat.reduceEqDiff, tc_gf3_s, tc_ql2_s, tc_ws_0, tc_ws_i, tc_ws_l, tc_ws_r, Nat.reduceLeDiff, Nat.reduceAdd, Nat.reduceLT, true_and, and_true, if_true, if_false, tc_K, Option.toList_some, Option.toList_none, List.nil_append, List.cons_append, ite_true, ite_false, Int.cast_ofNat_Int, reduceIte, i3_add_eq, i3_sub_eq, Int.add_sub_cancel, Int.add_neg_cancel_right, a1, hc1, l1])
    refine hq _ ⟨fun a q1 q2 => by rw [fr_ne (by omega), l2 a q1, ← hc1, fr_ne (by omega), a2 a q1], fun i q1 q2 q3 => by rw [fr_ne (by omega), l3 i q2, ← hc1, fr_ne (by omega), a3 i q2 q3]⟩ (by rw [fr_ne (by omega), l4]; exact ⟨r2.2.2.1, r2.2.2.2⟩) (by rw [fr_ne (by omega), l3 23 (by omega), ← hc1, fr_ne (by omega)]; exact a5) fun z => absurd z hf
theorem m177_3 (hS : MS L sh) (hT : TP g N) (hR : RM c g N p) (hp0 : 0 ≤ p ∧ p ≤ N) (hRR : RRM c B R) (hB3 : 0 ≤ B 0 3 ∧ B 0 3 < 12) (hb : bpt g N 3 p R B = (f, p', R', B'))
    (hq : ∀ e, MF c e → (0 ≤ e 75 22 ∧ e 75 22 ≤ N) → e 75 23 = f → (f = 0 → e 75 22 = p' ∧ RRM e B' R') → Q none (hp L sh e) n) : tc_C 177 [rf 75, .inl 3] (hp L sh c) n Q := by
  unfold bpt at hb
  rw [if_neg (by omega), if_neg (by omega), if_neg (by omega), if_pos rfl] at hb
  obtain ⟨w1, w2, w3, w4, w5⟩ := hRR
  have e3 : c 89 3 = B 0 3 := w1 3 (by omega) (by omega)
  obtain ⟨d1, a1, a2, a3, a4, a5⟩ := m178x (lo := 0) (hi := 20) hS hT hR hp0 rfl
  have e3' : d1 89 3 = B 0 3 := by rw [a2 89 (by omega)]; exact e3
  have r1 := nm_rng (g := g) hp0
  have hrg : ∀ {F1 F2}, 0 ≤ fr (fr d1 94 F1) 89 F2 75 22 ∧ fr (fr d1 94 F1) 89 F2 75 22 ≤ N := fun {F1 F2} => by
    rw [fr_ne (by omega), fr_ne (by omega), a4]
    exact ⟨r1.1, r1.2.1⟩
  show tc_W 177 0 [rf 75, .inl 3, tc_nil] [] _ _ Q
  repeat' (simp (disch := first | omega | exact Nat.le_of_ble_eq_true rfl | exact rfl | assumption | (simp only [fr_at, Nat.reduceEqDiff, if_false, if_true, reduceIte]; first | assumption | omega)) only [r177_0, r177_1_0, r177_1_1, r177_1_2, r177_1_3, r177_1_d, r177_32, r177_33, r177_36, r177_37, r177_38, r177_39, r177_40, v177_40_11, r177_43, r177_44, r177_45, r177_48, r177_49, r177_50, r177_51, r177_52, v177_52_11, r177_55, r177_56, r177_59, r177_60, v177_60_11, r177_63, r177_66, r177_67, r177_70, r177_71, r177_72i, r177_73, r177_74, r177_77, r177_78, r177_79, r177_80, r177_81, r177_84, r177_85, r177_86, r177_87, r177_90, r177_91, r177_92, r177_93, r177_94, r177_95, v177_95_11, r177_98, r177_99, r177_100, r177_103, r177_104, r177_105, r177_106, r177_108, v177_108_11, r177_111, r177_112, r177_113, r177_116, r177_117, r177_118, r177_119, r177_121, v177_121_11, r177_124, r177_125, r177_126, r177_129, r177_130, r177_131, r177_132, r177_133, r177_134, r177_135, r177_138, r177_139, r177_142, r177_143, r177_146, r177_147, r177_148, r177_149, r177_150, r177_152, v177_152_11, r177_155, r177_156, r177_157, r177_160, r177_161, r177_162, r177_163, r177_164, r177_165, r177_166, r177_169, r177_170, v177_170_11, r177_173, g11_49_11, g11_55_11, g11_58_11, g11_61_11, g11_64_11, mo_len, ms75 hS, mt75 hS, mo_g14, ms89 hS, mt89 hS, mo_g16, ms91 hS, mt91 hS, mo_g17, ms92 hS, mt92 hS, mo_g18, ms93 hS, mt93 hS, mo_g19, ms94 hS, mt94 hS, il_s, bl_s, bl_z, ll_s, is_s, bs_s, bs_z, ls_s, al_s, al_b, al_l, fr_at, fr_fr, Nat.reduceEqDiff, tc_gf3_s, tc_ql2_s, tc_ws_0, tc_ws_i, tc_ws_l, tc_ws_r, Nat.reduceLeDiff, Nat.reduceAdd, Nat.reduceLT, true_and, and_true, if_true, if_false, tc_K, Option.toList_some, Option.toList_none, List.nil_append, List.cons_append, ite_true, ite_false, Int.cast_ofNat_Int, reduceIte, i3_add_eq, i3_sub_eq, Int.add_sub_cancel, Int.add_neg_cancel_right, a1, e3, e3'])
  have hMF : ∀ F1 F2, MF c (fr (fr d1 94 F1) 89 F2) := fun F1 F2 => ⟨fun a q1 q2 => by rw [fr_ne (by omega), fr_ne (by omega), a2 a q1], fun i q1 q2 q3 => by rw [fr_ne (by omega), fr_ne (by omega), a3 i q2 q3]⟩
  by_cases f1 : nmf g N p 0 20 = 0
  · rw [if_neg (fun q => q f1)] at hb
    obtain ⟨h1, h2, h3, h4⟩ := pr4 hb
    refine hq _ (hMF _ _) hrg (by rw [fr_ne (by omega), fr_ne (by omega), a5, ← h1]; exact f1) fun _ => ⟨by rw [fr_ne (by omega), fr_ne (by omega), a4, ← h2], ?_⟩
    have e0 : B' 0 = fu (B 0) 3 (B 0 3 + 1) := by rw [← h4, fr_same]
    have e3 : B' 3 = fu (B 3) (B 0 3) (nmv g N p) := by rw [← h4]; simp (disch := omega) only [fr_ne, fr_same]
    have eo : ∀ a, ¬ a = 0 → ¬ a = 3 → B' a = B a := fun a h1 h2 => by rw [← h4, fr_ne h1, fr_ne h2]
    unfold RRM
    rw [e0, e3, eo 1 (by omega) (by omega), eo 2 (by omega) (by omega), eo 4 (by omega) (by omega), eo 5 (by omega) (by omega)]
    simp (disch := omega) only [fr_ne, fr_same, a2, a3, fu_ne, fu_same]
    refine ⟨fun i i1 i2 => ?_, w2, fun j j1 j2 => ?_, w4, by rw [← h3]; exact w5⟩
    · by_cases q0 : i = 3
      · rw [q0, fu_same, fu_same]
      · rw [fu_ne q0, fu_ne q0]
        exact w1 i i1 i2
    · by_cases q0 : j = B 0 3
      · rw [q0, fu_same, fu_same]
      · rw [fu_ne q0, fu_ne q0]
        exact w3 j j1 (by omega)
  · rw [if_pos f1] at hb
    obtain ⟨h1, _⟩ := pr4 hb
    exact hq _ (hMF _ _) hrg (by rw [fr_ne (by omega), fr_ne (by omega), a5]; exact h1) fun z => absurd (h1.trans z) f1
end BEACHM

/-! the class: a word of a list -/
/-- words of these lengths, each with a blank behind, from i on -/
def WLS (f : Int → Int) : Int → List Nat → Prop
  | _, [] => True
  | i, l :: r => (∀ j : Int, 0 ≤ j → j < l → 97 ≤ f (i + j) ∧ f (i + j) ≤ 122) ∧ f (i + l) = 32 ∧ 0 < l ∧ WLS f (i + l + 1) r
def wlen : List Nat → Int
  | [] => 0
  | l :: r => l + 1 + wlen r
theorem wlen_nn : ∀ wl, 0 ≤ wlen wl := by
  intro wl
  induction wl with
  | nil => exact Int.le_refl 0
  | cons l r ih =>
    show 0 ≤ (l : Int) + 1 + wlen r
    omega
def rwd (g : Int → Int) (N p : Int) (f : Int → Int) : Int → Int → List Nat → Int
  | _, _, [] => -1
  | i, m, l :: r => if stq g N p (fun j => f (i + j)) l = 1 then m else rwd g N p f (i + l + 1) (m + 1) r
theorem rwd_rng {g : Int → Int} {N p : Int} {f : Int → Int} : ∀ (wl : List Nat) (i m : Int), 0 ≤ m → rwd g N p f i m wl = -1 ∨ (m ≤ rwd g N p f i m wl ∧ rwd g N p f i m wl < m + wl.length) := by
  intro wl
  induction wl with
  | nil => intro i m _; exact Or.inl rfl
  | cons l r ih =>
    intro i m hm
    have hl : ((l :: r).length : Int) = r.length + 1 := rfl
    unfold rwd
    split
    · omega
    · have := ih (i + l + 1) (m + 1) (by omega)
      omega
/-- how far a word's signs stand in the text -/
theorem mtc_ge {g : Int → Int} {p : Int} {f : Int → Int} : ∀ {k : Nat}, mtc g p f k = 1 → ∀ j : Int, 0 ≤ j → j < k → g (p + j) = f j := by
  intro k
  induction k with
  | zero => intro _ j j1 j2; omega
  | succ k ih =>
    intro h j j1 j2
    unfold mtc at h
    by_cases hc : mtc g p f k = 1 ∧ g (p + k) = f k
    · by_cases hj : j = k
      · rw [hj]
        exact hc.2
      · exact ih hc.1 j j1 (by omega)
    · rw [if_neg hc] at h
      omega
theorem mtc_of {g : Int → Int} {p : Int} {f : Int → Int} : ∀ {k : Nat}, (∀ j : Int, 0 ≤ j → j < k → g (p + j) = f j) → mtc g p f k = 1 := by
  intro k
  induction k with
  | zero => intro _; rfl
  | succ k ih =>
    intro h
    exact if_pos ⟨ih fun j j1 j2 => h j j1 (by omega), h k (by omega) (by omega)⟩
section WRD_b
variable {L : Nat} {sh : Nat → SH} {c : Nat → Int → Int} {n : Nat} {Q : Option AV → List SC → Nat → Prop} {bs : Option Nat} 
theorem c21w_b (hr : sh 69 = (6, 0, [some 27, bs])) (h27 : sh 27 = (1, 400, [])) (hL : 115 ≤ L) {N p R : Int} (hTP : TP (c 27) N) (h1 : c 69 1 = N) (h2 : c 69 2 = p) (hp0 : 0 ≤ p ∧ p ≤ 450) (hR : rn (c 27) N p = R) {w tl : Nat} (hw : w < L) (hsw : sh w = (9, tl, [])) (htl : tl ≤ 100) : ∀ (wl : List Nat) (i m : Int) (a6 a7 : AV), 0 ≤ i → i + wlen wl = tl → 0 ≤ m → m ≤ i → WLS (c w) i wl → Q (some (.inl (rwd (c 27) N p (c w) i m wl))) (hp L sh (fr c 69 (fu (c 69) 2 (if rwd (c 27) N p (c w) i m wl = -1 then p else R)))) n → tc_W 21 53 [rf 69, rf w, .inl R, .inl m, .inl 0, .inl i, a6, a7] [] (hp L sh c) n Q := by
  have hLr : 69 < L := by omega
  have hL27 : 27 < L := by omega
  have hT1 := hTP.1
  have hrr := rn_rng (g := c 27) (n := N) (p := p)
  rw [hR] at hrr
  intro wl
  induction wl with
  | nil =>
    intro i m a6 a7 hi hlen hm hm2 _ hq
    have hlen' : i + 0 = tl := hlen
    have e : rwd (c 27) N p (c w) i m [] = -1 := rfl
    rw [e, if_pos rfl, fu_idv h2, fr_id] at hq
    simp only [r21_53]
    repeat' (first | (simp (disch := first | omega | exact Nat.le_of_ble_eq_true rfl | exact rfl | assumption | (simp (disch := omega) only [fr_ne, fr_same]; first | assumption | omega)) only [r21_0, r21_1, v21_1_0, v21_1_2, r21_4, r21_5, r21_8r, r21_10, r21_11, r21_17, r21_18, r21_21, r21_22, r21_23, r21_28, r21_29, r21_32, r21_33, r21_34, r21_39r, r21_42, r21_45, r21_46i, r21_47, r21_48i, r21_50, r21_51i, r21_55, r21_56, r21_62, r21_63, r21_65, r21_68i, r21_70, r21_72, r21_77, r21_79, r21_83, r21_84, r21_85, r21_88, r21_90, r21_91, v21_91_0, v21_91_2, r21_94, r21_99, r21_100, r21_103, r21_104i, r21_106, r21_111, r21_113, r21_114, r21_115, r21_118, r21_119i, r21_121, r21_124, r21_126, r21_127, r21_128, r21_131, r21_135, r21_136, r21_137, r21_140, r21_141, r21_142i, r21_145, r21_146i, r21_148i, r21_151, r21_154, r21_155, g12_19_0, g12_19_2, g12_15_0, g12_15_2, g12_9_0, g12_9_2, p12_19_0, p12_19_2, o0_len, o0_g2, o2_len, o2_g2, o0_g1, o2_g1, o0_g0, o2_g0, o0_s2, o2_s2, il_s, bl_s, bl_z, ll_s, is_s, bs_s, bs_z, ls_s, al_s, al_b, al_l, fr_ne, fr_same, fr_fr, Nat.reduceEqDiff, tc_gf3_s, tc_ql2_s, tc_ws_0, tc_ws_i, tc_ws_l, tc_ws_r, Nat.reduceLeDiff, Nat.reduceAdd, Nat.reduceLT, true_and, and_true, if_true, if_false, tc_K, Option.toList_some, Option.toList_none, List.nil_append, List.cons_append, ite_true, ite_false, Int.cast_ofNat_Int, reduceIte, i3_add_eq, i3_sub_eq, Int.add_sub_cancel, Int.add_neg_cancel_right, hO hLr hr, hOs hr, hB hL27 h27, hT hw hsw, sL_s]) | (simp only [r21_14, r21_25, r21_36, r21_59, r21_74, r21_80, r21_96, r21_108, r21_132, i6_lt0, i6_0lt, i6_0le, i6_le0, i6_eq0, b10_0, ite_not, Int.reduceLT, Int.reduceLE, Int.reduceEq, Int.reduceNeg, if_true, if_false, ite_true, ite_false, reduceIte, eq_self, not_true, not_false_eq_true]; try refine tc_ite (fun _ => ?_) (fun _ => ?_) <;> try (exfalso; omega)))
    all_goals first
      | exact hq
      | omega
  | cons l r ih =>
    intro i m a6 a7 hi hlen hm hm2 hW hq
    obtain ⟨hlet, hbl, hl0, hrest⟩ := hW
    have hlen' : i + ((l : Int) + 1 + wlen r) = tl := hlen
    have hwn := wlen_nn r
    have e : rwd (c 27) N p (c w) i m (l :: r) = if stq (c 27) N p (fun j => c w (i + j)) l = 1 then m else rwd (c 27) N p (c w) (i + l + 1) (m + 1) r := rfl
    -- at the blank
    have fin : ∀ (like : Int) (a6 a7 : AV), (like = -1 ∨ 0 ≤ like) → like ≤ 1000 → (like = R - p ↔ stq (c 27) N p (fun j => c w (i + j)) l = 1) → tc_W 21 53 [rf 69, rf w, .inl R, .inl m, .inl like, .inl (i + l), a6, a7] [] (hp L sh c) n Q := by
      intro like a6 a7 hlk hlk2 hiff
      simp only [r21_53]
      by_cases hf : like = R - p
      · rw [e, if_pos (hiff.mp hf), if_neg (by omega)] at hq
        repeat' (first | (simp (disch := first | omega | exact Nat.le_of_ble_eq_true rfl | exact rfl | assumption | (simp (disch := omega) only [fr_ne, fr_same]; first | assumption | omega)) only [r21_0, r21_1, v21_1_0, v21_1_2, r21_4, r21_5, r21_8r, r21_10, r21_11, r21_17, r21_18, r21_21, r21_22, r21_23, r21_28, r21_29, r21_32, r21_33, r21_34, r21_39r, r21_42, r21_45, r21_46i, r21_47, r21_48i, r21_50, r21_51i, r21_55, r21_56, r21_62, r21_63, r21_65, r21_68i, r21_70, r21_72, r21_77, r21_79, r21_83, r21_84, r21_85, r21_88, r21_90, r21_91, v21_91_0, v21_91_2, r21_94, r21_99, r21_100, r21_103, r21_104i, r21_106, r21_111, r21_113, r21_114, r21_115, r21_118, r21_119i, r21_121, r21_124, r21_126, r21_127, r21_128, r21_131, r21_135, r21_136, r21_137, r21_140, r21_141, r21_142i, r21_145, r21_146i, r21_148i, r21_151, r21_154, r21_155, g12_19_0, g12_19_2, g12_15_0, g12_15_2, g12_9_0, g12_9_2, p12_19_0, p12_19_2, o0_len, o0_g2, o2_len, o2_g2, o0_g1, o2_g1, o0_g0, o2_g0, o0_s2, o2_s2, il_s, bl_s, bl_z, ll_s, is_s, bs_s, bs_z, ls_s, al_s, al_b, al_l, fr_ne, fr_same, fr_fr, Nat.reduceEqDiff, tc_gf3_s, tc_ql2_s, tc_ws_0, tc_ws_i, tc_ws_l, tc_ws_r, Nat.reduceLeDiff, Nat.reduceAdd, Nat.reduceLT, true_and, and_true, if_true, if_false, tc_K, Option.toList_some, Option.toList_none, List.nil_append, List.cons_append, ite_true, ite_false, Int.cast_ofNat_Int, reduceIte, i3_add_eq, i3_sub_eq, Int.add_sub_cancel, Int.add_neg_cancel_right, hO hLr hr, hOs hr, hB hL27 h27, hT hw hsw, sL_s, sC_s, hbl, h2]) | (simp only [r21_14, r21_25, r21_36, r21_59, r21_74, r21_80, r21_96, r21_108, r21_132, i6_lt0, i6_0lt, i6_0le, i6_le0, i6_eq0, b10_0, ite_not, Int.reduceLT, Int.reduceLE, Int.reduceEq, Int.reduceNeg, if_true, if_false, ite_true, ite_false, reduceIte, eq_self, not_true, not_false_eq_true]; try refine tc_ite (fun _ => ?_) (fun _ => ?_) <;> try (exfalso; omega)))
        all_goals first
          | exact hq
          | omega
      · rw [e, if_neg (fun h => hf (hiff.mpr h))] at hq
        have ih2 := fun a6 a7 => ih (i + l + 1) (m + 1) a6 a7 (by omega) (by omega) (by omega)
        by_cases hm3 : m + 1 ≤ i + l + 1
        · have ih3 := fun a6 a7 => ih2 a6 a7 hm3 hrest hq
          repeat' (first | (simp (disch := first | omega | exact Nat.le_of_ble_eq_true rfl | exact rfl | assumption | (simp (disch := omega) only [fr_ne, fr_same]; first | assumption | omega)) only [r21_0, r21_1, v21_1_0, v21_1_2, r21_4, r21_5, r21_8r, r21_10, r21_11, r21_17, r21_18, r21_21, r21_22, r21_23, r21_28, r21_29, r21_32, r21_33, r21_34, r21_39r, r21_42, r21_45, r21_46i, r21_47, r21_48i, r21_50, r21_51i, r21_55, r21_56, r21_62, r21_63, r21_65, r21_68i, r21_70, r21_72, r21_77, r21_79, r21_83, r21_84, r21_85, r21_88, r21_90, r21_91, v21_91_0, v21_91_2, r21_94, r21_99, r21_100, r21_103, r21_104i, r21_106, r21_111, r21_113, r21_114, r21_115, r21_118, r21_119i, r21_121, r21_124, r21_126, r21_127, r21_128, r21_131, r21_135, r21_136, r21_137, r21_140, r21_141, r21_142i, r21_145, r21_146i, r21_148i, r21_151, r21_154, r21_155, g12_19_0, g12_19_2, g12_15_0, g12_15_2, g12_9_0, g12_9_2, p12_19_0, p12_19_2, o0_len, o0_g2, o2_len, o2_g2, o0_g1, o2_g1, o0_g0, o2_g0, o0_s2, o2_s2, il_s, bl_s, bl_z, ll_s, is_s, bs_s, bs_z, ls_s, al_s, al_b, al_l, fr_ne, fr_same, fr_fr, Nat.reduceEqDiff, tc_gf3_s, tc_ql2_s, tc_ws_0, tc_ws_i, tc_ws_l, tc_ws_r, Nat.reduceLeDiff, Nat.reduceAdd, Nat.reduceLT, true_and, and_true, if_true, if_false, tc_K, Option.toList_some, Option.toList_none, List.nil_append, List.cons_append, ite_true, ite_false, Int.cast_ofNat_Int, reduceIte, i3_add_eq, i3_sub_eq, Int.add_sub_cancel, Int.add_neg_cancel_right, hO hLr hr, hOs hr, hB hL27 h27, hT hw hsw, sL_s, sC_s, hbl, h2]) | (simp only [r21_14, r21_25, r21_36, r21_59, r21_74, r21_80, r21_96, r21_108, r21_132, i6_lt0, i6_0lt, i6_0le, i6_le0, i6_eq0, b10_0, ite_not, Int.reduceLT, Int.reduceLE, Int.reduceEq, Int.reduceNeg, if_true, if_false, ite_true, ite_false, reduceIte, eq_self, not_true, not_false_eq_true]; try refine tc_ite (fun _ => ?_) (fun _ => ?_) <;> try (exfalso; omega)))
          all_goals first
            | exact ih3 _ _
            | omega
        · exfalso
          omega
    -- the letters
    have key : ∀ (d : Nat) (j : Int) (like : Int) (a6 a7 : AV), j + d = l → 0 ≤ j → (like = -1 ∨ like = j) → (like = j → ∀ q : Int, 0 ≤ q → q < j → p + q < N ∧ c 27 (p + q) = c w (i + q)) → (like = -1 → ¬ (rn (c 27) N p - p = l ∧ mtc (c 27) p (fun j => c w (i + j)) l = 1)) → tc_W 21 53 [rf 69, rf w, .inl R, .inl m, .inl like, .inl (i + j), a6, a7] [] (hp L sh c) n Q := by
      intro d
      induction d with
      | zero =>
        intro j like a6 a7 hj hj0 hlk hok hno
        have hjl : j = l := by omega
        subst hjl
        refine fin like a6 a7 (by omega) (by omega) ⟨fun h => ?_, fun h => ?_⟩
        · have hlj : like = l := by omega
          refine if_pos ⟨by rw [hR]; omega, mtc_of fun q q1 q2 => (hok hlj q q1 q2).2⟩
        · unfold stq at h
          by_cases hc : rn (c 27) N p - p = l ∧ mtc (c 27) p (fun j => c w (i + j)) l = 1
          · have hlk1 : ¬ like = -1 := fun q => hno q hc
            rw [hR] at hc
            omega
          · rw [if_neg hc] at h
            omega
      | succ d ihd =>
        intro j like a6 a7 hj hj0 hlk hok hno
        have hch := hlet j hj0 (by omega)
        simp only [r21_53]
        by_cases hl1 : like = -1
        · have nx := fun a6 a7 => ihd (j + 1) (-1) a6 a7 (by omega) (by omega) (Or.inl rfl) (fun h => by omega) (fun _ => hno hl1)
          rw [show i + (j + 1) = i + j + 1 by omega] at nx
          subst hl1
          repeat' (first | (simp (disch := first | omega | exact Nat.le_of_ble_eq_true rfl | exact rfl | assumption | (simp (disch := omega) only [fr_ne, fr_same]; first | assumption | omega)) only [r21_0, r21_1, v21_1_0, v21_1_2, r21_4, r21_5, r21_8r, r21_10, r21_11, r21_17, r21_18, r21_21, r21_22, r21_23, r21_28, r21_29, r21_32, r21_33, r21_34, r21_39r, r21_42, r21_45, r21_46i, r21_47, r21_48i, r21_50, r21_51i, r21_55, r21_56, r21_62, r21_63, r21_65, r21_68i, r21_70, r21_72, r21_77, r21_79, r21_83, r21_84, r21_85, r21_88, r21_90, r21_91, v21_91_0, v21_91_2, r21_94, r21_99, r21_100, r21_103, r21_104i, r21_106, r21_111, r21_113, r21_114, r21_115, r21_118, r21_119i, r21_121, r21_124, r21_126, r21_127, r21_128, r21_131, r21_135, r21_136, r21_137, r21_140, r21_141, r21_142i, r21_145, r21_146i, r21_148i, r21_151, r21_154, r21_155, g12_19_0, g12_19_2, g12_15_0, g12_15_2, g12_9_0, g12_9_2, p12_19_0, p12_19_2, o0_len, o0_g2, o2_len, o2_g2, o0_g1, o2_g1, o0_g0, o2_g0, o0_s2, o2_s2, il_s, bl_s, bl_z, ll_s, is_s, bs_s, bs_z, ls_s, al_s, al_b, al_l, fr_ne, fr_same, fr_fr, Nat.reduceEqDiff, tc_gf3_s, tc_ql2_s, tc_ws_0, tc_ws_i, tc_ws_l, tc_ws_r, Nat.reduceLeDiff, Nat.reduceAdd, Nat.reduceLT, true_and, and_true, if_true, if_false, tc_K, Option.toList_some, Option.toList_none, List.nil_append, List.cons_append, ite_true, ite_false, Int.cast_ofNat_Int, reduceIte, i3_add_eq, i3_sub_eq, Int.add_sub_cancel, Int.add_neg_cancel_right, hO hLr hr, hOs hr, hB hL27 h27, hT hw hsw, sL_s, sC_s, h2]) | (simp only [r21_14, r21_25, r21_36, r21_59, r21_74, r21_80, r21_96, r21_108, r21_132, i6_lt0, i6_0lt, i6_0le, i6_le0, i6_eq0, b10_0, ite_not, Int.reduceLT, Int.reduceLE, Int.reduceEq, Int.reduceNeg, if_true, if_false, ite_true, ite_false, reduceIte, eq_self, not_true, not_false_eq_true]; try refine tc_ite (fun _ => ?_) (fun _ => ?_) <;> try (exfalso; omega)))
          all_goals first
            | exact nx _ _
            | omega
        · have hlj : like = j := by omega
          have hokj := hok hlj
          have h33 := fun Q => c33_b (c := c) (n := n) (Q := Q) (N := N) (q := p + j) hr h27 hL hTP h1 (by omega)
          by_cases hmt : p + j < N ∧ c 27 (p + j) = c w (i + j)
          · have eb : byt (c 27) N (p + j) = c w (i + j) := by
              unfold byt
              rw [if_pos hmt.1, if_neg (by omega), hmt.2]
            simp only [eb] at h33
            have nx := fun a6 a7 => ihd (j + 1) (j + 1) a6 a7 (by omega) (by omega) (Or.inr rfl) (fun _ q q1 q2 => by
              by_cases hq2 : q = j
              · rw [hq2]
                exact hmt
              · exact hokj q q1 (by omega)) (fun h => by omega)
            rw [show i + (j + 1) = i + j + 1 by omega] at nx
            subst hlj
            repeat' (first | (simp (disch := first | omega | exact Nat.le_of_ble_eq_true rfl | exact rfl | assumption | (simp (disch := omega) only [fr_ne, fr_same]; first | assumption | omega)) only [r21_0, r21_1, v21_1_0, v21_1_2, r21_4, r21_5, r21_8r, r21_10, r21_11, r21_17, r21_18, r21_21, r21_22, r21_23, r21_28, r21_29, r21_32, r21_33, r21_34, r21_39r, r21_42, r21_45, r21_46i, r21_47, r21_48i, r21_50, r21_51i, r21_55, r21_56, r21_62, r21_63, r21_65, r21_68i, r21_70, r21_72, r21_77, r21_79, r21_83, r21_84, r21_85, r21_88, r21_90, r21_91, v21_91_0, v21_91_2, r21_94, r21_99, r21_100, r21_103, r21_104i, r21_106, r21_111, r21_113, r21_114, r21_115, r21_118, r21_119i, r21_121, r21_124, r21_126, r21_127, r21_128, r21_131, r21_135, r21_136, r21_137, r21_140, r21_141, r21_142i, r21_145, r21_146i, r21_148i, r21_151, r21_154, r21_155, g12_19_0, g12_19_2, g12_15_0, g12_15_2, g12_9_0, g12_9_2, p12_19_0, p12_19_2, o0_len, o0_g2, o2_len, o2_g2, o0_g1, o2_g1, o0_g0, o2_g0, o0_s2, o2_s2, il_s, bl_s, bl_z, ll_s, is_s, bs_s, bs_z, ls_s, al_s, al_b, al_l, fr_ne, fr_same, fr_fr, Nat.reduceEqDiff, tc_gf3_s, tc_ql2_s, tc_ws_0, tc_ws_i, tc_ws_l, tc_ws_r, Nat.reduceLeDiff, Nat.reduceAdd, Nat.reduceLT, true_and, and_true, if_true, if_false, tc_K, Option.toList_some, Option.toList_none, List.nil_append, List.cons_append, ite_true, ite_false, Int.cast_ofNat_Int, reduceIte, i3_add_eq, i3_sub_eq, Int.add_sub_cancel, Int.add_neg_cancel_right, hO hLr hr, hOs hr, hB hL27 h27, hT hw hsw, sL_s, sC_s, h2, h33]) | (simp only [r21_14, r21_25, r21_36, r21_59, r21_74, r21_80, r21_96, r21_108, r21_132, i6_lt0, i6_0lt, i6_0le, i6_le0, i6_eq0, b10_0, ite_not, Int.reduceLT, Int.reduceLE, Int.reduceEq, Int.reduceNeg, if_true, if_false, ite_true, ite_false, reduceIte, eq_self, not_true, not_false_eq_true]; try refine tc_ite (fun _ => ?_) (fun _ => ?_) <;> try (exfalso; omega)))
            all_goals first
              | exact nx _ _
              | omega
          · have eb : ¬ byt (c 27) N (p + j) = c w (i + j) := by
              unfold byt
              by_cases hpn : p + j < N
              · rw [if_pos hpn]
                have := hTP.2 (p + j) (by omega) (by omega)
                have hne : ¬ c 27 (p + j) = c w (i + j) := fun h => hmt ⟨hpn, h⟩
                split <;> omega
              · rw [if_neg hpn]
                omega
            have nx := fun a6 a7 => ihd (j + 1) (-1) a6 a7 (by omega) (by omega) (Or.inl rfl) (fun h => by omega) (fun _ hc => by
              have h5 := mtc_ge hc.2 j hj0 (by omega)
              rw [hR] at hc
              exact hmt ⟨by omega, h5⟩)
            rw [show i + (j + 1) = i + j + 1 by omega] at nx
            subst hlj
            generalize byt (c 27) N (p + like) = v at eb h33
            repeat' (first | (simp (disch := first | omega | exact Nat.le_of_ble_eq_true rfl | exact rfl | assumption | (simp (disch := omega) only [fr_ne, fr_same]; first | assumption | omega)) only [r21_0, r21_1, v21_1_0, v21_1_2, r21_4, r21_5, r21_8r, r21_10, r21_11, r21_17, r21_18, r21_21, r21_22, r21_23, r21_28, r21_29, r21_32, r21_33, r21_34, r21_39r, r21_42, r21_45, r21_46i, r21_47, r21_48i, r21_50, r21_51i, r21_55, r21_56, r21_62, r21_63, r21_65, r21_68i, r21_70, r21_72, r21_77, r21_79, r21_83, r21_84, r21_85, r21_88, r21_90, r21_91, v21_91_0, v21_91_2, r21_94, r21_99, r21_100, r21_103, r21_104i, r21_106, r21_111, r21_113, r21_114, r21_115, r21_118, r21_119i, r21_121, r21_124, r21_126, r21_127, r21_128, r21_131, r21_135, r21_136, r21_137, r21_140, r21_141, r21_142i, r21_145, r21_146i, r21_148i, r21_151, r21_154, r21_155, g12_19_0, g12_19_2, g12_15_0, g12_15_2, g12_9_0, g12_9_2, p12_19_0, p12_19_2, o0_len, o0_g2, o2_len, o2_g2, o0_g1, o2_g1, o0_g0, o2_g0, o0_s2, o2_s2, il_s, bl_s, bl_z, ll_s, is_s, bs_s, bs_z, ls_s, al_s, al_b, al_l, fr_ne, fr_same, fr_fr, Nat.reduceEqDiff, tc_gf3_s, tc_ql2_s, tc_ws_0, tc_ws_i, tc_ws_l, tc_ws_r, Nat.reduceLeDiff, Nat.reduceAdd, Nat.reduceLT, true_and, and_true, if_true, if_false, tc_K, Option.toList_some, Option.toList_none, List.nil_append, List.cons_append, ite_true, ite_false, Int.cast_ofNat_Int, reduceIte, i3_add_eq, i3_sub_eq, Int.add_sub_cancel, Int.add_neg_cancel_right, hO hLr hr, hOs hr, hB hL27 h27, hT hw hsw, sL_s, sC_s, h2, h33]) | (simp only [r21_14, r21_25, r21_36, r21_59, r21_74, r21_80, r21_96, r21_108, r21_132, i6_lt0, i6_0lt, i6_0le, i6_le0, i6_eq0, b10_0, ite_not, Int.reduceLT, Int.reduceLE, Int.reduceEq, Int.reduceNeg, if_true, if_false, ite_true, ite_false, reduceIte, eq_self, not_true, not_false_eq_true]; try refine tc_ite (fun _ => ?_) (fun _ => ?_) <;> try (exfalso; omega)))
            all_goals first
              | exact nx _ _
              | omega
    have h := key l 0 0 a6 a7 (by omega) (by omega) (Or.inr rfl) (fun _ q q1 q2 => by omega) (fun h => by omega)
    rw [Int.add_zero] at h
    exact h
end WRD_b
section WRD_l
variable {L : Nat} {sh : Nat → SH} {c : Nat → Int → Int} {n : Nat} {Q : Option AV → List SC → Nat → Prop} 
theorem c21w_l (hr : sh 70 = (6, 2, [some 27, some 71, some 72, some 73])) (h27 : sh 27 = (1, 400, [])) (hL : 115 ≤ L) {N p R : Int} (hTP : TP (c 27) N) (h1 : c 70 1 = N) (h2 : c 70 2 = p) (hp0 : 0 ≤ p ∧ p ≤ 450) (hR : rn (c 27) N p = R) {w tl : Nat} (hw : w < L) (hsw : sh w = (9, tl, [])) (htl : tl ≤ 100) : ∀ (wl : List Nat) (i m : Int) (a6 a7 : AV), 0 ≤ i → i + wlen wl = tl → 0 ≤ m → m ≤ i → WLS (c w) i wl → Q (some (.inl (rwd (c 27) N p (c w) i m wl))) (hp L sh (fr c 70 (fu (c 70) 2 (if rwd (c 27) N p (c w) i m wl = -1 then p else R)))) n → tc_W 21 53 [rf 70, rf w, .inl R, .inl m, .inl 0, .inl i, a6, a7] [] (hp L sh c) n Q := by
  have hLr : 70 < L := by omega
  have hL27 : 27 < L := by omega
  have hT1 := hTP.1
  have hrr := rn_rng (g := c 27) (n := N) (p := p)
  rw [hR] at hrr
  intro wl
  induction wl with
  | nil =>
    intro i m a6 a7 hi hlen hm hm2 _ hq
    have hlen' : i + 0 = tl := hlen
    have e : rwd (c 27) N p (c w) i m [] = -1 := rfl
    rw [e, if_pos rfl, fu_idv h2, fr_id] at hq
    simp only [r21_53]
    repeat' (first | (simp (disch := first | omega | exact Nat.le_of_ble_eq_true rfl | exact rfl | assumption | (simp (disch := omega) only [fr_ne, fr_same]; first | assumption | omega)) only [r21_0, r21_1, v21_1_0, v21_1_2, r21_4, r21_5, r21_8r, r21_10, r21_11, r21_17, r21_18, r21_21, r21_22, r21_23, r21_28, r21_29, r21_32, r21_33, r21_34, r21_39r, r21_42, r21_45, r21_46i, r21_47, r21_48i, r21_50, r21_51i, r21_55, r21_56, r21_62, r21_63, r21_65, r21_68i, r21_70, r21_72, r21_77, r21_79, r21_83, r21_84, r21_85, r21_88, r21_90, r21_91, v21_91_0, v21_91_2, r21_94, r21_99, r21_100, r21_103, r21_104i, r21_106, r21_111, r21_113, r21_114, r21_115, r21_118, r21_119i, r21_121, r21_124, r21_126, r21_127, r21_128, r21_131, r21_135, r21_136, r21_137, r21_140, r21_141, r21_142i, r21_145, r21_146i, r21_148i, r21_151, r21_154, r21_155, g12_19_0, g12_19_2, g12_15_0, g12_15_2, g12_9_0, g12_9_2, p12_19_0, p12_19_2, o0_len, o0_g2, o2_len, o2_g2, o0_g1, o2_g1, o0_g0, o2_g0, o0_s2, o2_s2, il_s, bl_s, bl_z, ll_s, is_s, bs_s, bs_z, ls_s, al_s, al_b, al_l, fr_ne, fr_same, fr_fr, Nat.reduceEqDiff, tc_gf3_s, tc_ql2_s, tc_ws_0, tc_ws_i, tc_ws_l, tc_ws_r, Nat.reduceLeDiff, Nat.reduceAdd, Nat.reduceLT, true_and, and_true, if_true, if_false, tc_K, Option.toList_some, Option.toList_none, List.nil_append, List.cons_append, ite_true, ite_false, Int.cast_ofNat_Int, reduceIte, i3_add_eq, i3_sub_eq, Int.add_sub_cancel, Int.add_neg_cancel_right, hO hLr hr, hOs hr, hB hL27 h27, hT hw hsw, sL_s]) | (simp only [r21_14, r21_25, r21_36, r21_59, r21_74, r21_80, r21_96, r21_108, r21_132, i6_lt0, i6_0lt, i6_0le, i6_le0, i6_eq0, b10_0, ite_not, Int.reduceLT, Int.reduceLE, Int.reduceEq, Int.reduceNeg, if_true, if_false, ite_true, ite_false, reduceIte, eq_self, not_true, not_false_eq_true]; try refine tc_ite (fun _ => ?_) (fun _ => ?_) <;> try (exfalso; omega)))
    all_goals first
      | exact hq
      | omega
  | cons l r ih =>
    intro i m a6 a7 hi hlen hm hm2 hW hq
    obtain ⟨hlet, hbl, hl0, hrest⟩ := hW
    have hlen' : i + ((l : Int) + 1 + wlen r) = tl := hlen
    have hwn := wlen_nn r
    have e : rwd (c 27) N p (c w) i m (l :: r) = if stq (c 27) N p (fun j => c w (i + j)) l = 1 then m else rwd (c 27) N p (c w) (i + l + 1) (m + 1) r := rfl
    -- at the blank
    have fin : ∀ (like : Int) (a6 a7 : AV), (like = -1 ∨ 0 ≤ like) → like ≤ 1000 → (like = R - p ↔ stq (c 27) N p (fun j => c w (i + j)) l = 1) → tc_W 21 53 [rf 70, rf w, .inl R, .inl m, .inl like, .inl (i + l), a6, a7] [] (hp L sh c) n Q := by
      intro like a6 a7 hlk hlk2 hiff
      simp only [r21_53]
      by_cases hf : like = R - p
      · rw [e, if_pos (hiff.mp hf), if_neg (by omega)] at hq
        repeat' (first | (simp (disch := first | omega | exact Nat.le_of_ble_eq_true rfl | exact rfl | assumption | (simp (disch := omega) only [fr_ne, fr_same]; first | assumption | omega)) only [r21_0, r21_1, v21_1_0, v21_1_2, r21_4, r21_5, r21_8r, r21_10, r21_11, r21_17, r21_18, r21_21, r21_22, r21_23, r21_28, r21_29, r21_32, r21_33, r21_34, r21_39r, r21_42, r21_45, r21_46i, r21_47, r21_48i, r21_50, r21_51i, r21_55, r21_56, r21_62, r21_63, r21_65, r21_68i, r21_70, r21_72, r21_77, r21_79, r21_83, r21_84, r21_85, r21_88, r21_90, r21_91, v21_91_0, v21_91_2, r21_94, r21_99, r21_100, r21_103, r21_104i, r21_106, r21_111, r21_113, r21_114, r21_115, r21_118, r21_119i, r21_121, r21_124, r21_126, r21_127, r21_128, r21_131, r21_135, r21_136, r21_137, r21_140, r21_141, r21_142i, r21_145, r21_146i, r21_148i, r21_151, r21_154, r21_155, g12_19_0, g12_19_2, g12_15_0, g12_15_2, g12_9_0, g12_9_2, p12_19_0, p12_19_2, o0_len, o0_g2, o2_len, o2_g2, o0_g1, o2_g1, o0_g0, o2_g0, o0_s2, o2_s2, il_s, bl_s, bl_z, ll_s, is_s, bs_s, bs_z, ls_s, al_s, al_b, al_l, fr_ne, fr_same, fr_fr, Nat.reduceEqDiff, tc_gf3_s, tc_ql2_s, tc_ws_0, tc_ws_i, tc_ws_l, tc_ws_r, Nat.reduceLeDiff, Nat.reduceAdd, Nat.reduceLT, true_and, and_true, if_true, if_false, tc_K, Option.toList_some, Option.toList_none, List.nil_append, List.cons_append, ite_true, ite_false, Int.cast_ofNat_Int, reduceIte, i3_add_eq, i3_sub_eq, Int.add_sub_cancel, Int.add_neg_cancel_right, hO hLr hr, hOs hr, hB hL27 h27, hT hw hsw, sL_s, sC_s, hbl, h2]) | (simp only [r21_14, r21_25, r21_36, r21_59, r21_74, r21_80, r21_96, r21_108, r21_132, i6_lt0, i6_0lt, i6_0le, i6_le0, i6_eq0, b10_0, ite_not, Int.reduceLT, Int.reduceLE, Int.reduceEq, Int.reduceNeg, if_true, if_false, ite_true, ite_false, reduceIte, eq_self, not_true, not_false_eq_true]; try refine tc_ite (fun _ => ?_) (fun _ => ?_) <;> try (exfalso; omega)))
        all_goals first
          | exact hq
          | omega
      · rw [e, if_neg (fun h => hf (hiff.mpr h))] at hq
        have ih2 := fun a6 a7 => ih (i + l + 1) (m + 1) a6 a7 (by omega) (by omega) (by omega)
        by_cases hm3 : m + 1 ≤ i + l + 1
        · have ih3 := fun a6 a7 => ih2 a6 a7 hm3 hrest hq
          repeat' (first | (simp (disch := first | omega | exact Nat.le_of_ble_eq_true rfl | exact rfl | assumption | (simp (disch := omega) only [fr_ne, fr_same]; first | assumption | omega)) only [r21_0, r21_1, v21_1_0, v21_1_2, r21_4, r21_5, r21_8r, r21_10, r21_11, r21_17, r21_18, r21_21, r21_22, r21_23, r21_28, r21_29, r21_32, r21_33, r21_34, r21_39r, r21_42, r21_45, r21_46i, r21_47, r21_48i, r21_50, r21_51i, r21_55, r21_56, r21_62, r21_63, r21_65, r21_68i, r21_70, r21_72, r21_77, r21_79, r21_83, r21_84, r21_85, r21_88, r21_90, r21_91, v21_91_0, v21_91_2, r21_94, r21_99, r21_100, r21_103, r21_104i, r21_106, r21_111, r21_113, r21_114, r21_115, r21_118, r21_119i, r21_121, r21_124, r21_126, r21_127, r21_128, r21_131, r21_135, r21_136, r21_137, r21_140, r21_141, r21_142i, r21_145, r21_146i, r21_148i, r21_151, r21_154, r21_155, g12_19_0, g12_19_2, g12_15_0, g12_15_2, g12_9_0, g12_9_2, p12_19_0, p12_19_2, o0_len, o0_g2, o2_len, o2_g2, o0_g1, o2_g1, o0_g0, o2_g0, o0_s2, o2_s2, il_s, bl_s, bl_z, ll_s, is_s, bs_s, bs_z, ls_s, al_s, al_b, al_l, fr_ne, fr_same, fr_fr, Nat.reduceEqDiff, tc_gf3_s, tc_ql2_s, tc_ws_0, tc_ws_i, tc_ws_l, tc_ws_r, Nat.reduceLeDiff, Nat.reduceAdd, Nat.reduceLT, true_and, and_true, if_true, if_false, tc_K, Option.toList_some, Option.toList_none, List.nil_append, List.cons_append, ite_true, ite_false, Int.cast_ofNat_Int, reduceIte, i3_add_eq, i3_sub_eq, Int.add_sub_cancel, Int.add_neg_cancel_right, hO hLr hr, hOs hr, hB hL27 h27, hT hw hsw, sL_s, sC_s, hbl, h2]) | (simp only [r21_14, r21_25, r21_36, r21_59, r21_74, r21_80, r21_96, r21_108, r21_132, i6_lt0, i6_0lt, i6_0le, i6_le0, i6_eq0, b10_0, ite_not, Int.reduceLT, Int.reduceLE, Int.reduceEq, Int.reduceNeg, if_true, if_false, ite_true, ite_false, reduceIte, eq_self, not_true, not_false_eq_true]; try refine tc_ite (fun _ => ?_) (fun _ => ?_) <;> try (exfalso; omega)))
          all_goals first
            | exact ih3 _ _
            | omega
        · exfalso
          omega
    -- the letters
    have key : ∀ (d : Nat) (j : Int) (like : Int) (a6 a7 : AV), j + d = l → 0 ≤ j → (like = -1 ∨ like = j) → (like = j → ∀ q : Int, 0 ≤ q → q < j → p + q < N ∧ c 27 (p + q) = c w (i + q)) → (like = -1 → ¬ (rn (c 27) N p - p = l ∧ mtc (c 27) p (fun j => c w (i + j)) l = 1)) → tc_W 21 53 [rf 70, rf w, .inl R, .inl m, .inl like, .inl (i + j), a6, a7] [] (hp L sh c) n Q := by
      intro d
      induction d with
      | zero =>
        intro j like a6 a7 hj hj0 hlk hok hno
        have hjl : j = l := by omega
        subst hjl
        refine fin like a6 a7 (by omega) (by omega) ⟨fun h => ?_, fun h => ?_⟩
        · have hlj : like = l := by omega
          refine if_pos ⟨by rw [hR]; omega, mtc_of fun q q1 q2 => (hok hlj q q1 q2).2⟩
        · unfold stq at h
          by_cases hc : rn (c 27) N p - p = l ∧ mtc (c 27) p (fun j => c w (i + j)) l = 1
          · have hlk1 : ¬ like = -1 := fun q => hno q hc
            rw [hR] at hc
            omega
          · rw [if_neg hc] at h
            omega
      | succ d ihd =>
        intro j like a6 a7 hj hj0 hlk hok hno
        have hch := hlet j hj0 (by omega)
        simp only [r21_53]
        by_cases hl1 : like = -1
        · have nx := fun a6 a7 => ihd (j + 1) (-1) a6 a7 (by omega) (by omega) (Or.inl rfl) (fun h => by omega) (fun _ => hno hl1)
          rw [show i + (j + 1) = i + j + 1 by omega] at nx
          subst hl1
          repeat' (first | (simp (disch := first | omega | exact Nat.le_of_ble_eq_true rfl | exact rfl | assumption | (simp (disch := omega) only [fr_ne, fr_same]; first | assumption | omega)) only [r21_0, r21_1, v21_1_0, v21_1_2, r21_4, r21_5, r21_8r, r21_10, r21_11, r21_17, r21_18, r21_21, r21_22, r21_23, r21_28, r21_29, r21_32, r21_33, r21_34, r21_39r, r21_42, r21_45, r21_46i, r21_47, r21_48i, r21_50, r21_51i, r21_55, r21_56, r21_62, r21_63, r21_65, r21_68i, r21_70, r21_72, r21_77, r21_79, r21_83, r21_84, r21_85, r21_88, r21_90, r21_91, v21_91_0, v21_91_2, r21_94, r21_99, r21_100, r21_103, r21_104i, r21_106, r21_111, r21_113, r21_114, r21_115, r21_118, r21_119i, r21_121, r21_124, r21_126, r21_127, r21_128, r21_131, r21_135, r21_136, r21_137, r21_140, r21_141, r21_142i, r21_145, r21_146i, r21_148i, r21_151, r21_154, r21_155, g12_19_0, g12_19_2, g12_15_0, g12_15_2, g12_9_0, g12_9_2, p12_19_0, p12_19_2, o0_len, o0_g2, o2_len, o2_g2, o0_g1, o2_g1, o0_g0, o2_g0, o0_s2, o2_s2, il_s, bl_s, bl_z, ll_s, is_s, bs_s, bs_z, ls_s, al_s, al_b, al_l, fr_ne, fr_same, fr_fr, Nat.reduceEqDiff, tc_gf3_s, tc_ql2_s, tc_ws_0, tc_ws_i, tc_ws_l, tc_ws_r, Nat.reduceLeDiff, Nat.reduceAdd, Nat.reduceLT, true_and, and_true, if_true, if_false, tc_K, Option.toList_some, Option.toList_none, List.nil_append, List.cons_append, ite_true, ite_false, Int.cast_ofNat_Int, reduceIte, i3_add_eq, i3_sub_eq, Int.add_sub_cancel, Int.add_neg_cancel_right, hO hLr hr, hOs hr, hB hL27 h27, hT hw hsw, sL_s, sC_s, h2]) | (simp only [r21_14, r21_25, r21_36, r21_59, r21_74, r21_80, r21_96, r21_108, r21_132, i6_lt0, i6_0lt, i6_0le, i6_le0, i6_eq0, b10_0, ite_not, Int.reduceLT, Int.reduceLE, Int.reduceEq, Int.reduceNeg, if_true, if_false, ite_true, ite_false, reduceIte, eq_self, not_true, not_false_eq_true]; try refine tc_ite (fun _ => ?_) (fun _ => ?_) <;> try (exfalso; omega)))
          all_goals first
            | exact nx _ _
            | omega
        · have hlj : like = j := by omega
          have hokj := hok hlj
          have h33 := fun Q => c33_l (c := c) (n := n) (Q := Q) (N := N) (q := p + j) hr h27 hL hTP h1 (by omega)
          by_cases hmt : p + j < N ∧ c 27 (p + j) = c w (i + j)
          · have eb : byt (c 27) N (p + j) = c w (i + j) := by
              unfold byt
              rw [if_pos hmt.1, if_neg (by omega), hmt.2]
            simp only [eb] at h33
            have nx := fun a6 a7 => ihd (j + 1) (j + 1) a6 a7 (by omega) (by omega) (Or.inr rfl) (fun _ q q1 q2 => by
              by_cases hq2 : q = j
              · rw [hq2]
                exact hmt
              · exact hokj q q1 (by omega)) (fun h => by omega)
            rw [show i + (j + 1) = i + j + 1 by omega] at nx
            subst hlj
            repeat' (first | (simp (disch := first | omega | exact Nat.le_of_ble_eq_true rfl | exact rfl | assumption | (simp (disch := omega) only [fr_ne, fr_same]; first | assumption | omega)) only [r21_0, r21_1, v21_1_0, v21_1_2, r21_4, r21_5, r21_8r, r21_10, r21_11, r21_17, r21_18, r21_21, r21_22, r21_23, r21_28, r21_29, r21_32, r21_33, r21_34, r21_39r, r21_42, r21_45, r21_46i, r21_47, r21_48i, r21_50, r21_51i, r21_55, r21_56, r21_62, r21_63, r21_65, r21_68i, r21_70, r21_72, r21_77, r21_79, r21_83, r21_84, r21_85, r21_88, r21_90, r21_91, v21_91_0, v21_91_2, r21_94, r21_99, r21_100, r21_103, r21_104i, r21_106, r21_111, r21_113, r21_114, r21_115, r21_118, r21_119i, r21_121, r21_124, r21_126, r21_127, r21_128, r21_131, r21_135, r21_136, r21_137, r21_140, r21_141, r21_142i, r21_145, r21_146i, r21_148i, r21_151, r21_154, r21_155, g12_19_0, g12_19_2, g12_15_0, g12_15_2, g12_9_0, g12_9_2, p12_19_0, p12_19_2, o0_len, o0_g2, o2_len, o2_g2, o0_g1, o2_g1, o0_g0, o2_g0, o0_s2, o2_s2, il_s, bl_s, bl_z, ll_s, is_s, bs_s, bs_z, ls_s, al_s, al_b, al_l, fr_ne, fr_same, fr_fr, Nat.reduceEqDiff, tc_gf3_s, tc_ql2_s, tc_ws_0, tc_ws_i, tc_ws_l, tc_ws_r, Nat.reduceLeDiff, Nat.reduceAdd, Nat.reduceLT, true_and, and_true, if_true, if_false, tc_K, Option.toList_some, Option.toList_none, List.nil_append, List.cons_append, ite_true, ite_false, Int.cast_ofNat_Int, reduceIte, i3_add_eq, i3_sub_eq, Int.add_sub_cancel, Int.add_neg_cancel_right, hO hLr hr, hOs hr, hB hL27 h27, hT hw hsw, sL_s, sC_s, h2, h33]) | (simp only [r21_14, r21_25, r21_36, r21_59, r21_74, r21_80, r21_96, r21_108, r21_132, i6_lt0, i6_0lt, i6_0le, i6_le0, i6_eq0, b10_0, ite_not, Int.reduceLT, Int.reduceLE, Int.reduceEq, Int.reduceNeg, if_true, if_false, ite_true, ite_false, reduceIte, eq_self, not_true, not_false_eq_true]; try refine tc_ite (fun _ => ?_) (fun _ => ?_) <;> try (exfalso; omega)))
            all_goals first
              | exact nx _ _
              | omega
          · have eb : ¬ byt (c 27) N (p + j) = c w (i + j) := by
              unfold byt
              by_cases hpn : p + j < N
              · rw [if_pos hpn]
                have := hTP.2 (p + j) (by omega) (by omega)
                have hne : ¬ c 27 (p + j) = c w (i + j) := fun h => hmt ⟨hpn, h⟩
                split <;> omega
              · rw [if_neg hpn]
                omega
            have nx := fun a6 a7 => ihd (j + 1) (-1) a6 a7 (by omega) (by omega) (Or.inl rfl) (fun h => by omega) (fun _ hc => by
              have h5 := mtc_ge hc.2 j hj0 (by omega)
              rw [hR] at hc
              exact hmt ⟨by omega, h5⟩)
            rw [show i + (j + 1) = i + j + 1 by omega] at nx
            subst hlj
            generalize byt (c 27) N (p + like) = v at eb h33
            repeat' (first | (simp (disch := first | omega | exact Nat.le_of_ble_eq_true rfl | exact rfl | assumption | (simp (disch := omega) only [fr_ne, fr_same]; first | assumption | omega)) only [r21_0, r21_1, v21_1_0, v21_1_2, r21_4, r21_5, r21_8r, r21_10, r21_11, r21_17, r21_18, r21_21, r21_22, r21_23, r21_28, r21_29, r21_32, r21_33, r21_34, r21_39r, r21_42, r21_45, r21_46i, r21_47, r21_48i, r21_50, r21_51i, r21_55, r21_56, r21_62, r21_63, r21_65, r21_68i, r21_70, r21_72, r21_77, r21_79, r21_83, r21_84, r21_85, r21_88, r21_90, r21_91, v21_91_0, v21_91_2, r21_94, r21_99, r21_100, r21_103, r21_104i, r21_106, r21_111, r21_113, r21_114, r21_115, r21_118, r21_119i, r21_121, r21_124, r21_126, r21_127, r21_128, r21_131, r21_135, r21_136, r21_137, r21_140, r21_141, r21_142i, r21_145, r21_146i, r21_148i, r21_151, r21_154, r21_155, g12_19_0, g12_19_2, g12_15_0, g12_15_2, g12_9_0, g12_9_2, p12_19_0, p12_19_2, o0_len, o0_g2, o2_len, o2_g2, o0_g1, o2_g1, o0_g0, o2_g0, o0_s2, o2_s2, il_s, bl_s, bl_z, ll_s, is_s, bs_s, bs_z, ls_s, al_s, al_b, al_l, fr_ne, fr_same, fr_fr, Nat.reduceEqDiff, tc_gf3_s, tc_ql2_s, tc_ws_0, tc_ws_i, tc_ws_l, tc_ws_r, Nat.reduceLeDiff, Nat.reduceAdd, Nat.reduceLT, true_and, and_true, if_true, if_false, tc_K, Option.toList_some, Option.toList_none, List.nil_append, List.cons_append, ite_true, ite_false, Int.cast_ofNat_Int, reduceIte, i3_add_eq, i3_sub_eq, Int.add_sub_cancel, Int.add_neg_cancel_right, hO hLr hr, hOs hr, hB hL27 h27, hT hw hsw, sL_s, sC_s, h2, h33]) | (simp only [r21_14, r21_25, r21_36, r21_59, r21_74, r21_80, r21_96, r21_108, r21_132, i6_lt0, i6_0lt, i6_0le, i6_le0, i6_eq0, b10_0, ite_not, Int.reduceLT, Int.reduceLE, Int.reduceEq, Int.reduceNeg, if_true, if_false, ite_true, ite_false, reduceIte, eq_self, not_true, not_false_eq_true]; try refine tc_ite (fun _ => ?_) (fun _ => ?_) <;> try (exfalso; omega)))
            all_goals first
              | exact nx _ _
              | omega
    have h := key l 0 0 a6 a7 (by omega) (by omega) (Or.inr rfl) (fun _ q q1 q2 => by omega) (fun h => by omega)
    rw [Int.add_zero] at h
    exact h
end WRD_l

/-! rules: clauses -/
abbrev PL : Type := Int × (Int × (Int × (List Tk × List Tk)))
def rc2 (g : Int → Int) (N : Int) (K : Nat) (p m : Int) (X : List Tk) : PL := if ¬ stq g N (sk g N p) (chs 21) 2 = 1 then (0, sk g N p, m, X, []) else if ¬ (tst g N K (K + 1) (sk g N p + 2) m [] [] 0).1 = 0 then ((tst g N K (K + 1) (sk g N p + 2) m [] [] 0).1, 0, 0, [], []) else (0, (tst g N K (K + 1) (sk g N p + 2) m [] [] 0).2.1, (tst g N K (K + 1) (sk g N p + 2) m [] [] 0).2.2.1, X, (tst g N K (K + 1) (sk g N p + 2) m [] [] 0).2.2.2)
def rcl (g : Int → Int) (N : Int) (K : Nat) (k p m : Int) : PL := if ¬ stq g N (sk g N p) (chs 12) 4 = 1 then (1 + 8 * sk g N p, 0, 0, [], []) else if 12 ≤ k then (1 + 8 * sk g N p + 4, 0, 0, [], []) else if ¬ (smf g N K (sk g N p + 4) m []).1 = 0 then ((smf g N K (sk g N p + 4) m []).1, 0, 0, [], []) else rc2 g N K (smf g N K (sk g N p + 4) m []).2.1 (smf g N K (sk g N p + 4) m []).2.2.1 (smf g N K (sk g N p + 4) m []).2.2.2
def lpr (g : Int → Int) (N : Int) (K : Nat) : Nat → Int → Int → Int → Law → Int × Law
  | 0, _, _, _, l => (0, l)
  | j + 1, k, p, m, l => if ¬ (rcl g N K k p m).1 = 0 then ((rcl g N K k p m).1, []) else if ¬ gof g N (sk g N (rcl g N K k p m).2.1) = 0 then (gof g N (sk g N (rcl g N K k p m).2.1), []) else if gon g N (sk g N (rcl g N K k p m).2.1) = 1 then lpr g N K j (k + 1) (sk g N (rcl g N K k p m).2.1 + 1) (rcl g N K k p m).2.2.1 (l ++ [((rcl g N K k p m).2.2.2.1, (rcl g N K k p m).2.2.2.2)]) else (0, l ++ [((rcl g N K k p m).2.2.2.1, (rcl g N K k p m).2.2.2.2)])
theorem lpr_st {g : Int → Int} {N k p m f1 p1 m1 : Int} {K j : Nat} {X Y : List Tk} {l : Law} (h : rcl g N K k p m = (f1, p1, m1, X, Y)) : lpr g N K (j + 1) k p m l = if ¬ f1 = 0 then (f1, []) else if ¬ gof g N (sk g N p1) = 0 then (gof g N (sk g N p1), []) else if gon g N (sk g N p1) = 1 then lpr g N K j (k + 1) (sk g N p1 + 1) m1 (l ++ [(X, Y)]) else (0, l ++ [(X, Y)]) := by
  conv => lhs; unfold lpr
  rw [h]
theorem prP {a a' b b' c c' : Int} {x x' y y' : List Tk} (h : (a, b, c, x, y) = (a', b', c', x', y')) : a = a' ∧ b = b' ∧ c = c' ∧ x = x' ∧ y = y' := by
  injection h with h1 h2
  injection h2 with h2 h3
  injection h3 with h3 h4
  injection h4 with h4 h5
  exact ⟨h1, h2, h3, h4, h5⟩
/-- what a clause leaves -/
theorem rcl_g {g : Int → Int} {N k p m p' m' z : Int} {K : Nat} {X Y : List Tk} (h : rcl g N K k p m = (0, p', m', X, Y)) (hp : 0 ≤ p ∧ p ≤ N) (hK : N ≤ K) (hz : 3 * z ≤ 7 * m + p) : k < 12 ∧ (p < p' ∧ p' ≤ N) ∧ (m < m' ∧ m' ≤ 60) ∧ 3 * (z + X.length + Y.length) ≤ 7 * m' + p' ∧ Kds X [] [false] ∧ (Y = [] ∨ Kds Y [] [true]) ∧ vcn X + vcn Y ≤ m' - m := by
  have hs := nm_rng (g := g) hp
  have hk := sk_rng (g := g) (n := N) (p := p)
  unfold rcl at h
  by_cases ht : stq g N (sk g N p) (chs 12) 4 = 1
  · rw [if_neg (fun q => q ht)] at h
    have hrn := stq_rn ht
    have hr2 := rn_rng (g := g) (n := N) (p := sk g N p)
    by_cases h12 : 12 ≤ k
    · rw [if_pos h12] at h
      have := (prP h).1
      omega
    · rw [if_neg h12] at h
      rcases hv : smf g N K (sk g N p + 4) m [] with ⟨f1, p1, m1, T1⟩
      rw [hv] at h
      dsimp only at h
      by_cases hf : f1 = 0
      · subst hf
        rw [if_neg (fun q => q rfl)] at h
        obtain ⟨⟨g1, g2, g3, g4, g5, g7⟩, g6⟩ := smf_g hv (by omega) [] []
        have hl0 : (([] : List Tk).length : Int) = 0 := rfl
        have hv0 : vcn [] = 0 := rfl
        unfold rc2 at h
        rw [g6] at h
        by_cases hi : stq g N p1 (chs 21) 2 = 1
        · rw [if_neg (fun q => q hi)] at h
          have hrn3 := stq_rn hi
          have hr3 := rn_rng (g := g) (n := N) (p := p1)
          rcases hw : tst g N K (K + 1) (p1 + 2) m1 [] [] 0 with ⟨f2, p2, m2, T2⟩
          rw [hw] at h
          dsimp only at h
          by_cases hf2 : f2 = 0
          · subst hf2
            rw [if_neg (fun q => q rfl)] at h
            have w0 : wn 0 = 0 := by decide
            have pn0 : pnb [] = 0 := rfl
            have nn0 : nnt [] = 0 := rfl
            obtain ⟨i1, i2, i3, i4, i5, i6, i7⟩ := tst_g (z := z + T1.length) (K + 1) (p1 + 2) m1 p2 m2 0 [] T2 [] hw trivial (by omega) (by omega) (by show (0 : Nat) ≤ 10; omega) (by omega) (by omega) (by omega) (by omega) (by rw [w0, pn0, nn0, hl0]; omega)
            obtain ⟨_, e1, e2, e3, e4⟩ := prP h
            subst e1 e2 e3 e4
            exact ⟨by omega, by omega, by omega, by omega, g4 rfl, Or.inr (i4 rfl), by omega⟩
          · rw [if_pos hf2] at h
            exact absurd (prP h).1 hf2
        · rw [if_pos hi] at h
          obtain ⟨_, e1, e2, e3, e4⟩ := prP h
          subst e1 e2 e3 e4
          exact ⟨by omega, by omega, by omega, by rw [hl0]; omega, g4 rfl, Or.inl rfl, by rw [hv0]; omega⟩
      · rw [if_pos hf] at h
        exact absurd (prP h).1 hf
  · rw [if_pos ht] at h
    have := (prP h).1
    omega
def tz : Law → Int
  | [] => 0
  | q :: l => q.1.length + q.2.length + tz l
theorem tz_app {q : List Tk × List Tk} : ∀ {l : Law}, tz (l ++ [q]) = tz l + (q.1.length + q.2.length) := by
  intro l
  induction l with
  | nil =>
    show (q.1.length : Int) + q.2.length + 0 = 0 + _
    omega
  | cons x l ih =>
    show (x.1.length : Int) + x.2.length + tz (l ++ [q]) = x.1.length + x.2.length + tz l + _
    rw [ih]
    omega
theorem tz_nn : ∀ l : Law, 0 ≤ tz l := by
  intro l
  induction l with
  | nil => exact Int.le_refl 0
  | cons x l ih =>
    show 0 ≤ (x.1.length : Int) + x.2.length + tz l
    omega
def clr (s t : Int → Int) : Law → Int → Int → Prop
  | [], _, _ => True
  | q :: l, x, z => t (2 * x) = z ∧ t (2 * x + 1) = z + q.1.length ∧ sc s z q.1.length = q.1 ∧ sc s (z + q.1.length) q.2.length = q.2 ∧ clr s t l (x + 1) (z + q.1.length + q.2.length)
theorem clr_ex {s t s' t' : Int → Int} : ∀ (l : Law) (x z : Int), 0 ≤ x → 0 ≤ z → (∀ i, 0 ≤ i → i < z + tz l → s' i = s i) → (∀ i, 0 ≤ i → i < 2 * (x + l.length) → t' i = t i) → clr s t l x z → clr s' t' l x z := by
  intro l
  induction l with
  | nil => intro x z _ _ _ _ _; trivial
  | cons q l ih =>
    intro x z hx hz h1 h2 ⟨c1, c2, c3, c4, c5⟩
    have hl : (q :: l).length = l.length + 1 := rfl
    have ht : tz (q :: l) = q.1.length + q.2.length + tz l := rfl
    have hn := tz_nn l
    refine ⟨by rw [h2 _ (by omega) (by omega)]; exact c1, by rw [h2 _ (by omega) (by omega)]; exact c2, ?_, ?_, ih (x + 1) (z + q.1.length + q.2.length) (by omega) (by omega) (fun i i1 i2 => h1 i i1 (by omega)) (fun i i1 i2 => h2 i i1 (by omega)) c5⟩
    · rw [sc_ex _ _ fun j j1 j2 => h1 j (by omega) (by omega)]
      exact c3
    · rw [sc_ex _ _ fun j j1 j2 => h1 j (by omega) (by omega)]
      exact c4
theorem clr_app {s t : Int → Int} {q : List Tk × List Tk} : ∀ (l : Law) (x z : Int), clr s t l x z → t (2 * (x + l.length)) = z + tz l → t (2 * (x + l.length) + 1) = z + tz l + q.1.length → sc s (z + tz l) q.1.length = q.1 → sc s (z + tz l + q.1.length) q.2.length = q.2 → clr s t (l ++ [q]) x z := by
  intro l
  induction l with
  | nil =>
    intro x z _ h1 h2 h3 h4
    have e0 : tz [] = 0 := rfl
    have e1 : (([] : Law).length : Int) = 0 := rfl
    rw [e0, Int.add_zero] at h1 h2 h3 h4
    rw [e1, Int.add_zero] at h1 h2
    exact ⟨h1, h2, h3, h4, trivial⟩
  | cons y l ih =>
    intro x z ⟨c1, c2, c3, c4, c5⟩ h1 h2 h3 h4
    have hl : (((y :: l).length : Nat) : Int) = l.length + 1 := by
      show ((l.length + 1 : Nat) : Int) = _
      omega
    have ht : tz (y :: l) = y.1.length + y.2.length + tz l := rfl
    rw [hl] at h1 h2
    rw [ht] at h1 h2 h3 h4
    have ez : z + (↑y.1.length + ↑y.2.length + tz l) = z + y.1.length + y.2.length + tz l := by omega
    rw [ez] at h1 h2 h3 h4
    have ex : x + ((l.length : Int) + 1) = x + 1 + l.length := by omega
    rw [ex] at h1 h2
    exact ⟨c1, c2, c3, c4, ih (x + 1) _ c5 h1 h2 h3 h4⟩
def LDL (c : Nat → Int → Int) (g : Int → Int) (N p m : Int) (l : Law) : Prop := c 27 = g ∧ c 70 1 = N ∧ c 70 2 = p ∧ c 70 4 = 0 ∧ c 70 8 = tz l ∧ c 70 9 = m ∧ clr (c 71) (c 72) l 0 0
def LQL (c e : Nat → Int → Int) : Prop := (∀ a, ¬ a = 70 → ¬ a = 71 → ¬ a = 72 → ¬ a = 73 → e a = c a) ∧ e 70 1 = c 70 1
section LAWS5
variable {L : Nat} {sh : Nat → SH} {c : Nat → Int → Int} {n : Nat} {Q : Option AV → List SC → Nat → Prop} {g : Int → Int} {N p m z f p' m' k : Int} {X Y : List Tk} {l : Law}
theorem LQL.trans {d e : Nat → Int → Int} (h : LQL c d) (k : LQL d e) : LQL c e := ⟨fun a a1 a2 a3 a4 => (k.1 a a1 a2 a3 a4).trans (h.1 a a1 a2 a3 a4), k.2.trans h.2⟩
theorem LQT.ll {e : Nat → Int → Int} {Z : Int} (h : LQT c e Z) : LQL c e := ⟨fun a a1 a2 _ a4 => h.1 a a1 a2 a4, h.2.2⟩
theorem c51 (hR : LRd L sh) (hST : STRS sh c) (hTP : TP g N) (hD : LDL c g N p m l) (hp0 : 0 ≤ p ∧ p ≤ N) (hm : 0 ≤ m ∧ m ≤ 60) (hz : 3 * tz l ≤ 7 * m + p) (hk : k = l.length) (hk12 : k ≤ 12) {K : Nat} (hK : N ≤ K) (hb : rcl g N K k p m = (f, p', m', X, Y))
    (hq : ∀ e, LQL c e → RG2 e N → e 70 4 = f → (f = 0 → LDL e g N p' m' (l ++ [(X, Y)])) → Q none (hp L sh e) n) : tc_C 51 [rf 70, .inl k] (hp L sh c) n Q := by
  obtain ⟨hL, h70, h27, h71, h72, h73⟩ := id hR
  have hL70 : 70 < L := by omega
  have hL72 : 72 < L := by omega
  have hN := hTP.1
  have hs := nm_rng (g := g) hp0
  have hkr := sk_rng (g := g) (n := N) (p := p)
  have htz := tz_nn l
  obtain ⟨d27, d1, d2, d4, d8, d9, dc⟩ := id hD
  have h20 := fun Q => c20_l (c := c) (n := n) (Q := Q) (N := N) (p := p) h70 h27 hL (by rw [d27]; exact hTP) d1 d2 (by omega)
  rw [d27] at h20
  unfold rcl at hb
  generalize hq0 : sk g N p = q at hb hs h20 hkr
  have hsq : sk g N q = q := by rw [← hq0]; exact sk_2 g N p
  generalize hc1 : fr c 70 (fu (c 70) 2 q) = c1 at h20
  have x70 : ∀ i, c1 70 i = fu (c 70) 2 q i := fun i => by rw [← hc1, fr_same]
  have xo : ∀ a, ¬ a = 70 → c1 a = c a := fun a ha => by rw [← hc1, fr_ne ha]
  have a27 : c1 27 = g := by rw [xo 27 (by omega)]; exact d27
  have a1 : c1 70 1 = N := by rw [x70, fu_ne (by omega)]; exact d1
  have a2 : c1 70 2 = q := by rw [x70, fu_same]
  have a4 : c1 70 4 = 0 := by rw [x70, fu_ne (by omega)]; exact d4
  have a9 : c1 70 9 = m := by rw [x70, fu_ne (by omega)]; exact d9
  have hL1 : LQL c c1 := ⟨fun a a1 _ _ _ => xo a a1, by rw [x70, fu_ne (by omega)]⟩
  have hST1 : STRS sh c1 := fun a ha => ⟨(hST a ha).1, by rw [xo a (by omega)]; exact (hST a ha).2⟩
  have hw := fun v hv Q => cw1 (c := c1) (n := n) (Q := Q) (v := v) hR hST1 hTP w1_take a27 a1 a2 (by omega) hsq hv
  show tc_W 51 0 [rf 70, .inl k, tc_nil] [] _ _ Q
  by_cases ht : stq g N q (chs 12) 4 = 1
  · rw [if_neg (fun x => x ht)] at hb
    have hrn := stq_rn ht
    have hr2 := rn_rng (g := g) (n := N) (p := q)
    have h21 := hw 1 ht
    simp only [if_true] at h21
    generalize hc2 : fr c1 70 (fu (c1 70) 2 (q + ((4 : Nat) : Int))) = c2 at h21
    have y70 : ∀ i, ¬ i = 2 → c2 70 i = c 70 i := fun i hi => by rw [← hc2, fr_same, fu_ne hi, x70, fu_ne hi]
    have yo : ∀ a, ¬ a = 70 → c2 a = c a := fun a ha => by rw [← hc2, fr_ne ha, xo a ha]
    have y2 : c2 70 2 = q + 4 := by rw [← hc2, fr_same, fu_same]; rfl
    have y4 : c2 70 4 = 0 := by rw [y70 4 (by omega)]; exact d4
    have y8 : c2 70 8 = tz l := by rw [y70 8 (by omega)]; exact d8
    by_cases h12 : 12 ≤ k
    · rw [if_pos h12] at hb
      obtain ⟨e1, _⟩ := prP hb
      have hf : ¬ f = 0 := by omega
      have h34 := fun Q => c34_l (c := c2) (n := n) (Q := Q) (a := q) (k := 4) h70 h27 hL (by omega) (by omega)
      rw [if_pos y4, e1] at h34
      have hq' := hq (fr c2 70 (fu (c2 70) 4 f)) ⟨fun a b1 _ _ _ => by rw [fr_ne b1, yo a b1], by rw [fr_same, fu_ne (by omega), y70 1 (by omega)]⟩ ⟨by rw [fr_same, fu_ne (by omega), y2]; omega, by rw [fr_same, fu_ne (by omega), y70 9 (by omega), d9]; omega⟩ (by rw [fr_same, fu_same]) (fun x => absurd x hf)
      repeat' (first | (simp (disch := first | omega | exact Nat.le_of_ble_eq_true rfl | exact rfl | assumption | (simp (disch := omega) only [fr_ne, fr_same]; first | assumption | omega)) only [r51_0, r51_1, v51_1_2, r51_4, r51_5, r51_8i, r51_9, r51_10, r51_12, v51_12_2, r51_15, r51_19, r51_20, r51_21, r51_22, v51_22_2, r51_25, r51_28, r51_29, r51_34, r51_35, r51_36, r51_37, v51_37_2, r51_40, r51_43, r51_44, r51_47, r51_48, r51_49, r51_50, r51_51, r51_54, r51_55, r51_56, v51_56_2, r51_59, r51_60, r51_63, r51_64, r51_65, r51_66, r51_67, r51_68, r51_69, r51_72, r51_73, r51_74, r51_80, r51_81, r51_83, v51_83_2, r51_86, r51_90, r51_91, v51_91_2, r51_94, g2_63_0, g2_63_2, g2_15_2, g2_21_2, g2_46_0, g2_46_2, o0_len, o0_g2, o2_len, o2_g2, o2_g6, o2_g8, o0_g4, o2_g4, il_s, bl_s, bl_z, ll_s, is_s, bs_s, bs_z, ls_s, al_s, al_b, al_l, fr_ne, fr_same, fr_fr, Nat.reduceEqDiff, tc_gf3_s, tc_ql2_s, tc_ws_0, tc_ws_i, tc_ws_l, tc_ws_r, Nat.reduceLeDiff, Nat.reduceAdd, Nat.reduceLT, true_and, and_true, if_true, if_false, tc_K, Option.toList_some, Option.toList_none, List.nil_append, List.cons_append, ite_true, ite_false, Int.cast_ofNat_Int, reduceIte, i3_add_eq, i3_sub_eq, Int.add_sub_cancel, Int.add_neg_cancel_right, hO hL70 h70, h20, a2, h21, h34]) | (simp only [r51_16, r51_31, r51_77, r51_87, i6_lt0, i6_0lt, i6_0le, i6_le0, i6_eq0, b10_0, ite_not, Int.reduceLT, Int.reduceLE, Int.reduceEq, Int.reduceNeg, if_true, if_false, ite_true, ite_false, reduceIte, eq_self, not_true, not_false_eq_true]; try refine tc_ite (fun _ => ?_) (fun _ => ?_) <;> try (exfalso; omega)))
      all_goals first
        | exact hq'
        | omega
    · rw [if_neg h12] at hb
      rcases hs1 : smf g N K (q + 4) m [] with ⟨f1, p1, m1, T1⟩
      rw [hs1] at hb
      dsimp only at hb
      repeat' (first | (simp (disch := first | omega | exact Nat.le_of_ble_eq_true rfl | exact rfl | assumption | (simp (disch := omega) only [fr_ne, fr_same]; first | assumption | omega)) only [r51_0, r51_1, v51_1_2, r51_4, r51_5, r51_8i, r51_9, r51_10, r51_12, v51_12_2, r51_15, r51_19, r51_20, r51_21, r51_22, v51_22_2, r51_25, r51_28, r51_29, r51_34, r51_35, r51_36, r51_37, v51_37_2, r51_40, r51_43, r51_44, r51_47, r51_48, r51_49, r51_50, r51_51, r51_54, r51_55, r51_56, v51_56_2, r51_59, r51_60, r51_63, r51_64, r51_65, r51_66, r51_67, r51_68, r51_69, r51_72, r51_73, r51_74, r51_80, r51_81, r51_83, v51_83_2, r51_86, r51_90, r51_91, v51_91_2, r51_94, g2_63_0, g2_63_2, g2_15_2, g2_21_2, g2_46_0, g2_46_2, o0_len, o0_g2, o2_len, o2_g2, o2_g6, o2_g8, o0_g4, o2_g4, il_s, bl_s, bl_z, ll_s, is_s, bs_s, bs_z, ls_s, al_s, al_b, al_l, fr_ne, fr_same, fr_fr, Nat.reduceEqDiff, tc_gf3_s, tc_ql2_s, tc_ws_0, tc_ws_i, tc_ws_l, tc_ws_r, Nat.reduceLeDiff, Nat.reduceAdd, Nat.reduceLT, true_and, and_true, if_true, if_false, tc_K, Option.toList_some, Option.toList_none, List.nil_append, List.cons_append, ite_true, ite_false, Int.cast_ofNat_Int, reduceIte, i3_add_eq, i3_sub_eq, Int.add_sub_cancel, Int.add_neg_cancel_right, hO hL70 h70, h20, a2, h21, hI hL72 h72, hIs h72, i3_mul_eq, y8]) | (simp only [r51_16, r51_31, r51_77, r51_87, i6_lt0, i6_0lt, i6_0le, i6_le0, i6_eq0, b10_0, ite_not, Int.reduceLT, Int.reduceLE, Int.reduceEq, Int.reduceNeg, if_true, if_false, ite_true, ite_false, reduceIte, eq_self, not_true, not_false_eq_true]; try refine tc_ite (fun _ => ?_) (fun _ => ?_) <;> try (exfalso; omega)))
      all_goals try omega
      generalize hc3 : fr c2 72 (fu (c2 72) (2 * k) (tz l)) = c3
      have w70 : c3 70 = c2 70 := by rw [← hc3, fr_ne (by omega)]
      have wo : ∀ a, ¬ a = 70 → ¬ a = 72 → c3 a = c a := fun a b1 b2 => by rw [← hc3, fr_ne b2, yo a b1]
      have w72 : c3 72 = fu (c 72) (2 * k) (tz l) := by rw [← hc3, fr_same, yo 72 (by omega)]
      have hD3 : LD c3 g N (q + 4) m (tz l) [] := ⟨by rw [wo 27 (by omega) (by omega)]; exact d27, by rw [w70, y70 1 (by omega)]; exact d1, by rw [w70]; exact y2, by rw [w70]; exact y4, by rw [w70, y8]; show tz l = tz l + (0 : Int); omega, by rw [w70, y70 9 (by omega)]; exact d9, rfl⟩
      have hST3 : STRS sh c3 := fun a ha => ⟨(hST a ha).1, by rw [wo a (by omega) (by omega)]; exact (hST a ha).2⟩
      have hl0 : (([] : List Tk).length : Int) = 0 := rfl
      refine c52 (c := c3) (k := K) hR hST3 hTP hD3 (by omega) hm ⟨htz, by rw [hl0]; omega⟩ (by omega) hs1 ?_
      intro e1 b1 b2 b3 b4
      rw [hl0, Int.add_zero] at b1
      have hLe1 : LQL c e1 := ⟨fun a u1 u2 u3 u4 => by rw [b1.1 a u1 u2, wo a u1 u3], by rw [b1.2.2.1, w70, y70 1 (by omega)]⟩
      by_cases hf1 : f1 = 0
      · subst hf1
        rw [if_neg (fun x => x rfl)] at hb
        obtain ⟨⟨g1, g2, g3, g4, g5, g7⟩, g6⟩ := smf_g hs1 (by omega) [] []
        rw [hl0] at g3
        have hD4 := b4 rfl
        obtain ⟨v27, v1, v2, v4, v8, v9, vT⟩ := id hD4
        unfold rc2 at hb
        rw [g6] at hb
        generalize hc4 : fr e1 72 (fu (e1 72) (2 * k + 1) (tz l + T1.length)) = c4
        have u70 : c4 70 = e1 70 := by rw [← hc4, fr_ne (by omega)]
        have uo : ∀ a, ¬ a = 72 → c4 a = e1 a := fun a b1 => by rw [← hc4, fr_ne b1]
        have u72 : c4 72 = fu (fu (c 72) (2 * k) (tz l)) (2 * k + 1) (tz l + T1.length) := by rw [← hc4, fr_same, b1.1 72 (by omega) (by omega), w72]
        have hST4 : STRS sh c4 := fun a ha => ⟨(hST a ha).1, by rw [uo a (by omega), hLe1.1 a (by omega) (by omega) (by omega) (by omega)]; exact (hST a ha).2⟩
        have hLc4 : LQL c c4 := ⟨fun a x1 x2 x3 x4 => by rw [uo a x3]; exact hLe1.1 a x1 x2 x3 x4, by rw [u70]; exact hLe1.2⟩
        have e14 : e1 70 4 = 0 := v4
        have h18 : e1 70 8 = tz l + T1.length := v8
        have u4 : c4 70 4 = 0 := by rw [u70]; exact v4
        have hw2 := fun v hv Q => cw1 (c := c4) (n := n) (Q := Q) (v := v) hR hST4 hTP w1_if (by rw [uo 27 (by omega)]; exact v27) (by rw [u70]; exact v1) (by rw [u70]; exact v2) (by omega) g6 hv
        -- the clause's place among all
        have hsum : ∀ e : Nat → Int → Int, (∀ i, i < tz l + T1.length → e 71 i = e1 71 i) → (∀ i, i < tz l → e 71 i = c 71 i) ∧ sc (e 71) (tz l) T1.length = T1 := fun e he => ⟨fun i hi => by rw [he i (by omega), b1.2.1 i hi, wo 71 (by omega) (by omega)], by rw [sc_ex (h := e1 71) _ _ fun j j1 j2 => he j (by omega)]; exact vT⟩
        have hcl : ∀ (e : Nat → Int → Int) (Y : List Tk), (∀ i, i < tz l + T1.length → e 71 i = e1 71 i) → e 72 = c4 72 → sc (e 71) (tz l + T1.length) Y.length = Y → clr (e 71) (e 72) (l ++ [(T1, Y)]) 0 0 := fun e Y he h7 hY => by
          obtain ⟨s1, s2⟩ := hsum e he
          have e72 : ∀ i, 0 ≤ i → i < 2 * (0 + (l.length : Int)) → e 72 i = c 72 i := fun i i1 i2 => by
            rw [h7, u72, fu_ne (by omega), fu_ne (by omega)]
          refine clr_app l 0 0 (clr_ex l 0 0 (by omega) (by omega) (fun i i1 i2 => s1 i (by omega)) e72 dc) ?_ ?_ ?_ ?_
          · rw [h7, u72, show 2 * (0 + (l.length : Int)) = 2 * k by omega, fu_ne (by omega), fu_same]
            omega
          · rw [h7, u72, show 2 * (0 + (l.length : Int)) + 1 = 2 * k + 1 by omega, fu_same]
            show _ = 0 + tz l + (T1.length : Int)
            omega
          · rw [show 0 + tz l = tz l by omega]
            exact s2
          · rw [show 0 + tz l + (((T1, Y) : List Tk × List Tk).1.length : Int) = tz l + T1.length by show 0 + tz l + (T1.length : Int) = _; omega]
            exact hY
        have htz2 : ∀ Y : List Tk, tz (l ++ [(T1, Y)]) = tz l + T1.length + Y.length := fun Y => by
          rw [tz_app]
          show tz l + ((T1.length : Int) + Y.length) = _
          omega
        repeat' (first | (simp (disch := first | omega | exact Nat.le_of_ble_eq_true rfl | exact rfl | assumption | (simp (disch := omega) only [fr_ne, fr_same]; first | assumption | omega)) only [r51_0, r51_1, v51_1_2, r51_4, r51_5, r51_8i, r51_9, r51_10, r51_12, v51_12_2, r51_15, r51_19, r51_20, r51_21, r51_22, v51_22_2, r51_25, r51_28, r51_29, r51_34, r51_35, r51_36, r51_37, v51_37_2, r51_40, r51_43, r51_44, r51_47, r51_48, r51_49, r51_50, r51_51, r51_54, r51_55, r51_56, v51_56_2, r51_59, r51_60, r51_63, r51_64, r51_65, r51_66, r51_67, r51_68, r51_69, r51_72, r51_73, r51_74, r51_80, r51_81, r51_83, v51_83_2, r51_86, r51_90, r51_91, v51_91_2, g2_63_0, g2_63_2, g2_15_2, g2_21_2, g2_46_0, g2_46_2, o0_len, o0_g2, o2_len, o2_g2, o2_g6, o2_g8, o0_g4, o2_g4, il_s, bl_s, bl_z, ll_s, is_s, bs_s, bs_z, ls_s, al_s, al_b, al_l, fr_ne, fr_same, fr_fr, Nat.reduceEqDiff, tc_gf3_s, tc_ql2_s, tc_ws_0, tc_ws_i, tc_ws_l, tc_ws_r, Nat.reduceLeDiff, Nat.reduceAdd, Nat.reduceLT, true_and, and_true, if_true, if_false, tc_K, Option.toList_some, Option.toList_none, List.nil_append, List.cons_append, ite_true, ite_false, Int.cast_ofNat_Int, reduceIte, i3_add_eq, i3_sub_eq, Int.add_sub_cancel, Int.add_neg_cancel_right, hO hL70 h70, hI hL72 h72, hIs h72, i3_mul_eq, h18, hc4, u4]) | (simp only [r51_16, r51_31, r51_77, r51_87, i6_lt0, i6_0lt, i6_0le, i6_le0, i6_eq0, b10_0, ite_not, Int.reduceLT, Int.reduceLE, Int.reduceEq, Int.reduceNeg, if_true, if_false, ite_true, ite_false, reduceIte, eq_self, not_true, not_false_eq_true]; try refine tc_ite (fun _ => ?_) (fun _ => ?_) <;> try (exfalso; omega)))
        all_goals try omega
        by_cases hi : stq g N p1 (chs 21) 2 = 1
        · rw [if_neg (fun x => x hi)] at hb
          have hrn3 := stq_rn hi
          have hr3 := rn_rng (g := g) (n := N) (p := p1)
          have h22 := hw2 1 hi
          simp only [if_true] at h22
          generalize hc5 : fr c4 70 (fu (c4 70) 2 (p1 + ((2 : Nat) : Int))) = c5 at h22
          have t70 : ∀ i, ¬ i = 2 → c5 70 i = e1 70 i := fun i hi => by rw [← hc5, fr_same, fu_ne hi, u70]
          have to : ∀ a, ¬ a = 70 → c5 a = c4 a := fun a ha => by rw [← hc5, fr_ne ha]
          rcases hw3 : tst g N K (K + 1) (p1 + 2) m1 [] [] 0 with ⟨f2, p2, m2, T2⟩
          rw [hw3] at hb
          dsimp only at hb
          repeat' (first | (simp (disch := first | omega | exact Nat.le_of_ble_eq_true rfl | exact rfl | assumption | (simp (disch := omega) only [fr_ne, fr_same]; first | assumption | omega)) only [r51_0, r51_1, v51_1_2, r51_4, r51_5, r51_8i, r51_9, r51_10, r51_12, v51_12_2, r51_15, r51_19, r51_20, r51_21, r51_22, v51_22_2, r51_25, r51_28, r51_29, r51_34, r51_35, r51_36, r51_37, v51_37_2, r51_40, r51_43, r51_44, r51_47, r51_48, r51_49, r51_50, r51_51, r51_54, r51_55, r51_56, v51_56_2, r51_59, r51_60, r51_63, r51_64, r51_65, r51_66, r51_67, r51_68, r51_69, r51_72, r51_73, r51_74, r51_80, r51_81, r51_83, v51_83_2, r51_86, r51_90, r51_91, v51_91_2, g2_63_0, g2_63_2, g2_15_2, g2_21_2, g2_46_0, g2_46_2, o0_len, o0_g2, o2_len, o2_g2, o2_g6, o2_g8, o0_g4, o2_g4, il_s, bl_s, bl_z, ll_s, is_s, bs_s, bs_z, ls_s, al_s, al_b, al_l, fr_ne, fr_same, fr_fr, Nat.reduceEqDiff, tc_gf3_s, tc_ql2_s, tc_ws_0, tc_ws_i, tc_ws_l, tc_ws_r, Nat.reduceLeDiff, Nat.reduceAdd, Nat.reduceLT, true_and, and_true, if_true, if_false, tc_K, Option.toList_some, Option.toList_none, List.nil_append, List.cons_append, ite_true, ite_false, Int.cast_ofNat_Int, reduceIte, i3_add_eq, i3_sub_eq, Int.add_sub_cancel, Int.add_neg_cancel_right, hO hL70 h70, h22]) | (simp only [r51_16, r51_31, r51_77, r51_87, i6_lt0, i6_0lt, i6_0le, i6_le0, i6_eq0, b10_0, ite_not, Int.reduceLT, Int.reduceLE, Int.reduceEq, Int.reduceNeg, if_true, if_false, ite_true, ite_false, reduceIte, eq_self, not_true, not_false_eq_true]; try refine tc_ite (fun _ => ?_) (fun _ => ?_) <;> try (exfalso; omega)))
          all_goals try omega
          show tc_W 59 0 [rf 70, tc_nil, tc_nil, tc_nil] [] _ _ _
          repeat' (first | (simp (disch := first | omega | exact Nat.le_of_ble_eq_true rfl | exact rfl | assumption | (simp (disch := omega) only [fr_ne, fr_same]; first | assumption | omega)) only [r59_0, r59_1, r59_2, r59_5, r59_6, r59_7, r59_10, r59_11r, r59_12, r59_13i, r59_15, r59_21, r59_25, r59_26, v59_26_2, r59_29, r59_30, v59_30_2, r59_33, r59_34, v59_34_2, r59_37i, r59_38, r59_39, v59_39_2, r59_42, r59_43, r59_44, v59_44_2, r59_47, r59_48, v59_48_2, r59_51r, r59_52i, r59_55, r59_58, p2_28_2, p2_31_2, o2_len, o2_s10, o2_s11, il_s, bl_s, bl_z, ll_s, is_s, bs_s, bs_z, ls_s, al_s, al_b, al_l, fr_ne, fr_same, fr_fr, Nat.reduceEqDiff, tc_gf3_s, tc_ql2_s, tc_ws_0, tc_ws_i, tc_ws_l, tc_ws_r, Nat.reduceLeDiff, Nat.reduceAdd, Nat.reduceLT, true_and, and_true, if_true, if_false, tc_K, Option.toList_some, Option.toList_none, List.nil_append, List.cons_append, ite_true, ite_false, Int.cast_ofNat_Int, reduceIte, i3_add_eq, i3_sub_eq, Int.add_sub_cancel, Int.add_neg_cancel_right, hO hL70 h70, hOs h70]) | (simp only [r59_18, r59_22, i6_lt0, i6_0lt, i6_0le, i6_le0, i6_eq0, b10_0, ite_not, Int.reduceLT, Int.reduceLE, Int.reduceEq, Int.reduceNeg, if_true, if_false, ite_true, ite_false, reduceIte, eq_self, not_true, not_false_eq_true]; try refine tc_ite (fun _ => ?_) (fun _ => ?_) <;> try (exfalso; omega)))
          have w0 : wn 0 = 0 := by decide
          have pn0 : pnb [] = 0 := rfl
          have nn0 : nnt [] = 0 := rfl
          generalize hc6 : fr c5 70 (fu (fu (c5 70) 10 0) 11 0) = c6
          have r70 : ∀ i, ¬ i = 10 → ¬ i = 11 → c6 70 i = c5 70 i := fun i h1 h2 => by rw [← hc6, fr_same, fu_ne h2, fu_ne h1]
          have ro : ∀ a, ¬ a = 70 → c6 a = c5 a := fun a ha => by rw [← hc6, fr_ne ha]
          have hLc6 : LQL c c6 := hLc4.trans ⟨fun a x1 _ _ _ => by rw [ro a x1, to a x1], by rw [r70 1 (by omega) (by omega), t70 1 (by omega), u70]⟩
          have hST6 : STRS sh c6 := fun a ha => ⟨(hST a ha).1, by rw [hLc6.1 a (by omega) (by omega) (by omega) (by omega)]; exact (hST a ha).2⟩
          refine c59_l (c := c6) (K := K) (Z := tz l + T1.length) (z := tz l + T1.length) (f := f2) (p' := p2) (m' := m2) (T' := T2) (g := g) (N := N) hR hST6 hTP hK (by omega) ?_ (K + 1) (p1 + 2) m1 0 0 [] [] c6 _ ⟨?_, ?_, ?_, ?_, ?_, ?_, rfl⟩ ⟨?_, ?_, trivial⟩ LQT.refl (by rw [hl0]; omega) trivial (by omega) (by omega) (by show (0 : Nat) ≤ 10; omega) (by omega) (by omega) (by omega) (by omega) (by omega) (by omega) (by omega) (by rw [w0, pn0, nn0, hl0]; omega) hw3
          · intro e j1 j2 j3 j4
            repeat' (first | (simp (disch := first | omega | exact Nat.le_of_ble_eq_true rfl | exact rfl | assumption | (simp (disch := omega) only [fr_ne, fr_same]; first | assumption | omega)) only [r51_0, r51_1, v51_1_2, r51_4, r51_5, r51_8i, r51_9, r51_10, r51_12, v51_12_2, r51_15, r51_19, r51_20, r51_21, r51_22, v51_22_2, r51_25, r51_28, r51_29, r51_34, r51_35, r51_36, r51_37, v51_37_2, r51_40, r51_43, r51_44, r51_47, r51_48, r51_49, r51_50, r51_51, r51_54, r51_55, r51_56, v51_56_2, r51_59, r51_60, r51_63, r51_64, r51_65, r51_66, r51_67, r51_68, r51_69, r51_72, r51_73, r51_74, r51_80, r51_81, r51_83, v51_83_2, r51_86, r51_90, r51_91, v51_91_2, r51_94, g2_63_0, g2_63_2, g2_15_2, g2_21_2, g2_46_0, g2_46_2, o0_len, o0_g2, o2_len, o2_g2, o2_g6, o2_g8, o0_g4, o2_g4, il_s, bl_s, bl_z, ll_s, is_s, bs_s, bs_z, ls_s, al_s, al_b, al_l, fr_ne, fr_same, fr_fr, Nat.reduceEqDiff, tc_gf3_s, tc_ql2_s, tc_ws_0, tc_ws_i, tc_ws_l, tc_ws_r, Nat.reduceLeDiff, Nat.reduceAdd, Nat.reduceLT, true_and, and_true, if_true, if_false, tc_K, Option.toList_some, Option.toList_none, List.nil_append, List.cons_append, ite_true, ite_false, Int.cast_ofNat_Int, reduceIte, i3_add_eq, i3_sub_eq, Int.add_sub_cancel, Int.add_neg_cancel_right]) | (simp only [r51_16, r51_31, r51_77, r51_87, i6_lt0, i6_0lt, i6_0le, i6_le0, i6_eq0, b10_0, ite_not, Int.reduceLT, Int.reduceLE, Int.reduceEq, Int.reduceNeg, if_true, if_false, ite_true, ite_false, reduceIte, eq_self, not_true, not_false_eq_true]; try refine tc_ite (fun _ => ?_) (fun _ => ?_) <;> try (exfalso; omega)))
            have hLe := hLc6.trans j1.ll
            by_cases hf2 : f2 = 0
            · subst hf2
              rw [if_neg (fun x => x rfl)] at hb
              obtain ⟨k1, k2, k3, k4, k5⟩ := prP hb
              refine hq e hLe j2 (by rw [j3]; exact k1) fun _ => ?_
              rw [← k2, ← k3, ← k4, ← k5]
              obtain ⟨l1, l2, l3, l4, l5, l6, l7⟩ := j4 rfl
              have e71 : ∀ i, i < tz l + T1.length → e 71 i = e1 71 i := fun i hi => by rw [j1.2.1 i hi, ro 71 (by omega), to 71 (by omega), uo 71 (by omega)]
              exact ⟨l1, l2, l3, l4, by rw [l5, htz2], l6, hcl e T2 e71 (by rw [j1.1 72 (by omega) (by omega) (by omega), ro 72 (by omega), to 72 (by omega)]) l7⟩
            · rw [if_pos hf2] at hb
              have hff := (prP hb).1
              exact hq e hLe j2 (by rw [j3]; exact hff) fun x => absurd (hff.trans x) hf2
          · rw [ro 27 (by omega), to 27 (by omega), uo 27 (by omega)]; exact v27
          · rw [r70 1 (by omega) (by omega), t70 1 (by omega)]; exact v1
          · rw [r70 2 (by omega) (by omega), ← hc5, fr_same, fu_same]; rfl
          · rw [r70 4 (by omega) (by omega), t70 4 (by omega)]; exact v4
          · rw [r70 8 (by omega) (by omega), t70 8 (by omega), v8]; show _ = _ + (0 : Int); omega
          · rw [r70 9 (by omega) (by omega), t70 9 (by omega)]; exact v9
          · rw [← hc6, fr_same, fu_ne (by omega), fu_same]; rfl
          · rw [← hc6, fr_same, fu_same]
        · rw [if_pos hi] at hb
          have hi0 : stq g N p1 (chs 21) 2 = 0 := by
            rcases stq_01 g N p1 (chs 21) 2 with x | x
            · exact x
            · exact absurd x hi
          have h22 := hw2 0 hi0
          have e5 : fr c4 70 (fu (c4 70) 2 p1) = c4 := by rw [show p1 = c4 70 2 by rw [u70]; exact v2.symm, fu_id, fr_id]
          simp only [if_neg (show ¬ (0 : Int) = 1 by omega), e5] at h22
          obtain ⟨k1, k2, k3, k4, k5⟩ := prP hb
          have hq' := hq c4 hLc4 ⟨by rw [u70, v2]; omega, by rw [u70, v9]; omega⟩ (by rw [u4]; exact k1) (fun _ => by
            rw [← k2, ← k3, ← k4, ← k5]
            exact ⟨by rw [uo 27 (by omega)]; exact v27, by rw [u70]; exact v1, by rw [u70]; exact v2, u4, by rw [u70, v8, htz2]; show _ = _ + (0 : Int); omega, by rw [u70]; exact v9, hcl c4 [] (fun i _ => by rw [uo 71 (by omega)]) rfl rfl⟩)
          repeat' (first | (simp (disch := first | omega | exact Nat.le_of_ble_eq_true rfl | exact rfl | assumption | (simp (disch := omega) only [fr_ne, fr_same]; first | assumption | omega)) only [r51_0, r51_1, v51_1_2, r51_4, r51_5, r51_8i, r51_9, r51_10, r51_12, v51_12_2, r51_15, r51_19, r51_20, r51_21, r51_22, v51_22_2, r51_25, r51_28, r51_29, r51_34, r51_35, r51_36, r51_37, v51_37_2, r51_40, r51_43, r51_44, r51_47, r51_48, r51_49, r51_50, r51_51, r51_54, r51_55, r51_56, v51_56_2, r51_59, r51_60, r51_63, r51_64, r51_65, r51_66, r51_67, r51_68, r51_69, r51_72, r51_73, r51_74, r51_80, r51_81, r51_83, v51_83_2, r51_86, r51_90, r51_91, v51_91_2, r51_94, g2_63_0, g2_63_2, g2_15_2, g2_21_2, g2_46_0, g2_46_2, o0_len, o0_g2, o2_len, o2_g2, o2_g6, o2_g8, o0_g4, o2_g4, il_s, bl_s, bl_z, ll_s, is_s, bs_s, bs_z, ls_s, al_s, al_b, al_l, fr_ne, fr_same, fr_fr, Nat.reduceEqDiff, tc_gf3_s, tc_ql2_s, tc_ws_0, tc_ws_i, tc_ws_l, tc_ws_r, Nat.reduceLeDiff, Nat.reduceAdd, Nat.reduceLT, true_and, and_true, if_true, if_false, tc_K, Option.toList_some, Option.toList_none, List.nil_append, List.cons_append, ite_true, ite_false, Int.cast_ofNat_Int, reduceIte, i3_add_eq, i3_sub_eq, Int.add_sub_cancel, Int.add_neg_cancel_right, hO hL70 h70, h22]) | (simp only [r51_16, r51_31, r51_77, r51_87, i6_lt0, i6_0lt, i6_0le, i6_le0, i6_eq0, b10_0, ite_not, Int.reduceLT, Int.reduceLE, Int.reduceEq, Int.reduceNeg, if_true, if_false, ite_true, ite_false, reduceIte, eq_self, not_true, not_false_eq_true]; try refine tc_ite (fun _ => ?_) (fun _ => ?_) <;> try (exfalso; omega)))
          all_goals first
            | exact hq'
            | omega
      · rw [if_pos hf1] at hb
        have hff := (prP hb).1
        have h4f : ∀ F, fr e1 72 F 70 4 = f1 := fun F => by rw [fr_ne (by omega)]; exact b3
        have hq' := hq (fr e1 72 (fu (e1 72) (2 * k + 1) (e1 70 8))) ⟨fun a x1 x2 x3 x4 => by rw [fr_ne x3]; exact hLe1.1 a x1 x2 x3 x4, by rw [fr_ne (by omega)]; exact hLe1.2⟩ ⟨by rw [fr_ne (by omega)]; exact b2.1, by rw [fr_ne (by omega)]; have := b2.2; omega⟩ (by rw [h4f]; exact hff) (fun x => absurd (hff.trans x) hf1)
        repeat' (first | (simp (disch := first | omega | exact Nat.le_of_ble_eq_true rfl | exact rfl | assumption | (simp (disch := omega) only [fr_ne, fr_same]; first | assumption | omega)) only [r51_0, r51_1, v51_1_2, r51_4, r51_5, r51_8i, r51_9, r51_10, r51_12, v51_12_2, r51_15, r51_19, r51_20, r51_21, r51_22, v51_22_2, r51_25, r51_28, r51_29, r51_34, r51_35, r51_36, r51_37, v51_37_2, r51_40, r51_43, r51_44, r51_47, r51_48, r51_49, r51_50, r51_51, r51_54, r51_55, r51_56, v51_56_2, r51_59, r51_60, r51_63, r51_64, r51_65, r51_66, r51_67, r51_68, r51_69, r51_72, r51_73, r51_74, r51_80, r51_81, r51_83, v51_83_2, r51_86, r51_90, r51_91, v51_91_2, r51_94, g2_63_0, g2_63_2, g2_15_2, g2_21_2, g2_46_0, g2_46_2, o0_len, o0_g2, o2_len, o2_g2, o2_g6, o2_g8, o0_g4, o2_g4, il_s, bl_s, bl_z, ll_s, is_s, bs_s, bs_z, ls_s, al_s, al_b, al_l, fr_ne, fr_same, fr_fr, Nat.reduceEqDiff, tc_gf3_s, tc_ql2_s, tc_ws_0, tc_ws_i, tc_ws_l, tc_ws_r, Nat.reduceLeDiff, Nat.reduceAdd, Nat.reduceLT, true_and, and_true, if_true, if_false, tc_K, Option.toList_some, Option.toList_none, List.nil_append, List.cons_append, ite_true, ite_false, Int.cast_ofNat_Int, reduceIte, i3_add_eq, i3_sub_eq, Int.add_sub_cancel, Int.add_neg_cancel_right, hO hL70 h70, hI hL72 h72, hIs h72, i3_mul_eq, b3]) | (simp only [r51_16, r51_31, r51_77, r51_87, i6_lt0, i6_0lt, i6_0le, i6_le0, i6_eq0, b10_0, ite_not, Int.reduceLT, Int.reduceLE, Int.reduceEq, Int.reduceNeg, if_true, if_false, ite_true, ite_false, reduceIte, eq_self, not_true, not_false_eq_true]; try refine tc_ite (fun _ => ?_) (fun _ => ?_) <;> try (exfalso; omega)))
        all_goals first
          | exact hq'
          | omega
  · rw [if_pos ht] at hb
    obtain ⟨e1, _⟩ := prP hb
    have hf : ¬ f = 0 := by omega
    have ht0 : stq g N q (chs 12) 4 = 0 := by
      rcases stq_01 g N q (chs 12) 4 with x | x
      · exact x
      · exact absurd x ht
    have h21 := hw 0 ht0
    have e5 : fr c1 70 (fu (c1 70) 2 q) = c1 := by rw [← a2, fu_id, fr_id]
    simp only [if_neg (show ¬ (0 : Int) = 1 by omega), e5] at h21
    have h34 := fun Q => c34_l (c := c1) (n := n) (Q := Q) (a := q) (k := 0) h70 h27 hL (by omega) (by omega)
    rw [if_pos a4, show 1 + 8 * q + 0 = f by omega] at h34
    have hq' := hq (fr c1 70 (fu (c1 70) 4 f)) (hL1.trans ⟨fun a x1 _ _ _ => fr_ne x1, by rw [fr_same, fu_ne (by omega)]⟩) ⟨by rw [fr_same, fu_ne (by omega), a2]; omega, by rw [fr_same, fu_ne (by omega), a9]; omega⟩ (by rw [fr_same, fu_same]) (fun x => absurd x hf)
    repeat' (first | (simp (disch := first | omega | exact Nat.le_of_ble_eq_true rfl | exact rfl | assumption | (simp (disch := omega) only [fr_ne, fr_same]; first | assumption | omega)) only [r51_0, r51_1, v51_1_2, r51_4, r51_5, r51_8i, r51_9, r51_10, r51_12, v51_12_2, r51_15, r51_19, r51_20, r51_21, r51_22, v51_22_2, r51_25, r51_28, r51_29, r51_34, r51_35, r51_36, r51_37, v51_37_2, r51_40, r51_43, r51_44, r51_47, r51_48, r51_49, r51_50, r51_51, r51_54, r51_55, r51_56, v51_56_2, r51_59, r51_60, r51_63, r51_64, r51_65, r51_66, r51_67, r51_68, r51_69, r51_72, r51_73, r51_74, r51_80, r51_81, r51_83, v51_83_2, r51_86, r51_90, r51_91, v51_91_2, r51_94, g2_63_0, g2_63_2, g2_15_2, g2_21_2, g2_46_0, g2_46_2, o0_len, o0_g2, o2_len, o2_g2, o2_g6, o2_g8, o0_g4, o2_g4, il_s, bl_s, bl_z, ll_s, is_s, bs_s, bs_z, ls_s, al_s, al_b, al_l, fr_ne, fr_same, fr_fr, Nat.reduceEqDiff, tc_gf3_s, tc_ql2_s, tc_ws_0, tc_ws_i, tc_ws_l, tc_ws_r, Nat.reduceLeDiff, Nat.reduceAdd, Nat.reduceLT, true_and, and_true, if_true, if_false, tc_K, Option.toList_some, Option.toList_none, List.nil_append, List.cons_append, ite_true, ite_false, Int.cast_ofNat_Int, reduceIte, i3_add_eq, i3_sub_eq, Int.add_sub_cancel, Int.add_neg_cancel_right, hO hL70 h70, h20, a2, h21, h34]) | (simp only [r51_16, r51_31, r51_77, r51_87, i6_lt0, i6_0lt, i6_0le, i6_le0, i6_eq0, b10_0, ite_not, Int.reduceLT, Int.reduceLE, Int.reduceEq, Int.reduceNeg, if_true, if_false, ite_true, ite_false, reduceIte, eq_self, not_true, not_false_eq_true]; try refine tc_ite (fun _ => ?_) (fun _ => ?_) <;> try (exfalso; omega)))
    all_goals first
      | exact hq'
      | omega
end LAWS5

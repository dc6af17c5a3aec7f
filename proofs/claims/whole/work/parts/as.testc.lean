/-! the class: tests -/
/-- a word alone, of the class and of the reference -/
def W1 (a b l : Nat) : Prop := a < 25 ∧ b < 25 ∧ (tc_chs.getD a []).length = l + 1 ∧ (tc_chs.getD b []).length = l ∧ l ≤ 90 ∧ WLS (chs a) 0 [l] ∧ ∀ j : Int, 0 ≤ j → j < l → chs a (0 + j) = chs b j
theorem w1_take : W1 1 12 4 := ⟨by decide, by decide, rfl, rfl, by decide, ⟨fin_rng (l := 4) (f := fun j => chs 1 (0 + j)) (by decide +kernel), by decide +kernel, by decide, trivial⟩, fin_all (f := fun j => chs 1 (0 + j)) (by decide +kernel)⟩
theorem w1_if : W1 3 21 2 := ⟨by decide, by decide, rfl, rfl, by decide, ⟨fin_rng (l := 2) (f := fun j => chs 3 (0 + j)) (by decide +kernel), by decide +kernel, by decide, trivial⟩, fin_all (f := fun j => chs 3 (0 + j)) (by decide +kernel)⟩
theorem w1_not : W1 4 22 3 := ⟨by decide, by decide, rfl, rfl, by decide, ⟨fin_rng (l := 3) (f := fun j => chs 4 (0 + j)) (by decide +kernel), by decide +kernel, by decide, trivial⟩, fin_all (f := fun j => chs 4 (0 + j)) (by decide +kernel)⟩
theorem w1_and : W1 5 23 3 := ⟨by decide, by decide, rfl, rfl, by decide, ⟨fin_rng (l := 3) (f := fun j => chs 5 (0 + j)) (by decide +kernel), by decide +kernel, by decide, trivial⟩, fin_all (f := fun j => chs 5 (0 + j)) (by decide +kernel)⟩
theorem w1_or : W1 6 24 2 := ⟨by decide, by decide, rfl, rfl, by decide, ⟨fin_rng (l := 2) (f := fun j => chs 6 (0 + j)) (by decide +kernel), by decide +kernel, by decide, trivial⟩, fin_all (f := fun j => chs 6 (0 + j)) (by decide +kernel)⟩
def LQT (c e : Nat → Int → Int) (Z : Int) : Prop := (∀ a, ¬ a = 70 → ¬ a = 71 → ¬ a = 73 → e a = c a) ∧ (∀ i, i < Z → e 71 i = c 71 i) ∧ e 70 1 = c 70 1
def LT (c : Nat → Int → Int) (O : List Int) (W : Int) : Prop := c 70 10 = O.length ∧ c 70 11 = W ∧ SK (c 73) O
theorem SK_ex {g h : Int → Int} : ∀ (O : List Int), (∀ j : Int, 0 ≤ j → j < O.length → h j = g j) → SK g O → SK h O := by
  intro O
  induction O with
  | nil => intro _ _; trivial
  | cons x O ih =>
    intro hh ⟨h1, h2⟩
    have hl : (x :: O).length = O.length + 1 := rfl
    exact ⟨by rw [hh _ (by omega) (by omega)]; exact h1, ih (fun j j1 j2 => hh j j1 (by omega)) h2⟩
section TESTC
variable {L : Nat} {sh : Nat → SH} {c : Nat → Int → Int} {n : Nat} {Q : Option AV → List SC → Nat → Prop} {g : Int → Int} {N p m z f p' m' W W' : Int} {T T' : List Tk} {O O' : List Int}
theorem LQ.t {e : Nat → Int → Int} {Z : Int} (h : LQ c e Z) : LQT c e Z := ⟨fun a a1 a2 _ => h.1 a a1 a2, h.2.1, h.2.2.1⟩
theorem LQT.refl {Z : Int} : LQT c c Z := ⟨fun _ _ _ _ => rfl, fun _ _ => rfl, rfl⟩
theorem LQT.trans {d e : Nat → Int → Int} {Z Z' : Int} (h : LQT c d Z) (k : LQT d e Z') (hZ : Z ≤ Z') : LQT c e Z := ⟨fun a a1 a2 a3 => (k.1 a a1 a2 a3).trans (h.1 a a1 a2 a3), fun i i1 => (k.2.1 i (by omega)).trans (h.2.1 i i1), k.2.2.trans h.2.2⟩
theorem LQ.lt {e : Nat → Int → Int} {Z : Int} (h : LQ c e Z) (hT : LT c O W) : LT e O W := ⟨by rw [h.2.2.2.1]; exact hT.1, by rw [h.2.2.2.2]; exact hT.2.1, by rw [h.1 73 (by omega) (by omega)]; exact hT.2.2⟩
theorem LD.at (h : LD c g N p m z T) (q : Int) : LD (fr c 70 (fu (c 70) 2 q)) g N q m z T ∧ ∀ Z, LQ c (fr c 70 (fu (c 70) 2 q)) Z := by
  obtain ⟨h1, h2, h3, h4, h5, h6, h7⟩ := h
  exact ⟨⟨by rw [fr_ne (by omega)]; exact h1, by rw [fr_same, fu_ne (by omega)]; exact h2, by rw [fr_same, fu_same], by rw [fr_same, fu_ne (by omega)]; exact h4, by rw [fr_same, fu_ne (by omega)]; exact h5, by rw [fr_same, fu_ne (by omega)]; exact h6, h7⟩, fun Z => LQ.of70 (fun a ha => fr_ne ha) (by rw [fr_same, fu_ne (by omega)]) (by rw [fr_same, fu_ne (by omega)]) (by rw [fr_same, fu_ne (by omega)])⟩
theorem STRS.t (hST : STRS sh c) {d : Nat → Int → Int} {Z : Int} (h : LQT c d Z) : STRS sh d := fun a ha => ⟨(hST a ha).1, by rw [h.1 a (by omega) (by omega) (by omega)]; exact (hST a ha).2⟩
theorem stq_01 (g : Int → Int) (N p : Int) (f : Int → Int) (l : Nat) : stq g N p f l = 0 ∨ stq g N p f l = 1 := by
  unfold stq
  split <;> omega
/-- one word, read by the class -/
theorem cw1 (hR : LRd L sh) (hST : STRS sh c) (hTP : TP g N) {a b l : Nat} (hw : W1 a b l) (h27 : c 27 = g) (h1 : c 70 1 = N) (h2 : c 70 2 = p) (hp0 : 0 ≤ p ∧ p ≤ N) {v q : Int} (hq0 : sk g N p = q) (hv : stq g N q (chs b) l = v) : tc_C 21 [rf 70, rf a] (hp L sh c) n Q = Q (some (.inl (if v = 1 then 0 else -1))) (hp L sh (fr c 70 (fu (c 70) 2 (if v = 1 then q + l else q)))) n := by
  obtain ⟨hL, h70, s27, h71, h72, h73⟩ := hR
  obtain ⟨w1, w2, w3, w4, w5, w6, w7⟩ := hw
  have hN := hTP.1
  have hs := hST a w1
  rw [w3] at hs
  rw [c21_l (N := N) (p := p) (w := a) (tl := l + 1) (wl := [l]) h70 s27 hL (by rw [h27]; exact hTP) h1 h2 (by omega) (by omega) hs.1 (by omega) (by show (l : Int) + 1 + 0 = ((l + 1 : Nat) : Int); omega) (by rw [hs.2]; exact w6), h27, hs.2, hq0]
  have e1 : rwd g N q (chs a) 0 0 [l] = if v = 1 then 0 else -1 := by
    show (if stq g N q (fun j => chs a (0 + j)) l = 1 then 0 else -1) = _
    rw [stq_ex (f := fun j => chs a (0 + j)) (f' := chs b) w7, hv]
  rw [e1]
  by_cases hv1 : v = 1
  · rw [if_pos hv1, if_pos hv1, if_neg (by omega)]
    rw [hv1] at hv
    rw [stq_rn hv]
  · rw [if_neg hv1, if_neg hv1, if_pos rfl]
theorem c60_l (hR : LRd L sh) (hST : STRS sh c) (hTP : TP g N) {Z : Int} (hm : 0 ≤ m ∧ m ≤ 60) (hq : ∀ e, LQT c e Z → RG e N → e 70 4 = f → (f = 0 → LD e g N p' m z T ∧ LT e O' W') → Q none (hp L sh e) n) : ∀ (k : Nat) (p W i : Int) (O : List Int) (d : Nat → Int → Int) (a2 a3 : AV), LD d g N p m z T → LT d O W → LQT c d Z → Z ≤ z + T.length → okO O → 0 ≤ W → W ≤ 3 → O.length ≤ 10 → 0 ≤ p → p ≤ N → N - p ≤ k → 0 ≤ i → i ≤ O.length → opn g N k p O W = (f, p', O', W') → tc_W 60 2 [rf 70, .inl i, a2, a3] [] (hp L sh d) n Q := by
  obtain ⟨hL, h70, h27, h71, h72, h73⟩ := id hR
  have hL70 : 70 < L := by omega
  have hL73 : 73 < L := by omega
  have hN := hTP.1
  -- nothing more is opened
  have fin : ∀ (p W i : Int) (O : List Int) (d : Nat → Int → Int) (a2 a3 : AV), LD d g N p m z T → LT d O W → LQT c d Z → Z ≤ z + T.length → O.length ≤ 10 → 0 ≤ p → p ≤ N → 0 ≤ i → i ≤ O.length → ¬ byt g N (sk g N p) = 91 → ¬ stq g N (sk g N p) (chs 22) 3 = 1 → f = 0 ∧ p' = sk g N p ∧ O' = O ∧ W' = W → tc_W 60 2 [rf 70, .inl i, a2, a3] [] (hp L sh d) n Q := by
    intro p W i O d a2 a3 hD hLT hLQ hZ hOl hp1 hp2 hi1 hi2 hb hn hend
    obtain ⟨d27, d1, d2, d4, d8, d9, dT⟩ := id hD
    have hs := nm_rng (g := g) (p := p) (N := N) ⟨hp1, hp2⟩
    have h20 := fun Q => c20_l (c := d) (n := n) (Q := Q) (N := N) (p := p) h70 h27 hL (by rw [d27]; exact hTP) d1 d2 (by omega)
    rw [d27] at h20
    have hat := hD.at (sk g N p)
    generalize hc1 : fr d 70 (fu (d 70) 2 (sk g N p)) = c1 at h20 hat
    have hsq := sk_2 g N p
    generalize hq0 : sk g N p = q at hs hb hn hend hsq hat hc1
    have h46 := fun Q => c46_l (c := c1) (n := n) (Q := Q) (N := N) (p := q) (ch := 91) h70 h27 hL (by rw [hat.1.1]; exact hTP) hat.1.2.1 hat.1.2.2.1 (by omega)
    rw [hat.1.1, hsq, if_neg hb, if_neg hb] at h46
    have e5 : fr c1 70 (fu (c1 70) 2 q) = c1 := by rw [← hat.1.2.2.1, fu_id, fr_id]
    rw [e5] at h46
    have hL1 := hLQ.trans (hat.2 Z).t (Int.le_refl _)
    have h0 : stq g N q (chs 22) 3 = 0 := by
      rcases stq_01 g N q (chs 22) 3 with x | x
      · exact x
      · exact absurd x hn
    have h21 := fun Q => cw1 (c := c1) (n := n) (Q := Q) hR (hST.t hL1) hTP w1_not hat.1.1 hat.1.2.1 hat.1.2.2.1 (by omega) hsq h0
    rw [if_neg (by omega), if_neg (by omega), e5] at h21
    obtain ⟨q1, q2, q3, q4⟩ := hend
    have hq' := hq c1 hL1 ⟨by rw [hat.1.2.2.1]; omega, by rw [hat.1.2.2.2.2.2.1]; omega⟩ (by rw [hat.1.2.2.2.1, q1]) (fun _ => by
      rw [q2, q3, q4]
      exact ⟨hat.1, (hat.2 Z).lt hLT⟩)
    simp only [r60_2]
    repeat' (first | (simp (disch := first | omega | exact Nat.le_of_ble_eq_true rfl | exact rfl | assumption | (simp (disch := omega) only [fr_ne, fr_same]; first | assumption | omega)) only [r60_0, r60_1r, r60_3, r60_9, r60_10, r60_16, r60_17, v60_17_2, r60_20, r60_21, r60_24i, r60_25, r60_26, r60_28, v60_28_2, r60_31i, r60_32, r60_36, r60_37, r60_39, v60_39_2, r60_42, r60_46, r60_47, r60_48, r60_51, r60_56, r60_57, r60_58, r60_59, v60_59_2, r60_62, r60_63, r60_64, r60_67, r60_68, r60_71, r60_75, r60_76, r60_79, r60_82, r60_83, r60_84, r60_85, r60_89, r60_90, r60_93, r60_94, r60_97, r60_100, r60_101, r60_101A, r60_102, r60_105, r60_106, r60_107, r60_110r, r60_113, r60_116, g2_46_0, g2_46_2, g2_63_0, g2_63_2, g2_28_2, g2_18_2, g2_31_2, p2_31_2, p2_28_2, o0_len, o0_g4, o2_len, o2_g4, o0_g2, o2_g2, o2_g10, o2_g7, o2_g11, o2_s11, o2_s10, il_s, bl_s, bl_z, ll_s, is_s, bs_s, bs_z, ls_s, al_s, al_b, al_l, fr_ne, fr_same, fr_fr, Nat.reduceEqDiff, tc_gf3_s, tc_ql2_s, tc_ws_0, tc_ws_i, tc_ws_l, tc_ws_r, Nat.reduceLeDiff, Nat.reduceAdd, Nat.reduceLT, true_and, and_true, if_true, if_false, tc_K, Option.toList_some, Option.toList_none, List.nil_append, List.cons_append, ite_true, ite_false, Int.cast_ofNat_Int, reduceIte, i3_add_eq, i3_sub_eq, Int.add_sub_cancel, Int.add_neg_cancel_right, hO hL70 h70, d4, h20, h46, h21]) | (simp only [r60_6, r60_13, r60_33, r60_43, r60_53, r60_72, r60_86, i6_lt0, i6_0lt, i6_0le, i6_le0, i6_eq0, b10_0, ite_not, Int.reduceLT, Int.reduceLE, Int.reduceEq, Int.reduceNeg, if_true, if_false, ite_true, ite_false, reduceIte, eq_self, not_true, not_false_eq_true]; try refine tc_ite (fun _ => ?_) (fun _ => ?_) <;> try (exfalso; omega)))
    all_goals first
      | exact hq'
      | omega
  intro k
  induction k with
  | zero =>
    intro p W i O d a2 a3 hD hLT hLQ hZ hok hW1 hW2 hOl hp1 hp2 hk hi1 hi2 hr
    have hkr := sk_rng (g := g) (n := N) (p := p)
    obtain ⟨e1, e2, e3, e4⟩ := pr4o hr
    refine fin p W i O d a2 a3 hD hLT hLQ hZ hOl hp1 hp2 hi1 hi2 (fun x => ?_) (fun x => ?_) ⟨e1.symm, e2.symm, e3.symm, e4.symm⟩
    · have := byt_lt x (by omega)
      omega
    · have h1 := stq_rn x
      have h2 := rn_rng (g := g) (n := N) (p := sk g N p)
      omega
  | succ k ih =>
    intro p W i O d a2 a3 hD hLT hLQ hZ hok hW1 hW2 hOl hp1 hp2 hk hi1 hi2 hr
    unfold opn at hr
    by_cases hb : byt g N (sk g N p) = 91 ∨ stq g N (sk g N p) (chs 22) 3 = 1
    · obtain ⟨d27, d1, d2, d4, d8, d9, dT⟩ := id hD
      have hs := nm_rng (g := g) (p := p) (N := N) ⟨hp1, hp2⟩
      have hkr := sk_rng (g := g) (n := N) (p := p)
      have h20 := fun Q => c20_l (c := d) (n := n) (Q := Q) (N := N) (p := p) h70 h27 hL (by rw [d27]; exact hTP) d1 d2 (by omega)
      rw [d27] at h20
      have hat := hD.at (sk g N p)
      generalize hc1 : fr d 70 (fu (d 70) 2 (sk g N p)) = c1 at h20 hat
      have hsq := sk_2 g N p
      generalize hq0 : sk g N p = q at hs hb hr hsq hat hc1 hkr
      have h46 := fun Q => c46_l (c := c1) (n := n) (Q := Q) (N := N) (p := q) (ch := 91) h70 h27 hL (by rw [hat.1.1]; exact hTP) hat.1.2.1 hat.1.2.2.1 (by omega)
      rw [hat.1.1, hsq] at h46
      have hL1 := hLQ.trans (hat.2 Z).t (Int.le_refl _)
      have hT1 := (hat.2 Z).lt hLT
      have e22 : c1 70 2 = q := hat.1.2.2.1
      have e24 : c1 70 4 = 0 := hat.1.2.2.2.1
      -- behind the sign: brx tells a bracket
      have rest : ∀ (brx q2 : Int) (c2 : Nat → Int → Int), LD c2 g N q2 m z T → LT c2 O W → LQT c c2 Z → q < q2 → q2 ≤ N → (brx = 0 ∨ brx = 1) → (if 10 ≤ O.length then (1 + 8 * q + 2, 0, [], 0) else opn g N k q2 ((if brx = 1 then W else -1) :: O) (if brx = 1 then 0 else W)) = (f, p', O', W') → tc_W 60 47 [rf 70, .inl i, .inl q, .inl brx] [] (hp L sh c2) n Q := by
        intro brx q2 c2 hD2 hLT2 hLQ2 hq1 hq2 hbx hr2
        obtain ⟨t1, t2, t3⟩ := id hLT2
        have e4 : c2 70 4 = 0 := hD2.2.2.2.1
        by_cases h10 : 10 ≤ O.length
        · rw [if_pos h10] at hr2
          obtain ⟨e1, _⟩ := pr4o hr2
          have hf : ¬ f = 0 := by omega
          have h34 := fun Q => c34_l (c := c2) (n := n) (Q := Q) (a := q) (k := 2) h70 h27 hL (by omega) (by omega)
          rw [if_pos e4, e1] at h34
          have hq' := hq (fr c2 70 (fu (c2 70) 4 f)) (hLQ2.trans ⟨fun a a1 _ _ => fr_ne a1, fun i _ => by rw [fr_ne (by omega)], by rw [fr_same, fu_ne (by omega)]⟩ (Int.le_refl _)) ⟨by rw [fr_same, fu_ne (by omega), hD2.2.2.1]; omega, by rw [fr_same, fu_ne (by omega), hD2.2.2.2.2.2.1]; omega⟩ (by rw [fr_same, fu_same]) (fun x => absurd x hf)
          have t1' : c2 70 10 = 10 := by rw [t1]; omega
          repeat' (first | (simp (disch := first | omega | exact Nat.le_of_ble_eq_true rfl | exact rfl | assumption | (simp (disch := omega) only [fr_ne, fr_same]; first | assumption | omega)) only [r60_0, r60_1r, r60_3, r60_9, r60_10, r60_16, r60_17, v60_17_2, r60_20, r60_21, r60_24i, r60_25, r60_26, r60_28, v60_28_2, r60_31i, r60_32, r60_36, r60_37, r60_39, v60_39_2, r60_42, r60_46, r60_47, r60_48, r60_51, r60_56, r60_57, r60_58, r60_59, v60_59_2, r60_62, r60_63, r60_64, r60_67, r60_68, r60_71, r60_75, r60_76, r60_79, r60_82, r60_83, r60_84, r60_85, r60_89, r60_90, r60_93, r60_94, r60_97, r60_100, r60_101, r60_101A, r60_102, r60_105, r60_106, r60_107, r60_110r, r60_113, r60_116, g2_46_0, g2_46_2, g2_63_0, g2_63_2, g2_28_2, g2_18_2, g2_31_2, p2_31_2, p2_28_2, o0_len, o0_g4, o2_len, o2_g4, o0_g2, o2_g2, o2_g10, o2_g7, o2_g11, o2_s11, o2_s10, il_s, bl_s, bl_z, ll_s, is_s, bs_s, bs_z, ls_s, al_s, al_b, al_l, fr_ne, fr_same, fr_fr, Nat.reduceEqDiff, tc_gf3_s, tc_ql2_s, tc_ws_0, tc_ws_i, tc_ws_l, tc_ws_r, Nat.reduceLeDiff, Nat.reduceAdd, Nat.reduceLT, true_and, and_true, if_true, if_false, tc_K, Option.toList_some, Option.toList_none, List.nil_append, List.cons_append, ite_true, ite_false, Int.cast_ofNat_Int, reduceIte, i3_add_eq, i3_sub_eq, Int.add_sub_cancel, Int.add_neg_cancel_right, hO hL70 h70, t1', h34]) | (simp only [r60_6, r60_13, r60_33, r60_43, r60_53, r60_72, r60_86, i6_lt0, i6_0lt, i6_0le, i6_le0, i6_eq0, b10_0, ite_not, Int.reduceLT, Int.reduceLE, Int.reduceEq, Int.reduceNeg, if_true, if_false, ite_true, ite_false, reduceIte, eq_self, not_true, not_false_eq_true]; try refine tc_ite (fun _ => ?_) (fun _ => ?_) <;> try (exfalso; omega)))
          all_goals first
            | exact hq'
            | omega
        · rw [if_neg h10] at hr2
          have hlen : (((O.length : Nat) : Int)) < 10 := by omega
          generalize hM : ((O.length : Nat) : Int) = M at t1 hlen
          have hM0 : 0 ≤ M := by omega
          rcases hbx with rfl | rfl
          · rw [if_neg (by omega), if_neg (by omega)] at hr2
            repeat' (first | (simp (disch := first | omega | exact Nat.le_of_ble_eq_true rfl | exact rfl | assumption | (simp (disch := omega) only [fr_ne, fr_same]; first | assumption | omega)) only [r60_0, r60_1r, r60_3, r60_9, r60_10, r60_16, r60_17, v60_17_2, r60_20, r60_21, r60_24i, r60_25, r60_26, r60_28, v60_28_2, r60_31i, r60_32, r60_36, r60_37, r60_39, v60_39_2, r60_42, r60_46, r60_47, r60_48, r60_51, r60_56, r60_57, r60_58, r60_59, v60_59_2, r60_62, r60_63, r60_64, r60_67, r60_68, r60_71, r60_75, r60_76, r60_79, r60_82, r60_83, r60_84, r60_85, r60_89, r60_90, r60_93, r60_94, r60_97, r60_100, r60_101, r60_101A, r60_102, r60_105, r60_106, r60_107, r60_110r, r60_113, r60_116, g2_46_0, g2_46_2, g2_63_0, g2_63_2, g2_28_2, g2_18_2, g2_31_2, p2_31_2, p2_28_2, o0_len, o0_g4, o2_len, o2_g4, o0_g2, o2_g2, o2_g10, o2_g7, o2_g11, o2_s11, o2_s10, il_s, bl_s, bl_z, ll_s, is_s, bs_s, bs_z, ls_s, al_s, al_b, al_l, fr_ne, fr_same, fr_fr, Nat.reduceEqDiff, tc_gf3_s, tc_ql2_s, tc_ws_0, tc_ws_i, tc_ws_l, tc_ws_r, Nat.reduceLeDiff, Nat.reduceAdd, Nat.reduceLT, true_and, and_true, if_true, if_false, tc_K, Option.toList_some, Option.toList_none, List.nil_append, List.cons_append, ite_true, ite_false, Int.cast_ofNat_Int, reduceIte, i3_add_eq, i3_sub_eq, Int.add_sub_cancel, Int.add_neg_cancel_right, hO hL70 h70, hOs h70, hI hL73 h73, hIs h73, t1, t2, fu_ne, fu_same]) | (simp only [r60_6, r60_13, r60_33, r60_43, r60_53, r60_72, r60_86, i6_lt0, i6_0lt, i6_0le, i6_le0, i6_eq0, b10_0, ite_not, Int.reduceLT, Int.reduceLE, Int.reduceEq, Int.reduceNeg, if_true, if_false, ite_true, ite_false, reduceIte, eq_self, not_true, not_false_eq_true]; try refine tc_ite (fun _ => ?_) (fun _ => ?_) <;> try (exfalso; omega)))
            all_goals try omega
            refine ih q2 W (i + 1) (-1 :: O) _ _ _ ⟨?_, ?_, ?_, ?_, ?_, ?_, ?_⟩ ⟨?_, ?_, ?_⟩ ⟨fun a x1 x2 x3 => ?_, fun j x1 => ?_, ?_⟩ hZ ⟨Or.inl rfl, hok⟩ hW1 hW2 (by show O.length + 1 ≤ 10; omega) (by omega) hq2 (by omega) (by omega) (by show i + 1 ≤ ((O.length + 1 : Nat) : Int); omega) hr2
            · simp (disch := omega) only [fr_ne]
              exact hD2.1
            · simp (disch := omega) only [fr_ne, fr_same, fu_ne]
              exact hD2.2.1
            · simp (disch := omega) only [fr_ne, fr_same, fu_ne]
              exact hD2.2.2.1
            · simp (disch := omega) only [fr_ne, fr_same, fu_ne]
              exact e4
            · simp (disch := omega) only [fr_ne, fr_same, fu_ne]
              exact hD2.2.2.2.2.1
            · simp (disch := omega) only [fr_ne, fr_same, fu_ne]
              exact hD2.2.2.2.2.2.1
            · simp (disch := omega) only [fr_ne]
              exact hD2.2.2.2.2.2.2
            · simp (disch := omega) only [fr_ne, fr_same, fu_ne, fu_same]
              show M + 1 = ((O.length + 1 : Nat) : Int)
              omega
            · simp (disch := omega) only [fr_ne, fr_same, fu_ne, fu_same]
            · simp (disch := omega) only [fr_ne, fr_same]
              refine ⟨by rw [hM, fu_same], SK_ex O (fun j j1 j2 => fu_ne (by omega)) t3⟩
            · simp (disch := omega) only [fr_ne]
              exact hLQ2.1 a x1 x2 x3
            · simp (disch := omega) only [fr_ne]
              exact hLQ2.2.1 j x1
            · simp (disch := omega) only [fr_ne, fr_same, fu_ne]
              exact hLQ2.2.2
          · rw [if_pos rfl, if_pos rfl] at hr2
            repeat' (first | (simp (disch := first | omega | exact Nat.le_of_ble_eq_true rfl | exact rfl | assumption | (simp (disch := omega) only [fr_ne, fr_same]; first | assumption | omega)) only [r60_0, r60_1r, r60_3, r60_9, r60_10, r60_16, r60_17, v60_17_2, r60_20, r60_21, r60_24i, r60_25, r60_26, r60_28, v60_28_2, r60_31i, r60_32, r60_36, r60_37, r60_39, v60_39_2, r60_42, r60_46, r60_47, r60_48, r60_51, r60_56, r60_57, r60_58, r60_59, v60_59_2, r60_62, r60_63, r60_64, r60_67, r60_68, r60_71, r60_75, r60_76, r60_79, r60_82, r60_83, r60_84, r60_85, r60_89, r60_90, r60_93, r60_94, r60_97, r60_100, r60_101, r60_101A, r60_102, r60_105, r60_106, r60_107, r60_110r, r60_113, r60_116, g2_46_0, g2_46_2, g2_63_0, g2_63_2, g2_28_2, g2_18_2, g2_31_2, p2_31_2, p2_28_2, o0_len, o0_g4, o2_len, o2_g4, o0_g2, o2_g2, o2_g10, o2_g7, o2_g11, o2_s11, o2_s10, il_s, bl_s, bl_z, ll_s, is_s, bs_s, bs_z, ls_s, al_s, al_b, al_l, fr_ne, fr_same, fr_fr, Nat.reduceEqDiff, tc_gf3_s, tc_ql2_s, tc_ws_0, tc_ws_i, tc_ws_l, tc_ws_r, Nat.reduceLeDiff, Nat.reduceAdd, Nat.reduceLT, true_and, and_true, if_true, if_false, tc_K, Option.toList_some, Option.toList_none, List.nil_append, List.cons_append, ite_true, ite_false, Int.cast_ofNat_Int, reduceIte, i3_add_eq, i3_sub_eq, Int.add_sub_cancel, Int.add_neg_cancel_right, hO hL70 h70, hOs h70, hI hL73 h73, hIs h73, t1, t2, fu_ne, fu_same]) | (simp only [r60_6, r60_13, r60_33, r60_43, r60_53, r60_72, r60_86, i6_lt0, i6_0lt, i6_0le, i6_le0, i6_eq0, b10_0, ite_not, Int.reduceLT, Int.reduceLE, Int.reduceEq, Int.reduceNeg, if_true, if_false, ite_true, ite_false, reduceIte, eq_self, not_true, not_false_eq_true]; try refine tc_ite (fun _ => ?_) (fun _ => ?_) <;> try (exfalso; omega)))
            all_goals try omega
            refine ih q2 0 (i + 1) (W :: O) _ _ _ ⟨?_, ?_, ?_, ?_, ?_, ?_, ?_⟩ ⟨?_, ?_, ?_⟩ ⟨fun a x1 x2 x3 => ?_, fun j x1 => ?_, ?_⟩ hZ ⟨Or.inr ⟨hW1, hW2⟩, hok⟩ (by omega) (by omega) (by show O.length + 1 ≤ 10; omega) (by omega) hq2 (by omega) (by omega) (by show i + 1 ≤ ((O.length + 1 : Nat) : Int); omega) hr2
            · simp (disch := omega) only [fr_ne]
              exact hD2.1
            · simp (disch := omega) only [fr_ne, fr_same, fu_ne]
              exact hD2.2.1
            · simp (disch := omega) only [fr_ne, fr_same, fu_ne]
              exact hD2.2.2.1
            · simp (disch := omega) only [fr_ne, fr_same, fu_ne]
              exact e4
            · simp (disch := omega) only [fr_ne, fr_same, fu_ne]
              exact hD2.2.2.2.2.1
            · simp (disch := omega) only [fr_ne, fr_same, fu_ne]
              exact hD2.2.2.2.2.2.1
            · simp (disch := omega) only [fr_ne]
              exact hD2.2.2.2.2.2.2
            · simp (disch := omega) only [fr_ne, fr_same, fu_ne, fu_same]
              show M + 1 = ((O.length + 1 : Nat) : Int)
              omega
            · simp (disch := omega) only [fr_ne, fr_same, fu_ne, fu_same]
            · simp (disch := omega) only [fr_ne, fr_same]
              refine ⟨by rw [hM, fu_same], SK_ex O (fun j j1 j2 => fu_ne (by omega)) t3⟩
            · simp (disch := omega) only [fr_ne]
              exact hLQ2.1 a x1 x2 x3
            · simp (disch := omega) only [fr_ne]
              exact hLQ2.2.1 j x1
            · simp (disch := omega) only [fr_ne, fr_same, fu_ne]
              exact hLQ2.2.2
      simp only [r60_2]
      by_cases hb1 : byt g N q = 91
      · rw [if_pos hb1] at hr
        rw [if_pos hb1, if_pos hb1] at h46
        have hlt := byt_lt hb1 (by omega)
        have hat2 := hat.1.at (q + 1)
        have hr3 := rest 1 (q + 1) _ hat2.1 ((hat2.2 Z).lt hT1) (hL1.trans (hat2.2 Z).t (Int.le_refl _)) (by omega) (by omega) (Or.inr rfl) hr
        repeat' (first | (simp (disch := first | omega | exact Nat.le_of_ble_eq_true rfl | exact rfl | assumption | (simp (disch := omega) only [fr_ne, fr_same]; first | assumption | omega)) only [r60_0, r60_1r, r60_3, r60_9, r60_10, r60_16, r60_17, v60_17_2, r60_20, r60_21, r60_24i, r60_25, r60_26, r60_28, v60_28_2, r60_31i, r60_32, r60_36, r60_37, r60_39, v60_39_2, r60_42, r60_46, r60_48, r60_51, r60_56, r60_57, r60_58, r60_59, v60_59_2, r60_62, r60_63, r60_64, r60_67, r60_68, r60_71, r60_75, r60_76, r60_79, r60_82, r60_83, r60_84, r60_85, r60_89, r60_90, r60_93, r60_94, r60_97, r60_100, r60_101, r60_101A, r60_102, r60_105, r60_106, r60_107, r60_110r, r60_113, r60_116, g2_46_0, g2_46_2, g2_63_0, g2_63_2, g2_28_2, g2_18_2, g2_31_2, p2_31_2, p2_28_2, o0_len, o0_g4, o2_len, o2_g4, o0_g2, o2_g2, o2_g10, o2_g7, o2_g11, o2_s11, o2_s10, il_s, bl_s, bl_z, ll_s, is_s, bs_s, bs_z, ls_s, al_s, al_b, al_l, fr_ne, fr_same, fr_fr, Nat.reduceEqDiff, tc_gf3_s, tc_ql2_s, tc_ws_0, tc_ws_i, tc_ws_l, tc_ws_r, Nat.reduceLeDiff, Nat.reduceAdd, Nat.reduceLT, true_and, and_true, if_true, if_false, tc_K, Option.toList_some, Option.toList_none, List.nil_append, List.cons_append, ite_true, ite_false, Int.cast_ofNat_Int, reduceIte, i3_add_eq, i3_sub_eq, Int.add_sub_cancel, Int.add_neg_cancel_right, hO hL70 h70, d4, h20, e22, h46]) | (simp only [r60_6, r60_13, r60_33, r60_43, r60_53, r60_72, r60_86, i6_lt0, i6_0lt, i6_0le, i6_le0, i6_eq0, b10_0, ite_not, Int.reduceLT, Int.reduceLE, Int.reduceEq, Int.reduceNeg, if_true, if_false, ite_true, ite_false, reduceIte, eq_self, not_true, not_false_eq_true]; try refine tc_ite (fun _ => ?_) (fun _ => ?_) <;> try (exfalso; omega)))
        all_goals first
          | exact hr3
          | omega
      · have hn : stq g N q (chs 22) 3 = 1 := by
          rcases hb with x | x
          · exact absurd x hb1
          · exact x
        rw [if_neg hb1, if_pos hn] at hr
        rw [if_neg hb1, if_neg hb1] at h46
        have e5 : fr c1 70 (fu (c1 70) 2 q) = c1 := by rw [← hat.1.2.2.1, fu_id, fr_id]
        rw [e5] at h46
        have h21 := fun Q => cw1 (c := c1) (n := n) (Q := Q) hR (hST.t hL1) hTP w1_not hat.1.1 hat.1.2.1 hat.1.2.2.1 (by omega) hsq hn
        rw [if_pos rfl, if_pos rfl] at h21
        have hrn := stq_rn hn
        have hr2 := rn_rng (g := g) (n := N) (p := q)
        have hat2 := hat.1.at (q + ((3 : Nat) : Int))
        have hr3 := rest 0 (q + ((3 : Nat) : Int)) _ hat2.1 ((hat2.2 Z).lt hT1) (hL1.trans (hat2.2 Z).t (Int.le_refl _)) (by omega) (by omega) (Or.inl rfl) hr
        repeat' (first | (simp (disch := first | omega | exact Nat.le_of_ble_eq_true rfl | exact rfl | assumption | (simp (disch := omega) only [fr_ne, fr_same]; first | assumption | omega)) only [r60_0, r60_1r, r60_3, r60_9, r60_10, r60_16, r60_17, v60_17_2, r60_20, r60_21, r60_24i, r60_25, r60_26, r60_28, v60_28_2, r60_31i, r60_32, r60_36, r60_37, r60_39, v60_39_2, r60_42, r60_46, r60_48, r60_51, r60_56, r60_57, r60_58, r60_59, v60_59_2, r60_62, r60_63, r60_64, r60_67, r60_68, r60_71, r60_75, r60_76, r60_79, r60_82, r60_83, r60_84, r60_85, r60_89, r60_90, r60_93, r60_94, r60_97, r60_100, r60_101, r60_101A, r60_102, r60_105, r60_106, r60_107, r60_110r, r60_113, r60_116, g2_46_0, g2_46_2, g2_63_0, g2_63_2, g2_28_2, g2_18_2, g2_31_2, p2_31_2, p2_28_2, o0_len, o0_g4, o2_len, o2_g4, o0_g2, o2_g2, o2_g10, o2_g7, o2_g11, o2_s11, o2_s10, il_s, bl_s, bl_z, ll_s, is_s, bs_s, bs_z, ls_s, al_s, al_b, al_l, fr_ne, fr_same, fr_fr, Nat.reduceEqDiff, tc_gf3_s, tc_ql2_s, tc_ws_0, tc_ws_i, tc_ws_l, tc_ws_r, Nat.reduceLeDiff, Nat.reduceAdd, Nat.reduceLT, true_and, and_true, if_true, if_false, tc_K, Option.toList_some, Option.toList_none, List.nil_append, List.cons_append, ite_true, ite_false, Int.cast_ofNat_Int, reduceIte, i3_add_eq, i3_sub_eq, Int.add_sub_cancel, Int.add_neg_cancel_right, hO hL70 h70, d4, h20, e22, h46, h21]) | (simp only [r60_6, r60_13, r60_33, r60_43, r60_53, r60_72, r60_86, i6_lt0, i6_0lt, i6_0le, i6_le0, i6_eq0, b10_0, ite_not, Int.reduceLT, Int.reduceLE, Int.reduceEq, Int.reduceNeg, if_true, if_false, ite_true, ite_false, reduceIte, eq_self, not_true, not_false_eq_true]; try refine tc_ite (fun _ => ?_) (fun _ => ?_) <;> try (exfalso; omega)))
        all_goals first
          | exact hr3
          | omega
    · have hb1 : ¬ byt g N (sk g N p) = 91 := fun x => hb (Or.inl x)
      have hn1 : ¬ stq g N (sk g N p) (chs 22) 3 = 1 := fun x => hb (Or.inr x)
      rw [if_neg hb1, if_neg hn1] at hr
      obtain ⟨e1, e2, e3, e4⟩ := pr4o hr
      exact fin p W i O d a2 a3 hD hLT hLQ hZ hOl hp1 hp2 hi1 hi2 hb1 hn1 ⟨e1.symm, e2.symm, e3.symm, e4.symm⟩
end TESTC

/-! one call: beach and rule -/
section STEPS4
variable {X i i' L L' n n' : Nat} {xs : Int → Int} {sh sh' : Nat → SH} {c c' d : Nat → Int → Int} {m W P : Int} {LD D ID D' : Nat → Option Nat} {s s' : Nat} {SS : Nat → Nat} {ED : Nat → Nat → Option Nat} {DD : Nat → Nat → Int → Int} {hd nw pa lg : Nat}
/-- the scene gives way to another, the rules grow -/
theorem INVP.sce0 (h : INVP X xs i L sh c n m LD s D ID SS ED DD) (hi : i ≤ i') (hL : L ≤ L') (hL2 : L' ≤ 115 + 100 * i') (hn2 : n' ≤ 20000 + 5000 * i')
    (hs : ∀ a, a < L → ¬ a = 28 → ¬ a = 29 → ¬ a = 43 → ¬ a = 49 → ¬ a = 60 → ¬ a = 69 → ¬ a = 70 → sh' a = sh a) (h49 : ∃ s1 l1, sh' 49 = (6, 7, [s1, l1, some 50, some 51, some 52, some 53, some 54, some 55])) (h60 : ∃ t1 t2, sh' 60 = (6, 9, [t1, t2, some 61, some 65])) (h69 : ∃ t0 so, sh' 69 = (6, 0, [t0, so])) (h70 : ∃ t0, sh' 70 = (6, 2, [t0, some 71, some 72, some 73]))
    (hc : ∀ a, a < L → (a < 26 ∨ (29 < a ∧ a < 38) ∨ 114 < a) → (∀ j y, j < 20 → D j = some y → a < y ∨ y + 3 < a) → c' a = c a)
    (hT : TAP c') (h113 : ∀ j, j < 6000 → c' 113 j = c 113 j) (h114 : c' 114 = c 114)
    {m' : Int} {LD' : Nat → Option Nat} (hR : RUL L' sh' c' LD' m') (hm : m ≤ m')
    (hS : SCN L' sh' c' i' m' 29 38 42 44 s' D' (c' 75 45) c') (hD : ∀ j y, j < 20 → D' j = some y → (∃ j', j' < 20 ∧ D j' = some y) ∨ L ≤ y) : INVP X xs i' L' sh' c' n' m' LD' s' D' ID SS ED DD := by
  obtain ⟨hb, ⟨h25, hx⟩, hg, hst, htp, ⟨r1, r2, r3, r4, r5, r6⟩, hsc, h48, him, hsep⟩ := h
  have hL0 : 115 ≤ L := hg.1.1
  have hP : PasS L sh 42 D := hsc.1.2.2.2.1
  have hrow : ∀ j y, j < 20 → D j = some y → 115 ≤ y ∧ SanS L sh y := fun j y hj hy => hP.2.2.2.2 j y hj hy
  have lo : ∀ a, a < 115 → ∀ j y, j < 20 → D j = some y → a < y ∨ y + 3 < a := fun a ha j y hj hy => by have := (hrow j y hj hy).1; omega
  have off : ∀ {r w : Nat}, BK sh r w → (∀ j y, j < 20 → D j = some y → ¬ r = y) → ∀ a, r ≤ a → a < r + w → ∀ j y, j < 20 → D j = some y → a < y ∨ y + 3 < a := fun {r w} hb hn a a1 a2 j y hj hy => by
    have := hb.sep (hrow j y hj hy).2.bk (hn j y hj hy)
    omega
  have off6 : ∀ {r w ci : Nat} {q : List (Option Nat)}, BK sh r w → sh r = (6, ci, q) → ¬ ci = 5 → ∀ a, r ≤ a → a < r + w → ∀ j y, j < 20 → D j = some y → a < y ∨ y + 3 < a := fun {r w ci q} hb hq hci => off hb fun j y hj hy => hd_ne hq (hrow j y hj hy).2.2.1 hci
  refine ⟨⟨hL2, hn2⟩, ⟨?_, ?_⟩, ?_, ?_, hT, hR, hS, ?_, fun k hk => ?_, ?_⟩
  · rw [hs 25 (by omega) (by omega) (by omega) (by omega) (by omega) (by omega) (by omega) (by omega)]; exact h25
  · rw [hc 25 (by omega) (by omega) (lo 25 (by omega))]; exact hx
  · exact hg.up hL (fun a a1 _ a0 a2 a3 _ a4 a5 a6 a7 => hs a (by omega) a0 a2 a3 a4 a5 a6 a7) h49 h60 h69 h70
  · intro a ha
    obtain ⟨u1, u2⟩ := hst a ha
    rw [hs a (by omega) (by omega) (by omega) (by omega) (by omega) (by omega) (by omega) (by omega), hc a (by omega) (by omega) (lo a (by omega))]
    exact ⟨u1, u2⟩
  · rw [hs 48 (by omega) (by omega) (by omega) (by omega) (by omega) (by omega) (by omega) (by omega)]; exact h48
  · obtain ⟨u1, u2⟩ := him k hk
    refine ⟨fun q => ⟨by rw [h114]; exact (u1 q).1, (u1 q).2⟩, fun r hr => ?_⟩
    obtain ⟨v1, v2, ⟨v3, v4, v5, v6⟩, v7⟩ := u2 r hr
    obtain ⟨w1, w2, w3, w4, w5, w6⟩ := id v3
    refine ⟨by rw [h114]; exact v1, v2, ⟨v3.imgup v2 v4 hL fun a a1 a2 => hs a a1 (by omega) (by omega) (by omega) (by omega) (by omega) (by omega) (by omega), v4, v5, ?_⟩, fun j j1 j2 => by rw [h113 _ (by omega)]; exact v7 j j1 j2⟩
    refine (v6.mono (by omega) hm).fr ?_ (fun a a1 a2 => ?_) ?_ (fun a a1 a2 => ?_) (fun a a1 a2 => ?_) (fun j y hj hy a a1 a2 => ?_)
    · exact hc r w1 (by omega) (off6 (BK.one w2) w2 (by decide) r (by omega) (by omega))
    · exact hc a (by have := w3.1; omega) (by omega) (off w3.bk (fun j y hj hy e => (hsep.2.2.1 k r j y hk hj hr).1 hy e.symm) a a1 (by omega))
    · exact hc _ (by have := w4.2.1; omega) (by omega) (off6 w4.bk w4.2.2.1 (by decide) _ (by omega) (by omega))
    · exact hc a (by have := w5.1; omega) (by omega) (off6 w5.bk w5.2.1 (by decide) a a1 (by omega))
    · exact hc a (by have := w6.1; omega) (by omega) (off6 w6.bk w6.2.1 (by decide) a a1 (by omega))
    · have q := w4.2.2.2.2 j y hj hy
      exact hc a (by have := q.2.1; omega) (by omega) (off q.2.bk (fun j' y' hj' hy' e => hsep.1 k j' j y' hk hj' hj hy' (by rw [← e]; exact hy)) a a1 (by omega))
  · obtain ⟨p1, p2, p3, p4⟩ := hsep
    refine ⟨fun k a b y hk ha hb hy he => ?_, p2, fun k r a y hk ha hr => ⟨fun hy => ?_, (p3 k r a y hk ha hr).2⟩, p4⟩
    · rcases hD a y ha hy with ⟨j', q1, q2⟩ | q
      · exact p1 k j' b y hk q1 hb q2 he
      · cases hid : ID k with
        | none =>
          have := ((him k hk).1 hid).2 b
          rw [this] at he
          cases he
        | some r =>
          have := (((him k hk).2 r hid).2.2.1.1.2.2.2.1.2.2.2.2 b y hb he).2.1
          omega
    · rcases hD a y ha hy with ⟨j', q1, q2⟩ | q
      · exact (p3 k r j' y hk q1 hr).1 q2
      · have := ((him k hk).2 r hr).2.2.1.1.2.2.1.1
        omega
theorem mlr_rows {e : Nat → Int → Int} {r : Int} (h : MLR c e m) (h0 : 0 ≤ r) (h1 : r < m) (hl : LW c r) : LW e r ∧ mlaw e r = mlaw c r := by
  obtain ⟨_, q1, q2, q3, _⟩ := h
  have e8 := q3 r h1
  obtain ⟨l1, l2, l3⟩ := hl
  have e9 : ∀ x, 12 * r ≤ x → x < 12 * r + c 98 r → e 99 x = c 99 x ∧ e 100 x = c 100 x ∧ e 101 x = c 101 x := fun x x1 x2 => q2 x (by omega)
  have es1 : ∀ x, 12 * r ≤ x → x < 12 * r + c 98 r → sg (e 96) (e 97) (300 * r + c 99 x) (c 100 x - c 99 x).toNat = sg (c 96) (c 97) (300 * r + c 99 x) (c 100 x - c 99 x).toNat := fun x x1 x2 => by
    have := l3 x x1 x2
    exact sg_ex _ _ fun j j1 j2 => q1 j (by omega)
  have es2 : ∀ x, 12 * r ≤ x → x < 12 * r + c 98 r → sg (e 96) (e 97) (300 * r + c 100 x) (c 101 x - c 100 x).toNat = sg (c 96) (c 97) (300 * r + c 100 x) (c 101 x - c 100 x).toNat := fun x x1 x2 => by
    have := l3 x x1 x2
    exact sg_ex _ _ fun j j1 j2 => q1 j (by omega)
  refine ⟨?_, ?_⟩
  · unfold LW
    rw [e8]
    refine ⟨l1, l2, fun x x1 x2 => ?_⟩
    obtain ⟨p1, p2, p3⟩ := e9 x x1 x2
    rw [p1, p2, p3, es1 x x1 x2, es2 x x1 x2]
    exact l3 x x1 x2
  · have hm : ∀ (j : Nat) (x : Int), 12 * r ≤ x → x + j ≤ 12 * r + c 98 r → mla e r x j = mla c r x j := by
      intro j
      induction j with
      | zero => intro x _ _; rfl
      | succ j ih =>
        intro x x1 x2
        obtain ⟨p1, p2, p3⟩ := e9 x x1 (by omega)
        show (sg (e 96) (e 97) (300 * r + e 99 x) (e 100 x - e 99 x).toNat, sg (e 96) (e 97) (300 * r + e 100 x) (e 101 x - e 100 x).toNat) :: mla e r (x + 1) j = (sg (c 96) (c 97) (300 * r + c 99 x) (c 100 x - c 99 x).toNat, sg (c 96) (c 97) (300 * r + c 100 x) (c 101 x - c 100 x).toNat) :: mla c r (x + 1) j
        rw [p1, p2, p3, es1 x x1 (by omega), es2 x x1 (by omega), ih (x + 1) (by omega) (by omega)]
    unfold mlaw
    rw [e8]
    exact hm _ _ (by omega) (by omega)
theorem y188 {Q : Option AV → List SC → Nat → Prop} (hS : MS L sh) (h : c 75 25 = 6) : tc_C 188 [rf 75] (hp L sh c) n Q = Q (some (.inl (-1))) (hp L sh c) n := tc_det fun Q hq => by
  show tc_W 188 0 [rf 75, tc_nil, tc_nil] [] _ _ Q
  repeat' (first | (simp (disch := first | omega | exact Nat.le_of_ble_eq_true rfl | exact rfl | assumption | (simp only [fr_at, Nat.reduceEqDiff, if_false, if_true, reduceIte]; first | assumption | omega)) only [r188_0, r188_1, r188_4, r188_9, r188_10, r188_11, r188_12, r188_13, r188_16, r188_19, r188_20, v188_20_11, r188_23, r188_24r, r188_25, r188_26i, r188_31, r188_32, r188_33, v188_33_11, r188_36r, r188_39, r188_40, v188_40_11, r188_43i, r188_44, r188_47, r188_48, r188_49, r188_52, r188_53, r188_56, r188_57, r188_60, r188_61, r188_62, r188_63, r188_63A, r188_64, r188_67, r188_68, r188_74, r188_75, r188_78, r188_79, r188_80, r188_83, r188_84, r188_90, r188_92, r188_93, r188_96, r188_97, r188_100, r188_101, r188_104, r188_105, r188_106, g11_331_11, p11_200_11, p11_149_11, g11_81_11, g11_200_11, g11_171_11, p11_331_11, mo_len, ms75 hS, mt75 hS, mo_g25, mo_s24, mo_s21, mo_g34, ms98 hS, mt98 hS, mo_g24, mo_g23, mo_s25, il_s, bl_s, bl_z, ll_s, is_s, bs_s, bs_z, ls_s, al_s, al_b, al_l, fr_at, fr_fr, Nat.reduceEqDiff, tc_gf3_s, tc_ql2_s, tc_ws_0, tc_ws_i, tc_ws_l, tc_ws_r, Nat.reduceLeDiff, Nat.reduceAdd, Nat.reduceLT, true_and, and_true, if_true, if_false, tc_K, Option.toList_some, Option.toList_none, List.nil_append, List.cons_append, ite_true, ite_false, Int.cast_ofNat_Int, reduceIte, i3_add_eq, i3_sub_eq, Int.add_sub_cancel, Int.add_neg_cancel_right, h]) | (simp only [r188_6, r188_28, r188_71, r188_87, i6_lt0, i6_0lt, i6_0le, i6_le0, i6_eq0, b10_0, ite_not, Int.reduceLT, Int.reduceLE, Int.reduceEq, Int.reduceNeg, if_true, if_false, ite_true, ite_false, reduceIte, eq_self, not_true, not_false_eq_true]; try refine tc_ite (fun _ => ?_) (fun _ => ?_) <;> try (exfalso; omega)))
  all_goals first
    | exact hq
    | omega
theorem step_2 : STEP X xs i 15 167 [] := by
  intro L sh c n G ⟨m, LD, s, D, ID, SS, ED, DD, hI⟩ hG
  obtain ⟨⟨b1, b2⟩, ⟨h25, hxs⟩, ⟨hMS, g26, g27, ⟨s1, l1, g49⟩, g56, ⟨g60, _⟩, ⟨t0, so, g69⟩, g70, _⟩, hst, ⟨hTP, tp2, tp3⟩, _⟩ := id hI
  have hL := hI.L115
  have hsc := hI.scs
  have hrow : ∀ j y, j < 20 → D j = some y → 115 ≤ y ∧ SanS L sh y := fun j y hj hy => hsc.2.2.2.1.2.2.2.2 j y hj hy
  obtain ⟨q1, q2, q3, q4⟩ := hI.2.2.2.2.2.2.1
  rcases hb : bpr (c 27) (c 26 1) 41 0 0 0 bsg with ⟨f, B'⟩
  refine c15 hL hI.mo hsc.2.2.1 hsc.2.2.2.1.2.2.1 hsc.2.2.2.2.1 g69 g27 hst hTP rfl hb ?_ ?_
  · intro hf sh1 e k1 k2 k3 k4
    have es : ∀ a, a < L → ¬ a = 69 → ¬ a = 26 → e a = c a := k3
    have st1 : STRS sh1 e := fun a ha => by
      obtain ⟨u1, u2⟩ := hst a ha
      rw [k1 a (by omega) (by omega), k3 a (by omega) (by omega) (by omega)]
      exact ⟨u1, u2⟩
    have ms1 : MS (L + 8) sh1 := ⟨by omega, fun a a1 a2 => by rw [k1 a (by omega) (by omega)]; exact hMS.2 a a1 a2⟩
    refine hG _ (L + 8) sh1 e (n + 170) ms1 (by rw [k1 25 (by omega) (by omega)]; exact h25) (by rw [k3 25 (by omega) (by omega) (by omega)]; exact hxs) fun G2 h2 => ?_
    refine m167 (c := e) ms1 st1 hTP (by rw [k3 95 (by omega) (by omega) (by omega)]; exact tp2) (by rw [k3 75 (by omega) (by omega) (by omega)]; exact tp3) hb ?_ (fun hf0 => absurd hf0 hf)
    intro _ e2 hMG j21
    obtain ⟨j1, j2⟩ := hMG
    refine h2 (L + 8) sh1 e2 (n + 170) ⟨m, LD, s, D, ID, SS, ED, DD, hI.keep (Nat.le_succ i) (by omega) (by omega) (by omega) (fun a a1 _ _ a4 _ => k1 a a1 a4) ⟨s1, l1, by rw [k1 49 (by omega) (by omega)]; exact g49.2.1⟩ (by rw [k1 60 (by omega) (by omega)]; exact g60) ⟨_, _, k2⟩ (by rw [k1 70 (by omega) (by omega)]; exact g70) (fun a a1 a2 => (j1 a (by omega) (by omega)).trans (es a a1 (by omega) (by omega))) ?_ ?_ ?_ (fun j _ => ?_) (fun r _ _ => mlaw_rows (fun a ha => (j1 a (by omega) (by omega)).trans (es a (by omega) (by omega) (by omega))) r)⟩
    · rw [j1 26 (by omega) (by omega), k4, fu_ne (by omega)]
    · unfold TAP
      rw [j1 27 (by omega) (by omega), j1 26 (by omega) (by omega), j1 95 (by omega) (by omega), j21, k4, fu_same, es 27 (by omega) (by omega) (by omega), es 95 (by omega) (by omega) (by omega)]
      exact ⟨⟨by omega, hTP.2⟩, tp2, rfl⟩
    · rw [j2 25 (by omega) (by omega) (by omega) (by omega) (by omega) (by omega) (by omega), j2 30 (by omega) (by omega) (by omega) (by omega) (by omega) (by omega) (by omega), j2 45 (by omega) (by omega) (by omega) (by omega) (by omega) (by omega) (by omega), es 75 (by omega) (by omega) (by omega)]
      exact ⟨rfl, rfl, rfl⟩
    · rw [j1 113 (by omega) (by omega), es 113 (by omega) (by omega) (by omega)]
  · intro hf sh1 e k1 k2 k3 k4 k5 k6 k7 k8 k9 k10 k11
    have ks : ∀ a, a < L → ¬ a = 69 → ¬ a = 29 → sh1 a = sh a := k1
    have st1 : STRS sh1 e := fun a ha => by
      obtain ⟨u1, u2⟩ := hst a ha
      rw [k1 a (by omega) (by omega) (by omega), k5 a (by omega) (by omega) (by omega) (by omega)]
      exact ⟨u1, u2⟩
    have ms1 : MS (L + 8) sh1 := ⟨by omega, fun a a1 a2 => by rw [k1 a (by omega) (by omega) (by omega)]; exact hMS.2 a a1 a2⟩
    have es : ∀ a, a < L → ((a < 38 ∧ ¬ a = 26) ∨ (44 < a ∧ ¬ a = 69)) → e a = c a := fun a a1 a2 => k5 a a1 (by omega) (by omega) (by omega)
    refine hG _ (L + 8) sh1 e (n + 170) ms1 (by rw [ks 25 (by omega) (by omega) (by omega)]; exact h25) (by rw [es 25 (by omega) (by omega)]; exact hxs) fun G2 h2 => ?_
    refine m167 (c := e) ms1 st1 hTP (by rw [es 95 (by omega) (by omega)]; exact tp2) (by rw [es 75 (by omega) (by omega)]; exact tp3) hb (fun hf0 => absurd hf hf0) ?_
    intro _ e2 j1 j2 j3 j4 j5 j6 j7 j8 j9 j10 j11
    have jl : ∀ a, a < 75 → e2 a = e a := fun a ha => j1 a (by omega)
    have jh : ∀ a, 94 < a → e2 a = e a := fun a ha => j1 a (by omega)
    have hbr : BRG B' (bm e2) := ⟨fun k q1 q2 => j5 k q1 q2, fun f f1 _ f2 => ⟨(j9 f f1 f2).2.2.1, (j9 f f1 f2).2.2.2.1, (j9 f f1 f2).1⟩, fun k q1 _ q2 => j10 k q1 q2, fun x x1 x2 => (j8 x x1 x2).1⟩
    have hN := k8.n25
    have hsq : SEq B' (bgn B') (pm e2) := ⟨fun x x1 x2 => ⟨(j8 x x1 (by omega)).2.1.symm, (j8 x x1 (by omega)).2.2.symm⟩, fun f f1 f2 => ⟨(j9 f f1 f2).2.1.symm, (j9 f f1 f2).2.2.2.2.symm⟩, j6.1.symm, j6.2.1.symm⟩
    obtain ⟨u1, u2, ⟨v1, v2, v3⟩, _⟩ := hI.con
    have w12 : e2 76 12 = c 76 12 := by rw [j7 12 (by omega), es 76 (by omega) (by omega)]
    have w11 : e2 76 11 = c 76 11 := by rw [j7 11 (by omega), es 76 (by omega) (by omega)]
    have sup : ∀ a, a < L → (29 < a ∧ a < 69) ∨ 69 < a → sh1 a = sh a := fun a a1 a2 => ks a a1 (by omega) (by omega)
    have hsce : SceS (L + 8) sh1 29 38 42 44 L D := by
      obtain ⟨x1, x2, x3, x4, x5, x6⟩ := hsc
      exact ⟨by omega, k3, SanS_up x3 (by omega) fun a a1 a2 => sup a (by omega) (by omega), PasS_up x4 (by omega) (sup 42 (by omega) (by omega)) (sup 43 (by omega) (by omega)) fun a a1 a2 => sup a a2 (by omega), LogS_up x5 (by omega) fun a a1 a2 => sup a (by omega) (by omega), k4⟩
    refine h2 (L + 8) sh1 e2 (n + 170) ⟨m, LD, L, D, ID, SS, ED, DD, hI.sce (Nat.le_succ i) (by omega) (by omega) (by omega) (fun a a1 a2 _ _ _ a6 _ => ks a a1 a6 a2) ⟨s1, l1, by rw [ks 49 (by omega) (by omega) (by omega)]; exact g49.2.1⟩ (by rw [ks 60 (by omega) (by omega) (by omega)]; exact g60) ⟨_, _, k2⟩ (by rw [ks 70 (by omega) (by omega) (by omega)]; exact g70) (fun a a1 a2 _ => (j1 a (by omega)).trans (es a a1 (by omega))) ?_ ?_ ?_ (fun j _ => ?_) ?_ (fun r _ _ => mlaw_rows (fun a ha => (jh a (by omega)).trans (es a (by omega) (by omega))) r) ⟨hsce, Or.inr hL, q3, ⟨?_, ?_, ⟨?_, ?_, fun k q1 q2 => ?_⟩, ?_, ⟨WS.br hbr (WS.of hsq (bgn_ws k8)), SAN.br hbr (SAN.sq (k9.fr (jl 38 (by omega)) (jl 39 (by omega)) (jl 40 (by omega)) (jl 41 (by omega))) hsq), ?_⟩, fun j hj => ?_, Or.inl ⟨WB.br hbr k8, SHO.br hbr k8 (k7.fr fun a a1 a2 => ?_)⟩⟩⟩ (fun j y hj hy => Or.inl ⟨j, hj, hy⟩)⟩
    · rw [jl 26 (by omega), k6, fu_ne (by omega)]
    · unfold TAP
      rw [jl 27 (by omega), jl 26 (by omega), jh 95 (by omega), j3, k6, fu_same, es 27 (by omega) (by omega), es 95 (by omega) (by omega)]
      exact ⟨⟨by omega, hTP.2⟩, tp2, rfl⟩
    · rw [j2 25 (by omega) (by omega) (by omega) (by omega) (by omega) (by omega) (by omega) (by omega), j2 30 (by omega) (by omega) (by omega) (by omega) (by omega) (by omega) (by omega) (by omega), es 75 (by omega) (by omega)]
      exact ⟨rfl, rfl⟩
    · rw [jh 113 (by omega), es 113 (by omega) (by omega)]
    · rw [jh 114 (by omega), es 114 (by omega) (by omega)]
    · rw [jl 29 (by omega), es 29 (by omega) (by omega), w12]
      exact u1
    · rw [jl 29 (by omega), es 29 (by omega) (by omega), w11]
      exact u2
    · rw [jl 44 (by omega), k11, j6.2.2]
    · refine ⟨by rw [j6.2.2]; omega, by rw [j6.2.2]; omega, fun k q1 q2 => ?_⟩
      rw [j6.2.2] at q2
      omega
    · rw [jl 45 (by omega), jl 46 (by omega), jl 47 (by omega), es 45 (by omega) (by omega), es 46 (by omega) (by omega), es 47 (by omega) (by omega), j1 84 (by omega), j1 85 (by omega), j1 86 (by omega), es 84 (by omega) (by omega), es 85 (by omega) (by omega), es 86 (by omega) (by omega)]
      exact v3 k q1 q2
    · rw [jl 42 (by omega), k10, j4]
      omega
    · rw [j6.1]
      omega
    · rw [j4] at hj
      omega
    · exact jh a (by omega)
theorem aux_n {n n1 i : Nat} (h : n ≤ 20000 + 5000 * i) (k : n1 ≤ n + 500) : n1 ≤ 20000 + 5000 * (i + 1) := by
  rw [Nat.mul_add]
  exact Nat.le_trans k (by omega)
theorem step_3 : STEP X xs i 49 188 [] := by
  intro L sh c n G ⟨m, LD, s, D, ID, SS, ED, DD, hI⟩ hG
  obtain ⟨⟨b1, b2⟩, ⟨h25, hxs⟩, ⟨hMS, g26, g27, ⟨s1, l1, g49⟩, g56, ⟨g60, _⟩, g69, ⟨t0, g70⟩, g71, g72, g73, g74⟩, hst, ⟨hTP, tp2, tp3⟩, _⟩ := id hI
  have hL := hI.L115
  have hsc := hI.scs
  obtain ⟨r1, r2, r3, hm, r5, hr⟩ := hI.rul
  by_cases h6 : m = 6
  · rw [c49_z g26 (by omega) (by omega)]
    exact step_z hI hG fun Q => y188 hMS (by omega)
  · rcases hb : lpr (c 27) (c 26 1) 400 13 0 0 0 [] with ⟨f, l'⟩
    refine c49 hL g26 r1 r2 (by omega) g70 g27 g71 g72 g73 hst hTP rfl hb ?_ ?_
    · intro hf sh1 e k1 k2 k3 k4
      have st1 : STRS sh1 e := fun a ha => by
        obtain ⟨u1, u2⟩ := hst a ha
        rw [k1 a (by omega), k3 a (by omega) (by omega) (by omega) (by omega) (by omega)]
        exact ⟨u1, u2⟩
      have ms1 : MS L sh1 := ⟨hL, fun a a1 a2 => by rw [k1 a (by omega)]; exact hMS.2 a a1 a2⟩
      have es : ∀ a, (a < 26 ∨ (26 < a ∧ a < 70) ∨ 73 < a) → e a = c a := fun a ha => k3 a (by omega) (by omega) (by omega) (by omega) (by omega)
      refine hG _ L sh1 e n ms1 (by rw [k1 25 (by omega)]; exact h25) (by rw [es 25 (by omega)]; exact hxs) fun G2 h2 => ?_
      refine m188 (c := e) (s := m) ms1 st1 hTP (by rw [es 95 (by omega)]; exact tp2) (by rw [es 75 (by omega)]; exact tp3) (by rw [es 75 (by omega)]; exact r3) (by omega) (by rw [es 75 (by omega)]; exact r5) hb ?_ (fun hf0 => absurd hf0 hf)
      intro _ e2 hML j21 j25
      obtain ⟨j1, _, _, _, j5⟩ := id hML
      have jl : ∀ a, (a < 75 ∨ (75 < a ∧ a < 96) ∨ 102 < a) → e2 a = e a := fun a ha => j1 a (by omega) (by omega) (by omega) (by omega) (by omega) (by omega) (by omega) (by omega)
      refine h2 L sh1 e2 n ⟨m, LD, s, D, ID, SS, ED, DD, hI.keep (Nat.le_succ i) (Nat.le_refl _) (by omega) (by omega) (fun a a1 _ _ _ a5 => k1 a a5) ⟨s1, l1, by rw [k1 49 (by omega)]; exact g49.2.1⟩ (by rw [k1 60 (by omega)]; exact g60) (by rw [k1 69 (by omega)]; exact g69) ⟨_, k2⟩ (fun a a1 a2 => (jl a (by omega)).trans (es a (by omega))) ?_ ?_ ?_ (fun j _ => ?_) (fun r q1 q2 => ?_)⟩
      · rw [jl 26 (by omega), k4, fu_ne (by omega)]
      · unfold TAP
        rw [jl 27 (by omega), jl 26 (by omega), jl 95 (by omega), j21, k4, fu_same, es 27 (by omega), es 95 (by omega)]
        exact ⟨⟨by omega, hTP.2⟩, tp2, rfl⟩
      · rw [j25, j5 30 (by omega), j5 45 (by omega), es 75 (by omega)]
        exact ⟨r3.symm, rfl, rfl⟩
      · rw [jl 113 (by omega), es 113 (by omega)]
      · have hl := (hr r q1 q2).1
        have p := mlaw_rows (c := c) (c' := e) (fun a ha => es a (by omega)) r
        have p2 := mlr_rows hML q1 q2 (p.1 hl)
        exact ⟨fun _ => p2.1, p2.2.trans p.2⟩
    · intro hf sh1 e n1 kn1 kn2 k1 k2 k3 k4 k5 k6
      have st1 : STRS sh1 e := fun a ha => by
        obtain ⟨u1, u2⟩ := hst a ha
        rw [k1 a (by omega) (by omega) (by omega), k4 a (by omega) (by omega) (by omega) (by omega) (by omega) (by omega) (by omega)]
        exact ⟨u1, u2⟩
      have ms1 : MS (L + 3) sh1 := ⟨by omega, fun a a1 a2 => by rw [k1 a (by omega) (by omega) (by omega)]; exact hMS.2 a a1 a2⟩
      have es : ∀ a, a < L → (a < 26 ∨ a = 27 ∨ (28 < a ∧ a < 70) ∨ 73 < a) → e a = c a := fun a a1 ha => k4 a a1 (by omega) (by omega) (by omega) (by omega) (by omega) (by omega)
      refine hG _ (L + 3) sh1 e n1 ms1 (by rw [k1 25 (by omega) (by omega) (by omega)]; exact h25) (by rw [es 25 (by omega) (by omega)]; exact hxs) fun G2 h2 => ?_
      refine m188 (c := e) (s := m) ms1 st1 hTP (by rw [es 95 (by omega) (by omega)]; exact tp2) (by rw [es 75 (by omega) (by omega)]; exact tp3) (by rw [es 75 (by omega) (by omega)]; exact r3) (by omega) (by rw [es 75 (by omega) (by omega)]; exact r5) hb (fun hf0 => absurd hf hf0) ?_
      intro _ e2 hML j21 j25 hLW hml
      obtain ⟨j1, _, _, _, j5⟩ := id hML
      have jl : ∀ a, (a < 75 ∨ (75 < a ∧ a < 96) ∨ 102 < a) → e2 a = e a := fun a ha => j1 a (by omega) (by omega) (by omega) (by omega) (by omega) (by omega) (by omega) (by omega)
      have je : ∀ a, a < L → (a < 26 ∨ a = 27 ∨ (28 < a ∧ a < 70) ∨ (75 < a ∧ a < 96) ∨ 102 < a) → e2 a = c a := fun a a1 a2 => (jl a (by omega)).trans (es a a1 (by omega))
      have ks : ∀ a, a < L → ¬ a = 28 → ¬ a = 70 → sh1 a = sh a := k1
      obtain ⟨q1, q2, q3, q4⟩ := hI.2.2.2.2.2.2.1
      have hrow : ∀ j y, j < 20 → D j = some y → 115 ≤ y ∧ SanS L sh y := fun j y hj hy => hsc.2.2.2.1.2.2.2.2 j y hj hy
      have sL := hsc.2.2.2.2.2.1
      have hRUL : RUL (L + 3) sh1 e2 (fun j => if j = m.toNat then some L else LD j) (m + 1) := by
        refine ⟨k2, by rw [jl 26 (by omega), k5, fu_same], j25, by omega, by rw [j5 30 (by omega), es 75 (by omega) (by omega)]; exact r5, fun r u1 u2 => ?_⟩
        by_cases hrm : r = m
        · subst hrm
          refine ⟨hLW, L, if_pos rfl, ?_⟩
          rw [hml]
          exact k6.at (Nat.le_refl _) fun a a1 a2 => ⟨rfl, jl a (by omega)⟩
        · obtain ⟨w1, lr, w2, w3⟩ := hr r u1 (by omega)
          have p := mlaw_rows (c := c) (c' := e) (fun a ha => es a (by omega) (by omega)) r
          have p2 := mlr_rows hML u1 (by omega) (p.1 w1)
          refine ⟨p2.1, lr, (if_neg (by omega)).trans w2, ?_⟩
          rw [p2.2, p.2]
          obtain ⟨y0, y1, y2, y3, _⟩ := id w3
          have y4 := y3.1
          exact w3.at (by omega) fun a a1 a2 => ⟨ks a (by omega) (by omega) (by omega), je a (by omega) (by omega)⟩
      have bl : L ≤ L + 3 := by omega
      have bL : L + 3 ≤ 115 + 100 * (i + 1) := by omega
      have bn : n1 ≤ 20000 + 5000 * (i + 1) := aux_n b2 kn2
      have bm' : m ≤ m + 1 := by omega
      refine h2 (L + 3) sh1 e2 n1 ⟨m + 1, (fun j => if j = m.toNat then some L else LD j), s, D, ID, SS, ED, DD, INVP.sce0 (L' := L + 3) (sh' := sh1) (c' := e2) (n' := n1) (i' := i + 1) (m' := m + 1) (s' := s) (D' := D) hI (Nat.le_succ i) bl bL bn (fun a a1 a0 _ _ _ _ _ a6 => ks a a1 a0 a6) ⟨s1, l1, by rw [ks 49 (by omega) (by omega) (by omega)]; exact g49.2.1⟩ (by rw [ks 60 (by omega) (by omega) (by omega)]; exact g60) (by rw [ks 69 (by omega) (by omega) (by omega)]; exact g69) ⟨_, k3⟩ (fun a a1 a2 _ => je a a1 (by omega)) ?_ (fun j _ => ?_) ?_ hRUL bm' ⟨?_, q2, q3, ?_⟩ (fun j y hj hy => Or.inl ⟨j, hj, hy⟩)⟩
      · unfold TAP
        rw [jl 27 (by omega), jl 26 (by omega), jl 95 (by omega), j21, k5, fu_ne (by omega), fu_same, es 27 (by omega) (by omega), es 95 (by omega) (by omega)]
        exact ⟨⟨by omega, hTP.2⟩, tp2, rfl⟩
      · rw [je 113 (by omega) (by omega)]
      · exact je 114 (by omega) (by omega)
      · have sup : ∀ a, a < L → (28 < a ∧ a < 70) ∨ 70 < a → sh1 a = sh a := fun a a1 a2 => ks a a1 (by omega) (by omega)
        obtain ⟨x1, x2, x3, x4, x5, x6⟩ := hsc
        exact ⟨by omega, by rw [sup 29 (by omega) (by omega)]; exact x2, SanS_up x3 (by omega) fun a a1 a2 => sup a (by omega) (by omega), PasS_up x4 (by omega) (sup 42 (by omega) (by omega)) (sup 43 (by omega) (by omega)) fun a a1 a2 => sup a a2 (by omega), LogS_up x5 (by omega) fun a a1 a2 => sup a (by omega) (by omega), ShoS_up x6 (by omega) fun a a1 a2 => sup a (by omega) (by omega)⟩
      · rw [j5 45 (by omega), es 75 (by omega) (by omega)]
        refine CON.cg (d := c) (IMR.rows fun a ha => je a (by omega) (by omega)) ((q4.mono (by omega) (by omega)).fr (je 29 (by omega) (by omega)) (fun a a1 a2 => je a (by omega) (by omega)) (je 42 (by omega) (by omega)) (fun a a1 a2 => je a (by omega) (by omega)) (fun a a1 a2 => je a (by omega) (by omega)) (fun j y hj hy a a1 a2 => ?_))
        have z := hrow j y hj hy
        have z1 := z.2.1
        exact je a (by omega) (by omega)
end STEPS4

/-! one call: what changes the tape, the RULE in force, the draw, the LOGS -/
theorem i3_b_rng (a : Int) : -128 ≤ i3_b a ∧ i3_b a ≤ 127 := by
  unfold i3_b
  rw [Int8.toInt_toInt32]
  have h1 := Int8.le_toInt (tc_3 a).toInt8
  have h2 := Int8.toInt_lt (tc_3 a).toInt8
  omega
theorem wr_rng {g : Int → Int} {t x : Int} (h : ∀ j, 0 ≤ j → j < 400 → -128 ≤ g j ∧ g j ≤ 127) : ∀ j, 0 ≤ j → j < 400 → -128 ≤ wr g t x j ∧ wr g t x j ≤ 127 := by
  intro j j1 j2
  unfold wr fu
  repeat' split
  all_goals first
    | exact i3_b_rng _
    | exact h j j1 j2
theorem wr5_rng {g : Int → Int} {t a b c d e : Int} (h : ∀ j, 0 ≤ j → j < 400 → -128 ≤ g j ∧ g j ≤ 127) : ∀ j, 0 ≤ j → j < 400 → -128 ≤ wr5 g t a b c d e j ∧ wr5 g t a b c d e j ≤ 127 := wr_rng (wr_rng (wr_rng (wr_rng (wr_rng h))))
section STEPS3
variable {X i L n : Nat} {xs : Int → Int} {sh : Nat → SH} {c : Nat → Int → Int} {m : Int} {LD D ID : Nat → Option Nat} {s : Nat} {SS : Nat → Nat} {ED : Nat → Nat → Option Nat} {DD : Nat → Nat → Int → Int} {K2 : Nat} {as : List AV} {G : Option AV → List SC → Nat → Prop}
theorem INVP.tape (hI : INVP X xs i L sh c n m LD s D ID SS ED DD) {c' : Nat → Int → Int} (hc : ∀ a, ¬ a = 26 → ¬ a = 27 → ¬ a = 75 → ¬ a = 95 → c' a = c a) (h26 : c' 26 3 = c 26 3) (hT : TAP c') (h75 : ∀ j, ¬ j = 21 → c' 75 j = c 75 j) : INVP X xs i L sh c' n m LD s D ID SS ED DD := by
  obtain ⟨⟨b1, b2⟩, _, ⟨_, _, _, ⟨s1, l1, g49⟩, _, ⟨g60, _⟩, g69, g70, _⟩, _, _, _⟩ := id hI
  exact hI.keep (Nat.le_refl _) (Nat.le_refl _) b1 b2 (fun a _ _ _ _ _ => rfl) ⟨s1, l1, g49.2.1⟩ g60 g69 g70 (fun a _ a2 => hc a (by omega) (by omega) (by omega) (by omega)) h26 hT ⟨h75 25 (by omega), h75 30 (by omega), h75 45 (by omega)⟩ (fun j _ => by rw [hc 113 (by omega) (by omega) (by omega) (by omega)]) (fun r _ _ => mlaw_rows (fun a ha => hc a (by omega) (by omega) (by omega) (by omega)) r)
theorem step_0 {x1 x2 x3 x4 x5 : Int} : STEP X xs i 12 164 [.inl x1, .inl x2, .inl x3, .inl x4, .inl x5] := by
  intro L sh c n G ⟨m, LD, s, D, ID, SS, ED, DD, hI⟩ hG
  obtain ⟨_, ⟨h25, hxs⟩, ⟨hMS, g26, g27, _⟩, _, ⟨⟨t0, t1⟩, tp2, tp3⟩, _⟩ := id hI
  have hL := hI.L115
  by_cases hg : c 26 1 + 20 ≤ 400
  · refine c12 g26 g27 (by omega) rfl ⟨t0.1, hg⟩ ?_
    intro e k1 k2 k3
    refine hG _ L sh e n hMS h25 (by rw [k1 25 (by omega) (by omega)]; exact hxs) fun G2 h2 => ?_
    refine c164 (c := e) hMS (t := c 26 1) (by rw [k1 75 (by omega) (by omega)]; exact tp3) ⟨t0.1, hg⟩ ?_
    intro e2 j1 j2 j3
    refine h2 L sh e2 n ⟨m, LD, s, D, ID, SS, ED, DD, (hI.tape (fun a a1 a2 a3 a4 => (j1 a a3 a4).trans (k1 a a1 a2)) ?_ ?_ fun j hj => ?_).mono (Nat.le_succ i)⟩
    · rw [j1 26 (by omega) (by omega), k3, fu_ne (by omega)]
    · unfold TAP
      rw [j1 27 (by omega) (by omega), j1 26 (by omega) (by omega), j2, j3, k1 95 (by omega) (by omega), k2, k3, fu_same, fu_same, tp2]
      exact ⟨⟨by omega, wr5_rng t1⟩, rfl, rfl⟩
    · rw [j3, fu_ne hj, k1 75 (by omega) (by omega)]
  · rw [c12_z g26 (by omega) (by omega) (by omega)]
    exact step_z hI hG fun Q => c164_z hMS (by omega) (by omega)
theorem step_1 {x : Int} : STEP X xs i 14 166 [.inl x] := by
  intro L sh c n G ⟨m, LD, s, D, ID, SS, ED, DD, hI⟩ hG
  obtain ⟨_, ⟨h25, hxs⟩, ⟨hMS, g26, g27, _⟩, _, ⟨⟨t0, t1⟩, tp2, tp3⟩, _⟩ := id hI
  have hL := hI.L115
  rw [c14 g26 (by omega)]
  by_cases hg : x < 0 ∨ c 26 1 < x
  · rw [if_pos hg, if_pos hg]
    refine step_z hI hG fun Q => ?_
    rw [c166 hMS, if_pos (by omega), if_pos (by omega)]
  · rw [if_neg hg, if_neg hg]
    refine hG _ L sh _ n hMS h25 (by rw [fr_ne (by omega)]; exact hxs) fun G2 h2 => ?_
    rw [c166 hMS, fr_ne (by omega), if_neg (by omega), if_neg (by omega)]
    refine h2 L sh _ n ⟨m, LD, s, D, ID, SS, ED, DD, (hI.tape (fun a a1 a2 a3 a4 => by rw [fr_ne a3, fr_ne a1]) ?_ ?_ fun j hj => ?_).mono (Nat.le_succ i)⟩
    · rw [fr_ne (by omega), fr_same, fu_ne (by omega)]
    · unfold TAP
      simp (disch := omega) only [fr_ne, fr_same, fu_same]
      exact ⟨⟨by omega, t1⟩, tp2, trivial⟩
    · rw [fr_same, fu_ne hj]
/-- the RULE in force, the draw, the LOGS change -/
theorem CON.chg {W P : Int} {c' d d' : Nat → Int → Int} {hd nw pa lg : Nat} (h : CON W m c hd nw pa lg s D P d) (r : ∀ j, 0 ≤ j → j < 10 → d' 76 j = d 76 j) (rr : ∀ a, (76 < a ∧ a < 84) ∨ a = 87 ∨ a = 88 ∨ a = 107 → d' a = d a) (f2 : ∀ a, nw ≤ a → a ≤ nw + 3 → c' a = c a) (f3 : c' pa = c pa) (f5 : ∀ a, s ≤ a → a ≤ s + 7 → c' a = c a) (f6 : ∀ j y, j < 20 → D j = some y → ∀ a, y ≤ a → a ≤ y + 3 → c' a = c a) (n1 : c' hd 4 = d' 76 12 ∧ -1 ≤ d' 76 12 ∧ d' 76 12 < m) (n2 : c' hd 5 = d' 76 11 ∧ 0 ≤ d' 76 11 ∧ d' 76 11 < 2147483648) (n3 : c' lg 3 = d' 76 10 ∧ LGI d' ∧ ∀ k, 0 ≤ k → k < 10 → c' (lg + 1) k = d' 84 k ∧ c' (lg + 2) k = d' 85 k ∧ c' (lg + 3) k = d' 86 k) : CON W m c' hd nw pa lg s D P d' := by
  obtain ⟨_, _, _, h6, ⟨h7, h8, h9⟩, h10, h11⟩ := h
  have hb : BRG (bm d) (bm d') := ⟨fun k k1 k2 => r k k1 (by omega), fun f _ _ _ => ⟨by show d' 80 f = d 80 f; rw [rr 80 (by omega)], by show d' 81 f = d 81 f; rw [rr 81 (by omega)], by show d' 88 f = d 88 f; rw [rr 88 (by omega)]⟩, fun k _ _ _ => by show d' 83 k = d 83 k; rw [rr 83 (by omega)], fun x _ _ => by show d' 87 x = d 87 x; rw [rr 87 (by omega)]⟩
  have sq : SEq (bm d) (pm d) (pm d') := ⟨fun x _ _ => ⟨by show d 77 x = d' 77 x; rw [rr 77 (by omega)], by show d 78 x = d' 78 x; rw [rr 78 (by omega)]⟩, fun f _ _ => ⟨by show d 79 f = d' 79 f; rw [rr 79 (by omega)], by show d 82 f = d' 82 f; rw [rr 82 (by omega)]⟩, (r 8 (by omega) (by omega)).symm, (r 9 (by omega) (by omega)).symm⟩
  refine ⟨n1, n2, n3, by rw [f3]; exact h6, ⟨WS.br hb (WS.of sq h7), SAN.br hb ((h8.fr (f2 _ (by omega) (by omega)) (f2 _ (by omega) (by omega)) (f2 _ (by omega) (by omega)) (f2 _ (by omega) (by omega))).sq sq), by rw [r 8 (by omega) (by omega)]; exact h9⟩, fun j hj => ?_, ?_⟩
  · rw [rr 107 (by omega)]
    obtain ⟨y, y1, y2, y3, y4⟩ := h10 j hj
    have g := f6 j y (by omega) y1
    exact ⟨y, y1, WS.br hb y2, SAN.br hb (y3.fr (g _ (by omega) (by omega)) (g _ (by omega) (by omega)) (g _ (by omega) (by omega)) (g _ (by omega) (by omega))), y4⟩
  · rcases h11 with q | q
    · exact Or.inl ⟨WB.br hb q.1, SHO.br hb q.1 (q.2.fr f5)⟩
    · rw [f5 s (by omega) (by omega), r 0 (by omega) (by omega), r 1 (by omega) (by omega), r 2 (by omega) (by omega), r 3 (by omega) (by omega)]
      exact Or.inr q
theorem INVP.chg (hI : INVP X xs i L sh c n m LD s D ID SS ED DD) {c' : Nat → Int → Int} (hc : ∀ a, ¬ a = 29 → ¬ a = 44 → ¬ a = 45 → ¬ a = 46 → ¬ a = 47 → ¬ a = 76 → ¬ a = 84 → ¬ a = 85 → ¬ a = 86 → c' a = c a) (r : ∀ j, 0 ≤ j → j < 10 → c' 76 j = c 76 j) (n1 : c' 29 4 = c' 76 12 ∧ -1 ≤ c' 76 12 ∧ c' 76 12 < m) (n2 : c' 29 5 = c' 76 11 ∧ 0 ≤ c' 76 11 ∧ c' 76 11 < 2147483648) (n3 : c' 44 3 = c' 76 10 ∧ LGI c' ∧ ∀ k, 0 ≤ k → k < 10 → c' 45 k = c' 84 k ∧ c' 46 k = c' 85 k ∧ c' 47 k = c' 86 k) : INVP X xs i L sh c' n m LD s D ID SS ED DD := by
  obtain ⟨⟨b1, b2⟩, _, ⟨_, _, _, ⟨s1, l1, g49⟩, _, ⟨g60, _⟩, g69, g70, _⟩, _, htp, _⟩ := id hI
  have hsc := hI.scs
  obtain ⟨q1, q2, q3, q4⟩ := hI.2.2.2.2.2.2.1
  have hrow : ∀ j y, j < 20 → D j = some y → 115 ≤ y ∧ SanS L sh y := fun j y hj hy => hsc.2.2.2.1.2.2.2.2 j y hj hy
  have cc : ∀ a, ¬ a = 29 → ¬ a = 44 → ¬ a = 45 → ¬ a = 46 → ¬ a = 47 → ¬ a = 76 → ¬ a = 84 → ¬ a = 85 → ¬ a = 86 → c' a = c a := hc
  have cl : ∀ a, (a < 29 ∨ (29 < a ∧ a < 44) ∨ (47 < a ∧ a < 76) ∨ (76 < a ∧ a < 84) ∨ 86 < a) → c' a = c a := fun a ha => cc a (by omega) (by omega) (by omega) (by omega) (by omega) (by omega) (by omega) (by omega) (by omega)
  refine hI.sce (Nat.le_refl _) (Nat.le_refl _) b1 b2 (fun a _ _ _ _ _ _ _ => rfl) ⟨s1, l1, g49.2.1⟩ g60 g69 g70 (fun a _ a2 _ => cl a (by omega)) (by rw [cl 26 (by omega)]) ?_ (by rw [cl 75 (by omega)]; exact ⟨rfl, rfl⟩) (fun j _ => by rw [cl 113 (by omega)]) (cl 114 (by omega)) (fun r _ _ => mlaw_rows (fun a ha => cl a (by omega)) r) ⟨hsc, q2, q3, ?_⟩ (fun j y hj hy => Or.inl ⟨j, hj, hy⟩)
  · unfold TAP
    rw [cl 27 (by omega), cl 26 (by omega), cl 95 (by omega), cl 75 (by omega)]
    exact htp
  · rw [cl 75 (by omega)]
    refine q4.chg r (fun a ha => cl a (by omega)) (fun a a1 a2 => cl a (by omega)) (cl 42 (by omega)) (fun a a1 a2 => cl a (by omega)) (fun j y hj hy a a1 a2 => ?_) n1 n2 n3
    have := (hrow j y hj hy).1
    exact cl a (by omega)
theorem step_4 {x : Int} : STEP X xs i 66 203 [.inl x] := by
  intro L sh c n G ⟨m, LD, s, D, ID, SS, ED, DD, hI⟩ hG
  obtain ⟨_, ⟨h25, hxs⟩, _⟩ := id hI
  have hL := hI.L115
  obtain ⟨r1, r2, r3, hm, _, hr⟩ := hI.rul
  obtain ⟨u1, u2, ⟨l1, l2, l3⟩, _⟩ := hI.con
  rw [c66 hI.mo hL r2]
  by_cases hg : -1 ≤ x ∧ x < m
  · rw [if_pos hg, if_pos hg]
    refine hG _ L sh _ n hI.ms h25 (by rw [fr_ne (by omega)]; exact hxs) fun G2 h2 => ?_
    rw [c203 hI.ms (by rw [fr_ne (by omega), r3]; exact hm), fr_ne (by omega), fr_ne (by omega), if_pos (by omega), if_pos (by omega), ← u1.1]
    refine h2 L sh _ n ⟨m, LD, s, D, ID, SS, ED, DD, (hI.chg (fun a a1 a2 a3 a4 a5 a6 a7 a8 a9 => by rw [fr_ne a6, fr_ne a1]) (fun j j1 j2 => by rw [fr_same, fu_ne (by omega)]) ?_ ?_ ?_).mono (Nat.le_succ i)⟩
    · simp (disch := omega) only [fr_ne, fr_same, fu_same]
      exact ⟨trivial, hg⟩
    · simp (disch := omega) only [fr_ne, fr_same, fu_ne]
      exact u2
    · simp (disch := omega) only [fr_ne, fr_same, fu_ne, LGI]
      exact ⟨l1, l2, l3⟩
  · rw [if_neg hg, if_neg hg]
    refine step_z hI hG fun Q => ?_
    rw [c203 hI.ms (by rw [r3]; exact hm), if_neg (by omega), if_neg (by omega)]
theorem step_26 {x : Int} (hx : x < 2147483648) : STEP X xs i 152 271 [.inl x] := by
  intro L sh c n G ⟨m, LD, s, D, ID, SS, ED, DD, hI⟩ hG
  obtain ⟨_, ⟨h25, hxs⟩, _⟩ := id hI
  have hL := hI.L115
  obtain ⟨u1, u2, ⟨l1, l2, l3⟩, _⟩ := hI.con
  rw [c152 hI.mo hL]
  by_cases hg : x < 0
  · rw [if_pos hg, if_pos hg]
    refine step_z hI hG fun Q => ?_
    rw [c271 hI.ms, if_pos hg, if_pos hg]
  · rw [if_neg hg, if_neg hg]
    refine hG _ L sh _ n hI.ms h25 (by rw [fr_ne (by omega)]; exact hxs) fun G2 h2 => ?_
    rw [c271 hI.ms, if_neg hg, if_neg hg, fr_ne (by omega), ← u2.1]
    refine h2 L sh _ n ⟨m, LD, s, D, ID, SS, ED, DD, (hI.chg (fun a a1 a2 a3 a4 a5 a6 a7 a8 a9 => by rw [fr_ne a6, fr_ne a1]) (fun j j1 j2 => by rw [fr_same, fu_ne (by omega)]) ?_ ?_ ?_).mono (Nat.le_succ i)⟩
    · simp (disch := omega) only [fr_ne, fr_same, fu_ne]
      exact u1
    · simp (disch := omega) only [fr_ne, fr_same, fu_same]
      exact ⟨trivial, by omega, hx⟩
    · simp (disch := omega) only [fr_ne, fr_same, fu_ne, LGI]
      exact ⟨l1, l2, l3⟩
theorem step_23 {w x y : Int} : STEP X xs i 142 266 [.inl w, .inl x, .inl y] := by
  intro L sh c n G ⟨m, LD, s, D, ID, SS, ED, DD, hI⟩ hG
  obtain ⟨_, ⟨h25, hxs⟩, _⟩ := id hI
  have hL := hI.L115
  have hd := hI.dm
  obtain ⟨u1, u2, ⟨l1, l2, l3⟩, _⟩ := hI.con
  obtain ⟨hM, hSh, h38, _, g2, _⟩ := hI.ge
  rw [c142 hM hSh hL hI.scs.2.2.2.2.1 ⟨l2.1, l2.2.1⟩ l1 g2]
  by_cases hw : w = -1
  · rw [if_pos hw]
    refine hG _ L sh _ n hI.ms h25 (by rw [fr_ne (by omega)]; exact hxs) fun G2 h2 => ?_
    rw [c266 hI.ms (by rw [fr_ne (by omega)]; exact hd.1) (by rw [fr_ne (by omega)]; exact ⟨l2.1, l2.2.1⟩), if_pos hw, fr_ne (by omega)]
    refine h2 L sh _ n ⟨m, LD, s, D, ID, SS, ED, DD, (hI.chg (fun a a1 a2 a3 a4 a5 a6 a7 a8 a9 => by rw [fr_ne a6, fr_ne a2]) (fun j j1 j2 => by rw [fr_same, fu_ne (by omega)]) ?_ ?_ ?_).mono (Nat.le_succ i)⟩
    · simp (disch := omega) only [fr_ne, fr_same, fu_ne]
      exact u1
    · simp (disch := omega) only [fr_ne, fr_same, fu_ne]
      exact u2
    · simp (disch := omega) only [fr_ne, fr_same, fu_ne, fu_same, LGI]
      exact ⟨trivial, ⟨by omega, by omega, fun k k1 k2 => by omega⟩, l3⟩
  · rw [if_neg hw]
    by_cases hg : (0 ≤ w ∧ w ≤ 60) ∧ (0 ≤ x ∧ x < c 76 0 * c 76 1) ∧ (0 ≤ y ∧ y ≤ 9) ∧ ¬ c 76 10 = 10
    · rw [if_pos hg]
      generalize hc1 : fr (fr (fr (fr c 45 (fu (c 45) (c 76 10) w)) 46 (fu (c 46) (c 76 10) x)) 47 (fu (c 47) (c 76 10) y)) 44 (fu (c 44) 3 (c 76 10 + 1)) = c1
      have k44 : c1 44 3 = c 76 10 + 1 := by rw [← hc1]; simp (disch := omega) only [fr_same, fu_same]
      have k45 : c1 45 = fu (c 45) (c 76 10) w := by rw [← hc1]; simp (disch := omega) only [fr_same, fr_ne]
      have k46 : c1 46 = fu (c 46) (c 76 10) x := by rw [← hc1]; simp (disch := omega) only [fr_same, fr_ne]
      have k47 : c1 47 = fu (c 47) (c 76 10) y := by rw [← hc1]; simp (disch := omega) only [fr_same, fr_ne]
      have kc : ∀ a, ¬ a = 44 → ¬ a = 45 → ¬ a = 46 → ¬ a = 47 → c1 a = c a := fun a a1 a2 a3 a4 => by rw [← hc1]; simp (disch := omega) only [fr_ne]
      have kh : ∀ a, 47 < a → c1 a = c a := fun a ha => kc a (by omega) (by omega) (by omega) (by omega)
      refine hG _ L sh c1 n hI.ms h25 (by rw [kc 25 (by omega) (by omega) (by omega) (by omega)]; exact hxs) fun G2 h2 => ?_
      rw [c266 hI.ms (by rw [kh 76 (by omega)]; exact hd.1) (by rw [kh 76 (by omega)]; exact ⟨l2.1, l2.2.1⟩), if_neg hw, kh 76 (by omega), kh 84 (by omega), kh 85 (by omega), kh 86 (by omega), if_pos (by omega)]
      refine h2 L sh _ n ⟨m, LD, s, D, ID, SS, ED, DD, (hI.chg (fun a a1 a2 a3 a4 a5 a6 a7 a8 a9 => ?_) (fun j j1 j2 => by rw [fr_same, fu_ne (by omega)]) ?_ ?_ ?_).mono (Nat.le_succ i)⟩
      · rw [fr_ne a6, fr_ne a9, fr_ne a8, fr_ne a7, kc a a2 a3 a4 a5]
      · simp (disch := omega) only [fr_ne, fr_same, fu_ne]
        rw [kc 29 (by omega) (by omega) (by omega) (by omega)]
        exact u1
      · simp (disch := omega) only [fr_ne, fr_same, fu_ne]
        rw [kc 29 (by omega) (by omega) (by omega) (by omega)]
        exact u2
      · simp (disch := omega) only [fr_ne, fr_same, fu_ne, fu_same, LGI]
        rw [k44, k45, k46, k47]
        have hl0 := l2.1
        have hl1 := l2.2.1
        refine ⟨rfl, ⟨by omega, by omega, fun k k1 k2 => ?_⟩, fun k k1 k2 => ?_⟩
        · by_cases hk : k = c 76 10
          · rw [hk, fu_same, fu_same, fu_same]
            exact ⟨hg.2.1, hg.1, hg.2.2.1⟩
          · rw [fu_ne hk, fu_ne hk, fu_ne hk]
            exact l2.2.2 k k1 (by omega)
        · by_cases hk : k = c 76 10
          · rw [hk]
            simp only [fu_same]
            exact ⟨trivial, trivial, trivial⟩
          · simp (disch := omega) only [fu_ne]
            exact l3 k k1 k2
    · rw [if_neg hg]
      refine step_z hI hG fun Q => ?_
      rw [c266 hI.ms hd.1 ⟨l2.1, l2.2.1⟩, if_neg hw, if_neg (by omega)]
end STEPS3

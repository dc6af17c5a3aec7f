/-! one call: undo, image, back -/
section STEPS6
variable {X i L L' n n' : Nat} {xs : Int → Int} {sh sh' : Nat → SH} {c c' d : Nat → Int → Int} {m W W' P : Int} {LD D ID E' : Nat → Option Nat} {s : Nat} {SS : Nat → Nat} {ED : Nat → Nat → Option Nat} {DD : Nat → Nat → Int → Int} {hd nw pa lg ho no po lo : Nat}
theorem step_12 : STEP X xs i 111 218 [] := by
  intro L sh c n G ⟨m, LD, s, D, ID, SS, ED, DD, hI⟩ hG
  obtain ⟨p1, p2, p3, p4, p5⟩ := hI.pst
  by_cases h0 : c 75 45 = 0
  · rw [c111_z hI.L115 hI.mo p1.2.2.1 (by rw [p3]; exact h0)]
    exact step_z hI hG fun Q => c218z hI.ms h0
  · obtain ⟨⟨b1, b2⟩, ⟨h25, hxs⟩, ⟨_, _, _, ⟨s1, l1, g49⟩, _, ⟨g60, _⟩, g69, g70, _⟩, _, ⟨tp0, tp2, tp3⟩, _⟩ := id hI
    have hL := hI.L115
    have hd := hI.dm
    have hd2 := hd.1.2
    have hsc := hI.scs
    obtain ⟨q1, q2, q3, q4⟩ := hI.2.2.2.2.2.2.1
    obtain ⟨u1, u2, ⟨v1, v2, v3⟩, _, ⟨w1, w2, w3⟩, t1, t2⟩ := q4
    have hrow : ∀ j y, j < 20 → D j = some y → 115 ≤ y ∧ SanS L sh y := fun j y hj hy => hsc.2.2.2.1.2.2.2.2 j y hj hy
    obtain ⟨y, hy, y2, y3, y4⟩ := t1 (c 75 45 - 1).toNat (by omega)
    rw [show (((c 75 45 - 1).toNat : Nat) : Int) = c 75 45 - 1 by omega] at y2 y3 y4
    refine c111 hL hI.mo hsc.2.2.1 p1 p3 ⟨by omega, by omega⟩ hy ?_
    intro e k1 k2 k3
    have eh : ∀ a, 42 < a → e a = c a := fun a ha => k1 a (by omega) (by omega)
    have el : ∀ a, a < 38 → e a = c a := fun a ha => k1 a (by omega) (by omega)
    have e75 := eh 75 (by omega)
    refine hG _ L sh e n hI.ms h25 (by rw [el 25 (by omega)]; exact hxs) fun G2 h2 => ?_
    refine c218 (c := e) hI.ms (by rw [e75]; omega) ?_
    rw [e75, eh 107 (by omega)]
    intro e2 j1 j2 j3 j4 j5
    have jl : ∀ a, a < 75 → e2 a = e a := fun a ha => j1 a (by omega) (by omega) (by omega) (by omega) (by omega) (by omega)
    have jh : ∀ a, 82 < a → e2 a = c a := fun a ha => (j1 a (by omega) (by omega) (by omega) (by omega) (by omega) (by omega)).trans (eh a (by omega))
    have jn : ∀ a, a < 38 → e2 a = c a := fun a ha => (jl a (by omega)).trans (el a ha)
    have jm : ∀ a, 42 < a → a < 75 → e2 a = c a := fun a h1 h2 => (jl a h2).trans (eh a h1)
    have r76 : ∀ j, ¬ j = 8 → ¬ j = 9 → e2 76 j = c 76 j := fun j q1 q2 => by rw [j4 j q1 q2, eh 76 (by omega)]
    have hbr : BRG (bm c) (bm e2) := ⟨fun k k1 k2 => r76 k (by omega) (by omega), fun f _ _ _ => ⟨by show e2 80 f = c 80 f; rw [j1 80 (by omega) (by omega) (by omega) (by omega) (by omega) (by omega), eh 80 (by omega)], by show e2 81 f = c 81 f; rw [j1 81 (by omega) (by omega) (by omega) (by omega) (by omega) (by omega), eh 81 (by omega)], by show e2 88 f = c 88 f; rw [jh 88 (by omega)]⟩, fun k _ _ _ => by show e2 83 k = c 83 k; rw [jh 83 (by omega)], fun x _ _ => by show e2 87 x = c 87 x; rw [jh 87 (by omega)]⟩
    have sq : SEq (bm c) (pv (c 107) (c 75 45 - 1)) (pm e2) := (pv_par (c := e2) (h := c 107) (j := c 75 45 - 1) hd.2.2 (by show c 76 2 ≤ 6; omega) fun t c1 c2 => (j5 t c1 c2).symm).symm
    refine h2 L sh e2 n ⟨m, LD, s, D, ID, SS, ED, DD, hI.sce (Nat.le_succ i) (Nat.le_refl _) (by omega) (by omega) (fun a _ _ _ _ _ _ _ => rfl) ⟨s1, l1, g49.2.1⟩ g60 g69 g70 (fun a a1 a2 _ => ?_) (by rw [jn 26 (by omega)]) ?_ ⟨j2 25 (by omega) (by omega) (by omega), j2 30 (by omega) (by omega) (by omega)⟩ (fun j _ => by rw [jh 113 (by omega)]) (jh 114 (by omega)) (fun r _ _ => mlaw_rows (fun a ha => jh a (by omega)) r) ⟨hsc, q2, q3, ?_⟩ (fun j z hj hz => Or.inl ⟨j, hj, hz⟩)⟩
    · rcases a2 with a2 | a2 | a2
      · exact jn a (by omega)
      · exact jn a (by omega)
      · exact jh a (by omega)
    · unfold TAP
      rw [jn 27 (by omega), jn 26 (by omega), jh 95 (by omega), j2 21 (by omega) (by omega) (by omega)]
      exact ⟨tp0, tp2, tp3⟩
    · have fS : ∀ a, (a < 38 ∨ 114 < a) → e2 a = c a := fun a ha => by
        rcases ha with ha | ha
        · exact jn a ha
        · exact jh a (by omega)
      refine ⟨?_, ?_, ⟨?_, ?_, fun k k1 k2 => ?_⟩, ?_, ⟨WS.br hbr (WS.of sq y2), SAN.br hbr (((k3 _ _ _ y3).fr (jl 38 (by omega)) (jl 39 (by omega)) (jl 40 (by omega)) (jl 41 (by omega))).sq sq), ?_⟩, fun j hj => ?_, ?_⟩
      · rw [jn 29 (by omega), r76 12 (by omega) (by omega)]
        exact u1
      · rw [jn 29 (by omega), r76 11 (by omega) (by omega)]
        exact u2
      · rw [jm 44 (by omega) (by omega), r76 10 (by omega) (by omega)]
        exact v1
      · unfold LGI at v2 ⊢
        rw [r76 10 (by omega) (by omega), r76 0 (by omega) (by omega), r76 1 (by omega) (by omega), jh 84 (by omega), jh 85 (by omega), jh 86 (by omega)]
        exact v2
      · rw [jm 45 (by omega) (by omega), jm 46 (by omega) (by omega), jm 47 (by omega) (by omega), jh 84 (by omega), jh 85 (by omega), jh 86 (by omega)]
        exact v3 k k1 k2
      · rw [jl 42 (by omega), k2, fu_same, j3]
        omega
      · have : pv (c 107) (c 75 45 - 1) 4 0 = e2 76 8 := sq.2.2.1
        omega
      · rw [j3] at hj
        obtain ⟨z, z1, z2, z3, z4⟩ := t1 j (by omega)
        have hz := (hrow j z (by omega) z1).1
        rw [jh 107 (by omega)]
        exact ⟨z, z1, WS.br hbr z2, SAN.br hbr (z3.fr (fS _ (by omega)) (fS _ (by omega)) (fS _ (by omega)) (fS _ (by omega))), by omega⟩
      · rcases t2 with q | q
        · exact Or.inl ⟨WB.br hbr q.1, SHO.br hbr q.1 (q.2.fr fun a a1 a2 => fS a (by omega))⟩
        · rw [fS s (by omega), r76 0 (by omega) (by omega), r76 1 (by omega) (by omega), r76 2 (by omega) (by omega), r76 3 (by omega) (by omega)]
          exact Or.inr q
theorem CON.cpy (h : CON W m c ho no po lo s D P d) (g1 : c' hd 4 = c ho 4) (g2 : c' hd 5 = c ho 5) (g3 : c' lg 3 = c lo 3) (g4 : c' (lg + 1) = c (lo + 1)) (g5 : c' (lg + 2) = c (lo + 2)) (g6 : c' (lg + 3) = c (lo + 3)) (g7 : c' pa 1 = P) (g8 : ∀ k b σ, SAN k b no c σ → SAN k b nw c' σ) (g9 : ∀ j : Nat, (j : Int) < P → ∃ y z, E' j = some y ∧ D j = some z ∧ ∀ k b σ, SAN k b z c σ → SAN k b y c' σ) (g10 : ∀ a, s ≤ a → a ≤ s + 7 → c' a = c a) : CON W m c' hd nw pa lg s E' P d := by
  obtain ⟨h1, h2, ⟨h3, h4, h5⟩, h6, ⟨h7, h8, h9⟩, h10, h11⟩ := h
  refine ⟨by rw [g1]; exact h1, by rw [g2]; exact h2, ⟨by rw [g3]; exact h3, h4, fun k k1 k2 => by rw [g4, g5, g6]; exact h5 k k1 k2⟩, ⟨g7, h6.2⟩, ⟨h7, g8 _ _ _ h8, h9⟩, fun j hj => ?_, ?_⟩
  · obtain ⟨y, z, y1, z1, ht⟩ := g9 j hj
    obtain ⟨z', z1', z2, z3, z4⟩ := h10 j hj
    rw [z1] at z1'
    cases z1'
    exact ⟨y, y1, z2, ht _ _ _ z3, z4⟩
  · rcases h11 with q | q
    · exact Or.inl ⟨q.1, q.2.fr g10⟩
    · rw [g10 s (by omega) (by omega)]
      exact Or.inr q
theorem SCN.up (h : SCN L sh c W m hd nw pa lg s D P d) (hL : L ≤ L') (hW : W ≤ W') (f1 : sh' hd = sh hd ∧ c' hd = c hd) (f2 : ∀ a, nw ≤ a → a ≤ nw + 3 → sh' a = sh a ∧ c' a = c a) (f3 : ∀ a, pa ≤ a → a ≤ pa + 1 → sh' a = sh a ∧ c' a = c a) (f4 : ∀ a, lg ≤ a → a ≤ lg + 3 → sh' a = sh a ∧ c' a = c a) (f5 : ∀ a, s ≤ a → a ≤ s + 7 → sh' a = sh a ∧ c' a = c a) (f6 : ∀ j y, j < 20 → D j = some y → ∀ a, y ≤ a → a ≤ y + 3 → sh' a = sh a ∧ c' a = c a) : SCN L' sh' c' W' m hd nw pa lg s D P d := by
  obtain ⟨⟨h1, h2, h3, ⟨g1, g2, g3, g4, g5⟩, h5, h6⟩, q2, q3, q4⟩ := h
  refine ⟨⟨by omega, by rw [f1.1]; exact h2, SanS_up h3 hL fun a a1 a2 => (f2 a a1 a2).1, ⟨by omega, by omega, by rw [(f3 pa (by omega) (by omega)).1]; exact g3, by rw [(f3 (pa + 1) (by omega) (by omega)).1]; exact g4, fun j y hj hy => ⟨(g5 j y hj hy).1, SanS_up (g5 j y hj hy).2 hL fun a a1 a2 => (f6 j y hj hy a a1 a2).1⟩⟩, LogS_up h5 hL fun a a1 a2 => (f4 a a1 a2).1, ShoS_up h6 hL fun a a1 a2 => (f5 a a1 a2).1⟩, q2, q3, ?_⟩
  exact (q4.mono hW (Int.le_refl m)).fr f1.2 (fun a a1 a2 => (f2 a a1 a2).2) (f3 pa (by omega) (by omega)).2 (fun a a1 a2 => (f4 a a1 a2).2) (fun a a1 a2 => (f5 a a1 a2).2) (fun j y hj hy a a1 a2 => (f6 j y hj hy a a1 a2).2)
/-- an image is laid down -/
theorem INVP.img (hI : INVP X xs i L sh c n m LD s D ID SS ED DD) {k r : Nat} (hk : k < 4) (hr : 115 ≤ r) (hrk : ID k = some r ∨ (ID k = none ∧ r = L)) (hL : L ≤ L') (hL2 : L' ≤ 115 + 100 * (i + 1)) (hn2 : n' ≤ 20000 + 5000 * (i + 1))
    (hs : ∀ a, a < L → ¬ a = 48 → (a < r ∨ r + 10 < a) → sh' a = sh a) (h48 : sh' 48 = (4, 6, rk 4 (fun j => if j = k then some r else ID j)))
    (hc : ∀ a, a < L → ¬ a = 75 → ¬ a = 108 → ¬ a = 113 → ¬ a = 114 → (a < r ∨ r + 10 < a) → (∀ j y, j < 20 → ED k j = some y → a < y ∨ y + 3 < a) → c' a = c a)
    (h75 : ∀ j, ¬ j = 56 → ¬ j = 57 → c' 75 j = c 75 j) (h113 : ∀ j : Int, (j < 1500 * (k : Int) ∨ 1500 * (k : Int) + 1441 ≤ j) → c' 113 j = c 113 j) (h113' : ∀ j, 0 ≤ j → j < 1441 → c' 113 (1500 * (k : Int) + j) = IM d j) (h114 : c' 114 = fu (c 114) (k : Int) 1)
    (hE : ∀ j z, j < 20 → E' j = some z → ED k j = some z ∨ (L ≤ z ∧ ¬ z = r + 1)) (hS : SCN L' sh' c' ((i + 1 : Nat) : Int) m r (r + 1) (r + 5) (r + 7) s E' (d 108 0) d) :
    INVP X xs (i + 1) L' sh' c' n' m LD s D (fun j => if j = k then some r else ID j) (fun j => if j = k then s else SS j) (fun j => if j = k then E' else ED j) (fun j => if j = k then d else DD j) := by
  obtain ⟨hb, ⟨h25, hx⟩, hg, hst, ⟨tp0, tp2, tp3⟩, ⟨r1, r2, r3, r4, r5, r6⟩, hsc, h480, him, hsep⟩ := id hI
  have hL0 := hI.L115
  have edr : ∀ k', k' < 4 → ∀ j y, j < 20 → ED k' j = some y → 115 ≤ y ∧ SanS L sh y := fun k' hk' j y hj hy => by
    cases hid : ID k' with
    | none =>
      rw [((him k' hk').1 hid).2 j] at hy
      cases hy
    | some r' => exact ((him k' hk').2 r' hid).2.2.1.1.2.2.2.1.2.2.2.2 j y hj hy
  have idr : ∀ k' r', k' < 4 → ID k' = some r' → r' + 10 < L := fun k' r' hk' hid => by
    have := ((him k' hk').2 r' hid).2.2.1.1.2.2.2.2.1.1
    omega
  have drow : ∀ j y, j < 20 → D j = some y → 115 ≤ y ∧ SanS L sh y := fun j y hj hy => hsc.1.2.2.2.1.2.2.2.2 j y hj hy
  have los : ∀ a, a < 115 → ¬ a = 48 → sh' a = sh a := fun a a1 a2 => hs a (by omega) a2 (by omega)
  have loc : ∀ a, a < 115 → ¬ a = 75 → ¬ a = 108 → ¬ a = 113 → ¬ a = 114 → c' a = c a := fun a a1 a2 a3 a4 a5 => hc a (by omega) a2 a3 a4 a5 (by omega) fun j y hj hy => by
    have := (edr k hk j y hj hy).1
    omega
  -- a block that is none of the image's own
  have key : ∀ {x w ci : Nat} {q : List (Option Nat)}, sh x = (6, ci, q) → 0 < w → BK sh x w → x + w ≤ L → (x + w ≤ 48 ∨ 115 ≤ x) → (ci = 6 → ¬ x = r) → (ci = 5 → ¬ x = r + 1 ∧ ∀ j y, j < 20 → ED k j = some y → ¬ x = y) → (ci = 4 → ¬ x = r + 5) → (ci = 3 → ¬ x = r + 7) → ∀ a, x ≤ a → a < x + w → sh' a = sh a ∧ c' a = c a := by
    intro x w ci q hq hw hbk hxL hx5 n6 n5 n4 n3 a a1 a2
    have hoff : a < r ∨ r + 10 < a := by
      rcases hrk with hid | ⟨_, hid⟩
      · obtain ⟨_, v2, ⟨⟨w1, w2, w3, w4, w5, w6⟩, _⟩, _⟩ := (him k hk).2 r hid
        have e1 := hbk.sep (BK.one w2) (by
          by_cases hci : ci = 6
          · exact n6 hci
          · exact hd_ne hq w2 hci)
        have e2 := hbk.sep w3.bk (by
          by_cases hci : ci = 5
          · exact (n5 hci).1
          · exact hd_ne hq w3.2.1 hci)
        have e3 := hbk.sep w4.bk (by
          by_cases hci : ci = 4
          · exact n4 hci
          · exact hd_ne hq w4.2.2.1 hci)
        have e4 := hbk.sep w5.bk (by
          by_cases hci : ci = 3
          · exact n3 hci
          · exact hd_ne hq w5.2.1 hci)
        omega
      · omega
    have hed : ∀ j y, j < 20 → ED k j = some y → a < y ∨ y + 3 < a := fun j y hj hy => by
      have h1 := edr k hk j y hj hy
      have := hbk.sep h1.2.bk (by
        by_cases hci : ci = 5
        · exact (n5 hci).2 j y hj hy
        · exact hd_ne hq h1.2.2.1 hci)
      omega
    exact ⟨hs a (by omega) (by omega) hoff, hc a (by omega) (by omega) (by omega) (by omega) (by omega) hoff hed⟩
  have hsep' := hsep
  obtain ⟨z1, z2, z3, z4⟩ := hsep'
  have dn1 : ∀ j y, j < 20 → D j = some y → ¬ y = r + 1 := fun j y hj hy => by
    rcases hrk with hid | ⟨_, hid⟩
    · exact (z3 k r j y hk hj hid).1 hy
    · have := (drow j y hj hy).2.1
      omega
  have en1 : ∀ k' j y, k' < 4 → j < 20 → ED k' j = some y → ¬ y = r + 1 := fun k' j y hk' hj hy => by
    rcases hrk with hid | ⟨_, hid⟩
    · exact (z3 k r j y hk hj hid).2 k' hk' hy
    · have := (edr k' hk' j y hj hy).2.1
      omega
  have rn : ∀ k' r', k' < 4 → ID k' = some r' → ¬ k' = k → ¬ r' = r := fun k' r' hk' hid hne e => by
    rcases hrk with hid2 | ⟨_, hid2⟩
    · exact hne (z4 k' k r hk' hk (by rw [← e]; exact hid) hid2)
    · have := idr k' r' hk' hid
      omega
  refine ⟨⟨hL2, hn2⟩, ⟨by rw [los 25 (by omega) (by omega)]; exact h25, by rw [loc 25 (by omega) (by omega) (by omega) (by omega) (by omega)]; exact hx⟩, ?_, ?_, ?_, ⟨?_, ?_, ?_, r4, ?_, fun q q1 q2 => ?_⟩, ?_, h48, fun k' hk' => ?_, ?_⟩
  · obtain ⟨_, _, _, ⟨s1, l1, g49⟩, _, ⟨g60, _⟩, g69, g70, _⟩ := id hg
    exact hg.up hL (fun a a1 _ _ _ _ a2 _ _ _ _ => los a a1 a2) ⟨s1, l1, by rw [los 49 (by omega) (by omega)]; exact g49.2.1⟩ (by rw [los 60 (by omega) (by omega)]; exact g60) (by rw [los 69 (by omega) (by omega)]; exact g69) (by rw [los 70 (by omega) (by omega)]; exact g70)
  · intro a ha
    obtain ⟨u1, u2⟩ := hst a ha
    rw [los a (by omega) (by omega), loc a (by omega) (by omega) (by omega) (by omega) (by omega)]
    exact ⟨u1, u2⟩
  · unfold TAP
    rw [loc 27 (by omega) (by omega) (by omega) (by omega) (by omega), loc 26 (by omega) (by omega) (by omega) (by omega) (by omega), loc 95 (by omega) (by omega) (by omega) (by omega) (by omega), h75 21 (by omega) (by omega)]
    exact ⟨tp0, tp2, tp3⟩
  · rw [los 28 (by omega) (by omega)]; exact r1
  · rw [loc 26 (by omega) (by omega) (by omega) (by omega) (by omega)]; exact r2
  · rw [h75 25 (by omega) (by omega)]; exact r3
  · rw [h75 30 (by omega) (by omega)]; exact r5
  · obtain ⟨u1, lr, u2, u3⟩ := r6 q q1 q2
    obtain ⟨y1, y2⟩ := mlaw_rows (c := c) (c' := c') (fun a ha => loc a (by omega) (by omega) (by omega) (by omega) (by omega)) q
    refine ⟨y1 u1, lr, u2, ?_⟩
    rw [y2]
    obtain ⟨w0, m1, k1, w1, w2⟩ := id u3
    have w3 := w1.1
    exact u3.at hL fun a a1 a2 => key w1.2.1 (by omega) w1.bk (by omega) (Or.inr w0) (fun h => absurd h (by decide)) (fun h => absurd h (by decide)) (fun h => absurd h (by decide)) (fun h => absurd h (by decide)) a a1 (by omega)
  · obtain ⟨⟨x1, x2, x3, x4, x5, x6⟩, y2, y3, y4⟩ := id hsc
    have l6 := x6.1
    have hup : SCN L' sh' c' ((i + 1 : Nat) : Int) m 29 38 42 44 s D (c 75 45) c := hsc.up hL (by omega) ⟨los 29 (by omega) (by omega), loc 29 (by omega) (by omega) (by omega) (by omega) (by omega)⟩ (fun a a1 a2 => ⟨los a (by omega) (by omega), loc a (by omega) (by omega) (by omega) (by omega) (by omega)⟩) (fun a a1 a2 => ⟨los a (by omega) (by omega), loc a (by omega) (by omega) (by omega) (by omega) (by omega)⟩) (fun a a1 a2 => ⟨los a (by omega) (by omega), loc a (by omega) (by omega) (by omega) (by omega) (by omega)⟩) (fun a a1 a2 => key x6.2.1 (by omega) x6.bk (by omega) (by omega) (fun h => absurd h (by decide)) (fun h => absurd h (by decide)) (fun h => absurd h (by decide)) (fun h => absurd h (by decide)) a a1 (by omega)) (fun j y hj hy a a1 a2 => by
      have h1 := drow j y hj hy
      have h2 := h1.2.1
      exact key h1.2.2.1 (by omega) h1.2.bk (by omega) (Or.inr h1.1) (fun h => absurd h (by decide)) (fun _ => ⟨dn1 j y hj hy, fun j' y' hj' hy' e => z1 k j j' y hk hj hj' hy (by rw [e]; exact hy')⟩) (fun h => absurd h (by decide)) (fun h => absurd h (by decide)) a a1 (by omega))
    rw [h75 45 (by omega) (by omega)]
    exact ⟨hup.1, hup.2.1, hup.2.2.1, CON.cg (IMR.rows fun a ha => loc a (by omega) (by omega) (by omega) (by omega) (by omega)) hup.2.2.2⟩
  · by_cases hkk : k' = k
    · subst hkk
      show IMS L' sh' c' ((i + 1 : Nat) : Int) m k' (if k' = k' then some r else ID k') (if k' = k' then s else SS k') (if k' = k' then E' else ED k') (if k' = k' then d else DD k')
      rw [if_pos rfl, if_pos rfl, if_pos rfl, if_pos rfl]
      refine ⟨fun q => (by cases q), fun r' hr' => ?_⟩
      cases hr'
      exact ⟨by rw [h114, fu_same]; omega, hr, hS, h113'⟩
    · show IMS L' sh' c' ((i + 1 : Nat) : Int) m k' (if k' = k then some r else ID k') (if k' = k then s else SS k') (if k' = k then E' else ED k') (if k' = k then d else DD k')
      rw [if_neg hkk, if_neg hkk, if_neg hkk, if_neg hkk]
      obtain ⟨u1, u2⟩ := him k' hk'
      refine ⟨fun q => ⟨by rw [h114, fu_ne (by omega)]; exact (u1 q).1, (u1 q).2⟩, fun r' hr' => ?_⟩
      obtain ⟨v1, v2, v3, v7⟩ := u2 r' hr'
      obtain ⟨⟨w1, w2, w3, w4, w5, w6⟩, _⟩ := id v3
      have l3 := w3.1
      have l4 := w4.2.1
      have l5 := w5.1
      have l6 := w6.1
      have hne := rn k' r' hk' hr' hkk
      refine ⟨by rw [h114, fu_ne (by omega)]; exact v1, v2, v3.up hL (by omega) ?_ (fun a a1 a2 => ?_) (fun a a1 a2 => ?_) (fun a a1 a2 => ?_) (fun a a1 a2 => ?_) (fun j y hj hy a a1 a2 => ?_), fun j j1 j2 => by rw [h113 _ (by omega)]; exact v7 j j1 j2⟩
      · exact key w2 (by omega) (BK.one w2) (by omega) (Or.inr v2) (fun _ => hne) (fun h => absurd h (by decide)) (fun h => absurd h (by decide)) (fun h => absurd h (by decide)) r' (by omega) (by omega)
      · exact key w3.2.1 (by omega) w3.bk (by omega) (by omega) (fun h => absurd h (by decide)) (fun _ => ⟨by omega, fun j y hj hy e => (z3 k' r' j y hk' hj hr').2 k hk hy e.symm⟩) (fun h => absurd h (by decide)) (fun h => absurd h (by decide)) a a1 (by omega)
      · exact key w4.2.2.1 (by omega) w4.bk (by omega) (by omega) (fun h => absurd h (by decide)) (fun h => absurd h (by decide)) (fun _ => by omega) (fun h => absurd h (by decide)) a a1 (by omega)
      · exact key w5.2.1 (by omega) w5.bk (by omega) (by omega) (fun h => absurd h (by decide)) (fun h => absurd h (by decide)) (fun h => absurd h (by decide)) (fun _ => by omega) a a1 (by omega)
      · have y2 := v3.2.1
        exact key w6.2.1 (by omega) w6.bk (by omega) (by omega) (fun h => absurd h (by decide)) (fun h => absurd h (by decide)) (fun h => absurd h (by decide)) (fun h => absurd h (by decide)) a a1 (by omega)
      · have h1 := edr k' hk' j y hj hy
        have h2 := h1.2.1
        exact key h1.2.2.1 (by omega) h1.2.bk (by omega) (Or.inr h1.1) (fun h => absurd h (by decide)) (fun _ => ⟨en1 k' j y hk' hj hy, fun j' y' hj' hy' e => z2 k' k j j' y hk' hk hkk hj hj' hy (by rw [e]; exact hy')⟩) (fun h => absurd h (by decide)) (fun h => absurd h (by decide)) a a1 (by omega)
  · refine ⟨fun k' a b y hk' ha hb hy he => ?_, fun k1 k2 a b y hk1 hk2 hne ha hb he1 he2 => ?_, fun k1 r1 a y hk1 ha hid => ⟨fun hy => ?_, fun k2 hk2 he => ?_⟩, fun k1 k2 r1 hk1 hk2 h1 h2 => ?_⟩
    · have he : (if k' = k then E' else ED k') b = some y := he
      by_cases q : k' = k
      · rw [if_pos q] at he
        rcases hE b y hb he with w | w
        · exact z1 k a b y hk ha hb hy w
        · have := (drow a y ha hy).2.1
          omega
      · rw [if_neg q] at he
        exact z1 k' a b y hk' ha hb hy he
    · have he1 : (if k1 = k then E' else ED k1) a = some y := he1
      have he2 : (if k2 = k then E' else ED k2) b = some y := he2
      by_cases q1 : k1 = k
      · rw [if_pos q1] at he1
        rw [if_neg (fun q2 => hne (q1.trans q2.symm))] at he2
        rcases hE a y ha he1 with w | w
        · exact z2 k k2 a b y hk hk2 (fun q2 => hne (q1.trans q2)) ha hb w he2
        · have := (edr k2 hk2 b y hb he2).2.1
          omega
      · rw [if_neg q1] at he1
        by_cases q2 : k2 = k
        · rw [if_pos q2] at he2
          rcases hE b y hb he2 with w | w
          · exact z2 k1 k a b y hk1 hk q1 ha hb he1 w
          · have := (edr k1 hk1 a y ha he1).2.1
            omega
        · rw [if_neg q2] at he2
          exact z2 k1 k2 a b y hk1 hk2 hne ha hb he1 he2
    · have hid : (if k1 = k then some r else ID k1) = some r1 := hid
      by_cases q : k1 = k
      · rw [if_pos q] at hid
        cases hid
        exact dn1 a y ha hy
      · rw [if_neg q] at hid
        exact (z3 k1 r1 a y hk1 ha hid).1 hy
    · have hid : (if k1 = k then some r else ID k1) = some r1 := hid
      have he : (if k2 = k then E' else ED k2) a = some y := he
      by_cases q : k1 = k
      · rw [if_pos q] at hid
        cases hid
        by_cases q2 : k2 = k
        · rw [if_pos q2] at he
          rcases hE a y ha he with w | w
          · exact en1 k a y hk ha w
          · exact w.2
        · rw [if_neg q2] at he
          exact en1 k2 a y hk2 ha he
      · rw [if_neg q] at hid
        by_cases q2 : k2 = k
        · rw [if_pos q2] at he
          rcases hE a y ha he with w | w
          · exact (z3 k1 r1 a y hk1 ha hid).2 k hk w
          · have := idr k1 r1 hk1 hid
            omega
        · rw [if_neg q2] at he
          exact (z3 k1 r1 a y hk1 ha hid).2 k2 hk2 he
    · have h1 : (if k1 = k then some r else ID k1) = some r1 := h1
      have h2 : (if k2 = k then some r else ID k2) = some r1 := h2
      by_cases q1 : k1 = k
      · rw [if_pos q1] at h1
        cases h1
        by_cases q2 : k2 = k
        · rw [q1, q2]
        · rw [if_neg q2] at h2
          exact absurd rfl (rn k2 r hk2 h2 q2)
      · rw [if_neg q1] at h1
        by_cases q2 : k2 = k
        · rw [if_pos q2] at h2
          cases h2
          exact absurd rfl (rn k1 r hk1 h1 q1)
        · rw [if_neg q2] at h2
          exact z4 k1 k2 r1 hk1 hk2 h1 h2
end STEPS6

/-! what holds ahead of every call -/
def GENS (L : Nat) (sh : Nat → SH) : Prop := MS L sh ∧ sh 26 = (6, 10, [some 27, some 28, some 29, some 48, some 49, some 56, some 60, some 69, some 70, some 74]) ∧ sh 27 = (1, 400, []) ∧ (∃ s1 l1, SeaS L sh s1 l1) ∧ SanS L sh 56 ∧ TO L sh ∧ (∃ t0 so, sh 69 = (6, 0, [t0, so])) ∧ (∃ t0, sh 70 = (6, 2, [t0, some 71, some 72, some 73])) ∧ sh 71 = (0, 400, []) ∧ sh 72 = (0, 25, []) ∧ sh 73 = (0, 10, []) ∧ sh 74 = (0, 250, [])
def TAP (c : Nat → Int → Int) : Prop := TP (c 27) (c 26 1) ∧ c 95 = c 27 ∧ c 75 21 = c 26 1
def RUL (L : Nat) (sh : Nat → SH) (c : Nat → Int → Int) (LD : Nat → Option Nat) (m : Int) : Prop := sh 28 = (4, 1, rk 6 LD) ∧ c 26 3 = m ∧ c 75 25 = m ∧ (0 ≤ m ∧ m ≤ 6) ∧ c 75 30 = 9 ∧ ∀ r : Int, 0 ≤ r → r < m → LW c r ∧ ∃ lr, LD r.toNat = some lr ∧ CL L sh c lr (mlaw c r)
def SCN (L : Nat) (sh : Nat → SH) (c : Nat → Int → Int) (W m : Int) (hd nw pa lg s : Nat) (D : Nat → Option Nat) (P : Int) (d : Nat → Int → Int) : Prop := SceS L sh hd nw pa lg s D ∧ (s = 30 ∨ 115 ≤ s) ∧ INJ D ∧ CON W m c hd nw pa lg s D P d
def IMS (L : Nat) (sh : Nat → SH) (c : Nat → Int → Int) (W m : Int) (k : Nat) (R : Option Nat) (s : Nat) (E : Nat → Option Nat) (d : Nat → Int → Int) : Prop := (R = none → c 114 k = 0 ∧ ∀ i, E i = none) ∧ ∀ r, R = some r → ¬ c 114 k = 0 ∧ 115 ≤ r ∧ SCN L sh c W m r (r + 1) (r + 5) (r + 7) s E (d 108 0) d ∧ ∀ j, 0 ≤ j → j < 1441 → c 113 (1500 * (k : Int) + j) = IM d j
def SEPA (D ID : Nat → Option Nat) (ED : Nat → Nat → Option Nat) : Prop := (∀ k i j y, k < 4 → i < 20 → j < 20 → D i = some y → ¬ ED k j = some y) ∧ (∀ k k' i j y, k < 4 → k' < 4 → ¬ k = k' → i < 20 → j < 20 → ED k i = some y → ¬ ED k' j = some y) ∧ (∀ k r i y, k < 4 → i < 20 → ID k = some r → (D i = some y → ¬ y = r + 1) ∧ ∀ k', k' < 4 → ED k' i = some y → ¬ y = r + 1) ∧ (∀ k k' r, k < 4 → k' < 4 → ID k = some r → ID k' = some r → k = k')
def INVP (X : Nat) (xs : Int → Int) (i : Nat) (L : Nat) (sh : Nat → SH) (c : Nat → Int → Int) (n : Nat) (m : Int) (LD : Nat → Option Nat) (s : Nat) (D ID : Nat → Option Nat) (SS : Nat → Nat) (ED : Nat → Nat → Option Nat) (DD : Nat → Nat → Int → Int) : Prop :=
  (L ≤ 115 + 100 * i ∧ n ≤ 20000 + 5000 * i) ∧ (sh 25 = (5, X, []) ∧ c 25 = xs) ∧ GENS L sh ∧ STRS sh c ∧ TAP c ∧ RUL L sh c LD m ∧ SCN L sh c i m 29 38 42 44 s D (c 75 45) c ∧ sh 48 = (4, 6, rk 4 ID) ∧ (∀ k, k < 4 → IMS L sh c i m k (ID k) (SS k) (ED k) (DD k)) ∧ SEPA D ID ED
def INV (X : Nat) (xs : Int → Int) (i : Nat) (L : Nat) (sh : Nat → SH) (c : Nat → Int → Int) (n : Nat) : Prop := ∃ m LD s D ID SS ED DD, INVP X xs i L sh c n m LD s D ID SS ED DD
section INVS
variable {X i i' L L' n n' : Nat} {xs : Int → Int} {sh sh' : Nat → SH} {c c' d : Nat → Int → Int} {m W P : Int} {LD D ID D' : Nat → Option Nat} {s s' : Nat} {SS : Nat → Nat} {ED : Nat → Nat → Option Nat} {DD : Nat → Nat → Int → Int} {hd nw pa lg : Nat}
theorem SanS_up {r : Nat} (h : SanS L sh r) (hL : L ≤ L') (hs : ∀ a, r ≤ a → a ≤ r + 3 → sh' a = sh a) : SanS L' sh' r := by
  obtain ⟨h1, h2, h3, h4, h5⟩ := h
  exact ⟨by omega, by rw [hs r (by omega) (by omega)]; exact h2, by rw [hs (r + 1) (by omega) (by omega)]; exact h3, by rw [hs (r + 2) (by omega) (by omega)]; exact h4, by rw [hs (r + 3) (by omega) (by omega)]; exact h5⟩
theorem LogS_up {r : Nat} (h : LogS L sh r) (hL : L ≤ L') (hs : ∀ a, r ≤ a → a ≤ r + 3 → sh' a = sh a) : LogS L' sh' r := by
  obtain ⟨h1, h2, h3, h4, h5⟩ := h
  exact ⟨by omega, by rw [hs r (by omega) (by omega)]; exact h2, by rw [hs (r + 1) (by omega) (by omega)]; exact h3, by rw [hs (r + 2) (by omega) (by omega)]; exact h4, by rw [hs (r + 3) (by omega) (by omega)]; exact h5⟩
theorem ShoS_up {r : Nat} (h : ShoS L sh r) (hL : L ≤ L') (hs : ∀ a, r ≤ a → a ≤ r + 7 → sh' a = sh a) : ShoS L' sh' r := by
  obtain ⟨h1, h2, h3, h4, h5, h6, h7, h8, h9⟩ := h
  exact ⟨by omega, by rw [hs r (by omega) (by omega)]; exact h2, by rw [hs (r + 1) (by omega) (by omega)]; exact h3, by rw [hs (r + 2) (by omega) (by omega)]; exact h4, by rw [hs (r + 3) (by omega) (by omega)]; exact h5, by rw [hs (r + 4) (by omega) (by omega)]; exact h6, by rw [hs (r + 5) (by omega) (by omega)]; exact h7, by rw [hs (r + 6) (by omega) (by omega)]; exact h8, by rw [hs (r + 7) (by omega) (by omega)]; exact h9⟩
theorem PasS_up (h : PasS L sh pa D) (hL : L ≤ L') (h1 : sh' pa = sh pa) (h2 : sh' (pa + 1) = sh (pa + 1)) (hs : ∀ a, 115 ≤ a → a < L → sh' a = sh a) : PasS L' sh' pa D := by
  obtain ⟨g1, g2, g3, g4, g5⟩ := h
  refine ⟨by omega, by omega, by rw [h1]; exact g3, by rw [h2]; exact g4, fun i y hi hy => ?_⟩
  obtain ⟨q1, q2⟩ := g5 i y hi hy
  exact ⟨q1, SanS_up q2 hL fun a a1 a2 => hs a (by omega) (by have := q2.1; omega)⟩
theorem SceS.imgup {r : Nat} {E : Nat → Option Nat} (hr : 115 ≤ r) (hs0 : s = 30 ∨ 115 ≤ s) (h : SceS L sh r (r + 1) (r + 5) (r + 7) s E) (hL : L ≤ L') (hs : ∀ a, a < L → ((29 < a ∧ a < 38) ∨ 115 ≤ a) → sh' a = sh a) : SceS L' sh' r (r + 1) (r + 5) (r + 7) s E := by
  obtain ⟨h1, h2, h3, h4, h5, h6⟩ := h
  have l3 := h3.1
  have l4 := h4.2.1
  have l5 := h5.1
  have l6 := h6.1
  exact ⟨by omega, by rw [hs r h1 (by omega)]; exact h2, SanS_up h3 hL fun a a1 a2 => hs a (by omega) (by omega), PasS_up h4 hL (hs _ (by omega) (by omega)) (hs _ (by omega) (by omega)) fun a a1 a2 => hs a a2 (by omega), LogS_up h5 hL fun a a1 a2 => hs a (by omega) (by omega), ShoS_up h6 hL fun a a1 a2 => hs a (by omega) (by omega)⟩
theorem GENS.up (h : GENS L sh) (hL : L ≤ L') (hs : ∀ a, a < 115 → ¬ a = 25 → ¬ a = 28 → ¬ a = 29 → ¬ a = 43 → ¬ a = 48 → ¬ a = 49 → ¬ a = 60 → ¬ a = 69 → ¬ a = 70 → sh' a = sh a) (h49 : ∃ s1 l1, sh' 49 = (6, 7, [s1, l1, some 50, some 51, some 52, some 53, some 54, some 55])) (h60 : ∃ t1 t2, sh' 60 = (6, 9, [t1, t2, some 61, some 65])) (h69 : ∃ t0 so, sh' 69 = (6, 0, [t0, so])) (h70 : ∃ t0, sh' 70 = (6, 2, [t0, some 71, some 72, some 73])) : GENS L' sh' := by
  obtain ⟨⟨g0, g1⟩, g2, g3, ⟨s1, l1, ⟨e1, e2, e3, e4, e5, e6, e7, e8⟩⟩, g5, ⟨_, t2, t3⟩, _, _, g9, g10, g11, g12⟩ := h
  obtain ⟨s2, l2, f49⟩ := h49
  have q : ∀ a, a < 115 → ¬ a = 25 → ¬ a = 28 → ¬ a = 29 → ¬ a = 43 → ¬ a = 48 → ¬ a = 49 → ¬ a = 60 → ¬ a = 69 → ¬ a = 70 → sh' a = sh a := hs
  refine ⟨⟨by omega, fun a a1 a2 => ?_⟩, ?_, ?_, ⟨s2, l2, by omega, f49, ?_, ?_, ?_, ?_, ?_, ?_⟩, SanS_up g5 hL fun a a1 a2 => q a (by omega) (by omega) (by omega) (by omega) (by omega) (by omega) (by omega) (by omega) (by omega) (by omega), ⟨h60, SanS_up t2 hL fun a a1 a2 => q a (by omega) (by omega) (by omega) (by omega) (by omega) (by omega) (by omega) (by omega) (by omega) (by omega), SanS_up t3 hL fun a a1 a2 => q a (by omega) (by omega) (by omega) (by omega) (by omega) (by omega) (by omega) (by omega) (by omega) (by omega)⟩, h69, h70, ?_, ?_, ?_, ?_⟩
  · rw [q a a2 (by omega) (by omega) (by omega) (by omega) (by omega) (by omega) (by omega) (by omega) (by omega)]; exact g1 a a1 a2
  all_goals rw [q _ (by omega) (by omega) (by omega) (by omega) (by omega) (by omega) (by omega) (by omega) (by omega) (by omega)]; assumption
theorem mlaw_rows (h : ∀ a, (a = 96 ∨ a = 97 ∨ a = 98 ∨ a = 99 ∨ a = 100 ∨ a = 101) → c' a = c a) (r : Int) : (LW c r → LW c' r) ∧ mlaw c' r = mlaw c r := by
  have e6 := h 96 (by omega)
  have e7 := h 97 (by omega)
  have e8 := h 98 (by omega)
  have e9 := h 99 (by omega)
  have e10 := h 100 (by omega)
  have e11 := h 101 (by omega)
  refine ⟨fun hl => ?_, ?_⟩
  · unfold LW
    rw [e6, e7, e8, e9, e10, e11]
    exact hl
  · have hm : ∀ (j : Nat) (x : Int), mla c' r x j = mla c r x j := by
      intro j
      induction j with
      | zero => intro x; rfl
      | succ j ih =>
        intro x
        show _ :: mla c' r (x + 1) j = _ :: mla c r (x + 1) j
        rw [ih, e6, e7, e9, e10, e11]
    unfold mlaw
    rw [e8]
    exact hm _ _
/-- the scene gives way to another -/
theorem INVP.sce (h : INVP X xs i L sh c n m LD s D ID SS ED DD) (hi : i ≤ i') (hL : L ≤ L') (hL2 : L' ≤ 115 + 100 * i') (hn2 : n' ≤ 20000 + 5000 * i')
    (hs : ∀ a, a < L → ¬ a = 29 → ¬ a = 43 → ¬ a = 49 → ¬ a = 60 → ¬ a = 69 → ¬ a = 70 → sh' a = sh a) (h49 : ∃ s1 l1, sh' 49 = (6, 7, [s1, l1, some 50, some 51, some 52, some 53, some 54, some 55])) (h60 : ∃ t1 t2, sh' 60 = (6, 9, [t1, t2, some 61, some 65])) (h69 : ∃ t0 so, sh' 69 = (6, 0, [t0, so])) (h70 : ∃ t0, sh' 70 = (6, 2, [t0, some 71, some 72, some 73]))
    (hc : ∀ a, a < L → (a < 26 ∨ (29 < a ∧ a < 38) ∨ 114 < a) → (∀ j y, j < 20 → D j = some y → a < y ∨ y + 3 < a) → c' a = c a)
    (h26 : c' 26 3 = c 26 3) (hT : TAP c') (h75 : c' 75 25 = c 75 25 ∧ c' 75 30 = c 75 30) (h113 : ∀ j, j < 6000 → c' 113 j = c 113 j) (h114 : c' 114 = c 114)
    (hR : ∀ r, 0 ≤ r → r < m → (LW c r → LW c' r) ∧ mlaw c' r = mlaw c r)
    (hS : SCN L' sh' c' i' m 29 38 42 44 s' D' (c' 75 45) c') (hD : ∀ j y, j < 20 → D' j = some y → (∃ j', j' < 20 ∧ D j' = some y) ∨ L ≤ y) : INVP X xs i' L' sh' c' n' m LD s' D' ID SS ED DD := by
  obtain ⟨hb, ⟨h25, hx⟩, hg, hst, htp, ⟨r1, r2, r3, r4, r5, r6⟩, hsc, h48, him, hsep⟩ := h
  have hL0 : 115 ≤ L := hg.1.1
  have hP : PasS L sh 42 D := hsc.1.2.2.2.1
  have hrow : ∀ j y, j < 20 → D j = some y → 115 ≤ y ∧ SanS L sh y := fun j y hj hy => hP.2.2.2.2 j y hj hy
  have lo : ∀ a, a < 115 → ∀ j y, j < 20 → D j = some y → a < y ∨ y + 3 < a := fun a ha j y hj hy => by have := (hrow j y hj hy).1; omega
  have off : ∀ {r w : Nat}, BK sh r w → (∀ j y, j < 20 → D j = some y → ¬ r = y) → ∀ a, r ≤ a → a < r + w → ∀ j y, j < 20 → D j = some y → a < y ∨ y + 3 < a := fun {r w} hb hn a a1 a2 j y hj hy => by
    have := hb.sep (hrow j y hj hy).2.bk (hn j y hj hy)
    omega
  have off6 : ∀ {r w ci : Nat} {q : List (Option Nat)}, BK sh r w → sh r = (6, ci, q) → ¬ ci = 5 → ∀ a, r ≤ a → a < r + w → ∀ j y, j < 20 → D j = some y → a < y ∨ y + 3 < a := fun {r w ci q} hb hq hci => off hb fun j y hj hy => hd_ne hq (hrow j y hj hy).2.2.1 hci
  refine ⟨⟨hL2, hn2⟩, ⟨?_, ?_⟩, ?_, ?_, hT, ⟨?_, by rw [h26]; exact r2, by rw [h75.1]; exact r3, r4, by rw [h75.2]; exact r5, fun r q1 q2 => ?_⟩, hS, ?_, fun k hk => ?_, ?_⟩
  · rw [hs 25 (by omega) (by omega) (by omega) (by omega) (by omega) (by omega) (by omega)]; exact h25
  · rw [hc 25 (by omega) (by omega) (lo 25 (by omega))]; exact hx
  · exact hg.up hL (fun a a1 _ _ a2 a3 _ a4 a5 a6 a7 => hs a (by omega) a2 a3 a4 a5 a6 a7) h49 h60 h69 h70
  · intro a ha
    obtain ⟨u1, u2⟩ := hst a ha
    rw [hs a (by omega) (by omega) (by omega) (by omega) (by omega) (by omega) (by omega), hc a (by omega) (by omega) (lo a (by omega))]
    exact ⟨u1, u2⟩
  · rw [hs 28 (by omega) (by omega) (by omega) (by omega) (by omega) (by omega) (by omega)]; exact r1
  · obtain ⟨u1, lr, u2, u3⟩ := r6 r q1 q2
    obtain ⟨v1, v2⟩ := hR r q1 q2
    refine ⟨v1 u1, lr, u2, ?_⟩
    rw [v2]
    obtain ⟨w0, m1, k, w1, w2⟩ := id u3
    have w3 := w1.1
    exact u3.at hL fun a a1 a2 => ⟨hs a (by omega) (by omega) (by omega) (by omega) (by omega) (by omega) (by omega), hc a (by omega) (by omega) (off6 w1.bk w1.2.1 (by decide) a a1 (by omega))⟩
  · rw [hs 48 (by omega) (by omega) (by omega) (by omega) (by omega) (by omega) (by omega)]; exact h48
  · obtain ⟨u1, u2⟩ := him k hk
    refine ⟨fun q => ⟨by rw [h114]; exact (u1 q).1, (u1 q).2⟩, fun r hr => ?_⟩
    obtain ⟨v1, v2, ⟨v3, v4, v5, v6⟩, v7⟩ := u2 r hr
    obtain ⟨w1, w2, w3, w4, w5, w6⟩ := id v3
    refine ⟨by rw [h114]; exact v1, v2, ⟨v3.imgup v2 v4 hL fun a a1 a2 => hs a a1 (by omega) (by omega) (by omega) (by omega) (by omega) (by omega), v4, v5, ?_⟩, fun j j1 j2 => by rw [h113 _ (by omega)]; exact v7 j j1 j2⟩
    refine (v6.mono (by omega) (Int.le_refl m)).fr ?_ (fun a a1 a2 => ?_) ?_ (fun a a1 a2 => ?_) (fun a a1 a2 => ?_) (fun j y hj hy a a1 a2 => ?_)
    · exact hc r w1 (by omega) (off6 (BK.one w2) w2 (by decide) r (by omega) (by omega))
    · exact hc a (by have := w3.1; omega) (by omega) (off w3.bk (fun j y hj hy e => (hsep.2.2.1 k r j y hk hj hr).1 hy e.symm) a a1 (by omega))
    · exact hc _ (by have := w4.2.1; omega) (by omega) (off6 w4.bk w4.2.2.1 (by decide) _ (by omega) (by omega))
    · exact hc a (by have := w5.1; omega) (by omega) (off6 w5.bk w5.2.1 (by decide) a a1 (by omega))
    · exact hc a (by have := w6.1; omega) (by omega) (off6 w6.bk w6.2.1 (by decide) a a1 (by omega))
    · have q := w4.2.2.2.2 j y hj hy
      exact hc a (by have := q.2.1; omega) (by omega) (off q.2.bk (fun j' y' hj' hy' e => hsep.1 k j' j y' hk hj' hj hy' (by rw [← e]; exact hy)) a a1 (by omega))
  · obtain ⟨p1, p2, p3, p4⟩ := hsep
    refine ⟨fun k a b y hk ha hb hy he => ?_, p2, fun k r a y hk ha hr => ⟨fun hy => ?_, (p3 k r a y hk ha hr).2⟩, p4⟩
    · rcases hD a y ha hy with ⟨j', q1, q2⟩ | q
      · exact p1 k j' b y hk q1 hb q2 he
      · cases hid : ID k with
        | none =>
          have := ((him k hk).1 hid).2 b
          rw [this] at he
          cases he
        | some r =>
          have := (((him k hk).2 r hid).2.2.1.1.2.2.2.1.2.2.2.2 b y hb he).2.1
          omega
    · rcases hD a y ha hy with ⟨j', q1, q2⟩ | q
      · exact (p3 k r j' y hk q1 hr).1 q2
      · have := ((him k hk).2 r hr).2.2.1.1.2.2.1.1
        omega
end INVS

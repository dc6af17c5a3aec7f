/-! one call: image and back -/
theorem aux_n2 {n n1 i : Nat} (h : n ≤ 20000 + 5000 * i) (k : n1 ≤ n + 1000) : n1 ≤ 20000 + 5000 * (i + 1) := by
  rw [Nat.mul_add]
  exact Nat.le_trans k (by omega)
theorem aux_l2 {L L' i : Nat} (h : L ≤ 115 + 100 * i) (k : L' ≤ L + 91) : L' ≤ 115 + 100 * (i + 1) := by omega
section STEPS7
variable {X i : Nat} {xs : Int → Int}
theorem step_29 {k : Int} : STEP X xs i 158 277 [.inl k] := by
  intro L sh c n G ⟨m, LD, s, D, ID, SS, ED, DD, hI⟩ hG
  obtain ⟨⟨b1, b2⟩, ⟨h25, hxs⟩, ⟨hMS, g26, _⟩, _, _, _, hscn, h48, him, ⟨z1, z2, z3, z4⟩⟩ := id hI
  have hL := hI.L115
  have hd := hI.dm
  obtain ⟨p1, p2, p3, p4, p5⟩ := hI.pst
  by_cases hk : 0 ≤ k ∧ k < 4
  · have hkn : k.toNat < 4 := by omega
    have hkc : ((k.toNat : Nat) : Int) = k := by omega
    have hsc := hI.scs
    have edr : ∀ j y, j < 20 → ED k.toNat j = some y → 115 ≤ y ∧ SanS L sh y := fun j y hj hy => by
      cases hid : ID k.toNat with
      | none =>
        rw [((him _ hkn).1 hid).2 j] at hy
        cases hy
      | some r' => exact ((him _ hkn).2 r' hid).2.2.1.1.2.2.2.1.2.2.2.2 j y hj hy
    have v8 : c 38 6 = c 76 8 := hI.ws.2.2.2.2.2.2.2
    have key : ∀ (r L' : Nat) (sh' : Nat → SH) (c' : Nat → Int → Int) (n' : Nat) (E' : Nat → Option Nat), 115 ≤ r → (ID k.toNat = some r ∨ (ID k.toNat = none ∧ r = L)) → CPY L sh c n r (r + 1) (r + 5) (r + 7) (ED k.toNat) 29 38 42 44 s D (c 75 45) L' sh' c' n' E' → (∀ a, a < L → ¬ a = 48 → (a < r ∨ r + 10 < a) → sh' a = sh a) → sh' 48 = (4, 6, rk 4 (fun j => if j = k.toNat then some r else ID j)) → G (some (.inl (c 38 6))) (hp L' sh' c') n' := by
      intro r L' sh' c' n' E' hr hrk ⟨⟨l1, l2, l3, l4⟩, hS', hI', hE', hnw, hrows, hpa, hl3, hl4, hl5, hl6, hh4, hh5, hfr⟩ hsh hs48
      have fr0 : ∀ a, a < L → (a < r ∨ r + 10 < a) → (∀ j y, j < 20 → ED k.toNat j = some y → a < y ∨ y + 3 < a) → c' a = c a := fun a a1 a2 a3 => hfr a a1 (by omega) (by omega) (by omega) (by omega) a3
      have lo : ∀ a, a < 115 → c' a = c a := fun a ha => fr0 a (by omega) (by omega) fun j y hj hy => by
        have := (edr j y hj hy).1
        omega
      refine hG _ L' sh' c' n' ⟨by omega, fun a q1 q2 => by rw [hsh a (by omega) (by omega) (by omega)]; exact hMS.2 a q1 q2⟩ (by rw [hsh 25 (by omega) (by omega) (by omega)]; exact h25) (by rw [lo 25 (by omega)]; exact hxs) fun G2 h2 => ?_
      refine c277 (c := c') ⟨by omega, fun a q1 q2 => by rw [hsh a (by omega) (by omega) (by omega)]; exact hMS.2 a q1 q2⟩ (k := k) ⟨hk.1, by omega⟩ ?_
      intro e he
      rw [show c' 76 8 = c 38 6 by rw [lo 76 (by omega), v8]]
      generalize hd0 : fr (fr c' 114 (fu (c' 114) k 1)) 108 (fu (c' 108) 0 (c' 75 45)) = d at he
      have d108 : d 108 0 = c 75 45 := by rw [← hd0, fr_same, fu_same, lo 75 (by omega)]
      have d114 : d 114 = fu (c 114) k 1 := by rw [← hd0, fr_ne (by omega), fr_same, lo 114 (by omega)]
      have dn : ∀ a, ¬ a = 108 → ¬ a = 114 → d a = c' a := fun a a1 a2 => by rw [← hd0, fr_ne a1, fr_ne a2]
      obtain ⟨e1, e2, e3, e4, e5, e6⟩ := he
      have en : ∀ a, ¬ a = 75 → ¬ a = 108 → ¬ a = 113 → ¬ a = 114 → e a = c' a := fun a a1 a2 a3 a4 => (e1 a a1 a3).trans (dn a a2 a4)
      have l6 := hsc.2.2.2.2.2.1
      have hS6 := hsc.2.2.2.2.2
      have hshr : ∀ a, s ≤ a → a ≤ s + 7 → c' a = c a := fun a a1 a2 => by
        have hs30 := hscn.2.1
        refine fr0 a (by omega) ?_ fun j y hj hy => ?_
        · rcases hrk with hid | ⟨_, hid⟩
          · obtain ⟨_, v2, ⟨⟨w1, w2, w3, w4, w5, w6⟩, _⟩, _⟩ := (him _ hkn).2 r hid
            have q1 := hS6.bk.sep (BK.one w2) (hd_ne hS6.2.1 w2 (by decide))
            have q2 := hS6.bk.sep w3.bk (hd_ne hS6.2.1 w3.2.1 (by decide))
            have q3 := hS6.bk.sep w4.bk (hd_ne hS6.2.1 w4.2.2.1 (by decide))
            have q4 := hS6.bk.sep w5.bk (hd_ne hS6.2.1 w5.2.1 (by decide))
            omega
          · omega
        · have h1 := edr j y hj hy
          have := hS6.bk.sep h1.2.bk (hd_ne hS6.2.1 h1.2.2.1 (by decide))
          omega
      have hC1 : CON (i : Int) m c' r (r + 1) (r + 5) (r + 7) s E' (c 75 45) c := hI.con.cpy hh4 hh5 hl3 hl4 hl5 hl6 hpa hnw hrows hshr
      have eb : ∀ a, (a < 75 ∨ 114 < a) → e a = c' a := fun a ha => en a (by omega) (by omega) (by omega) (by omega)
      have hC2 : CON ((i + 1 : Nat) : Int) m e r (r + 1) (r + 5) (r + 7) s E' (d 108 0) d := by
        rw [d108]
        refine CON.cg (d := c) (IMR.rows fun a ha => (dn a (by omega) (by omega)).trans (lo a (by omega))) ((hC1.mono (by omega) (Int.le_refl m)).fr (eb r (by omega)) (fun a a1 a2 => eb a (by omega)) (eb _ (by omega)) (fun a a1 a2 => eb a (by omega)) (fun a a1 a2 => eb a (by have := hscn.2.1; omega)) (fun j y hj hy a a1 a2 => eb a ?_))
        have := (hS'.2.2.2.1.2.2.2.2 j y hj hy).1
        omega
      refine h2 L' sh' e n' ⟨m, LD, s, D, _, _, _, _, hI.img (k := k.toNat) (r := r) (d := d) (E' := E') hkn hr hrk l1 (aux_l2 b1 l2) (aux_n2 b2 l4) hsh hs48 (fun a a1 a2 a3 a4 a5 a6 a7 => (en a a2 a3 a4 a5).trans (fr0 a a1 a6 a7)) (fun j j1 j2 => ?_) (fun j hj => ?_) (fun j j1 j2 => ?_) ?_ hE' ⟨hS', hscn.2.1, hI', hC2⟩⟩
      · rw [e2 j j1 j2, dn 75 (by omega) (by omega), lo 75 (by omega)]
      · rw [hkc] at hj
        rw [e5 j hj, dn 113 (by omega) (by omega), lo 113 (by omega)]
      · rw [hkc]
        exact e6 j j1 j2
      · rw [e1 114 (by omega) (by omega), d114, hkc]
    cases hid : ID k.toNat with
    | none =>
      have hnone : ED k.toNat = fun _ => none := funext fun j => ((him _ hkn).1 hid).2 j
      refine c158_n hL g26 hk h48 hid hsc hscn.2.1 p3 p4 p5 ?_
      intro L' sh' c' n' E' hC k1 k2
      exact key L L' sh' c' n' E' hL (Or.inr ⟨hid, rfl⟩) (by rw [hnone]; exact hC) (fun a a1 a2 _ => k1 a a1 a2) k2
    | some r =>
      obtain ⟨v1, v2, ⟨v3, v4, v5, v6⟩, v7⟩ := (him _ hkn).2 r hid
      refine c158_o hL g26 hk h48 hid v2 v3 hsc v5 (fun a b y ha hb hy hy' => z1 _ b a y hkn hb ha hy' hy) (fun a y ha hy => (z3 _ r a y hkn ha hid).2 _ hkn hy) (fun a y ha hy => (z3 _ r a y hkn ha hid).1 hy) p3 p4 p5 ?_
      intro L' sh' c' n' E' hC k1
      refine key r L' sh' c' n' E' v2 (Or.inl hid) hC (fun a a1 _ a3 => k1 a a1 (by omega) (by omega)) ?_
      rw [k1 48 (by omega) (by omega) (by omega), h48]
      congr 3
      funext j
      by_cases q : j = k.toNat
      · rw [if_pos q, q, hid]
      · rw [if_neg q]
  · rw [c158_x hL g26 (by omega)]
    exact step_z hI hG fun Q => y277 hMS hd.1 (by omega)
theorem step_30 {k : Int} : STEP X xs i 162 278 [.inl k] := by
  intro L sh c n G ⟨m, LD, s, D, ID, SS, ED, DD, hI⟩ hG
  obtain ⟨⟨b1, b2⟩, ⟨h25, hxs⟩, ⟨hMS, g26, _, ⟨s1, l1, g49⟩, _, ⟨g60, _⟩, g69, g70, _⟩, _, ⟨tp0, tp2, tp3⟩, _, hscn, h48, him, ⟨z1, z2, z3, z4⟩⟩ := id hI
  have hL := hI.L115
  have hd := hI.dm
  by_cases hk : 0 ≤ k ∧ k < 4
  · have hkn : k.toNat < 4 := by omega
    have hkc : ((k.toNat : Nat) : Int) = k := by omega
    have hsc := hI.scs
    have drow : ∀ j y, j < 20 → D j = some y → 115 ≤ y ∧ SanS L sh y := fun j y hj hy => hsc.2.2.2.1.2.2.2.2 j y hj hy
    cases hid : ID k.toNat with
    | none =>
      rw [c162_z hL g26 hk h48 hid]
      refine step_z hI hG fun Q => y278 hMS hd.1 fun q => q.2 ?_
      have := ((him _ hkn).1 hid).1
      rw [hkc] at this
      exact this
    | some r =>
      obtain ⟨v1, v2, ⟨v3, v4, v5, v6⟩, v7⟩ := (him _ hkn).2 r hid
      rw [hkc] at v1 v7
      generalize hdd : DD k.toNat = dd at v6 v7
      have hE4 := v6.2.2.2.1
      have hE6 := v6.2.2.2.2.2.1
      refine c162 hL g26 hk h48 hid v2 v3 hsc hscn.2.2.1 (fun a b y ha hb hy hy' => z1 _ b a y hkn hb ha hy' hy) (fun a y ha hy => (z3 _ r a y hkn ha hid).2 _ hkn hy) (fun a y ha hy => (z3 _ r a y hkn ha hid).1 hy) hE4.1 hE4.2 (fun j hj => by obtain ⟨z, hz, _⟩ := hE6 j hj; exact ⟨z, hz⟩) ?_
      intro L' sh' c' n' D' ⟨⟨l1', l2, l3, l4⟩, hS', hI', hE', hnw, hrows, hpa, hl3, hl4, hl5, hl6, hh4, hh5, hfr⟩ hsh
      have fr0 : ∀ a, a < L → ¬ a = 29 → (a < 38 ∨ 41 < a) → ¬ a = 42 → (a < 44 ∨ 47 < a) → (∀ j y, j < 20 → D j = some y → a < y ∨ y + 3 < a) → c' a = c a := hfr
      have lo : ∀ a, a < 115 → (a < 29 ∨ (29 < a ∧ a < 38) ∨ 47 < a) → c' a = c a := fun a ha h => fr0 a (by omega) (by omega) (by omega) (by omega) (by omega) fun j y hj hy => by
        have := (drow j y hj hy).1
        omega
      have hshr : ∀ a, SS k.toNat ≤ a → a ≤ SS k.toNat + 7 → c' a = c a := fun a a1 a2 => by
        have hS6 := v3.2.2.2.2.2
        have l6 := hS6.1
        refine fr0 a (by omega) (by omega) (by omega) (by omega) (by omega) fun j y hj hy => ?_
        have h1 := drow j y hj hy
        have := hS6.bk.sep h1.2.bk (hd_ne hS6.2.1 h1.2.2.1 (by decide))
        omega
      have hC1 : CON (i : Int) m c' 29 38 42 44 (SS k.toNat) D' (dd 108 0) dd := v6.cpy hh4 hh5 hl3 hl4 hl5 hl6 hpa hnw hrows hshr
      refine hG _ L' sh' c' n' ⟨by omega, fun a q1 q2 => by rw [hsh a (by omega) (by omega) (by omega)]; exact hMS.2 a q1 q2⟩ (by rw [hsh 25 (by omega) (by omega) (by omega)]; exact h25) (by rw [lo 25 (by omega) (by omega)]; exact hxs) fun G2 h2 => ?_
      refine c278 (c := c') ⟨by omega, fun a q1 q2 => by rw [hsh a (by omega) (by omega) (by omega)]; exact hMS.2 a q1 q2⟩ (k := k) ⟨hk.1, by omega⟩ (by rw [lo 114 (by omega) (by omega)]; exact v1) ?_
      rw [lo 113 (by omega) (by omega), lo 75 (by omega) (by omega)]
      intro e e1 e2 e3 e4
      have hIM : ∀ j, 0 ≤ j → j < 1441 → IM e j = IM dd j := fun j j1 j2 => (e4 j j1 j2).trans (v7 j j1 j2)
      obtain ⟨hr1, hr2⟩ := IMR.of hIM
      have e45 : e 75 45 = dd 108 0 := e3.trans (v7 75 (by omega) (by omega))
      have e8 : e 76 8 = c' 38 6 := by
        have q : c' 38 6 = dd 76 8 := hC1.2.2.2.2.1.2.1.2.2.2.2.2
        rw [q]
        exact hr1.1 8 (by omega) (by omega)
      rw [e8]
      have en : ∀ a, (a < 75 ∨ (88 < a ∧ a < 107) ∨ 108 < a) → e a = c' a := fun a ha => e1 a (by omega) (by omega) (by omega) (by omega) (by omega) (by omega) (by omega) (by omega) (by omega) (by omega) (by omega) (by omega) (by omega) (by omega) (by omega) (by omega)
      have hC2 : CON ((i + 1 : Nat) : Int) m e 29 38 42 44 (SS k.toNat) D' (e 75 45) e := by
        rw [e45]
        refine CON.cg hr1 ((hC1.mono (by omega) (Int.le_refl m)).fr (en 29 (by omega)) (fun a a1 a2 => en a (by omega)) (en 42 (by omega)) (fun a a1 a2 => en a (by omega)) (fun a a1 a2 => en a (by omega)) (fun j y hj hy a a1 a2 => en a ?_))
        have := (hS'.2.2.2.1.2.2.2.2 j y hj hy).1
        omega
      refine h2 L' sh' e n' ⟨m, LD, SS k.toNat, D', ID, SS, ED, DD, hI.sce (Nat.le_succ i) l1' (aux_l2 b1 l2) (aux_n2 b2 l4) (fun a a1 a2 a3 _ _ _ _ => hsh a a1 a2 a3) ⟨s1, l1, by rw [hsh 49 (by omega) (by omega) (by omega)]; exact g49.2.1⟩ (by rw [hsh 60 (by omega) (by omega) (by omega)]; exact g60) (by rw [hsh 69 (by omega) (by omega) (by omega)]; exact g69) (by rw [hsh 70 (by omega) (by omega) (by omega)]; exact g70) (fun a a1 a2 a3 => (en a (by omega)).trans (fr0 a a1 (by omega) (by omega) (by omega) (by omega) a3)) ?_ ?_ ⟨e2 25 (by omega) (by omega) (by omega), e2 30 (by omega) (by omega) (by omega)⟩ (fun j _ => ?_) ?_ (fun q _ _ => mlaw_rows (fun a ha => (en a (by omega)).trans (lo a (by omega) (by omega))) q) ⟨hS', v4, hI', hC2⟩ (fun j y hj hy => ?_)⟩
      · rw [en 26 (by omega), lo 26 (by omega) (by omega)]
      · unfold TAP
        rw [en 27 (by omega), en 26 (by omega), en 95 (by omega), e2 21 (by omega) (by omega) (by omega), lo 27 (by omega) (by omega), lo 26 (by omega) (by omega), lo 95 (by omega) (by omega)]
        exact ⟨tp0, tp2, tp3⟩
      · rw [en 113 (by omega), lo 113 (by omega) (by omega)]
      · rw [en 114 (by omega), lo 114 (by omega) (by omega)]
      · rcases hE' j y hj hy with q | q
        · exact Or.inl ⟨j, hj, q⟩
        · exact Or.inr q.1
  · have hx : k < 0 ∨ 4 ≤ k := by omega
    rw [c162_x hL g26 hx]
    exact step_z hI hG fun Q => y278 hMS hd.1 (fun q => by omega)
end STEPS7

/-! what the invariant tells of a question -/
theorem rows_eq {c e : Nat → Int → Int} (h : ∀ a, 74 < a → e a = c a) : bm e = bm c ∧ pm e = pm c ∧ lm e = lm c ∧ (∀ r, lmr e r = lmr c r) ∧ e 76 = c 76 ∧ e 77 = c 77 ∧ e 78 = c 78 ∧ e 79 = c 79 ∧ e 82 = c 82 ∧ e 75 = c 75 := by
  have hm := fun r => (mlaw_rows (c := c) (c' := e) (fun a ha => h a (by omega)) r).2
  refine ⟨?_, ?_, ?_, fun r => ?_, h 76 (by omega), h 77 (by omega), h 78 (by omega), h 79 (by omega), h 82 (by omega), h 75 (by omega)⟩
  · unfold bm; rw [h 76 (by omega), h 80 (by omega), h 81 (by omega), h 83 (by omega), h 87 (by omega), h 88 (by omega)]
  · unfold pm; rw [h 76 (by omega), h 77 (by omega), h 78 (by omega), h 79 (by omega), h 82 (by omega)]
  · unfold lm; rw [h 76 (by omega), hm]
  · unfold lmr; rw [hm]
theorem IMR.rows {c e : Nat → Int → Int} (h : ∀ a, (75 < a ∧ a < 89) ∨ a = 107 → e a = c a) : IMR c e :=
  ⟨fun i _ _ => by rw [h 76 (by omega)], fun x _ _ => by rw [h 77 (by omega), h 78 (by omega), h 87 (by omega)]; exact ⟨rfl, rfl, rfl⟩, fun f _ _ => by rw [h 79 (by omega), h 82 (by omega), h 80 (by omega), h 81 (by omega), h 88 (by omega)]; exact ⟨rfl, rfl, rfl, rfl, rfl⟩, fun k _ _ => by rw [h 83 (by omega)], fun k _ _ => by rw [h 84 (by omega), h 85 (by omega), h 86 (by omega)]; exact ⟨rfl, rfl, rfl⟩, fun j _ _ => by rw [h 107 (by omega)]⟩
section ENVS
variable {X i L n : Nat} {xs : Int → Int} {sh sh' : Nat → SH} {c c' : Nat → Int → Int} {m : Int} {LD D ID : Nat → Option Nat} {s : Nat} {SS : Nat → Nat} {ED : Nat → Nat → Option Nat} {DD : Nat → Nat → Int → Int}
theorem INVP.L115 (h : INVP X xs i L sh c n m LD s D ID SS ED DD) : 115 ≤ L := h.2.2.1.1.1
theorem INVP.ms (h : INVP X xs i L sh c n m LD s D ID SS ED DD) : MS L sh := h.2.2.1.1
theorem INVP.con (h : INVP X xs i L sh c n m LD s D ID SS ED DD) : CON i m c 29 38 42 44 s D (c 75 45) c := h.2.2.2.2.2.2.1.2.2.2
theorem INVP.scs (h : INVP X xs i L sh c n m LD s D ID SS ED DD) : SceS L sh 29 38 42 44 s D := h.2.2.2.2.2.2.1.1
theorem INVP.rul (h : INVP X xs i L sh c n m LD s D ID SS ED DD) : RUL L sh c LD m := h.2.2.2.2.2.1
theorem INVP.mo (h : INVP X xs i L sh c n m LD s D ID SS ED DD) : MO sh s := ⟨h.2.2.1.2.1, h.scs.2.1⟩
theorem INVP.mono (h : INVP X xs i L sh c n m LD s D ID SS ED DD) {i' : Nat} (hi : i ≤ i') : INVP X xs i' L sh c n m LD s D ID SS ED DD := by
  have hL := h.L115
  obtain ⟨⟨h1, h2⟩, h3, h4, h5, h6, h7, ⟨s1, s2, s3, s4⟩, h9, h10, h11⟩ := h
  refine ⟨⟨by omega, by omega⟩, h3, h4, h5, h6, h7, ⟨s1, s2, s3, s4.mono (by omega) (Int.le_refl m)⟩, h9, fun k hk => ?_, h11⟩
  obtain ⟨u1, u2⟩ := h10 k hk
  refine ⟨u1, fun r hr => ?_⟩
  obtain ⟨v1, v2, ⟨v3, v4, v5, v6⟩, v7⟩ := u2 r hr
  exact ⟨v1, v2, ⟨v3, v4, v5, v6.mono (by omega) (Int.le_refl m)⟩, v7⟩
theorem SceS.qup (hs0 : s = 30 ∨ 115 ≤ s) (h : SceS L sh 29 38 42 44 s D) (hs : ∀ a, a < L → ¬ a = 49 → ¬ a = 60 → ¬ a = 69 → ¬ a = 70 → sh' a = sh a) {L' : Nat} (hL : L ≤ L') : SceS L' sh' 29 38 42 44 s D := by
  obtain ⟨h1, h2, h3, h4, h5, h6⟩ := h
  have l3 := h3.1
  have l4 := h4.2.1
  have l5 := h5.1
  have l6 := h6.1
  exact ⟨by omega, by rw [hs 29 h1 (by omega) (by omega) (by omega) (by omega)]; exact h2, SanS_up h3 hL fun a a1 a2 => hs a (by omega) (by omega) (by omega) (by omega) (by omega), PasS_up h4 hL (hs _ (by omega) (by omega) (by omega) (by omega) (by omega)) (hs _ (by omega) (by omega) (by omega) (by omega) (by omega)) fun a a1 a2 => hs a a2 (by omega) (by omega) (by omega) (by omega), LogS_up h5 hL fun a a1 a2 => hs a (by omega) (by omega) (by omega) (by omega) (by omega), ShoS_up h6 hL fun a a1 a2 => hs a (by omega) (by omega) (by omega) (by omega) (by omega)⟩
/-- the scene stays; scratch, tape and rules' texts may change -/
theorem INVP.keep (h : INVP X xs i L sh c n m LD s D ID SS ED DD) {i' L' n' : Nat} (hi : i ≤ i') (hL : L ≤ L') (hL2 : L' ≤ 115 + 100 * i') (hn2 : n' ≤ 20000 + 5000 * i')
    (hs : ∀ a, a < L → ¬ a = 49 → ¬ a = 60 → ¬ a = 69 → ¬ a = 70 → sh' a = sh a) (h49 : ∃ s1 l1, sh' 49 = (6, 7, [s1, l1, some 50, some 51, some 52, some 53, some 54, some 55])) (h60 : ∃ t1 t2, sh' 60 = (6, 9, [t1, t2, some 61, some 65])) (h69 : ∃ t0 so, sh' 69 = (6, 0, [t0, so])) (h70 : ∃ t0, sh' 70 = (6, 2, [t0, some 71, some 72, some 73]))
    (hc : ∀ a, a < L → (a < 26 ∨ (28 < a ∧ a < 49) ∨ (75 < a ∧ a < 89) ∨ a = 107 ∨ 113 < a) → c' a = c a)
    (h26 : c' 26 3 = c 26 3) (hT : TAP c') (h75 : c' 75 25 = c 75 25 ∧ c' 75 30 = c 75 30 ∧ c' 75 45 = c 75 45) (h113 : ∀ j, j < 6000 → c' 113 j = c 113 j)
    (hR : ∀ r, 0 ≤ r → r < m → (LW c r → LW c' r) ∧ mlaw c' r = mlaw c r) : INVP X xs i' L' sh' c' n' m LD s D ID SS ED DD := by
  have hL0 := h.L115
  have hsc := h.scs
  obtain ⟨s1, s2, s3, s4⟩ := h.2.2.2.2.2.2.1
  have hrow : ∀ j y, j < 20 → D j = some y → 115 ≤ y ∧ SanS L sh y := fun j y hj hy => hsc.2.2.2.1.2.2.2.2 j y hj hy
  have sL := hsc.2.2.2.2.2.1
  refine h.sce hi hL hL2 hn2 (fun a a1 _ _ a4 a5 a6 a7 => hs a a1 a4 a5 a6 a7) h49 h60 h69 h70 (fun a a1 a2 _ => hc a a1 (by omega)) h26 hT ⟨h75.1, h75.2.1⟩ h113 (hc 114 (by omega) (by omega)) hR ⟨hsc.qup s2 hs hL, s2, s3, ?_⟩ (fun j y hj hy => Or.inl ⟨j, hj, hy⟩)
  rw [h75.2.2]
  refine CON.cg (d := c) (IMR.rows fun a ha => hc a (by omega) (by omega)) ((s4.mono (by omega) (Int.le_refl m)).fr (hc 29 (by omega) (by omega)) (fun a a1 a2 => hc a (by omega) (by omega)) (hc 42 (by omega) (by omega)) (fun a a1 a2 => hc a (by omega) (by omega)) (fun a a1 a2 => hc a (by omega) (by omega)) (fun j y hj hy a a1 a2 => ?_))
  have := hrow j y hj hy
  have l := this.2.1
  exact hc a (by omega) (by omega)
/-- a question of the class -/
theorem INVP.qc (h : INVP X xs i L sh c n m LD s D ID SS ED DD) (hs : ∀ a, ¬ a = 49 → ¬ a = 60 → sh' a = sh a) (h49 : ∃ s1 l1, sh' 49 = (6, 7, [s1, l1, some 50, some 51, some 52, some 53, some 54, some 55])) (h60 : ∃ t1 t2, sh' 60 = (6, 9, [t1, t2, some 61, some 65])) (hc : ∀ a, (a < 49 ∨ 74 < a) → c' a = c a) : INVP X xs i L sh' c' n m LD s D ID SS ED DD := by
  obtain ⟨⟨b1, b2⟩, _, ⟨_, _, _, _, _, _, ⟨t0, so, g69⟩, ⟨t1, g70⟩, _⟩, _, ⟨tp1, tp2, tp3⟩, _⟩ := id h
  refine h.keep (Nat.le_refl _) (Nat.le_refl _) b1 b2 (fun a _ a2 a3 _ _ => hs a a2 a3) h49 h60 ⟨t0, so, by rw [hs 69 (by omega) (by omega)]; exact g69⟩ ⟨t1, by rw [hs 70 (by omega) (by omega)]; exact g70⟩ (fun a _ a2 => hc a (by omega)) (by rw [hc 26 (by omega)]) ?_ (by rw [hc 75 (by omega)]; exact ⟨rfl, rfl, rfl⟩) (fun j _ => by rw [hc 113 (by omega)]) (fun r _ _ => mlaw_rows (fun a ha => hc a (by omega)) r)
  unfold TAP
  rw [hc 27 (by omega), hc 26 (by omega), hc 95 (by omega), hc 75 (by omega)]
  exact ⟨tp1, tp2, tp3⟩
/-- a question of the reference -/
theorem INVP.qx (h : INVP X xs i L sh c n m LD s D ID SS ED DD) (hx : QX c c') : INVP X xs i L sh c' n m LD s D ID SS ED DD := by
  obtain ⟨⟨b1, b2⟩, _, ⟨_, _, _, ⟨s1, l1, g49⟩, _, ⟨g60, _⟩, g69, g70, _⟩, _, ⟨tp1, tp2, tp3⟩, _⟩ := id h
  obtain ⟨x1, x2, x3⟩ := hx
  refine h.keep (Nat.le_refl _) (Nat.le_refl _) b1 b2 (fun a _ a2 a3 _ _ => rfl) ⟨s1, l1, g49.2.1⟩ g60 g69 g70 (fun a _ a2 => x1 a (by omega) (by omega)) (by rw [x1 26 (by omega) (by omega)]) ?_ ⟨x2 25 (by omega) (by omega) (by omega) (by omega), x2 30 (by omega) (by omega) (by omega) (by omega), x2 45 (by omega) (by omega) (by omega) (by omega)⟩ x3 (fun r _ _ => mlaw_rows (fun a ha => x1 a (by omega) (by omega)) r)
  unfold TAP
  rw [x1 27 (by omega) (by omega), x1 26 (by omega) (by omega), x1 95 (by omega) (by omega), x2 21 (by omega) (by omega) (by omega) (by omega)]
  exact ⟨tp1, tp2, tp3⟩
theorem INVP.dm (h : INVP X xs i L sh c n m LD s D ID SS ED DD) : DM (c 76) ∧ 0 ≤ c 76 0 * c 76 1 ∧ c 76 0 * c 76 1 ≤ 25 := h.con.dm
theorem INVP.ge (h : INVP X xs i L sh c n m LD s D ID SS ED DD) : GE L sh c s (c 76 0 * c 76 1) (c 76 2) (c 82) := by
  have hd := h.dm.1.2
  have hsc := h.scs
  obtain ⟨_, _, _, _, ⟨_, h8, _⟩, _, h11⟩ := h.con
  refine ⟨h.mo, hsc.2.2.2.2.2, hsc.2.2.1, h.L115, ?_, ?_, by omega, h8.2.2.1⟩
  · rcases h11 with q | ⟨⟨q0, _⟩, q⟩
    · exact q.2.1.2.1
    · rw [q.2.2.1, q0, Int.zero_mul]
  · rcases h11 with q | ⟨⟨_, _, q2, _⟩, q⟩
    · exact q.2.2.1.2.1
    · rw [q.2.2.2.1, q2]
theorem INVP.wb (h : INVP X xs i L sh c n m LD s D ID SS ED DD) (h0 : ¬ c 76 0 * c 76 1 = 0 ∨ ¬ c 76 2 = 0 ∨ ¬ c 76 0 = 0) : WB (bm c) ∧ SHO (bm c) s c := by
  rcases h.con.2.2.2.2.2.2 with q | ⟨⟨q0, q1, q2, q3⟩, q⟩
  · exact q
  · rw [q0, q1, q2] at h0
    exfalso
    omega
theorem INVP.nb (h : INVP X xs i L sh c n m LD s D ID SS ED DD) : (¬ c 76 0 * c 76 1 = 0 ↔ 0 < c 76 0) := by
  rcases h.con.2.2.2.2.2.2 with q | ⟨⟨q0, q1, q2, q3⟩, q⟩
  · have := q.1.1
    have h1 : 2 ≤ c 76 0 := this.1
    have h2 : 2 ≤ c 76 1 := this.2.2.1
    have : 2 * 2 ≤ c 76 0 * c 76 1 := Int.mul_le_mul h1 h2 (by omega) (by omega)
    omega
  · rw [q0, q1]
    omega
theorem INVP.ws (h : INVP X xs i L sh c n m LD s D ID SS ED DD) : WS (bm c) (pm c) ∧ c 76 8 ≤ i ∧ SAN True (bm c) 38 c (pm c) := ⟨h.con.2.2.2.2.1.1, h.con.2.2.2.2.1.2.2, h.con.2.2.2.2.1.2.1⟩
theorem INVP.lf (h : INVP X xs i L sh c n m LD s D ID SS ED DD) : LF c := by
  have hf := h.con.1
  obtain ⟨_, _, _, hm, _, hr⟩ := h.rul
  by_cases q : c 76 12 = -1
  · exact Or.inl q
  · exact Or.inr ⟨by omega, by omega, (hr _ (by omega) (by omega)).1⟩
theorem INVP.la (h : INVP X xs i L sh c n m LD s D ID SS ED DD) {r : Int} (h0 : -1 ≤ r) (h1 : r < m) : LA L sh c (if 0 ≤ r ∧ r < m then (rk 6 LD).getD r.toNat none else none) (lmr c r) := by
  obtain ⟨_, _, _, hm, _, hr⟩ := h.rul
  unfold lmr
  by_cases q : r = -1
  · rw [if_pos q, if_neg (by omega)]
    exact Or.inl ⟨rfl, rfl⟩
  · rw [if_neg q, if_pos ⟨by omega, h1⟩]
    obtain ⟨_, lr, u2, u3⟩ := hr r (by omega) h1
    refine Or.inr ⟨lr, mlaw c r, ?_, rfl, u3⟩
    rw [rk_getD (by omega)]
    exact u2
theorem INVP.cq (h : INVP X xs i L sh c n m LD s D ID SS ED DD) (hb : WB (bm c) ∧ SHO (bm c) s c) : ∃ v, CQ L sh c s v (bm c) (pm c) (lm c) := by
  obtain ⟨r1, r2, r3, hm, _, hr⟩ := h.rul
  have hsc := h.scs
  have hf := h.con.1
  obtain ⟨_, _, hg, _⟩ := id h
  have hla := h.la (r := c 76 12) hf.2.1 hf.2.2
  refine ⟨if 0 ≤ c 76 12 ∧ c 76 12 < m then (rk 6 LD).getD (c 76 12).toNat none else none, h.mo, hg.2.2.2.1, hsc.2.2.2.2.2, h.2.2.2.2.2.2.1.2.1, hsc.2.2.1, hg.2.2.2.2.1, ⟨1, rk 6 LD, m, c 76 12, r1, r2, by rw [rk_len]; omega, hf.1, rfl⟩, hb.1, h.ws.1, hb.2, h.ws.2.2, hla, hla.dyn⟩
theorem INVP.rv (h : INVP X xs i L sh c n m LD s D ID SS ED DD) (hb : WB (bm c) ∧ SHO (bm c) s c) : RV L sh c s (bm c) m (c 76 10) (lmr c) := by
  obtain ⟨r1, r2, r3, hm, _, hr⟩ := h.rul
  have hsc := h.scs
  obtain ⟨_, _, ⟨l1, l2, l3⟩, _⟩ := h.con
  obtain ⟨_, _, hg, _⟩ := id h
  refine ⟨h.mo, hg.2.2.2.1, hsc.2.2.2.2.2, h.2.2.2.2.2.2.1.2.1, hg.2.2.2.2.1, hsc.2.2.2.2.1, hg.2.2.2.2.2.2.2.2.2.2.2, hb.1, hb.2, ⟨hm.1, hm.2, r2⟩, ⟨l2.1, l2.2.1, l1, fun k k1 k2 => ?_⟩, ⟨1, rk 6 LD, r1, by rw [rk_len]; omega, fun r q1 q2 => h.la q1 q2⟩⟩
  obtain ⟨u1, u2, _⟩ := l2.2.2 k k1 k2
  obtain ⟨v1, v2, _⟩ := l3 k k1 (by have := l2.2.1; omega)
  rw [v1, v2]
  exact ⟨u1, u2⟩
end ENVS

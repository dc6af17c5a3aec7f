/-! one call: acts -/
theorem pv_sh {g h : Int → Int} {b : Nat → Int → Int} {j k : Int} (hb : b 0 0 * b 0 1 ≤ 25) (hb2 : b 0 2 ≤ 6) (he : ∀ t, 0 ≤ t → t < 64 → h (64 * j + t) = g (64 * k + t)) : SEq b (pv g k) (pv h j) := by
  refine ⟨fun x x1 x2 => ⟨?_, ?_⟩, fun f f1 f2 => ⟨?_, ?_⟩, ?_, ?_⟩
  · show g (64 * k + 2 + x) = h (64 * j + 2 + x)
    rw [show 64 * k + 2 + x = 64 * k + (2 + x) by omega, show 64 * j + 2 + x = 64 * j + (2 + x) by omega]
    exact (he _ (by omega) (by omega)).symm
  · show g (64 * k + 27 + x) = h (64 * j + 27 + x)
    rw [show 64 * k + 27 + x = 64 * k + (27 + x) by omega, show 64 * j + 27 + x = 64 * j + (27 + x) by omega]
    exact (he _ (by omega) (by omega)).symm
  · show g (64 * k + 52 + f) = h (64 * j + 52 + f)
    rw [show 64 * k + 52 + f = 64 * k + (52 + f) by omega, show 64 * j + 52 + f = 64 * j + (52 + f) by omega]
    exact (he _ (by omega) (by omega)).symm
  · show g (64 * k + 58 + f) = h (64 * j + 58 + f)
    rw [show 64 * k + 58 + f = 64 * k + (58 + f) by omega, show 64 * j + 58 + f = 64 * j + (58 + f) by omega]
    exact (he _ (by omega) (by omega)).symm
  · exact (he 0 (by omega) (by omega)).symm
  · exact (he 1 (by omega) (by omega)).symm
theorem pv_par {c : Nat → Int → Int} {h : Int → Int} {b : Nat → Int → Int} {j : Int} (hb : b 0 0 * b 0 1 ≤ 25) (hb2 : b 0 2 ≤ 6) (he : ∀ t, 0 ≤ t → t < 64 → h (64 * j + t) = PAR c t) : SEq b (pm c) (pv h j) := by
  refine ⟨fun x x1 x2 => ⟨?_, ?_⟩, fun f f1 f2 => ⟨?_, ?_⟩, ?_, ?_⟩
  · show c 77 x = h (64 * j + 2 + x)
    rw [show 64 * j + 2 + x = 64 * j + (2 + x) by omega, he _ (by omega) (by omega), par_77 (by omega) (by omega)]
    congr 1
    omega
  · show c 78 x = h (64 * j + 27 + x)
    rw [show 64 * j + 27 + x = 64 * j + (27 + x) by omega, he _ (by omega) (by omega), par_78 (by omega) (by omega)]
    congr 1
    omega
  · show c 79 f = h (64 * j + 52 + f)
    rw [show 64 * j + 52 + f = 64 * j + (52 + f) by omega, he _ (by omega) (by omega), par_79 (by omega) (by omega)]
    congr 1
    omega
  · show c 82 f = h (64 * j + 58 + f)
    rw [show 64 * j + 58 + f = 64 * j + (58 + f) by omega, he _ (by omega) (by omega), par_82 (by omega)]
    congr 1
    omega
  · exact (he 0 (by omega) (by omega)).symm
  · exact (he 1 (by omega) (by omega)).symm
theorem rows_eq2 {c e : Nat → Int → Int} (h : ∀ a, 74 < a → a < 115 → e a = c a) : bm e = bm c ∧ pm e = pm c ∧ lm e = lm c ∧ (LF c → LF e) ∧ e 76 = c 76 ∧ e 77 = c 77 ∧ e 78 = c 78 ∧ e 79 = c 79 ∧ e 82 = c 82 ∧ e 75 = c 75 := by
  have lr : LR c e := ⟨h 96 (by omega) (by omega), h 97 (by omega) (by omega), h 98 (by omega) (by omega), h 99 (by omega) (by omega), h 100 (by omega) (by omega), h 101 (by omega) (by omega)⟩
  have e76 := h 76 (by omega) (by omega)
  exact ⟨bm_ext e76 (h _ (by omega) (by omega)) (h _ (by omega) (by omega)) (h _ (by omega) (by omega)) (h _ (by omega) (by omega)) (h _ (by omega) (by omega)), pm_ext (h _ (by omega) (by omega)) (h _ (by omega) (by omega)) (h _ (by omega) (by omega)) (h _ (by omega) (by omega)) e76, lm_ext lr (by rw [e76]), LF_ext lr (by rw [e76]), e76, h _ (by omega) (by omega), h _ (by omega) (by omega), h _ (by omega) (by omega), h _ (by omega) (by omega), h _ (by omega) (by omega)⟩
section STEPS5
variable {X i L n : Nat} {xs : Int → Int} {sh : Nat → SH} {c : Nat → Int → Int} {m : Int} {LD D ID : Nat → Option Nat} {s : Nat} {SS : Nat → Nat} {ED : Nat → Nat → Option Nat} {DD : Nat → Nat → Int → Int} {K2 : Nat} {as : List AV} {G : Option AV → List SC → Nat → Prop}
theorem ACT.rows {L' n' y : Nat} {sh' : Nat → SH} {D' : Nat → Option Nat} {e : Nat → Int → Int} {ps : Int} (hL : 115 ≤ L) (hA : ACT L sh c n D ps L' sh' e n' D' y) (hy : 115 ≤ y) : ∀ a, a < 115 → ¬ a = 42 → (a < 38 ∨ 41 < a) → (a < 50 ∨ 55 < a) → e a = c a := fun a a1 a2 a3 a4 => hA.2.2.2.2.2.2.2.2.2.1 a (by omega) a2 (by omega) a3 a4
theorem INVP.act (hI : INVP X xs i L sh c n m LD s D ID SS ED DD) (hb : WB (bm c) ∧ SHO (bm c) s c) {L' n' y : Nat} {sh' : Nat → SH} {D' : Nat → Option Nat} {e e2 σ : Nat → Int → Int} (hA : ACT L sh c n D (c 75 45) L' sh' e n' D' y) (hy : 115 ≤ y) (hσ : SAN True (bm c) 38 e σ) (hw : WS (bm c) σ) (h8 : σ 4 0 ≤ (i : Int) + 1) (hP : PS e e2)
    (hr : ∀ a, (a < 75 ∨ (79 < a ∧ a < 82) ∨ (82 < a ∧ a < 103) ∨ 107 < a) → e2 a = e a) (h76 : ∀ j, ¬ j = 8 → ¬ j = 9 → e2 76 j = e 76 j) (hs : SEq (bm c) (pm e2) σ) : INVP X xs (i + 1) L' sh' e2 n' m LD s D' ID SS ED DD := by
  have el := hA.rows hI.L115 hy
  have hL := hI.L115
  have hN := hb.1.n25
  have hb2 := hb.1.2.1
  obtain ⟨⟨b1, b2⟩, ⟨h25, hxs⟩, ⟨_, _, _, ⟨s1, l1, g49⟩, _, ⟨g60, _⟩, g69, g70, _⟩, _, ⟨tp0, tp2, tp3⟩, _⟩ := id hI
  obtain ⟨⟨a1, a2, a3, a4⟩, ash, a49, aP, aI, aD, a42, aJ, aY, aF, aS⟩ := hA
  have hsc := hI.scs
  obtain ⟨q1, q2, q3, q4⟩ := hI.2.2.2.2.2.2.1
  obtain ⟨u1, u2, ⟨v1, v2, v3⟩, ⟨p1, p2, p3⟩, ⟨w1, w2, w3⟩, t1, t2⟩ := q4
  have hrow : ∀ j y, j < 20 → D j = some y → 115 ≤ y ∧ SanS L sh y := fun j y hj hy => hsc.2.2.2.1.2.2.2.2 j y hj hy
  have hpk := psk_rng (ps := c 75 45) ⟨p2, p3⟩
  have hyd := fun (_ : Unit) => aD _ y (by omega) aY
  have eh : ∀ a, 55 < a → a < 115 → e a = c a := fun a q1 q2 => el a q2 (by omega) (by omega) (by omega)
  have e75 := eh 75 (by omega) (by omega)
  have e76 := eh 76 (by omega) (by omega)
  have e107 := eh 107 (by omega) (by omega)
  have hrl : ∀ a, a < 75 → e2 a = e a := fun a ha => hr a (by omega)
  have hrh : ∀ a, 107 < a → e2 a = e a := fun a ha => hr a (by omega)
  have hrm : ∀ a, 82 < a → a < 103 → e2 a = c a := fun a q1 q2 => (hr a (by omega)).trans (eh a (by omega) (by omega))
  have r76 : ∀ j, ¬ j = 8 → ¬ j = 9 → e2 76 j = c 76 j := fun j q1 q2 => by rw [h76 j q1 q2, e76]
  have e29 : e2 29 = c 29 := (hrl 29 (by omega)).trans (el 29 (by omega) (by omega) (by omega) (by omega))
  have ell : ∀ a, 42 < a → a < 50 → e2 a = c a := fun a q1 q2 => (hrl a (by omega)).trans (el a (by omega) (by omega) (by omega) (by omega))
  have hbr : BRG (bm c) (bm e2) := ⟨fun k k1 k2 => r76 k (by omega) (by omega), fun f _ _ _ => ⟨by show e2 80 f = c 80 f; rw [hr 80 (by omega), eh 80 (by omega) (by omega)], by show e2 81 f = c 81 f; rw [hr 81 (by omega), eh 81 (by omega) (by omega)], by show e2 88 f = c 88 f; rw [hrm 88 (by omega) (by omega)]⟩, fun k _ _ _ => by show e2 83 k = c 83 k; rw [hrm 83 (by omega) (by omega)], fun x _ _ => by show e2 87 x = c 87 x; rw [hrm 87 (by omega) (by omega)]⟩
  have hs' := hs.symm
  have P45 : e2 75 45 = psk (c 75 45) + 1 := by rw [hP.1, e75]
  have P75 : ∀ j, ¬ j = 45 → ¬ j = 46 → ¬ j = 47 → e2 75 j = c 75 j := fun j q1 q2 q3 => by rw [hP.2.2.2 j q1 q2 q3, e75]
  have offL : ∀ a, a < L → (∀ j y, j < 20 → D j = some y → a < y ∨ y + 3 < a) → a < y ∨ y + 3 < a := fun a q1 q2 => by
    rcases hyd () with ⟨j, j1, j2⟩ | q
    · exact q2 j y j1 j2
    · omega
  have hsh : ∀ a, s ≤ a → a ≤ s + 7 → e2 a = c a := fun a c1 c2 => by
    have hS6 := hsc.2.2.2.2.2
    have l6 := hS6.1
    have : a < y ∨ y + 3 < a := by
      rcases hyd () with ⟨j, j1, j2⟩ | q
      · have h1 := hrow j y j1 j2
        have := hS6.bk.sep h1.2.bk (hd_ne hS6.2.1 h1.2.2.1 (by decide))
        omega
      · omega
    exact (hr a (by omega)).trans (aF a (by omega) (by omega) this (by omega) (by omega))
  have hpar : ∀ t, PAR e t = PAR c t := fun t => by
    unfold PAR
    rw [e76, eh 77 (by omega) (by omega), eh 78 (by omega) (by omega), eh 79 (by omega) (by omega), eh 82 (by omega) (by omega)]
  have hps : 0 ≤ pss (c 75 45) ∧ psk (c 75 45) + pss (c 75 45) ≤ c 75 45 := by
    unfold pss psk
    split <;> omega
  obtain ⟨hP1, hP2, hP3, hP4⟩ := hP
  rw [e75] at hP2 hP3
  refine hI.sce (Nat.le_succ i) a1 (by omega) (by omega) (fun a q1 q2 q3 q4 _ _ _ => ash a q1 q3 q4) a49 (by rw [ash 60 (by omega) (by omega) (by omega)]; exact g60) (by rw [ash 69 (by omega) (by omega) (by omega)]; exact g69) (by rw [ash 70 (by omega) (by omega) (by omega)]; exact g70) (fun a q1 q2 q3 => (hr a (by omega)).trans (aF a q1 (by omega) (offL a q1 q3) (by omega) (by omega))) ?_ ?_ ?_ (fun j _ => ?_) ?_ (fun r _ _ => mlaw_rows (fun a ha => hrm a (by omega) (by omega)) r) ⟨?_, q2, aI, ?_⟩ (fun j z hj hz => (aD j z hj hz).imp id fun q => by omega)
  · rw [hrl 26 (by omega), el 26 (by omega) (by omega) (by omega) (by omega)]
  · unfold TAP
    rw [hrl 27 (by omega), hrl 26 (by omega), hrm 95 (by omega) (by omega), P75 21 (by omega) (by omega) (by omega), el 27 (by omega) (by omega) (by omega) (by omega), el 26 (by omega) (by omega) (by omega) (by omega)]
    exact ⟨tp0, tp2, tp3⟩
  · exact ⟨P75 25 (by omega) (by omega) (by omega), P75 30 (by omega) (by omega) (by omega)⟩
  · rw [hrh 113 (by omega), eh 113 (by omega) (by omega)]
  · rw [hrh 114 (by omega), eh 114 (by omega) (by omega)]
  · obtain ⟨x1, x2, x3, x4, x5, x6⟩ := hsc
    have x7 := x6.1
    exact ⟨by omega, by rw [ash 29 (by omega) (by omega) (by omega)]; exact x2, SanS_up x3 a1 fun a q1 q2 => ash a (by omega) (by omega) (by omega), aP, LogS_up x5 a1 fun a q1 q2 => ash a (by omega) (by omega) (by omega), ShoS_up x6 a1 fun a q1 q2 => ash a (by omega) (by omega) (by omega)⟩
  · refine ⟨?_, ?_, ⟨?_, ?_, fun k k1 k2 => ?_⟩, ?_, ⟨WS.br hbr (WS.of hs' hw), SAN.br hbr ((hσ.fr (hrl 38 (by omega)) (hrl 39 (by omega)) (hrl 40 (by omega)) (hrl 41 (by omega))).sq hs'), ?_⟩, fun j hj => ?_, Or.inl ⟨WB.br hbr hb.1, SHO.br hbr hb.1 (hb.2.fr hsh)⟩⟩
    · rw [e29, r76 12 (by omega) (by omega)]
      exact u1
    · rw [e29, r76 11 (by omega) (by omega)]
      exact u2
    · rw [ell 44 (by omega) (by omega), r76 10 (by omega) (by omega)]
      exact v1
    · unfold LGI at v2 ⊢
      rw [r76 10 (by omega) (by omega), r76 0 (by omega) (by omega), r76 1 (by omega) (by omega), hrm 84 (by omega) (by omega), hrm 85 (by omega) (by omega), hrm 86 (by omega) (by omega)]
      exact v2
    · rw [ell 45 (by omega) (by omega), ell 46 (by omega) (by omega), ell 47 (by omega) (by omega), hrm 84 (by omega) (by omega), hrm 85 (by omega) (by omega), hrm 86 (by omega) (by omega)]
      exact v3 k k1 k2
    · rw [hrl 42 (by omega), a42, P45]
      omega
    · have : e2 76 8 = σ 4 0 := hs.2.2.1
      rw [this]
      omega
    · rw [P45] at hj
      by_cases hjk : (j : Int) < psk (c 75 45)
      · have hDj := aJ j hjk
        obtain ⟨z, z1, z2, z3, z4⟩ := t1 (j + (pss (c 75 45)).toNat) (by omega)
        rw [z1] at hDj
        have sq : SEq (bm c) (pv (c 107) ((j + (pss (c 75 45)).toNat : Nat) : Int)) (pv (e2 107) j) := pv_sh hN.2 (by omega) fun t c1 c2 => by
          rw [hP2 _ (by omega) (by omega), e107]
          congr 1
          omega
        have hz := hrow _ z (by omega) z1
        have hzL := hz.2.1
        have hz' := aP.2.2.2.2 j z (by omega) hDj
        have hyy := aP.2.2.2.2 _ y (by omega) aY
        have hne : ¬ z = y := fun q => by
          have := aI j (psk (c 75 45)).toNat z (by omega) (by omega) hDj (by rw [q]; exact aY)
          omega
        have hsp := hz'.2.bk.sep hyy.2.bk hne
        have fz : ∀ a, z ≤ a → a ≤ z + 3 → e2 a = c a := fun a c1 c2 => (hr a (by omega)).trans (aF a (by omega) (by omega) (by omega) (by omega) (by omega))
        exact ⟨z, hDj, WS.br hbr (WS.of sq z2), SAN.br hbr ((z3.fr (fz _ (by omega) (by omega)) (fz _ (by omega) (by omega)) (fz _ (by omega) (by omega)) (fz _ (by omega) (by omega))).sq sq), by rw [← sq.2.2.1]; omega⟩
      · have hje : (j : Int) = psk (c 75 45) := by omega
        have sq : SEq (bm c) (pm c) (pv (e2 107) j) := pv_par hN.2 (by omega) fun t c1 c2 => by
          rw [hje, hP3 t c1 c2]
          exact hpar t
        have hjn : j = (psk (c 75 45)).toNat := by omega
        refine ⟨y, by rw [hjn]; exact aY, WS.br hbr (WS.of sq w1), SAN.br hbr (((aS True (bm c) (pm c) w2).fr (hr _ (by omega)) (hr _ (by omega)) (hr _ (by omega)) (hr _ (by omega))).sq sq), ?_⟩
        rw [← sq.2.2.1]
        have : pm c 4 0 = c 76 8 := rfl
        omega
theorem step_act (hI : INVP X xs i L sh c n m LD s D ID SS ED DD) (hG : GHY X xs i K2 as G) (hb : WB (bm c) ∧ SHO (bm c) s c) {L' n' y : Nat} {sh' : Nat → SH} {D' : Nat → Option Nat} {e σ : Nat → Int → Int} (hA : ACT L sh c n D (c 75 45) L' sh' e n' D' y) (hy : 115 ≤ y) (hσ : SAN True (bm c) 38 e σ) (hw : WS (bm c) σ) (h8 : σ 4 0 ≤ (i : Int) + 1) {v : Int}
    (hr : MS L' sh' → (∀ a, 74 < a → a < 115 → e a = c a) → ∀ G2 : Option AV → List SC → Nat → Prop, (∀ e2, PS e e2 → (∀ a, (a < 75 ∨ (79 < a ∧ a < 82) ∨ (82 < a ∧ a < 103) ∨ 107 < a) → e2 a = e a) → (∀ j, ¬ j = 8 → ¬ j = 9 → e2 76 j = e 76 j) → SEq (bm c) (pm e2) σ → G2 (some (.inl v)) (hp L' sh' e2) n') → tc_C K2 (rf 75 :: as) (hp L' sh' e) n' G2) : G (some (.inl v)) (hp L' sh' e) n' := by
  have el := hA.rows hI.L115 hy
  have hL := hI.L115
  have hMS := hI.ms
  have ash := hA.2.1
  have aL := hA.1.1
  refine hG v L' sh' e n' ⟨by omega, fun a q1 q2 => by rw [ash a (by omega) (by omega) (by omega)]; exact hMS.2 a q1 q2⟩ (by rw [ash 25 (by omega) (by omega) (by omega)]; exact hI.2.1.1) (by rw [el 25 (by omega) (by omega) (by omega) (by omega)]; exact hI.2.1.2) fun G2 h2 => ?_
  refine hr ⟨by omega, fun a q1 q2 => by rw [ash a (by omega) (by omega) (by omega)]; exact hMS.2 a q1 q2⟩ (fun a q1 q2 => el a q2 (by omega) (by omega) (by omega)) G2 fun e2 k1 k2 k3 k4 => ?_
  exact h2 L' sh' e2 n' ⟨m, LD, s, D', ID, SS, ED, DD, hI.act hb hA hy hσ hw h8 k1 k2 k3 k4⟩
theorem INVP.pst (hI : INVP X xs i L sh c n m LD s D ID SS ED DD) : PasS L sh 42 D ∧ INJ D ∧ c 42 1 = c 75 45 ∧ (0 ≤ c 75 45 ∧ c 75 45 ≤ 20) ∧ (∀ j : Nat, (j : Int) < c 75 45 → ∃ y, D j = some y) := by
  obtain ⟨_, _, _, ⟨p1, p2, p3⟩, _, t1, _⟩ := hI.con
  refine ⟨hI.scs.2.2.2.1, hI.2.2.2.2.2.2.1.2.2.1, p1, ⟨p2, p3⟩, fun j hj => ?_⟩
  obtain ⟨y, y1, _⟩ := t1 j hj
  exact ⟨y, y1⟩
theorem step_8 (hi : i ≤ 600) : STEP X xs i 84 222 [] := by
  intro L sh c n G ⟨m, LD, s, D, ID, SS, ED, DD, hI⟩ hG
  have hd := hI.dm
  have h9 := hI.ws.2.1
  have hn := hI.nb
  by_cases h0 : c 76 0 * c 76 1 = 0
  · rw [z84 hI.ge h0]
    exact step_z hI hG fun Q => y222 hI.ms hd.1 (fun q => hn.mpr q h0)
  · have hb := hI.wb (Or.inl h0)
    obtain ⟨v, hC⟩ := hI.cq hb
    obtain ⟨p1, p2, p3, p4, p5⟩ := hI.pst
    refine c84 hC (by show c 76 8 ≤ 700; omega) p1 p2 p3 p4 p5 ?_
    intro L' sh' e n' D' y hA hy hσ
    have h4 : stp (bm c) (pm c) (lm c) (tof (bm c) (pm c 4 0)) 4 0 = c 76 8 + 1 := rfl
    refine step_act hI hG hb hA hy hσ (stp_ws hb.1 hI.ws.1 (by show c 76 8 < 900; omega)) (by rw [h4]; omega) fun hM er G2 h2 => ?_
    obtain ⟨eb, ep, el, ef, e76, e77, e78, e79, e82, e75⟩ := rows_eq2 er
    refine c222 (c := e) hM (by rw [eb]; exact hb.1) (by rw [eb, ep]; exact hI.ws.1) (ef hI.lf) (by rw [e76]; omega) (by rw [e75]; exact p4) ?_
    rw [eb, ep, el, e76]
    intro e2 k1 k2 k3 k4
    exact h2 e2 k1 (fun a ha => k2 a (by omega) (by omega) (by omega) (by omega) (by omega) (by omega) (by omega) (by omega) (by omega) (by omega)) (fun j j1 j2 => by rw [k3 j j1 j2, e76]) k4
theorem step_9 (hi : i ≤ 600) {x d : Int} : STEP X xs i 104 231 [.inl x, .inl d] := by
  intro L sh c n G ⟨m, LD, s, D, ID, SS, ED, DD, hI⟩ hG
  have hd := hI.dm
  have h9 := hI.ws.2.1
  by_cases hg : (0 ≤ x ∧ x < c 76 0 * c 76 1) ∧ 0 ≤ d ∧ d ≤ 3
  · have hb := hI.wb (Or.inl (by omega))
    obtain ⟨v, hC⟩ := hI.cq hb
    obtain ⟨p1, p2, p3, p4, p5⟩ := hI.pst
    refine c104 hC p1 p2 p3 p4 p5 hg.1 hg.2 ?_ ?_
    · intro h0
      refine step_q hI hG fun G2 h2 => ?_
      exact c231 hI.ms hb.1 hI.ws.1 p4 hg.1 hg.2 (fun _ => h2 c (QX.refl c)) (fun h1 => by rw [h0] at h1; omega)
    · intro h1 L' sh' e n' D' y hA hy hσ
      have hx4 : 4 * x + d < 4 * (bm c 0 0 * bm c 0 1) := by show 4 * x + d < 4 * (c 76 0 * c 76 1); omega
      refine step_act hI hG hb hA hy hσ (dgs_ws hb.1 hI.ws.1 (by omega) hx4 h1) (by show c 76 8 ≤ (i : Int) + 1; omega) fun hM er G2 h2 => ?_
      obtain ⟨eb, ep, el, ef, e76, e77, e78, e79, e82, e75⟩ := rows_eq2 er
      refine c231 (c := e) hM (by rw [eb]; exact hb.1) (by rw [eb, ep]; exact hI.ws.1) (by rw [e75]; exact p4) (by rw [e76]; exact hg.1) hg.2 ?_ ?_
      · intro h0
        rw [eb, ep, h1] at h0
        omega
      · rw [eb, ep]
        intro _ e2 k1 k2 k4
        exact h2 e2 k1 (fun a ha => k2 a (by omega) (by omega) (by omega)) (fun j _ _ => by rw [k2 76 (by omega) (by omega) (by omega)]) k4
  · rw [z104 hI.ge hg]
    exact step_z hI hG fun Q => y231 hI.ms hd.1 hg
theorem step_10 (hi : i ≤ 600) {f : Int} : STEP X xs i 107 234 [.inl f] := by
  intro L sh c n G ⟨m, LD, s, D, ID, SS, ED, DD, hI⟩ hG
  have hd := hI.dm
  have h9 := hI.ws.2.1
  by_cases hg : (0 ≤ f ∧ f < c 76 2) ∧ c 82 f = -1
  · have hb := hI.wb (Or.inr (Or.inl (by omega)))
    obtain ⟨v, hC⟩ := hI.cq hb
    obtain ⟨p1, p2, p3, p4, p5⟩ := hI.pst
    refine c107 hC p1 p2 p3 p4 p5 hg.1 hg.2 ?_
    intro L' sh' e n' D' y hA hy hσ
    refine step_act hI hG hb hA hy hσ (giv_ws hI.ws.1 hg.1) (by show c 76 8 ≤ (i : Int) + 1; omega) fun hM er G2 h2 => ?_
    obtain ⟨eb, ep, el, ef, e76, e77, e78, e79, e82, e75⟩ := rows_eq2 er
    refine c234 (c := e) hM (by rw [eb]; exact hb.1) (by rw [eb, ep]; exact hI.ws.1) (by rw [e75]; exact p4) (by rw [e76]; exact hg.1) (by rw [e82]; exact hg.2) ?_
    rw [eb, ep, e79]
    intro e2 k1 k2 k4
    exact h2 e2 k1 (fun a ha => k2 a (by omega) (by omega) (by omega) (by omega)) (fun j _ _ => by rw [k2 76 (by omega) (by omega) (by omega) (by omega)]) k4
  · rw [z107 hI.ge hg]
    exact step_z hI hG fun Q => y234 hI.ms hd.1 hg
theorem mov_ws {b σ : Nat → Int → Int} {f x : Int} (hw : WS b σ) (hx : 0 ≤ x ∧ x < b 0 0 * b 0 1) : WS b (fr σ 2 (fu (σ 2) f x)) := by
  obtain ⟨h1, h2, h3, h4⟩ := hw
  refine ⟨h1, h2, fun g g1 g2 => ?_, h4⟩
  obtain ⟨q1, q2, q3⟩ := h3 g g1 g2
  have e2 : fr σ 2 (fu (σ 2) f x) 2 g = fu (σ 2) f x g := by rw [fr_same]
  have e3 : fr σ 2 (fu (σ 2) f x) 3 g = σ 3 g := by rw [fr_ne (by omega)]
  rw [e2, e3]
  by_cases hf : g = f
  · rw [hf, fu_same, ← hf]
    exact ⟨hx.1, hx.2, q3⟩
  · rw [fu_ne hf]
    exact ⟨q1, q2, q3⟩
theorem step_11 (hi : i ≤ 600) {f x : Int} : STEP X xs i 110 237 [.inl f, .inl x] := by
  intro L sh c n G ⟨m, LD, s, D, ID, SS, ED, DD, hI⟩ hG
  have hd := hI.dm
  have h9 := hI.ws.2.1
  by_cases hg : ((0 ≤ f ∧ f < c 76 2) ∧ c 82 f = -1) ∧ (0 ≤ x ∧ x < c 76 0 * c 76 1) ∧ ¬ c 79 f = x
  · have hb := hI.wb (Or.inr (Or.inl (by omega)))
    obtain ⟨v, hC⟩ := hI.cq hb
    obtain ⟨p1, p2, p3, p4, p5⟩ := hI.pst
    refine c110 hC p1 p2 p3 p4 p5 hg.1.1 hg.1.2 hg.2.1 hg.2.2 ?_
    intro L' sh' e n' D' y hA hy hσ
    refine step_act hI hG hb hA hy hσ (mov_ws hI.ws.1 hg.2.1) (by show c 76 8 ≤ (i : Int) + 1; omega) fun hM er G2 h2 => ?_
    obtain ⟨eb, ep, el, ef, e76, e77, e78, e79, e82, e75⟩ := rows_eq2 er
    refine c237 (c := e) hM (by rw [eb]; exact hb.1) (by rw [eb, ep]; exact hI.ws.1) (by rw [e75]; exact p4) (by rw [e76]; exact hg.1.1) (by rw [e82]; exact hg.1.2) (by rw [e76]; exact hg.2.1) (by rw [e79]; exact hg.2.2) ?_
    rw [e79]
    intro e2 k1 k2 k4
    refine h2 e2 k1 (fun a ha => k2 a (by omega) (by omega) (by omega)) (fun j _ _ => by rw [k2 76 (by omega) (by omega) (by omega)]) ⟨fun z _ _ => ⟨?_, ?_⟩, fun g _ _ => ⟨?_, ?_⟩, ?_, ?_⟩
    · show e2 77 z = c 77 z
      rw [k2 77 (by omega) (by omega) (by omega), e77]
    · show e2 78 z = c 78 z
      rw [k2 78 (by omega) (by omega) (by omega), e78]
    · show e2 79 g = fu (c 79) f x g
      rw [k4]
    · show e2 82 g = c 82 g
      rw [k2 82 (by omega) (by omega) (by omega), e82]
    · show e2 76 8 = c 76 8
      rw [k2 76 (by omega) (by omega) (by omega), e76]
    · show e2 76 9 = c 76 9
      rw [k2 76 (by omega) (by omega) (by omega), e76]
  · have h40 : ¬ (((0 ≤ f ∧ f < c 76 2) ∧ c 82 f = -1) ∧ (0 ≤ x ∧ x < c 76 0 * c 76 1) ∧ ¬ c 40 f = x) := fun q => by
      have : c 40 f = c 79 f := (hI.ws.2.2.2.1 f q.1.1.1 q.1.1.2).1
      rw [this] at q
      exact hg q
    rw [z110 hI.ge h40]
    exact step_z hI hG fun Q => y237 hI.ms hd.1 hg
end STEPS5

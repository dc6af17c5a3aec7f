/-! one call: the class answers as the reference -/
def GHY (X : Nat) (xs : Int → Int) (i K2 : Nat) (as : List AV) (G : Option AV → List SC → Nat → Prop) : Prop := ∀ (v : Int) (L1 : Nat) (sh1 : Nat → SH) (c1 : Nat → Int → Int) (n1 : Nat), MS L1 sh1 → sh1 25 = (5, X, []) → c1 25 = xs → (∀ G2 : Option AV → List SC → Nat → Prop, (∀ (L2 : Nat) (sh2 : Nat → SH) (c2 : Nat → Int → Int) (n2 : Nat), INV X xs (i + 1) L2 sh2 c2 n2 → G2 (some (.inl v)) (hp L2 sh2 c2) n2) → tc_C K2 (rf 75 :: as) (hp L1 sh1 c1) n1 G2) → G (some (.inl v)) (hp L1 sh1 c1) n1
def STEP (X : Nat) (xs : Int → Int) (i K1 K2 : Nat) (as : List AV) : Prop := ∀ (L : Nat) (sh : Nat → SH) (c : Nat → Int → Int) (n : Nat) (G : Option AV → List SC → Nat → Prop), INV X xs i L sh c n → GHY X xs i K2 as G → tc_C K1 (rf 26 :: as) (hp L sh c) n G
section STEPS
variable {X i L n : Nat} {xs : Int → Int} {sh : Nat → SH} {c : Nat → Int → Int} {m : Int} {LD D ID : Nat → Option Nat} {s : Nat} {SS : Nat → Nat} {ED : Nat → Nat → Option Nat} {DD : Nat → Nat → Int → Int} {K2 : Nat} {as : List AV} {G : Option AV → List SC → Nat → Prop}
theorem step_q {sh1 : Nat → SH} {c1 : Nat → Int → Int} (hI : INVP X xs i L sh1 c1 n m LD s D ID SS ED DD) (hG : GHY X xs i K2 as G) {v : Int} (hr : ∀ G2 : Option AV → List SC → Nat → Prop, (∀ e, QX c1 e → G2 (some (.inl v)) (hp L sh1 e) n) → tc_C K2 (rf 75 :: as) (hp L sh1 c1) n G2) : G (some (.inl v)) (hp L sh1 c1) n :=
  hG v L sh1 c1 n hI.ms hI.2.1.1 hI.2.1.2 fun G2 h2 => hr G2 fun e he => h2 L sh1 e n ⟨m, LD, s, D, ID, SS, ED, DD, (hI.qx he).mono (Nat.le_succ i)⟩
theorem step_z (hI : INVP X xs i L sh c n m LD s D ID SS ED DD) (hG : GHY X xs i K2 as G) {v : Int} (hr : ∀ Q, tc_C K2 (rf 75 :: as) (hp L sh c) n Q = Q (some (.inl v)) (hp L sh c) n) : G (some (.inl v)) (hp L sh c) n :=
  step_q hI hG fun G2 h2 => by rw [hr]; exact h2 c (QX.refl c)
theorem INVP.fq (hI : INVP X xs i L sh c n m LD s D ID SS ED DD) {e : Nat → Int → Int} (he : FQ c e) (s1 l1 : Option Nat) : INVP X xs i L (seaf sh s1 l1) e n m LD s D ID SS ED DD := by
  obtain ⟨_, _, ⟨_, _, _, _, _, ⟨⟨t1, t2, g60⟩, _⟩, _⟩, _⟩ := id hI
  exact hI.qc (fun a a1 _ => fs_ne a1) ⟨s1, l1, fs_same _ _ _⟩ ⟨t1, t2, (fs_ne (by omega)).trans g60⟩ fun a ha => he a (by omega)
theorem INVP.fl (hI : INVP X xs i L sh c n m LD s D ID SS ED DD) {e : Nat → Int → Int} (he : FL c e) (s1 l1 : Option Nat) : INVP X xs i L (seaf sh s1 l1) e n m LD s D ID SS ED DD := by
  obtain ⟨_, _, ⟨_, _, _, _, _, ⟨⟨t1, t2, g60⟩, _⟩, _⟩, _⟩ := id hI
  exact hI.qc (fun a a1 _ => fs_ne a1) ⟨s1, l1, fs_same _ _ _⟩ ⟨t1, t2, (fs_ne (by omega)).trans g60⟩ fun a ha => he a (by omega) (by omega)
theorem INVP.fd (hI : INVP X xs i L sh c n m LD s D ID SS ED DD) {e : Nat → Int → Int} (he : FD c e) (s1 l1 : Option Nat) (t : Nat) : INVP X xs i L (trf (seaf sh s1 l1) t) e n m LD s D ID SS ED DD :=
  hI.qc (fun a a1 a2 => (fs_ne a2).trans (fs_ne a1)) ⟨s1, l1, (fs_ne (by omega)).trans (fs_same _ _ _)⟩ ⟨_, _, fs_same _ _ _⟩ fun a ha => he a (by omega)
theorem FQ.rows {e : Nat → Int → Int} (he : FQ c e) : ∀ a, 74 < a → e a = c a := fun a ha => he a (by omega)
theorem FD.rows {e : Nat → Int → Int} (he : FD c e) : ∀ a, 74 < a → e a = c a := fun a ha => he a (by omega)
theorem FL.rows {e : Nat → Int → Int} (he : FL c e) : ∀ a, 74 < a → e a = c a := fun a ha => he a (by omega) (by omega)
/-- strengths by the class's heights are those by the reference's -/
theorem INVP.h39 (hI : INVP X xs i L sh c n m LD s D ID SS ED DD) (hb : WB (bm c)) (F : Int) : stg (c 76 0) (c 76 0 * c 76 1) (c 39) F = stg (c 76 0) (c 76 0 * c 76 1) (c 77) F :=
  stg_ext ⟨hb.1.1, hb.1.2.1⟩ fun x x1 x2 => hI.ws.2.2.1 x x1 x2
theorem step_5 {x w : Int} : STEP X xs i 67 204 [.inl x, .inl w] := by
  intro L sh c n G ⟨m, LD, s, D, ID, SS, ED, DD, hI⟩ hG
  have hd := hI.dm
  by_cases hg : 0 ≤ x ∧ x < c 76 0 * c 76 1
  · have hb := hI.wb (Or.inl (by omega))
    obtain ⟨v, hC⟩ := hI.cq hb
    refine c67 hC (w := w) hg _ rfl ?_
    intro e he
    obtain ⟨eb, ep, el, er, e76, e77, e78, e79, e82, e75⟩ := rows_eq he.rows
    have key : ∀ S', INVP X xs i L S' e n m LD s D ID SS ED DD → G (some (.inl (if w = 0 then pm c 0 x else if w = 1 then pm c 1 x else if w = 2 then (mk (fin (pm c 3) (pm c 2) x) (bm c 0 2).toNat : Nat) else if w = 3 then stg (bm c 0 0) (bm c 0 0 * bm c 0 1) (c 39) (tof (bm c) (pm c 4 0)) x else -1))) (hp L S' e) n := by
      intro S' hI1
      refine step_q hI1 hG fun G2 h2 => ?_
      refine c204 (c := e) hI1.ms (by rw [eb]; exact hb.1) (by rw [e76, e77]; exact hI.ws.1.1) (by rw [e76]; exact ⟨hI.ws.1.2.2.2.1, hI.ws.1.2.2.2.2.1⟩) (by rw [e76]; exact hg) ?_
      intro e2 he2
      rw [eb, e76, e77, e78, e79, e82, ← hI.h39 hb.1]
      exact h2 e2 he2
    by_cases hw : w = 3
    · refine key _ ?_
      rw [if_pos hw]
      exact hI.fq he _ _
    · refine key _ ?_
      rw [if_neg hw]
      exact (hI.qc (fun _ _ _ => rfl) (by obtain ⟨_, _, ⟨_, _, _, ⟨s1, l1, g⟩, _⟩, _⟩ := id hI; exact ⟨s1, l1, g.2.1⟩) (by obtain ⟨_, _, ⟨_, _, _, _, _, ⟨g, _⟩, _⟩, _⟩ := id hI; exact g) fun a ha => he a (by omega))
  · rw [z67 hI.ge hg]
    exact step_z hI hG fun Q => y204 hI.ms hd.1 hg
theorem step_6 {f w : Int} : STEP X xs i 80 214 [.inl f, .inl w] := by
  intro L sh c n G ⟨m, LD, s, D, ID, SS, ED, DD, hI⟩ hG
  have hd := hI.dm
  obtain ⟨hM, hSh, h38, hL, g2, g3, gm, gst⟩ := hI.ge
  rw [c80 hM hSh h38 hL gm g3]
  refine step_z hI hG fun Q => ?_
  rw [c214 hI.ms hd.1]
  by_cases hg : 0 ≤ f ∧ f < c 76 2
  · rw [if_pos hg, if_pos (by omega : 0 ≤ f ∧ f ≤ c 76 2 - 1)]
    have hb := hI.wb (Or.inr (Or.inl (by omega)))
    have q1 : c 40 f = c 79 f := (hI.ws.2.2.2.1 f hg.1 hg.2).1
    have q2 : c 41 f = c 82 f := (hI.ws.2.2.2.1 f hg.1 hg.2).2 (Or.inl trivial)
    obtain ⟨_, q3, q4⟩ := hb.2.2.2.1 f hg.1 hg.2
    have q3 : c (s + 3) f = c 80 f := q3
    have q4 : c (s + 4) f = c 81 f := q4
    rw [q1, q2, q3, q4]
  · rw [if_neg hg, if_neg (by omega : ¬ (0 ≤ f ∧ f ≤ c 76 2 - 1))]
theorem step_7 {w : Int} (hw : w < 2147483648) : STEP X xs i 82 216 [.inl w] := by
  intro L sh c n G ⟨m, LD, s, D, ID, SS, ED, DD, hI⟩ hG
  have hd := hI.dm
  have hn := hI.nb
  obtain ⟨hM, hSh, h38, hL, _⟩ := hI.ge
  by_cases h0 : 0 < c 76 0
  · have hb := hI.wb (Or.inl (hn.mpr h0))
    rw [c82 hM hSh hL hb.1 hb.2 hw]
    refine step_z hI hG fun Q => ?_
    rw [c216 hI.ms hd.1 hw]
    by_cases h1 : 0 ≤ w
    · rw [if_pos h1, if_pos ⟨h0, h1⟩]
      rfl
    · rw [if_neg h1, if_neg (fun q => h1 q.2)]
  · rw [z82 hI.ge (fun q => h0 (hn.mp q.2))]
    refine step_z hI hG fun Q => ?_
    rw [c216 hI.ms hd.1 hw, if_neg (fun q => h0 q.1)]
theorem wh1_ext {W D : Int} {ht ht' g : Int → Int} (hW : 2 ≤ W ∧ W ≤ 5) (h : ∀ x, 0 ≤ x → x < W * D → ht x = ht' x) {x : Int} (hx : 0 ≤ x) (hx2 : x < W * D) : ∀ d : Nat, d ≤ 4 → wh1 W (W * D) ht g x d = wh1 W (W * D) ht' g x d := by
  intro d
  induction d with
  | zero => intro _; rfl
  | succ d ih =>
    intro hd
    have hb := bes_rng (d := d) hW hx hx2 (by omega) (by omega)
    unfold wh1
    rw [ih (by omega)]
    by_cases q : bes W (W * D) x d = -1
    · rw [if_neg (fun p => p.1 q), if_neg (fun p => p.1 q)]
    · rw [fce_ext (ht := ht) (ht' := ht') (s := g) (s' := g) (h x hx hx2) (h _ (by omega) (by omega)) rfl]
theorem whn_ext {W D F : Int} {ht ht' g : Int → Int} (hW : 2 ≤ W ∧ W ≤ 5) (h : ∀ x, 0 ≤ x → x < W * D → ht x = ht' x) {x : Int} (hx : 0 ≤ x) (hx2 : x < W * D) : whn W (W * D) ht F g x = whn W (W * D) ht' F g x := by
  unfold whn
  rw [fse_ext (h x hx hx2), wh1_ext hW h hx hx2 4 (by omega)]
theorem way_ext {W D F : Int} {ht ht' g : Int → Int} (hW : 2 ≤ W ∧ W ≤ 5) (h : ∀ x, 0 ≤ x → x < W * D → ht x = ht' x) {x : Int} (hx : 0 ≤ x) (hx2 : x < W * D) {j : Nat} (hj : WYS (pxs (whn W (W * D) ht F g) (if 0 < g x then x else -1)) j) : ∀ k, k ≤ j → pxs (whn W (W * D) ht' F g) (if 0 < g x then x else -1) k = pxs (whn W (W * D) ht F g) (if 0 < g x then x else -1) k := by
  intro k
  induction k with
  | zero => intro _; rfl
  | succ k ih =>
    intro hk
    have h1 := ih (by omega)
    show whn W (W * D) ht' F g (pxs (whn W (W * D) ht' F g) _ k) = whn W (W * D) ht F g (pxs (whn W (W * D) ht F g) _ k)
    rw [h1]
    by_cases hg : 0 < g x
    · rw [if_pos hg] at hj ⊢
      have := pxs_rng (F := F) (ht := ht) (g := g) hW hx hx2 (by omega) k fun j' hj' => hj.1 j' (by omega)
      exact (whn_ext hW h this.1 this.2.1).symm
    · exfalso
      rw [if_neg hg] at hj
      exact hj.1 0 (by omega) rfl
theorem step_13 {x k : Int} (hk2 : k < 2147483648) : STEP X xs i 113 238 [.inl x, .inl k] := by
  intro L sh c n G ⟨m, LD, s, D, ID, SS, ED, DD, hI⟩ hG
  have hd := hI.dm
  by_cases hg : (0 ≤ x ∧ x < c 76 0 * c 76 1) ∧ 0 ≤ k
  · have hb := hI.wb (Or.inl (by omega))
    obtain ⟨v, hC⟩ := hI.cq hb
    refine c113 hC rfl rfl hg.1 hg.2 hk2 ?_
    intro j e he hj
    obtain ⟨eb, ep, el, er, e76, e77, e78, e79, e82, e75⟩ := rows_eq he.rows
    have hI1 := hI.fq he (some s) v
    refine step_q hI1 hG fun G2 h2 => ?_
    refine c238 (c := e) hI1.ms (by rw [eb]; exact hb.1) (by rw [e76, e77]; exact hI.ws.1.1) (by rw [e76]; exact ⟨hI.ws.1.2.2.2.1, hI.ws.1.2.2.2.2.1⟩) rfl rfl hg.1.1 (by rw [e76]; exact hg.1.2) hg.2 hk2 ?_
    intro j2 e2 he2 hj2
    have hq := h2 e2 he2
    rw [eb, e76, e77, ← hI.h39 hb.1] at hj2 ⊢
    have hx := way_ext (W := c 76 0) (D := c 76 1) (F := tof (bm c) (c 76 8)) (ht := c 39) (ht' := c 77) (g := stg (c 76 0) (c 76 0 * c 76 1) (c 39) (tof (bm c) (c 76 8))) ⟨hb.1.1.1, hb.1.1.2.1⟩ (fun y y1 y2 => hI.ws.2.2.1 y y1 y2) hg.1.1 hg.1.2 hj
    have hj3 : WYS (pxs (whn (c 76 0) (c 76 0 * c 76 1) (c 77) (tof (bm c) (c 76 8)) (stg (c 76 0) (c 76 0 * c 76 1) (c 39) (tof (bm c) (c 76 8)))) (if 0 < stg (c 76 0) (c 76 0 * c 76 1) (c 39) (tof (bm c) (c 76 8)) x then x else -1)) j := ⟨fun k' hk' => by rw [hx k' (by omega)]; exact hj.1 k' hk', by rw [hx j (Nat.le_refl j)]; exact hj.2⟩
    have hjj := WYS.uq hj2 hj3
    subst hjj
    by_cases hkj : k < j2
    · rw [if_pos hkj] at hq ⊢
      rw [hx _ (by omega)]
      exact hq
    · rw [if_neg hkj] at hq ⊢
      exact hq
  · rw [z113 hI.ge hg]
    exact step_z hI hG fun Q => y238 hI.ms hd.1 hg
theorem step_14 (hi : i ≤ 600) {x k w : Int} : STEP X xs i 116 240 [.inl x, .inl k, .inl w] := by
  intro L sh c n G ⟨m, LD, s, D, ID, SS, ED, DD, hI⟩ hG
  have hd := hI.dm
  have h9 := hI.ws.2.1
  by_cases hg : (0 ≤ x ∧ x < c 76 0 * c 76 1) ∧ (0 ≤ k ∧ k ≤ 100) ∧ 0 ≤ w ∧ w ≤ 2
  · have hb := hI.wb (Or.inl (by omega))
    obtain ⟨v, hC⟩ := hI.cq hb
    refine c116 hC (by show c 76 8 ≤ 700; omega) hg.1 hg.2.1 hg.2.2 ?_
    intro e he
    obtain ⟨eb, ep, el, er, e76, e77, e78, e79, e82, e75⟩ := rows_eq he.rows
    have hI1 := hI.fq he (some s) v
    refine step_q hI1 hG fun G2 h2 => ?_
    refine c240 (c := e) hI1.ms (by rw [eb]; exact hb.1) hI1.ws.1 hI1.lf (by rw [e76]; omega) (by rw [e76]; exact hg.1) hg.2.1 hg.2.2 ?_
    intro e2 he2
    rw [eb, ep, el, e76]
    exact h2 e2 he2.x
  · rw [z116 hI.ge hg]
    exact step_z hI hG fun Q => y240 hI.ms hd.1 hg
theorem step_15 (hi : i ≤ 600) {f : Int} : STEP X xs i 117 247 [.inl f] := by
  intro L sh c n G ⟨m, LD, s, D, ID, SS, ED, DD, hI⟩ hG
  have hd := hI.dm
  have h9 := hI.ws.2.1
  by_cases hg : 0 ≤ f ∧ f < c 76 2
  · by_cases h3 : c 82 f = -1
    · have hb := hI.wb (Or.inr (Or.inl (by omega)))
      obtain ⟨v, hC⟩ := hI.cq hb
      refine c117 hC (by show c 76 8 ≤ 700; omega) hg h3 ?_
      intro e he
      obtain ⟨eb, ep, el, er, e76, e77, e78, e79, e82, e75⟩ := rows_eq he.rows
      have hI1 := hI.fq he (some s) v
      refine step_q hI1 hG fun G2 h2 => ?_
      refine c247 (c := e) hI1.ms (by rw [eb]; exact hb.1) hI1.ws.1 hI1.lf (by rw [e76]; omega) (by rw [e76]; exact hg) (by rw [e82]; exact h3) ?_
      intro e2 he2
      rw [eb, ep, el]
      exact h2 e2 he2.x
    · rw [z117b hI.ge (by omega)]
      exact step_z hI hG fun Q => y247b hI.ms hd.1 (by omega)
  · rw [z117 hI.ge hg]
    exact step_z hI hG fun Q => y247 hI.ms hd.1 hg
theorem step_16 (hi : i ≤ 600) {k j w : Int} : STEP X xs i 118 248 [.inl k, .inl j, .inl w] := by
  intro L sh c n G ⟨m, LD, s, D, ID, SS, ED, DD, hI⟩ hG
  have hd := hI.dm
  have h9 := hI.ws.2.1
  have hn := hI.nb
  by_cases hg : ¬ c 76 0 * c 76 1 = 0 ∧ (1 ≤ k ∧ k ≤ 2) ∧ (1 ≤ j ∧ j ≤ 6) ∧ 0 ≤ w ∧ w ≤ 3
  · have hb := hI.wb (Or.inl hg.1)
    obtain ⟨v, hC⟩ := hI.cq hb
    refine c118 hC hI.2.2.1.2.2.2.2.2.1 (by show c 76 8 ≤ 700; omega) (by omega) hg.2.2.1 hg.2.2.2 ?_
    intro e B he hB
    obtain ⟨eb, ep, el, er, e76, e77, e78, e79, e82, e75⟩ := rows_eq he.rows
    have hI1 := hI.fd he (some s) v s
    refine step_q hI1 hG fun G2 h2 => ?_
    refine c248 (c := e) hI1.ms (by rw [eb]; exact hb.1) hI1.ws.1 hI1.lf (by rw [e76]; omega) (by omega) hg.2.2.1 hg.2.2.2 ?_
    intro e2 he2
    rw [eb, ep, el, e76]
    have hN : 0 ≤ 4 * (bm c 0 0 * bm c 0 1) := by show 0 ≤ 4 * (c 76 0 * c 76 1); omega
    have ho := dg1_op (b := bm c) (la := lm c) (t := pm c) (m := j.toNat) (two := k) hN (4 * (c 76 0 * c 76 1)).toNat
    rw [show (((4 * (c 76 0 * c 76 1)).toNat : Nat) : Int) = 4 * (bm c 0 0 * bm c 0 1) from Int.toNat_of_nonneg hN] at ho
    rw [← OP.uq hB ho]
    exact h2 e2 he2
  · rw [z118 hI.ge hg]
    exact step_z hI hG fun Q => y248 hI.ms hd.1 (by omega)
theorem step_17 (hi : i ≤ 600) {j w : Int} : STEP X xs i 126 252 [.inl j, .inl w] := by
  intro L sh c n G ⟨m, LD, s, D, ID, SS, ED, DD, hI⟩ hG
  have hd := hI.dm
  have h9 := hI.ws.2.1
  have hn := hI.nb
  by_cases hg : ¬ c 76 0 * c 76 1 = 0 ∧ (1 ≤ j ∧ j ≤ 6) ∧ 0 ≤ w ∧ w ≤ 1
  · have hb := hI.wb (Or.inl hg.1)
    obtain ⟨v, hC⟩ := hI.cq hb
    refine c126 hC hI.2.2.1.2.2.2.2.2.1 (by show c 76 8 ≤ 700; omega) hg.2.1 (by omega) ?_
    intro e he
    obtain ⟨eb, ep, el, er, e76, e77, e78, e79, e82, e75⟩ := rows_eq he.rows
    have hI1 := hI.fd he (some s) v s
    refine step_q hI1 hG fun G2 h2 => ?_
    refine c252 (c := e) hI1.ms (by rw [eb]; exact hb.1) hI1.ws.1 hI1.lf (by rw [e76]; omega) hg.2.1 (by omega) ?_
    intro e2 he2
    rw [eb, ep, el, e76]
    exact h2 e2 he2
  · rw [z126 hI.ge hg]
    exact step_z hI hG fun Q => y252 hI.ms hd.1 (by omega)
end STEPS

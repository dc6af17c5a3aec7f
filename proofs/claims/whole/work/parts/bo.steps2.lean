/-! one call, more -/
section STEPS2
variable {X i : Nat} {xs : Int → Int}
theorem step_18 {f w : Int} : STEP X xs i 129 254 [.inl f, .inl w] := by
  intro L sh c n G ⟨m, LD, s, D, ID, SS, ED, DD, hI⟩ hG
  have hd := hI.dm
  by_cases hg : ((0 ≤ f ∧ f < c 76 2) ∧ c 82 f = -1) ∧ 0 ≤ w ∧ w ≤ 1
  · have hb := hI.wb (Or.inr (Or.inl (by omega)))
    obtain ⟨v, hC⟩ := hI.cq hb
    have hwd : wdr (c 76 0) (c 76 0 * c 76 1) (c 39) (tof (bm c) (c 76 8)) (c 79 f) = wdr (c 76 0) (c 76 0 * c 76 1) (c 77) (tof (bm c) (c 76 8)) (c 79 f) := by
      funext p
      unfold wdr
      rw [stg_ext (W := c 76 0) (D := c 76 1) (ht := wht p (c 39)) (ht' := wht p (c 77)) ⟨hb.1.1.1, hb.1.1.2.1⟩ fun y y1 y2 => by
        unfold wht
        rw [show c 39 y = c 77 y from hI.ws.2.2.1 y y1 y2]]
    refine c129 hC rfl (gd := wdr (c 76 0) (c 76 0 * c 76 1) (c 77) (tof (bm c) (c 76 8)) (c 79 f)) hg.1.1 hg.1.2 (by omega) hwd.symm ?_
    intro R e he hR
    obtain ⟨eb, ep, el, er, e76, e77, e78, e79, e82, e75⟩ := rows_eq he.rows
    have hI1 := hI.fq he (some s) v
    refine step_q hI1 hG fun G2 h2 => ?_
    refine c254 (c := e) hI1.ms (by rw [eb]; exact hb.1) hI1.ws.1 (by rw [e76]; exact hg.1.1) (by rw [e82]; exact hg.1.2) (by omega) rfl ?_
    intro R2 e2 he2 hR2
    rw [eb, e76, e77, e79] at hR2
    rw [← WSP.uq hR hR2]
    exact h2 e2 he2
  · rw [z129 hI.ge hg]
    exact step_z hI hG fun Q => y254 hI.ms hd.1 hg
theorem step_19 {f x : Int} : STEP X xs i 135 259 [.inl f, .inl x] := by
  intro L sh c n G ⟨m, LD, s, D, ID, SS, ED, DD, hI⟩ hG
  have hd := hI.dm
  by_cases hg : ((0 ≤ f ∧ f < c 76 2) ∧ c 82 f = -1) ∧ (0 ≤ x ∧ x < c 76 0 * c 76 1) ∧ ¬ c 79 f = x
  · have hb := hI.wb (Or.inr (Or.inl (by omega)))
    obtain ⟨v, hC⟩ := hI.cq hb
    have hx39 : c 39 x = c 77 x := hI.ws.2.2.1 x hg.2.1.1 hg.2.1.2
    refine c135 hC rfl hg.1.1 hg.1.2 hg.2.1 hg.2.2 (g := fun h => stg (c 76 0) (c 76 0 * c 76 1) (fu (c 77) x h) (tof (bm c) (c 76 8) + 1) (c 79 f)) (fun h => ?_) ?_
    · show stg (c 76 0) (c 76 0 * c 76 1) (fu (c 77) x h) (tof (bm c) (c 76 8) + 1) (c 79 f) = stg (c 76 0) (c 76 0 * c 76 1) (fu (c 39) x h) (tof (bm c) (c 76 8) + 1) (c 79 f)
      rw [stg_ext (W := c 76 0) (D := c 76 1) (ht := fu (c 77) x h) (ht' := fu (c 39) x h) ⟨hb.1.1.1, hb.1.1.2.1⟩ fun y y1 y2 => by
        unfold fu
        rw [show c 39 y = c 77 y from hI.ws.2.2.1 y y1 y2]]
    intro e he
    obtain ⟨eb, ep, el, er, e76, e77, e78, e79, e82, e75⟩ := rows_eq he.rows
    have hI1 := hI.fq he (some s) v
    refine step_q hI1 hG fun G2 h2 => ?_
    refine c259 (c := e) hI1.ms (by rw [eb]; exact hb.1) hI1.ws.1 (by rw [e76]; exact hg.1.1) (by rw [e82]; exact hg.1.2) (by rw [e76]; exact hg.2.1) (by rw [e79]; exact hg.2.2) rfl (fun h => rfl) ?_
    intro e2 he2
    have hq := h2 e2 he2
    rw [eb, e76, e77, e79]
    rw [hx39] at hq
    exact hq
  · have hz : ¬ (((0 ≤ f ∧ f < c 76 2) ∧ c 82 f = -1) ∧ (0 ≤ x ∧ x < c 76 0 * c 76 1) ∧ ¬ c 40 f = x) := fun q => by
      have := (hI.ws.2.2.2.1 f q.1.1.1 q.1.1.2).1
      have : c 40 f = c 79 f := this
      exact hg ⟨q.1, q.2.1, by rw [← this]; exact q.2.2⟩
    rw [z135 hI.ge hz]
    exact step_z hI hG fun Q => y259 hI.ms hd.1 hg
theorem step_20 (hi : i ≤ 600) {f w : Int} : STEP X xs i 136 260 [.inl f, .inl w] := by
  intro L sh c n G ⟨m, LD, s, D, ID, SS, ED, DD, hI⟩ hG
  have hd := hI.dm
  have h9 := hI.ws.2.1
  by_cases hg : ((0 ≤ f ∧ f < c 76 2) ∧ c 82 f = -1) ∧ 0 ≤ w ∧ w ≤ 1
  · have hb := hI.wb (Or.inr (Or.inl (by omega)))
    obtain ⟨v, hC⟩ := hI.cq hb
    refine c136 hC (by show c 76 8 < 900; omega) hg.1.1 hg.1.2 (by omega) rfl ?_
    intro e he
    obtain ⟨eb, ep, el, er, e76, e77, e78, e79, e82, e75⟩ := rows_eq he.rows
    have hI1 := hI.fq he (some s) v
    refine step_q hI1 hG fun G2 h2 => ?_
    refine c260 (c := e) hI1.ms (by rw [eb]; exact hb.1) hI1.ws.1 hI1.lf (by rw [e76]; omega) (by rw [e76]; exact hg.1.1) (by rw [e82]; exact hg.1.2) (by omega) ?_
    intro e2 he2
    rw [eb, ep, el, e76]
    exact h2 e2 he2
  · rw [z136 hI.ge hg]
    exact step_z hI hG fun Q => y260 hI.ms hd.1 hg
theorem step_21 (hi : i ≤ 600) {j w : Int} : STEP X xs i 139 264 [.inl j, .inl w] := by
  intro L sh c n G ⟨m, LD, s, D, ID, SS, ED, DD, hI⟩ hG
  have hd := hI.dm
  have h9 := hI.ws.2.1
  have hn := hI.nb
  by_cases hg : ¬ c 76 0 * c 76 1 = 0 ∧ (1 ≤ j ∧ j ≤ 60) ∧ 0 ≤ w ∧ w ≤ 1
  · have hb := hI.wb (Or.inl hg.1)
    obtain ⟨v, hC⟩ := hI.cq hb
    refine c139 hC hI.2.2.1.2.2.2.2.2.1 (by show c 76 8 ≤ 700; omega) hg.2.1 (by omega) ?_
    intro e he
    obtain ⟨eb, ep, el, er, e76, e77, e78, e79, e82, e75⟩ := rows_eq he.rows
    have hI1 := hI.fd he (some s) v s
    refine step_q hI1 hG fun G2 h2 => ?_
    refine c264 (c := e) hI1.ms (by rw [eb]; exact hb.1) hI1.ws.1 hI1.lf (by rw [e76]; omega) hg.2.1 (by omega) ?_
    intro e2 he2
    rw [eb, ep, el, e76]
    exact h2 e2 he2
  · rw [z139 hI.ge hg]
    exact step_z hI hG fun Q => y264 hI.ms hd.1 (by omega)
theorem step_22 (hi : i ≤ 600) {f : Int} : STEP X xs i 141 265 [.inl f] := by
  intro L sh c n G ⟨m, LD, s, D, ID, SS, ED, DD, hI⟩ hG
  have hd := hI.dm
  have h9 := hI.ws.2.1
  by_cases hg : (0 ≤ f ∧ f < c 76 2) ∧ c 82 f = -1
  · have hb := hI.wb (Or.inr (Or.inl (by omega)))
    obtain ⟨v, hC⟩ := hI.cq hb
    refine c141 hC (by show c 76 8 < 900; omega) hg.1 hg.2 ?_
    intro e he
    obtain ⟨eb, ep, el, er, e76, e77, e78, e79, e82, e75⟩ := rows_eq he.rows
    have hI1 := hI.fq he (some s) v
    refine step_q hI1 hG fun G2 h2 => ?_
    refine c265 (c := e) hI1.ms (by rw [eb]; exact hb.1) hI1.ws.1 hI1.lf (by rw [e76]; omega) (by rw [e76]; exact hg.1) (by rw [e82]; exact hg.2) ?_
    intro e2 he2
    rw [eb, ep, el]
    exact h2 e2 he2
  · rw [z141 hI.ge hg]
    exact step_z hI hG fun Q => y265 hI.ms hd.1 hg
theorem step_24 {w : Int} : STEP X xs i 144 267 [.inl w] := by
  intro L sh c n G ⟨m, LD, s, D, ID, SS, ED, DD, hI⟩ hG
  have hd := hI.dm
  have hn := hI.nb
  obtain ⟨r1, r2, r3, hm, _, hr⟩ := hI.rul
  obtain ⟨_, _, ⟨l1, l2, l3⟩, _⟩ := hI.con
  by_cases hg : ¬ c 76 0 * c 76 1 = 0 ∧ 0 ≤ w ∧ w ≤ 1
  · have hb := hI.wb (Or.inl hg.1)
    refine c144 (hI.rv hb) (by omega) (G := fun r => crn (bm c) (lmr c r) (c 84) (c 85) (c 86) (c 76 10).toNat 61) (fun r _ _ => (crn_log (fun j j1 j2 => ?_) 61).symm) ?_
    · have := l3 j j1 (by have := l2.2.1; omega)
      exact this
    intro e o1 o2 he
    obtain ⟨eb, ep, el, er, e76, e77, e78, e79, e82, e75⟩ := rows_eq he.rows
    have hI1 := hI.fq he o1 o2
    obtain ⟨_, _, t3, _, _, tr⟩ := hI1.rul
    refine step_q hI1 hG fun G2 h2 => ?_
    refine c267 (c := e) hI1.ms (by rw [eb]; exact hb.1) hI1.con.2.2.1.2.1 (by rw [t3]; exact hm) (fun r q1 q2 => (tr r q1 (by rw [t3] at q2; exact q2)).1) (by omega) (fun r => rfl) ?_
    intro e2 he2
    have hq := h2 e2 he2
    simp only [er]
    rw [eb, e76, he.rows 84 (by omega), he.rows 85 (by omega), he.rows 86 (by omega), t3]
    exact hq
  · rw [z144 hI.ge hg]
    exact step_z hI hG fun Q => y267 hI.ms hd.1 (by omega)
theorem step_25 {k w : Int} : STEP X xs i 148 270 [.inl k, .inl w] := by
  intro L sh c n G ⟨m, LD, s, D, ID, SS, ED, DD, hI⟩ hG
  have hd := hI.dm
  have hn := hI.nb
  obtain ⟨r1, r2, r3, hm, _, hr⟩ := hI.rul
  obtain ⟨_, _, ⟨l1, l2, l3⟩, _⟩ := hI.con
  by_cases hg : ¬ c 76 0 * c 76 1 = 0 ∧ (0 ≤ k ∧ k ≤ 60) ∧ 0 ≤ w ∧ w ≤ 1
  · have hb := hI.wb (Or.inl hg.1)
    refine c148 (hI.rv hb) hg.2.1 (by omega) (G := fun r => crn (bm c) (lmr c r) (c 84) (c 85) (c 86) (c 76 10).toNat 61) (fun r _ _ => (crn_log (fun j j1 j2 => ?_) 61).symm) (SS := fun r x => gos (bm c) (lmr c r) (bgn (bm c)) k.toNat 0 x) (fun r x _ _ => rfl) ?_
    · have := l3 j j1 (by have := l2.2.1; omega)
      exact this
    intro e o1 o2 he
    obtain ⟨eb, ep, el, er, e76, e77, e78, e79, e82, e75⟩ := rows_eq he.rows
    have hI1 := hI.fl he o1 o2
    obtain ⟨_, _, t3, _, _, tr⟩ := hI1.rul
    refine step_q hI1 hG fun G2 h2 => ?_
    refine c270 (c := e) hI1.ms (by rw [eb]; exact hb.1) hI1.con.2.2.1.2.1 (by rw [t3]; exact hm) (fun r q1 q2 => (tr r q1 (by rw [t3] at q2; exact q2)).1) hg.2.1 (by omega) (g := fun r => crn (bm c) (lmr c r) (c 84) (c 85) (c 86) (c 76 10).toNat 61) (fun r => ?_) (S := fun r x => gos (bm c) (lmr c r) (bgn (bm c)) k.toNat 0 x) (fun r x => ?_) ?_
    · simp only [er]
      rw [eb, e76, he.rows 84 (by omega), he.rows 85 (by omega), he.rows 86 (by omega)]
    · simp only [er]
      rw [eb]
    intro e2 he2
    have hq := h2 e2 he2
    rw [e76, t3]
    exact hq
  · rw [z148 hI.ge hg]
    exact step_z hI hG fun Q => y270 hI.ms hd.1 (by omega)
theorem step_27 (hi : i ≤ 600) {j k w : Int} : STEP X xs i 153 272 [.inl j, .inl k, .inl w] := by
  intro L sh c n G ⟨m, LD, s, D, ID, SS, ED, DD, hI⟩ hG
  have hd := hI.dm
  have h9 := hI.ws.2.1
  have hn := hI.nb
  have hx := hI.con.2.1
  by_cases hg : ¬ c 76 0 * c 76 1 = 0 ∧ (1 ≤ j ∧ j ≤ 10) ∧ (1 ≤ k ∧ k ≤ 60) ∧ 0 ≤ w ∧ w ≤ 1
  · have hb := hI.wb (Or.inl hg.1)
    obtain ⟨v, hC⟩ := hI.cq hb
    refine c153 hC (by show c 76 8 ≤ 700; omega) hx.1 hx.2 hg.2.1 hg.2.2.1 (by omega) ?_
    intro e he
    obtain ⟨eb, ep, el, er, e76, e77, e78, e79, e82, e75⟩ := rows_eq he.rows
    have hI1 := hI.fq he (some s) v
    refine step_q hI1 hG fun G2 h2 => ?_
    refine c272 (c := e) hI1.ms (by rw [eb]; exact hb.1) hI1.ws.1 hI1.lf (by rw [e76]; omega) (by rw [e76]; exact hx.2) hg.2.1 hg.2.2.1 (by omega) ?_
    intro e2 he2
    rw [eb, ep, el, e76]
    exact h2 e2 he2
  · rw [z153 hI.ge hg]
    exact step_z hI hG fun Q => y272 hI.ms hd.1 (by omega)
theorem step_28 {w : Int} : STEP X xs i 156 275 [.inl w] := by
  intro L sh c n G ⟨m, LD, s, D, ID, SS, ED, DD, hI⟩ hG
  have hd := hI.dm
  obtain ⟨hM, hSh, h38, hL, g2, g3, gm, gst⟩ := hI.ge
  obtain ⟨r1, r2, r3, hm, _, hr⟩ := hI.rul
  obtain ⟨u1, u2, ⟨l1, l2, l3⟩, u4, ⟨u5, u6, u7⟩, u8, u9⟩ := hI.con
  have hsc := hI.scs
  have htp := hI.2.2.2.2.1
  have hht : HT (c 76 0 * c 76 1) (c 39) := fun x x1 x2 => by
    rw [show c 39 x = c 77 x from u6.1 x x1 x2]
    exact u5.1 x x1 x2
  rw [c156 hM hSh h38 hsc.2.2.2.2.1 hsc.2.2.2.1.2.2.1 hL hd.2 g2 hht]
  refine step_z hI hG fun Q => ?_
  rw [c275 hI.ms hd.1 u5.1]
  have e9 : sm (c 39) (c 76 0 * c 76 1).toNat = sm (c 77) (c 76 0 * c 76 1).toNat := sm_ext fun x x1 x2 => u6.1 x x1 (by show x < c 76 0 * c 76 1; omega)
  have e0 : c s 0 = c 76 0 ∧ c s 1 = c 76 1 ∧ c s 4 = c 76 3 := by
    rcases u9 with q | ⟨⟨q0, q1, q2, q3⟩, p0, p1, p2, p3, p4⟩
    · exact ⟨q.2.1.1, q.2.2.1.1, q.2.2.1.2.2⟩
    · rw [q0, q1, q3]
      exact ⟨p0, p1, p4⟩
  have e5 : c 38 5 = c 76 9 := u6.2.2.2.2.1
  have e6 : c 38 6 = c 76 8 := u6.2.2.2.2.2
  rw [e9, e0.1, e0.2.1, e0.2.2, g3, r2, r3, u1.1, u2.1, e5, e6, gst, l1, u4.1, htp.2.2]
end STEPS2

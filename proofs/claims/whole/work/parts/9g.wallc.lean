/-! the class: walls -/
def EV (L : Nat) (sh : Nat → SH) (s : Nat) (lo : Option Nat) : Prop := sh 26 = (6, 10, [some 27, some 28, some 29, some 48, some 49, some 56, some 60, some 69, some 70, some 74]) ∧ sh 29 = (6, 6, [some s, some 38, some 42, some 44]) ∧ SanS L sh 38 ∧ SanS L sh 56 ∧ SeaS L sh (some s) lo ∧ ShoS L sh s ∧ (s = 30 ∨ 115 ≤ s)
/-- cells on the way -/
def pws (p : Nat → Int) : Nat → Int → Bool
  | 0, _ => false
  | i + 1, x => pws p i x || decide (x = p i)
theorem pws_t {p : Nat → Int} {x : Int} : ∀ {j : Nat}, pws p j x = true ↔ ∃ i, i < j ∧ p i = x := by
  intro j
  induction j with
  | zero => exact ⟨fun h => absurd h (by unfold pws; decide), fun ⟨i, h, _⟩ => by omega⟩
  | succ j ih =>
    show (pws p j x || decide (x = p j)) = true ↔ _
    rw [Bool.or_eq_true, ih, decide_eq_true_eq]
    constructor
    · rintro (⟨i, h1, h2⟩ | h)
      · exact ⟨i, by omega, h2⟩
      · exact ⟨j, by omega, h.symm⟩
    · rintro ⟨i, h1, h2⟩
      by_cases hi : i = j
      · rw [hi] at h2
        exact Or.inr h2.symm
      · exact Or.inl ⟨i, by omega, h2⟩
theorem pxs_rng {W D F : Int} {ht g : Int → Int} (hW : 2 ≤ W ∧ W ≤ 5) {x : Int} (hx : 0 ≤ x) (hx2 : x < W * D) (hg : 1 ≤ g x) : ∀ i : Nat, (∀ j, j ≤ i → ¬ pxs (whn W (W * D) ht F g) x j = -1) → 0 ≤ pxs (whn W (W * D) ht F g) x i ∧ pxs (whn W (W * D) ht F g) x i < W * D ∧ 1 ≤ g (pxs (whn W (W * D) ht F g) x i) := by
  intro i
  induction i with
  | zero => intro _; exact ⟨hx, hx2, hg⟩
  | succ i ih =>
    intro h
    have h1 := ih fun j hj => h j (by omega)
    have h2 := whn_rng (F := F) (ht := ht) hW h1.1 h1.2.1 h1.2.2
    have e : pxs (whn W (W * D) ht F g) x (i + 1) = whn W (W * D) ht F g (pxs (whn W (W * D) ht F g) x i) := rfl
    have h3 := h (i + 1) (by omega)
    rw [e] at h3 ⊢
    rcases h2 with h2 | h2
    · exact absurd h2 h3
    · exact ⟨h2.1, h2.2.1, by omega⟩
/-- a wall that leaves the way as it is keeps nothing off -/
theorem way_wet {W D F : Int} {ht g : Int → Int} (hW : 2 ≤ W ∧ W ≤ 5) (hh : HT (W * D) ht) (hF : 0 ≤ F) (hg : St W (W * D) ht F g) {x : Int} (hx : 0 ≤ x) (hx2 : x < W * D) (hgx : 1 ≤ g x) {j : Nat} (hw : WYS (pxs (whn W (W * D) ht F g) x) j) {p : Int → Bool} (hp : ∀ i, i < j → p (pxs (whn W (W * D) ht F g) x i) = false) : wdr W (W * D) ht F x p = 0 := by
  have hh' : HT (W * D) (wht p ht) := fun y y1 y2 => by
    have := hh y y1 y2
    unfold wht
    split <;> omega
  have hs := St_ex hW hh' hF
  generalize hS : stg W (W * D) (wht p ht) F = S at hs
  have hrg : ∀ i, i < j → 0 ≤ pxs (whn W (W * D) ht F g) x i ∧ pxs (whn W (W * D) ht F g) x i < W * D ∧ 1 ≤ g (pxs (whn W (W * D) ht F g) x i) := fun i hi => pxs_rng hW hx hx2 hgx i fun q hq => hw.1 q (by omega)
  have key : ∀ d i : Nat, i + d + 1 = j → g (pxs (whn W (W * D) ht F g) x i) ≤ S (pxs (whn W (W * D) ht F g) x i) := by
    intro d
    induction d with
    | zero =>
      intro i hi
      have hr := hrg i (by omega)
      have hn : whn W (W * D) ht F g (pxs (whn W (W * D) ht F g) x i) = -1 := by
        have := hw.2
        rw [show j = i + 1 by omega] at this
        exact this
      have hpi := hp i (by omega)
      generalize pxs (whn W (W * D) ht F g) x i = y at hr hn hpi
      -- a last cell comes from the sea, as no cell beside gives it
      have hfs : fse W (W * D) ht F y = g y := by
        refine Classical.byContradiction fun hne => ?_
        have hw1 : wh1 W (W * D) ht g y 4 = -1 := by
          unfold whn at hn
          rw [if_neg hne] at hn
          exact hn
        have hall : ∀ d : Nat, d ≤ 4 → wh1 W (W * D) ht g y d = -1 ∧ ∀ e : Nat, e < d → ¬ bes W (W * D) y e = -1 → ¬ fce ht g y (bes W (W * D) y e) = g y := by
          have back : ∀ d : Nat, wh1 W (W * D) ht g y (d + 1) = -1 → wh1 W (W * D) ht g y d = -1 ∧ (¬ bes W (W * D) y d = -1 → ¬ fce ht g y (bes W (W * D) y d) = g y) := by
            intro d h
            have e : wh1 W (W * D) ht g y (d + 1) = if ¬ bes W (W * D) y d = -1 ∧ fce ht g y (bes W (W * D) y d) = g y ∧ (wh1 W (W * D) ht g y d = -1 ∨ bes W (W * D) y d < wh1 W (W * D) ht g y d) then bes W (W * D) y d else wh1 W (W * D) ht g y d := rfl
            rw [e] at h
            by_cases hc : ¬ bes W (W * D) y d = -1 ∧ fce ht g y (bes W (W * D) y d) = g y ∧ (wh1 W (W * D) ht g y d = -1 ∨ bes W (W * D) y d < wh1 W (W * D) ht g y d)
            · rw [if_pos hc] at h
              exact absurd h hc.1
            · rw [if_neg hc] at h
              exact ⟨h, fun h1 h2 => hc ⟨h1, h2, Or.inl h⟩⟩
          have b3 := back 3 hw1
          have b2 := back 2 b3.1
          have b1 := back 1 b2.1
          have b0 := back 0 b1.1
          intro d hd
          rcases (by omega : d = 0 ∨ d = 1 ∨ d = 2 ∨ d = 3 ∨ d = 4) with rfl | rfl | rfl | rfl | rfl
          · exact ⟨rfl, fun e he => by omega⟩
          · exact ⟨b1.1, fun e he => by rw [show e = 0 by omega]; exact b0.2⟩
          · refine ⟨b2.1, fun e he => ?_⟩
            rcases (by omega : e = 0 ∨ e = 1) with rfl | rfl
            · exact b0.2
            · exact b1.2
          · refine ⟨b3.1, fun e he => ?_⟩
            rcases (by omega : e = 0 ∨ e = 1 ∨ e = 2) with rfl | rfl | rfl
            · exact b0.2
            · exact b1.2
            · exact b2.2
          · refine ⟨hw1, fun e he => ?_⟩
            rcases (by omega : e = 0 ∨ e = 1 ∨ e = 2 ∨ e = 3) with rfl | rfl | rfl | rfl
            · exact b0.2
            · exact b1.2
            · exact b2.2
            · exact b3.2
        have hno := (hall 4 (by omega)).2
        have hcy := hg.1 y hr.1 hr.2.1
        -- then one less would be closed, too
        have hcl : Cl W (W * D) ht F (fu g y (g y - 1)) := by
          intro q q1 q2
          have hcq := hg.1 q q1 q2
          by_cases hqy : q = y
          · rw [hqy, fu_same]
            refine ⟨⟨by omega, by omega⟩, fun d d1 d2 hb => ?_⟩
            have hne2 := bes_ne hW hr.1 hr.2.1 d1 d2
            rw [fce_ext rfl rfl (fu_ne hne2)]
            have h1 := hcy.2 d d1 d2 hb
            have h2 := hno d.toNat (by omega)
            rw [Int.toNat_of_nonneg d1] at h2
            have h3 := h2 hb
            omega
          · rw [fu_ne hqy]
            refine ⟨hcq.1, fun d d1 d2 hb => ?_⟩
            have h1 := hcq.2 d d1 d2 hb
            by_cases hby : bes W (W * D) q d = y
            · rw [hby] at h1 ⊢
              unfold fce at h1 ⊢
              rw [fu_same]
              split
              · exact hcq.1.1
              · rw [if_neg (by omega)] at h1
                omega
            · rw [fce_ext rfl rfl (fu_ne hby)]
              exact h1
        have := hg.2 _ hcl y hr.1 hr.2.1
        rw [fu_same] at this
        omega
      have h1 := ((hs.1 y hr.1 hr.2.1).1).2
      have e1 : fse W (W * D) (wht p ht) F y = fse W (W * D) ht F y := fse_ext (by unfold wht; rw [hpi]; rfl)
      rw [e1, hfs] at h1
      exact h1
    | succ d ih =>
      intro i hi
      have hr := hrg i (by omega)
      have hr1 := hrg (i + 1) (by omega)
      have h1 := ih (i + 1) (by omega)
      have hpi := hp i (by omega)
      have hpi1 := hp (i + 1) (by omega)
      have e : pxs (whn W (W * D) ht F g) x (i + 1) = whn W (W * D) ht F g (pxs (whn W (W * D) ht F g) x i) := rfl
      have hne := hw.1 (i + 1) (by omega)
      generalize pxs (whn W (W * D) ht F g) x (i + 1) = z at hr1 h1 hpi1 e hne
      generalize pxs (whn W (W * D) ht F g) x i = y at hr hpi e
      -- z gives y
      have hz : ∃ d, 0 ≤ d ∧ d < 4 ∧ bes W (W * D) y d = z ∧ fce ht g y z = g y := by
        unfold whn at e
        by_cases hf : fse W (W * D) ht F y = g y
        · rw [if_pos hf] at e
          exact absurd e hne
        · rw [if_neg hf] at e
          have fnd : ∀ d : Nat, d ≤ 4 → ¬ wh1 W (W * D) ht g y d = -1 → ∃ q : Int, 0 ≤ q ∧ q < 4 ∧ bes W (W * D) y q = wh1 W (W * D) ht g y d ∧ fce ht g y (wh1 W (W * D) ht g y d) = g y := by
            intro d
            induction d with
            | zero => intro _ h; exact absurd rfl h
            | succ d ih2 =>
              intro hd h
              have e2 : wh1 W (W * D) ht g y (d + 1) = if ¬ bes W (W * D) y d = -1 ∧ fce ht g y (bes W (W * D) y d) = g y ∧ (wh1 W (W * D) ht g y d = -1 ∨ bes W (W * D) y d < wh1 W (W * D) ht g y d) then bes W (W * D) y d else wh1 W (W * D) ht g y d := rfl
              rw [e2] at h ⊢
              by_cases hc : ¬ bes W (W * D) y d = -1 ∧ fce ht g y (bes W (W * D) y d) = g y ∧ (wh1 W (W * D) ht g y d = -1 ∨ bes W (W * D) y d < wh1 W (W * D) ht g y d)
              · rw [if_pos hc]
                exact ⟨d, by omega, by omega, rfl, hc.2.1⟩
              · rw [if_neg hc] at h ⊢
                exact ih2 (by omega) h
          obtain ⟨q, q1, q2, q3, q4⟩ := fnd 4 (by omega) (by rw [← e]; exact hne)
          rw [← e] at q3 q4
          exact ⟨q, q1, q2, q3, q4⟩
      obtain ⟨q, q1, q2, q3, q4⟩ := hz
      have h2 := (hs.1 y hr.1 hr.2.1).2 q q1 q2 (by rw [q3]; omega)
      rw [q3] at h2
      have wy : wht p ht y = ht y := by unfold wht; rw [hpi]; rfl
      have wz : wht p ht z = ht z := by unfold wht; rw [hpi1]; rfl
      unfold fce at h2 q4
      rw [wy, wz, if_neg (by omega)] at h2
      rw [if_neg (by omega)] at q4
      omega
  have hj : 0 < j := by
    rcases Nat.eq_zero_or_pos j with h | h
    · have := hw.2
      rw [h] at this
      have : x = -1 := this
      omega
    · exact h
  have := key (j - 1) 0 (by omega)
  have h0 : pxs (whn W (W * D) ht F g) x 0 = x := rfl
  rw [h0] at this
  unfold wdr
  rw [hS, if_neg (by omega)]

/-! what a test's text tells, more -/
def rpt (n : Int) : List Bool := List.replicate n.toNat true
theorem rpt_s {n : Int} (h : 0 ≤ n) : rpt (n + 1) = true :: rpt n := by
  unfold rpt
  rw [show (n + 1).toNat = n.toNat + 1 by omega]
  rfl
theorem rpt_0 : rpt 0 = [] := rfl
theorem Kds_9 {T : List Tk} {a r : List Bool} : ∀ n : Nat, Kds T a (true :: r) → Kds (T ++ List.replicate n (9, 0)) a (true :: r) := by
  intro n
  induction n with
  | zero =>
    intro h
    rw [List.replicate_zero, List.append_nil]
    exact h
  | succ n ih =>
    intro h
    rw [List.replicate_succ', ← List.append_assoc]
    exact Kds_app (ih h) (Or.inr (Or.inr (Or.inl ⟨rfl, r, rfl, rfl⟩)))
theorem vcn_9 {T : List Tk} : ∀ n : Nat, vcn (T ++ List.replicate n (9, 0)) = vcn T := by
  intro n
  induction n with
  | zero => rw [List.replicate_zero, List.append_nil]
  | succ n ih =>
    rw [List.replicate_succ', ← List.append_assoc, vcn_app, ih]
    simp
theorem drp_f : ∀ O : List Int, okO O → okO (drp O) ∧ pnb (drp O) = pnb O ∧ nnt O = nts O + nnt (drp O) ∧ (drp O).length ≤ O.length ∧ (∀ w O2, drp O = w :: O2 → ¬ w = -1) ∧ (drp O).length + nts O = O.length := by
  intro O
  induction O with
  | nil => exact fun _ => ⟨trivial, rfl, rfl, Nat.le_refl _, fun w O2 h => absurd h (by simp [drp]), rfl⟩
  | cons x O ih =>
    intro ⟨h1, h2⟩
    obtain ⟨i1, i2, i3, i4, i5, i6⟩ := ih h2
    have u1 : drp (x :: O) = if x = -1 then drp O else x :: O := rfl
    have u2 : nts (x :: O) = if x = -1 then nts O + 1 else 0 := rfl
    have u3 : pnb (x :: O) = (if x = -1 then 0 else wn x) + pnb O := rfl
    have u4 : nnt (x :: O) = (if x = -1 then 1 else 0) + nnt O := rfl
    have u5 : (x :: O).length = O.length + 1 := rfl
    by_cases hx : x = -1
    · rw [if_pos hx] at u1 u2 u3 u4
      rw [u1, u2, u3, u4, u5]
      exact ⟨i1, by omega, by omega, by omega, i5, by omega⟩
    · rw [if_neg hx] at u1 u2
      rw [u1, u2, u5]
      refine ⟨⟨h1, h2⟩, rfl, by show _ = (0 : Int) + _; omega, Nat.le_refl _, fun w O2 h => ?_, rfl⟩
      injection h with h _
      omega
theorem t10_f {X : List Tk} {W n : Int} (hW : 0 ≤ W ∧ W ≤ 3) (hn : 0 ≤ n) : (Kds X [] (true :: rpt (wn W + n)) → Kds (X ++ t10 W) [] (true :: rpt (wn (W - W % 2) + n))) ∧ vcn (X ++ t10 W) = vcn X ∧ (((X ++ t10 W).length : Nat) : Int) = X.length + wn W - wn (W - W % 2) ∧ wn (W - W % 2 + 1) = wn (W - W % 2) + 1 := by
  unfold t10
  rcases (by omega : W = 0 ∨ W = 1 ∨ W = 2 ∨ W = 3) with rfl | rfl | rfl | rfl
  · have e0 : wn (0 - 0 % 2) = wn 0 := by decide
    rw [if_neg (by decide), List.append_nil, e0]
    exact ⟨fun h => h, rfl, by omega, by decide⟩
  · rw [if_pos (by decide), len_app, vcn_app]
    refine ⟨fun h => Kds_app h ?_, by simp, by show _ = _ + (1 : Int) - 0; omega, by decide⟩
    have e : rpt (wn 1 + n) = true :: rpt (wn (1 - 1 % 2) + n) := by
      rw [show wn 1 + n = wn (1 - 1 % 2) + n + 1 by show (1 : Int) + n = 0 + n + 1; omega]
      exact rpt_s (by show (0 : Int) ≤ 0 + n; omega)
    rw [e]
    exact Or.inr (Or.inr (Or.inr (Or.inr (Or.inr ⟨Or.inl rfl, _, rfl, rfl⟩))))
  · have e0 : wn (2 - 2 % 2) = wn 2 := by decide
    rw [if_neg (by decide), List.append_nil, e0]
    exact ⟨fun h => h, rfl, by omega, by decide⟩
  · rw [if_pos (by decide), len_app, vcn_app]
    refine ⟨fun h => Kds_app h ?_, by simp, by show _ = _ + (2 : Int) - 1; omega, by decide⟩
    have e : rpt (wn 3 + n) = true :: rpt (wn (3 - 3 % 2) + n) := by
      rw [show wn 3 + n = wn (3 - 3 % 2) + n + 1 by show (2 : Int) + n = 1 + n + 1; omega]
      exact rpt_s (by show (0 : Int) ≤ 1 + n; omega)
    rw [e]
    exact Or.inr (Or.inr (Or.inr (Or.inr (Or.inr ⟨Or.inl rfl, _, rfl, rfl⟩))))
theorem t11_f {X : List Tk} {W n : Int} (hW : 0 ≤ W ∧ W ≤ 3) (hn : 0 ≤ n) : (Kds X [] (true :: rpt (wn (W - W % 2) + n)) → Kds (X ++ t11 W) [] (true :: rpt n)) ∧ vcn (X ++ t11 W) = vcn X ∧ (((X ++ t11 W).length : Nat) : Int) = X.length + wn (W - W % 2) := by
  unfold t11
  by_cases h2 : 2 ≤ W
  · have e2 : wn (W - W % 2) = 1 := by
      rcases (by omega : W = 2 ∨ W = 3) with rfl | rfl <;> decide
    rw [if_pos h2, len_app, vcn_app, e2]
    refine ⟨fun h => Kds_app h ?_, by simp, rfl⟩
    rw [show 1 + n = n + 1 by omega, rpt_s hn]
    exact Or.inr (Or.inr (Or.inr (Or.inr (Or.inr ⟨Or.inr rfl, _, rfl, rfl⟩))))
  · have e2 : wn (W - W % 2) = 0 := by
      rcases (by omega : W = 0 ∨ W = 1) with rfl | rfl <;> decide
    rw [if_neg h2, List.append_nil, e2, show 0 + n = n by omega]
    exact ⟨fun h => h, rfl, by omega⟩
theorem prC {f f' mo mo' p p' W W' : Int} {T T' : List Tk} {O O' : List Int} (h : (f, mo, p, T, O, W) = (f', mo', p', T', O', W')) : f = f' ∧ mo = mo' ∧ p = p' ∧ T = T' ∧ O = O' ∧ W = W' := by
  injection h with h1 h2
  injection h2 with h2 h3
  injection h3 with h3 h4
  injection h4 with h4 h5
  injection h5 with h5 h6
  exact ⟨h1, h2, h3, h4, h5, h6⟩
/-- what follows a fact -/
theorem cls_g {g : Int → Int} {N : Int} : ∀ (k : Nat) (p mo p' W W' : Int) (T T' : List Tk) (O O' : List Int), cls g N k p T O W = (0, mo, p', T', O', W') → okO O → 0 ≤ W → W ≤ 3 → O.length < k → 0 ≤ p → p ≤ N → (mo = 0 ∨ mo = 1) ∧ (p ≤ p' ∧ p' ≤ N) ∧ vcn T' = vcn T ∧ T.length ≤ T'.length ∧ (mo = 1 → p < p' ∧ okO O' ∧ (0 ≤ W' ∧ W' ≤ 3) ∧ O'.length ≤ O.length ∧ (T'.length : Int) + wn W' + pnb O' + nnt O' ≤ T.length + wn W + pnb O + nnt O + 1 ∧ (Kds T [] (true :: rpt (wn W + pnb O)) → Kds T' [] (rpt (wn W' + pnb O')))) ∧ (mo = 0 → (T'.length : Int) ≤ T.length + wn W + pnb O + nnt O ∧ (Kds T [] (true :: rpt (wn W + pnb O)) → Kds T' [] [true]) ∧ sk g N p' = p') := by
  intro k
  induction k with
  | zero => intro p mo p' W W' T T' O O' h h1 h2 h3 h4; omega
  | succ k ih =>
    intro p mo p' W W' T T' O O' h h1 h2 h3 h4 h5 h6
    have hs := nm_rng (g := g) (p := p) (N := N) ⟨h5, h6⟩
    have hk := sk_rng (g := g) (n := N) (p := p)
    obtain ⟨d1, d2, d3, d4, d5, d6⟩ := drp_f O h1
    have hpn := pnb_nn O
    have hnn := nnt_nn (drp O)
    have hwn := wn_rng W
    have hwn2 := wn_rng (W - W % 2)
    have hwm : wn (W - W % 2) ≤ wn W := by
      rcases (by omega : W = 0 ∨ W = 1 ∨ W = 2 ∨ W = 3) with rfl | rfl | rfl | rfl <;> decide
    have a10 := t10_f (X := T ++ List.replicate (nts O) (9, 0)) (W := W) (n := pnb O) ⟨h2, h3⟩ hpn
    have el : (((T ++ List.replicate (nts O) (9, 0)).length : Nat) : Int) = T.length + nts O := by
      rw [List.length_append, List.length_replicate]
      omega
    have htn : tn T O W = T ++ List.replicate (nts O) (9, 0) ++ t10 W := rfl
    rw [← htn, el, vcn_9] at a10
    have a11 := t11_f (X := tn T O W) (W := W) (n := pnb O) ⟨h2, h3⟩ hpn
    have hKn : Kds T [] (true :: rpt (wn W + pnb O)) → Kds (tn T O W) [] (true :: rpt (wn (W - W % 2) + pnb O)) := fun hK => a10.1 (Kds_9 _ hK)
    unfold cls at h
    by_cases ha : stq g N (sk g N p) (chs 23) 3 = 1
    · rw [if_pos ha] at h
      have hrn := stq_rn ha
      have hr2 := rn_rng (g := g) (n := N) (p := sk g N p)
      obtain ⟨_, e1, e2, e3, e4, e5⟩ := prC h
      subst e1 e2 e3 e4 e5
      refine ⟨Or.inr rfl, by omega, a10.2.1, by omega, fun _ => ⟨by omega, d1, by omega, d4, ?_, fun hK => ?_⟩, fun x => by omega⟩
      · rw [a10.2.2.2, d2]
        omega
      · rw [a10.2.2.2, d2, show wn (W - W % 2) + 1 + pnb O = wn (W - W % 2) + pnb O + 1 by omega, rpt_s (by omega)]
        exact hKn hK
    · rw [if_neg ha] at h
      by_cases ho : stq g N (sk g N p) (chs 24) 2 = 1
      · rw [if_pos ho] at h
        have hrn := stq_rn ho
        have hr2 := rn_rng (g := g) (n := N) (p := sk g N p)
        obtain ⟨_, e1, e2, e3, e4, e5⟩ := prC h
        subst e1 e2 e3 e4 e5
        have ew : wn 2 = 1 := by decide
        refine ⟨Or.inr rfl, by omega, by rw [a11.2.1]; exact a10.2.1, by omega, fun _ => ⟨by omega, d1, by omega, d4, ?_, fun hK => ?_⟩, fun x => by omega⟩
        · rw [ew, d2]
          omega
        · rw [ew, d2, show 1 + pnb O = pnb O + 1 by omega, rpt_s hpn]
          exact a11.1 (hKn hK)
      · rw [if_neg ho] at h
        cases hO : drp O with
        | nil =>
          rw [hO] at h d2 d3
          dsimp only at h
          obtain ⟨_, e1, e2, e3, e4, e5⟩ := prC h
          subst e1 e2 e3
          have e6 : pnb O = 0 := d2.symm
          have e7 : nnt O = nts O := by
            rw [d3]
            show _ + (0 : Int) = _
            omega
          refine ⟨Or.inl rfl, by omega, by rw [a11.2.1]; exact a10.2.1, by omega, fun x => by omega, fun _ => ⟨by omega, fun hK => ?_, sk_2 g N p⟩⟩
          have := a11.1 (hKn hK)
          rw [e6] at this
          exact this
        | cons w O2 =>
          rw [hO] at h d1 d2 d3 d4 d6
          dsimp only at h
          have hw := d5 w O2 hO
          by_cases hb : byt g N (sk g N p) = 93
          · rw [if_pos hb] at h
            have hlt := byt_lt hb (by omega)
            have hl2 : (w :: O2).length = O2.length + 1 := rfl
            have hwr : 0 ≤ w ∧ w ≤ 3 := by
              rcases d1.1 with x | x
              · exact absurd x hw
              · exact x
            obtain ⟨i1, i2, i3, i4, i5, i6⟩ := ih (sk g N p + 1) mo p' w W' _ T' O2 O' h d1.2 hwr.1 hwr.2 (by omega) (by omega) (by omega)
            have e6 : pnb O = wn w + pnb O2 := by
              rw [← d2]
              show (if w = -1 then 0 else wn w) + pnb O2 = _
              rw [if_neg hw]
            have e7 : nnt O = nts O + nnt O2 := by
              rw [d3]
              show _ + ((if w = -1 then 1 else 0) + nnt O2) = _
              rw [if_neg hw]
              omega
            have hK2 : Kds T [] (true :: rpt (wn W + pnb O)) → Kds (tn T O W ++ t11 W) [] (true :: rpt (wn w + pnb O2)) := fun hK => by
              have := a11.1 (hKn hK)
              rw [e6] at this
              exact this
            refine ⟨i1, by omega, by rw [i3, a11.2.1]; exact a10.2.1, by omega, fun hm => ?_, fun hm => ?_⟩
            · obtain ⟨j1, j2, j3, j4, j5, j6⟩ := i5 hm
              exact ⟨by omega, j2, j3, by omega, by omega, fun hK => j6 (hK2 hK)⟩
            · obtain ⟨j1, j2, j3⟩ := i6 hm
              exact ⟨by omega, fun hK => j2 (hK2 hK), j3⟩
          · rw [if_neg hb] at h
            have := (prC h).1
            omega
/-- what a test leaves -/
theorem tst_g {g : Int → Int} {N z : Int} {K : Nat} : ∀ (k : Nat) (p m p' m' W : Int) (T T' : List Tk) (O : List Int), tst g N K k p m T O W = (0, p', m', T') → okO O → 0 ≤ W → W ≤ 3 → O.length ≤ 10 → 0 ≤ p → p ≤ N → N - p < k → m ≤ 60 → 3 * (z + T.length + wn W + pnb O + nnt O) ≤ 7 * m + p → (p < p' ∧ p' ≤ N) ∧ (m < m' ∧ m' ≤ 60) ∧ 3 * (z + T'.length) ≤ 7 * m' + p' ∧ (Kds T [] (rpt (wn W + pnb O)) → Kds T' [] [true]) ∧ vcn T' - vcn T ≤ m' - m ∧ T.length < T'.length ∧ sk g N p' = p' := by
  intro k
  induction k with
  | zero => intro p m p' m' W T T' O h h1 h2 h3 h4 h5 h6 h7; omega
  | succ k ih =>
    intro p m p' m' W T T' O h h1 h2 h3 h4 h5 h6 h7 h8 h9
    rcases ho : opn g N K p O W with ⟨f1, p1, O1, W1⟩
    rcases hf : fct g N K p1 m T with ⟨f2, p2, m2, T2⟩
    rcases hc : cls g N 11 p2 T2 O1 W1 with ⟨f3, mo, p3, T3, O3, W3⟩
    rw [tst_st ho hf hc] at h
    by_cases q1 : f1 = 0
    · subst q1
      rw [if_neg (fun q => q rfl)] at h
      obtain ⟨a1, a2, a3, a4, a5, a6, a7⟩ := opn_g K p p1 W W1 O O1 ho h1 h2 h3 h4 h5 h6
      by_cases q2 : f2 = 0
      · subst q2
        rw [if_neg (fun q => q rfl)] at h
        obtain ⟨b1, b2, b3, b4, b5, b6, b7⟩ := fct_g hf (by omega) [] (rpt (wn W + pnb O))
        by_cases q3 : f3 = 0
        · subst q3
          rw [if_neg (fun q => q rfl)] at h
          obtain ⟨c1, c2, c3, c4, c5, c6⟩ := cls_g 11 p2 mo p3 W1 W3 T2 T3 O1 O3 hc a1 a2.1 a2.2 (by omega) (by omega) (by omega)
          rw [a5] at c5 c6
          rcases c1 with rfl | rfl
          · rw [if_neg (by omega)] at h
            obtain ⟨_, e1, e2, e3⟩ := prL h
            subst e1 e2 e3
            obtain ⟨j1, j2, j3⟩ := c6 rfl
            exact ⟨by omega, by omega, by omega, fun hK => j2 (b4 hK), by omega, by omega, j3⟩
          · rw [if_pos rfl] at h
            obtain ⟨j1, j2, j3, j4, j5, j6⟩ := c5 rfl
            obtain ⟨i1, i2, i3, i4, i5, i6, i7⟩ := ih p3 m2 p' m' W3 T3 T' O3 h j2 j3.1 j3.2 (by omega) (by omega) (by omega) (by omega) (by omega) (by omega)
            exact ⟨by omega, by omega, by omega, fun hK => i4 (j6 (b4 hK)), by omega, by omega, i7⟩
        · rw [if_pos q3] at h
          exact absurd (prL h).1 q3
      · rw [if_pos q2] at h
        exact absurd (prL h).1 q2
    · rw [if_pos q1] at h
      exact absurd (prL h).1 q1

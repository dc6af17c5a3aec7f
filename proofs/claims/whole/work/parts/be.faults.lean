/-! faults of rules lie in a range -/
def FR (f : Int) : Prop := 0 ≤ f ∧ f ≤ 4000
section FAULTS
variable {g : Int → Int} {N p m : Int} {T : List Tk}
theorem vlf_r (hp : 0 ≤ p ∧ p ≤ N) (hN : N ≤ 400) : FR (vlf g N p m T).1 := by
  have hs := nm_rng (g := g) hp
  have ha : FR (amf g N (sk g N p) 0 99999) := by
    unfold amf FR
    repeat' split
    all_goals omega
  unfold vlf
  repeat' split
  all_goals first
    | exact ha
    | (show FR 0; unfold FR; omega)
    | (show FR (1 + 8 * sk g N p + 3); unfold FR; omega)
    | (show FR (1 + 8 * sk g N p); unfold FR; omega)
theorem FR_0 : FR 0 := ⟨by omega, by omega⟩
theorem tml_r (hN : N ≤ 400) : ∀ (k : Nat) (p m : Int) (T : List Tk), 0 ≤ p → p ≤ N → FR (tml g N k p m T).1 := by
  intro k
  induction k with
  | zero => intro p m T _ _; exact FR_0
  | succ k ih =>
    intro p m T h0 h1
    have hs := nm_rng (g := g) (p := p) (N := N) ⟨h0, h1⟩
    by_cases ho : sop (byt g N (sk g N p)) = 0
    · rw [tml_end ho]
      exact FR_0
    · have hlt := sop_lt ho
      rcases hv : vlf g N (sk g N p + 1) m T with ⟨f1, p1, m1, T1⟩
      have hr := vlf_r (g := g) (m := m) (T := T) (p := sk g N p + 1) (by omega) hN
      rw [hv] at hr
      rw [tml_st rfl ho hv]
      by_cases hf : f1 = 0
      · subst hf
        rw [if_neg (fun x => x rfl)]
        obtain ⟨g1, _⟩ := vlf_g hv (by omega) [] []
        exact ih p1 m1 _ (by omega) (by omega)
      · rw [if_pos hf]
        exact hr
theorem trm_r (hN : N ≤ 400) (k : Nat) (hp : 0 ≤ p ∧ p ≤ N) : FR (trm g N k p m T).1 := by
  rcases hv : vlf g N p m T with ⟨f1, p1, m1, T1⟩
  have hr := vlf_r (g := g) (m := m) (T := T) hp hN
  rw [hv] at hr
  rw [trm_st hv]
  by_cases hf : f1 = 0
  · subst hf
    rw [if_neg (fun x => x rfl)]
    obtain ⟨g1, _⟩ := vlf_g hv hp [] []
    exact tml_r hN k p1 m1 T1 (by omega) (by omega)
  · rw [if_pos hf]
    exact hr
theorem sml_r (hN : N ≤ 400) : ∀ (k : Nat) (p m : Int) (T : List Tk), 0 ≤ p → p ≤ N → FR (sml g N k p m T).1 := by
  intro k
  induction k with
  | zero => intro p m T _ _; exact FR_0
  | succ k ih =>
    intro p m T h0 h1
    by_cases ho : wop (byt g N p) = 0
    · rw [sml_end ho]
      exact FR_0
    · have hlt := wop_lt ho
      rcases hv : trm g N k (p + 1) m T with ⟨f1, p1, m1, T1⟩
      have hr := trm_r (g := g) (m := m) (T := T) (p := p + 1) hN k (by omega)
      rw [hv] at hr
      rw [sml_st rfl ho hv]
      by_cases hf : f1 = 0
      · subst hf
        rw [if_neg (fun x => x rfl)]
        obtain ⟨⟨g1, _⟩, _⟩ := trm_g hv (by omega) [] []
        exact ih p1 m1 _ (by omega) (by omega)
      · rw [if_pos hf]
        exact hr
theorem smf_r (hN : N ≤ 400) (k : Nat) (hp : 0 ≤ p ∧ p ≤ N) : FR (smf g N k p m T).1 := by
  rcases hv : trm g N k p m T with ⟨f1, p1, m1, T1⟩
  have hr := trm_r (g := g) (m := m) (T := T) hN k hp
  unfold smf
  rw [hv] at hr ⊢
  dsimp only at hr ⊢
  by_cases hf : f1 = 0
  · subst hf
    rw [if_neg (fun x => x rfl)]
    obtain ⟨⟨g1, _⟩, _⟩ := trm_g hv hp [] []
    exact sml_r hN k p1 m1 T1 (by omega) (by omega)
  · rw [if_pos hf]
    exact hr
theorem opn_r (hN : N ≤ 400) : ∀ (k : Nat) (p W : Int) (O : List Int), 0 ≤ p → p ≤ N → FR (opn g N k p O W).1 := by
  intro k
  induction k with
  | zero => intro p W O _ _; exact FR_0
  | succ k ih =>
    intro p W O h0 h1
    have hs := nm_rng (g := g) (p := p) (N := N) ⟨h0, h1⟩
    unfold opn
    by_cases hb : byt g N (sk g N p) = 91
    · rw [if_pos hb]
      have hlt := byt_lt hb (by omega)
      split
      · show FR (1 + 8 * sk g N p + 2)
        unfold FR
        omega
      · exact ih _ _ _ (by omega) (by omega)
    · rw [if_neg hb]
      by_cases hn : stq g N (sk g N p) (chs 22) 3 = 1
      · rw [if_pos hn]
        have hrn := stq_rn hn
        have hr2 := rn_rng (g := g) (n := N) (p := sk g N p)
        split
        · show FR (1 + 8 * sk g N p + 2)
          unfold FR
          omega
        · exact ih _ _ _ (by omega) (by omega)
      · rw [if_neg hn]
        exact FR_0
theorem fct_r (hN : N ≤ 400) (k : Nat) (hp : 0 ≤ p ∧ p ≤ N) : FR (fct g N k p m T).1 := by
  rcases hv : smf g N k p m T with ⟨f1, p1, m1, T1⟩
  have hr := smf_r (g := g) (m := m) (T := T) hN k hp
  unfold fct
  rw [hv] at hr ⊢
  dsimp only at hr ⊢
  by_cases hf : f1 = 0
  · subst hf
    rw [if_neg (fun x => x rfl)]
    obtain ⟨⟨g1, _⟩, _⟩ := smf_g hv hp [] []
    unfold fc2
    by_cases hb : byt g N p1 = 60 ∨ byt g N p1 = 61 ∨ byt g N p1 = 62
    · rw [if_neg (fun x => x hb)]
      have hlt : p1 < N := by
        rcases hb with x | x | x
        · exact byt_lt x (by omega)
        · exact byt_lt x (by omega)
        · exact byt_lt x (by omega)
      have hc := ceq_rng (g := g) hlt
      split
      · show FR (1 + 8 * p1 + 3)
        unfold FR
        omega
      · have h2 := smf_r (g := g) (m := m1 + 1) (T := T1) (p := p1 + 1 + ceq g N p1) hN k (by omega)
        split
        · exact h2
        · exact FR_0
    · rw [if_pos hb]
      show FR (1 + 8 * p1)
      unfold FR
      omega
  · rw [if_pos hf]
    exact hr
theorem cls_r (hN : N ≤ 400) : ∀ (k : Nat) (p W : Int) (T : List Tk) (O : List Int), 0 ≤ p → p ≤ N → FR (cls g N k p T O W).1 := by
  intro k
  induction k with
  | zero => intro p W T O _ _; exact FR_0
  | succ k ih =>
    intro p W T O h0 h1
    have hs := nm_rng (g := g) (p := p) (N := N) ⟨h0, h1⟩
    unfold cls
    split
    · exact FR_0
    · split
      · exact FR_0
      · cases drp O with
        | nil => exact FR_0
        | cons w O2 =>
          dsimp only
          by_cases hb : byt g N (sk g N p) = 93
          · rw [if_pos hb]
            have hlt := byt_lt hb (by omega)
            exact ih _ _ _ _ (by omega) (by omega)
          · rw [if_neg hb]
            show FR (1 + 8 * sk g N p)
            unfold FR
            omega
theorem tst_r (hN : N ≤ 400) {K : Nat} : ∀ (k : Nat) (p m W : Int) (T : List Tk) (O : List Int), 0 ≤ p → p ≤ N → okO O → 0 ≤ W → W ≤ 3 → O.length ≤ 10 → FR (tst g N K k p m T O W).1 := by
  intro k
  induction k with
  | zero => intro p m W T O _ _ _ _ _ _; exact FR_0
  | succ k ih =>
    intro p m W T O h0 h1 hok hW1 hW2 hO
    rcases ho : opn g N K p O W with ⟨f1, p1, O1, W1⟩
    rcases hf : fct g N K p1 m T with ⟨f2, p2, m2, T2⟩
    rcases hc : cls g N 11 p2 T2 O1 W1 with ⟨f3, mo, p3, T3, O3, W3⟩
    rw [tst_st ho hf hc]
    have r1 := opn_r (g := g) hN K p W O h0 h1
    rw [ho] at r1
    by_cases q1 : f1 = 0
    · subst q1
      rw [if_neg (fun x => x rfl)]
      obtain ⟨a1, a2, a3, a4, _, _, _⟩ := opn_g K p p1 W W1 O O1 ho hok hW1 hW2 hO h0 h1
      have r2 := fct_r (g := g) (m := m) (T := T) (p := p1) hN K (by omega)
      rw [hf] at r2
      by_cases q2 : f2 = 0
      · subst q2
        rw [if_neg (fun x => x rfl)]
        obtain ⟨b1, _⟩ := fct_g hf (by omega) [] []
        have r3 := cls_r (g := g) hN 11 p2 W1 T2 O1 (by omega) (by omega)
        rw [hc] at r3
        by_cases q3 : f3 = 0
        · subst q3
          rw [if_neg (fun x => x rfl)]
          split
          · next hmo =>
            obtain ⟨c1, c2, c3, c4, c5, c6⟩ := cls_g 11 p2 mo p3 W1 W3 T2 T3 O1 O3 hc a1 a2.1 a2.2 (by omega) (by omega) (by omega)
            obtain ⟨i1, i2, i3, i4, _, _⟩ := c5 hmo
            exact ih p3 m2 W3 T3 O3 (by omega) (by omega) i2 i3.1 i3.2 (by omega)
          · exact FR_0
        · rw [if_pos q3]
          exact r3
      · rw [if_pos q2]
        exact r2
    · rw [if_pos q1]
      exact r1
theorem rcl_r (hN : N ≤ 400) {K : Nat} {k : Int} (hp : 0 ≤ p ∧ p ≤ N) : FR (rcl g N K k p m).1 := by
  have hs := nm_rng (g := g) hp
  unfold rcl
  by_cases ht : stq g N (sk g N p) (chs 12) 4 = 1
  · rw [if_neg (fun x => x ht)]
    have hrn := stq_rn ht
    have hr2 := rn_rng (g := g) (n := N) (p := sk g N p)
    split
    · show FR (1 + 8 * sk g N p + 4)
      unfold FR
      omega
    · rcases hv : smf g N K (sk g N p + 4) m [] with ⟨f1, p1, m1, T1⟩
      have hr := smf_r (g := g) (m := m) (T := []) (p := sk g N p + 4) hN K (by omega)
      rw [hv] at hr
      dsimp only
      by_cases hf : f1 = 0
      · subst hf
        rw [if_neg (fun x => x rfl)]
        obtain ⟨⟨g1, _⟩, g6⟩ := smf_g hv (by omega) [] []
        unfold rc2
        rw [g6]
        by_cases hi : stq g N p1 (chs 21) 2 = 1
        · rw [if_neg (fun x => x hi)]
          have hrn3 := stq_rn hi
          have hr3 := rn_rng (g := g) (n := N) (p := p1)
          have r2 := tst_r (g := g) (K := K) hN (K + 1) (p1 + 2) m1 0 [] [] (by omega) (by omega) trivial (by omega) (by omega) (by show (0 : Nat) ≤ 10; omega)
          split
          · exact r2
          · exact FR_0
        · rw [if_pos hi]
          exact FR_0
      · rw [if_pos hf]
        exact hr
  · rw [if_pos ht]
    show FR (1 + 8 * sk g N p)
    unfold FR
    omega
theorem lpr_r (hN : N ≤ 400) {K : Nat} (hK : N ≤ K) : ∀ (j : Nat) (k p m z : Int) (l : Law), 0 ≤ p → p ≤ N → 3 * z ≤ 7 * m + p → FR (lpr g N K j k p m l).1 := by
  intro j
  induction j with
  | zero => intro k p m z l _ _ _; exact FR_0
  | succ j ih =>
    intro k p m z l h0 h1 hz
    rcases hrc : rcl g N K k p m with ⟨f1, p1, m1, X, Y⟩
    have hr := rcl_r (g := g) (m := m) (K := K) (k := k) hN ⟨h0, h1⟩
    rw [hrc] at hr
    rw [lpr_st hrc]
    by_cases hf : f1 = 0
    · subst hf
      rw [if_neg (fun x => x rfl)]
      obtain ⟨b1, b2, b3, b4, _, _, _⟩ := rcl_g (z := z) hrc ⟨h0, h1⟩ hK hz
      have hs := nm_rng (g := g) (p := p1) (N := N) (by omega)
      have hkr := sk_rng (g := g) (n := N) (p := p1)
      have hgr := gof_rng (g := g) (p := sk g N p1) (N := N) ⟨hs.2.2.1, hs.2.2.2⟩ hN
      split
      · exact hgr
      · split
        · next hgn =>
          have := gon_1 hgn
          exact ih (k + 1) _ m1 (z + X.length + Y.length) _ (by omega) (by omega) (by omega)
        · exact FR_0
    · rw [if_pos hf]
      exact hr
end FAULTS

/-! what a test's text tells -/
def opn (g : Int → Int) (N : Int) : Nat → Int → List Int → Int → Int × (Int × (List Int × Int))
  | 0, p, O, W => (0, sk g N p, O, W)
  | k + 1, p, O, W => if byt g N (sk g N p) = 91 then (if 10 ≤ O.length then (1 + 8 * sk g N p + 2, 0, [], 0) else opn g N k (sk g N p + 1) (W :: O) 0) else if stq g N (sk g N p) (chs 22) 3 = 1 then (if 10 ≤ O.length then (1 + 8 * sk g N p + 2, 0, [], 0) else opn g N k (sk g N p + 3) (-1 :: O) W) else (0, sk g N p, O, W)
def ceq (g : Int → Int) (N p : Int) : Int := if ¬ byt g N p = 61 ∧ byt g N (p + 1) = 61 then 1 else 0
def ccd (g : Int → Int) (N p : Int) : Int := if byt g N p = 61 then 6 else if byt g N p = 60 then (if ceq g N p = 1 then 5 else 4) else (if ceq g N p = 1 then 7 else 8)
/-- the sign of a fact and the sum behind it -/
def fc2 (g : Int → Int) (N : Int) (k : Nat) (p m : Int) (T : List Tk) : PR := if ¬ (byt g N p = 60 ∨ byt g N p = 61 ∨ byt g N p = 62) then (1 + 8 * p, 0, 0, []) else if 60 ≤ m then (1 + 8 * p + 3, 0, 0, []) else if ¬ (smf g N k (p + 1 + ceq g N p) (m + 1) T).1 = 0 then ((smf g N k (p + 1 + ceq g N p) (m + 1) T).1, 0, 0, []) else (0, (smf g N k (p + 1 + ceq g N p) (m + 1) T).2.1, (smf g N k (p + 1 + ceq g N p) (m + 1) T).2.2.1, (smf g N k (p + 1 + ceq g N p) (m + 1) T).2.2.2 ++ [(ccd g N p, 0)])
def fct (g : Int → Int) (N : Int) (k : Nat) (p m : Int) (T : List Tk) : PR := if ¬ (smf g N k p m T).1 = 0 then ((smf g N k p m T).1, 0, 0, []) else fc2 g N k (smf g N k p m T).2.1 (smf g N k p m T).2.2.1 (smf g N k p m T).2.2.2
def nts : List Int → Nat
  | [] => 0
  | x :: O => if x = -1 then nts O + 1 else 0
def drp : List Int → List Int
  | [] => []
  | x :: O => if x = -1 then drp O else x :: O
def t10 (W : Int) : List Tk := if W % 2 = 1 then [(10, 0)] else []
def t11 (W : Int) : List Tk := if 2 ≤ W then [(11, 0)] else []
def tn (T : List Tk) (O : List Int) (W : Int) : List Tk := T ++ List.replicate (nts O) (9, 0) ++ t10 W
abbrev CR : Type := Int × (Int × (Int × (List Tk × (List Int × Int))))
def cls (g : Int → Int) (N : Int) : Nat → Int → List Tk → List Int → Int → CR
  | 0, _, _, _, _ => (0, 0, 0, [], [], 0)
  | k + 1, p, T, O, W => if stq g N (sk g N p) (chs 23) 3 = 1 then (0, 1, sk g N p + 3, tn T O W, drp O, W - W % 2 + 1) else if stq g N (sk g N p) (chs 24) 2 = 1 then (0, 1, sk g N p + 2, tn T O W ++ t11 W, drp O, 2) else match drp O with
    | [] => (0, 0, sk g N p, tn T O W ++ t11 W, [], 0)
    | w :: O2 => if byt g N (sk g N p) = 93 then cls g N k (sk g N p + 1) (tn T O W ++ t11 W) O2 w else (1 + 8 * sk g N p, 0, 0, [], [], 0)
def tst (g : Int → Int) (N : Int) (K : Nat) : Nat → Int → Int → List Tk → List Int → Int → PR
  | 0, _, _, _, _, _ => (0, 0, 0, [])
  | k + 1, p, m, T, O, W => if ¬ (opn g N K p O W).1 = 0 then ((opn g N K p O W).1, 0, 0, []) else if ¬ (fct g N K (opn g N K p O W).2.1 m T).1 = 0 then ((fct g N K (opn g N K p O W).2.1 m T).1, 0, 0, []) else if ¬ (cls g N 11 (fct g N K (opn g N K p O W).2.1 m T).2.1 (fct g N K (opn g N K p O W).2.1 m T).2.2.2 (opn g N K p O W).2.2.1 (opn g N K p O W).2.2.2).1 = 0 then ((cls g N 11 (fct g N K (opn g N K p O W).2.1 m T).2.1 (fct g N K (opn g N K p O W).2.1 m T).2.2.2 (opn g N K p O W).2.2.1 (opn g N K p O W).2.2.2).1, 0, 0, []) else if (cls g N 11 (fct g N K (opn g N K p O W).2.1 m T).2.1 (fct g N K (opn g N K p O W).2.1 m T).2.2.2 (opn g N K p O W).2.2.1 (opn g N K p O W).2.2.2).2.1 = 1 then tst g N K k (cls g N 11 (fct g N K (opn g N K p O W).2.1 m T).2.1 (fct g N K (opn g N K p O W).2.1 m T).2.2.2 (opn g N K p O W).2.2.1 (opn g N K p O W).2.2.2).2.2.1 (fct g N K (opn g N K p O W).2.1 m T).2.2.1 (cls g N 11 (fct g N K (opn g N K p O W).2.1 m T).2.1 (fct g N K (opn g N K p O W).2.1 m T).2.2.2 (opn g N K p O W).2.2.1 (opn g N K p O W).2.2.2).2.2.2.1 (cls g N 11 (fct g N K (opn g N K p O W).2.1 m T).2.1 (fct g N K (opn g N K p O W).2.1 m T).2.2.2 (opn g N K p O W).2.2.1 (opn g N K p O W).2.2.2).2.2.2.2.1 (cls g N 11 (fct g N K (opn g N K p O W).2.1 m T).2.1 (fct g N K (opn g N K p O W).2.1 m T).2.2.2 (opn g N K p O W).2.2.1 (opn g N K p O W).2.2.2).2.2.2.2.2 else (0, (cls g N 11 (fct g N K (opn g N K p O W).2.1 m T).2.1 (fct g N K (opn g N K p O W).2.1 m T).2.2.2 (opn g N K p O W).2.2.1 (opn g N K p O W).2.2.2).2.2.1, (fct g N K (opn g N K p O W).2.1 m T).2.2.1, (cls g N 11 (fct g N K (opn g N K p O W).2.1 m T).2.1 (fct g N K (opn g N K p O W).2.1 m T).2.2.2 (opn g N K p O W).2.2.1 (opn g N K p O W).2.2.2).2.2.2.1)
theorem tst_st {g : Int → Int} {N p m f1 p1 W W1 f2 p2 m2 f3 mo p3 W3 : Int} {K k : Nat} {T T2 T3 : List Tk} {O O1 O3 : List Int} (h1 : opn g N K p O W = (f1, p1, O1, W1)) (h2 : fct g N K p1 m T = (f2, p2, m2, T2)) (h3 : cls g N 11 p2 T2 O1 W1 = (f3, mo, p3, T3, O3, W3)) : tst g N K (k + 1) p m T O W = if ¬ f1 = 0 then (f1, 0, 0, []) else if ¬ f2 = 0 then (f2, 0, 0, []) else if ¬ f3 = 0 then (f3, 0, 0, []) else if mo = 1 then tst g N K k p3 m2 T3 O3 W3 else (0, p3, m2, T3) := by
  conv => lhs; unfold tst
  rw [h1]
  dsimp only
  rw [h2]
  dsimp only
  rw [h3]
def wn (W : Int) : Int := (if W % 2 = 1 then 1 else 0) + (if 2 ≤ W then 1 else 0)
def pnb : List Int → Int
  | [] => 0
  | x :: O => (if x = -1 then 0 else wn x) + pnb O
def nnt : List Int → Int
  | [] => 0
  | x :: O => (if x = -1 then 1 else 0) + nnt O
def okO : List Int → Prop
  | [] => True
  | x :: O => (x = -1 ∨ (0 ≤ x ∧ x ≤ 3)) ∧ okO O
theorem wn_rng (W : Int) : 0 ≤ wn W ∧ wn W ≤ 2 := by
  unfold wn
  repeat' split
  all_goals omega
theorem pnb_nn : ∀ O, 0 ≤ pnb O := by
  intro O
  induction O with
  | nil => exact Int.le_refl 0
  | cons x O ih =>
    have := wn_rng x
    unfold pnb
    split <;> omega
theorem nnt_nn : ∀ O, 0 ≤ nnt O := by
  intro O
  induction O with
  | nil => exact Int.le_refl 0
  | cons x O ih =>
    unfold nnt
    split <;> omega
theorem pr4o {a a' b b' W W' : Int} {O O' : List Int} (h : (a, b, O, W) = (a', b', O', W')) : a = a' ∧ b = b' ∧ O = O' ∧ W = W' := by
  injection h with h1 h2
  injection h2 with h2 h3
  injection h3 with h3 h4
  exact ⟨h1, h2, h3, h4⟩
theorem opn_g {g : Int → Int} {N : Int} : ∀ (k : Nat) (p p' W W' : Int) (O O' : List Int), opn g N k p O W = (0, p', O', W') → okO O → 0 ≤ W → W ≤ 3 → O.length ≤ 10 → 0 ≤ p → p ≤ N → okO O' ∧ (0 ≤ W' ∧ W' ≤ 3) ∧ O'.length ≤ 10 ∧ (p ≤ p' ∧ p' ≤ N) ∧ wn W' + pnb O' = wn W + pnb O ∧ 3 * nnt O' + p ≤ 3 * nnt O + p' ∧ sk g N p' = p' := by
  intro k
  induction k with
  | zero =>
    intro p p' W W' O O' h h1 h2 h3 h4 h5 h6
    obtain ⟨_, e1, e2, e3⟩ := pr4o h
    have hs := nm_rng (g := g) (p := p) (N := N) ⟨h5, h6⟩
    have hk := sk_rng (g := g) (n := N) (p := p)
    subst e1 e2 e3
    exact ⟨h1, ⟨h2, h3⟩, h4, by omega, rfl, by omega, sk_2 g N p⟩
  | succ k ih =>
    intro p p' W W' O O' h h1 h2 h3 h4 h5 h6
    have hs := nm_rng (g := g) (p := p) (N := N) ⟨h5, h6⟩
    have hk := sk_rng (g := g) (n := N) (p := p)
    unfold opn at h
    by_cases hb : byt g N (sk g N p) = 91
    · rw [if_pos hb] at h
      have hlt : sk g N p < N := by
        by_cases x : sk g N p < N
        · exact x
        · unfold byt at hb
          rw [if_neg x] at hb
          omega
      by_cases hd : 10 ≤ O.length
      · rw [if_pos hd] at h
        have := (pr4o h).1
        omega
      · rw [if_neg hd] at h
        obtain ⟨i1, i2, i3, i4, i5, i6, i7⟩ := ih _ p' 0 W' (W :: O) O' h ⟨Or.inr ⟨h2, h3⟩, h1⟩ (by omega) (by omega) (by show O.length + 1 ≤ 10; omega) (by omega) (by omega)
        have e1 : pnb (W :: O) = wn W + pnb O := by
          show (if W = -1 then 0 else wn W) + pnb O = _
          rw [if_neg (by omega)]
        have e2 : nnt (W :: O) = nnt O := by
          show (if W = -1 then 1 else 0) + nnt O = _
          rw [if_neg (by omega)]
          omega
        have e3 : wn 0 = 0 := by decide
        exact ⟨i1, i2, i3, by omega, by omega, by omega, i7⟩
    · rw [if_neg hb] at h
      by_cases hn : stq g N (sk g N p) (chs 22) 3 = 1
      · rw [if_pos hn] at h
        have hrn := stq_rn hn
        have hr2 := rn_rng (g := g) (n := N) (p := sk g N p)
        by_cases hd : 10 ≤ O.length
        · rw [if_pos hd] at h
          have := (pr4o h).1
          omega
        · rw [if_neg hd] at h
          obtain ⟨i1, i2, i3, i4, i5, i6, i7⟩ := ih _ p' W W' (-1 :: O) O' h ⟨Or.inl rfl, h1⟩ h2 h3 (by show O.length + 1 ≤ 10; omega) (by omega) (by omega)
          have e1 : pnb (-1 :: O) = pnb O := by
            show (if (-1 : Int) = -1 then 0 else wn (-1)) + pnb O = _
            rw [if_pos rfl]
            omega
          have e2 : nnt (-1 :: O) = 1 + nnt O := by
            show (if (-1 : Int) = -1 then 1 else 0) + nnt O = _
            rw [if_pos rfl]
          exact ⟨i1, i2, i3, by omega, by omega, by omega, i7⟩
      · rw [if_neg hn] at h
        obtain ⟨_, e1, e2, e3⟩ := pr4o h
        subst e1 e2 e3
        exact ⟨h1, ⟨h2, h3⟩, h4, by omega, rfl, by omega, sk_2 g N p⟩
theorem byt_lt {g : Int → Int} {N p v : Int} (h : byt g N p = v) (hv : ¬ v = -1) : p < N := by
  by_cases x : p < N
  · exact x
  · unfold byt at h
    rw [if_neg x] at h
    omega
theorem ceq_rng {g : Int → Int} {N p : Int} (h : p < N) : 0 ≤ ceq g N p ∧ ceq g N p ≤ 1 ∧ p + 1 + ceq g N p ≤ N := by
  unfold ceq
  split
  · next x =>
    have := byt_lt x.2 (by omega)
    omega
  · omega
theorem ccd_k (g : Int → Int) (N p : Int) : ccd g N p = 4 ∨ ccd g N p = 5 ∨ ccd g N p = 6 ∨ ccd g N p = 7 ∨ ccd g N p = 8 := by
  unfold ccd
  repeat' split
  all_goals omega
/-- what a fact leaves -/
theorem fct_g {g : Int → Int} {N p m p' m' : Int} {T T' : List Tk} {k : Nat} (h : fct g N k p m T = (0, p', m', T')) (hp : 0 ≤ p ∧ p ≤ N) (a b : List Bool) : (p < p' ∧ p' ≤ N) ∧ (m < m' ∧ m' ≤ 60) ∧ 3 * (T'.length : Int) + 7 * m + p + 13 ≤ 3 * T.length + 7 * m' + p' ∧ (Kds T a b → Kds T' a (true :: b)) ∧ vcn T' - vcn T ≤ m' - m ∧ T.length < T'.length ∧ sk g N p' = p' := by
  unfold fct at h
  rcases hv : smf g N k p m T with ⟨f1, p1, m1, T1⟩
  rw [hv] at h
  dsimp only at h
  by_cases hf : f1 = 0
  · subst hf
    rw [if_neg (fun q => q rfl)] at h
    obtain ⟨⟨g1, g2, g3, g4, g5, g7⟩, g6⟩ := smf_g hv hp a b
    unfold fc2 at h
    by_cases hb : byt g N p1 = 60 ∨ byt g N p1 = 61 ∨ byt g N p1 = 62
    · rw [if_neg (fun q => q hb)] at h
      have hlt : p1 < N := by
        rcases hb with x | x | x
        · exact byt_lt x (by omega)
        · exact byt_lt x (by omega)
        · exact byt_lt x (by omega)
      have hc := ceq_rng (g := g) hlt
      by_cases h60 : 60 ≤ m1
      · rw [if_pos h60] at h
        have := (prL h).1
        omega
      · rw [if_neg h60] at h
        rcases hw : smf g N k (p1 + 1 + ceq g N p1) (m1 + 1) T1 with ⟨f2, p2, m2, T2⟩
        rw [hw] at h
        dsimp only at h
        by_cases hf2 : f2 = 0
        · subst hf2
          rw [if_neg (fun q => q rfl)] at h
          obtain ⟨⟨i1, i2, i3, i4, i5, i7⟩, i6⟩ := smf_g hw (by omega) a (false :: b)
          obtain ⟨_, e1, e2, e3⟩ := prL h
          have hcc := ccd_k g N p1
          have hl := len_app (t := (ccd g N p1, 0)) (T := T2)
          have hvc := vcn_app (t := (ccd g N p1, 0)) (T := T2)
          simp only [if_neg (show ¬ (ccd g N p1 = 0 ∨ ccd g N p1 = 1) by omega)] at hvc
          rw [e3] at hl hvc
          subst e1 e2
          refine ⟨by omega, by omega, by omega, fun hK => ?_, by omega, by omega, i6⟩
          rw [← e3]
          exact Kds_app (i4 (g4 hK)) (Or.inr (Or.inr (Or.inr (Or.inr (Or.inl ⟨by omega, b, rfl, rfl⟩)))))
        · rw [if_pos hf2] at h
          exact absurd (prL h).1 hf2
    · rw [if_pos hb] at h
      have := (prL h).1
      omega
  · rw [if_pos hf] at h
    exact absurd (prL h).1 hf

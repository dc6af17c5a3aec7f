/-! what a rule's text tells -/
abbrev PR : Type := Int × (Int × (Int × List Tk))
def wd9 (g : Int → Int) (N q : Int) : Int := rwd g N q (chs 2) 0 0 [4, 6, 8, 3, 5, 4, 5, 3, 4]
def wl9 (w : Int) : Int := if w = 0 then 4 else if w = 1 then 6 else if w = 2 then 8 else if w = 3 then 3 else if w = 4 then 5 else if w = 5 then 4 else if w = 6 then 5 else if w = 7 then 3 else 4
/-- a VALUE -/
def vlf (g : Int → Int) (N p m : Int) (T : List Tk) : PR :=
  if isdg g N (sk g N p) = 1 then
    (if ¬ amf g N (sk g N p) 0 99999 = 0 then (amf g N (sk g N p) 0 99999, 0, 0, []) else if 60 ≤ m then (1 + 8 * sk g N p + 3, 0, 0, []) else (0, (dgt g N (sk g N p)).1, m + 1, T ++ [(0, (dgt g N (sk g N p)).2)]))
  else if wd9 g N (sk g N p) = -1 then (1 + 8 * sk g N p, 0, 0, []) else if 60 ≤ m then (1 + 8 * sk g N p + 3, 0, 0, []) else (0, sk g N p + wl9 (wd9 g N (sk g N p)), m + 1, T ++ [(1, wd9 g N (sk g N p))])
def sop (b : Int) : Int := if b = 42 then 13 else if b = 47 then 14 else if b = 37 then 15 else 0
def wop (b : Int) : Int := if b = 43 then 2 else if b = 45 then 3 else 0
def tml (g : Int → Int) (N : Int) : Nat → Int → Int → List Tk → PR
  | 0, p, m, T => (0, sk g N p, m, T)
  | k + 1, p, m, T => if sop (byt g N (sk g N p)) = 0 then (0, sk g N p, m, T) else if ¬ (vlf g N (sk g N p + 1) m T).1 = 0 then ((vlf g N (sk g N p + 1) m T).1, 0, 0, []) else tml g N k (vlf g N (sk g N p + 1) m T).2.1 (vlf g N (sk g N p + 1) m T).2.2.1 ((vlf g N (sk g N p + 1) m T).2.2.2 ++ [(sop (byt g N (sk g N p)), 0)])
def trm (g : Int → Int) (N : Int) (k : Nat) (p m : Int) (T : List Tk) : PR := if ¬ (vlf g N p m T).1 = 0 then ((vlf g N p m T).1, 0, 0, []) else tml g N k (vlf g N p m T).2.1 (vlf g N p m T).2.2.1 (vlf g N p m T).2.2.2
def sml (g : Int → Int) (N : Int) : Nat → Int → Int → List Tk → PR
  | 0, p, m, T => (0, p, m, T)
  | k + 1, p, m, T => if wop (byt g N p) = 0 then (0, p, m, T) else if ¬ (trm g N k (p + 1) m T).1 = 0 then ((trm g N k (p + 1) m T).1, 0, 0, []) else sml g N k (trm g N k (p + 1) m T).2.1 (trm g N k (p + 1) m T).2.2.1 ((trm g N k (p + 1) m T).2.2.2 ++ [(wop (byt g N p), 0)])
def smf (g : Int → Int) (N : Int) (k : Nat) (p m : Int) (T : List Tk) : PR := if ¬ (trm g N k p m T).1 = 0 then ((trm g N k p m T).1, 0, 0, []) else sml g N k (trm g N k p m T).2.1 (trm g N k p m T).2.2.1 (trm g N k p m T).2.2.2
theorem prL {a a' b b' c c' : Int} {d d' : List Tk} (h : (a, b, c, d) = (a', b', c', d')) : a = a' ∧ b = b' ∧ c = c' ∧ d = d' := by
  injection h with h1 h2
  injection h2 with h2 h3
  injection h3 with h3 h4
  exact ⟨h1, h2, h3, h4⟩
theorem Kds_app {t : Tk} : ∀ {T : List Tk} {a b c : List Bool}, Kds T a b → Kd t.1 t.2 b c → Kds (T ++ [t]) a c := by
  intro T
  induction T with
  | nil =>
    intro a b c h1 h2
    have h1 : a = b := h1
    subst h1
    exact ⟨c, h2, rfl⟩
  | cons x T ih =>
    intro a b c ⟨m, h1, h2⟩ h3
    exact ⟨m, h1, ih h2 h3⟩
theorem vcn_app {t : Tk} : ∀ {T : List Tk}, vcn (T ++ [t]) = vcn T + (if t.1 = 0 ∨ t.1 = 1 then 1 else 0) := by
  intro T
  induction T with
  | nil =>
    show (if t.1 = 0 ∨ t.1 = 1 then 1 else 0) + 0 = 0 + _
    omega
  | cons x T ih =>
    show _ + vcn (T ++ [t]) = _ + vcn T + _
    rw [ih]
    omega
/-- what a piece of a text leaves: its place behind, its parts, its tokens -/
def VG (N p m p' m' : Int) (T T' : List Tk) (a b b' : List Bool) : Prop := (p < p' ∧ p' ≤ N) ∧ (m < m' ∧ m' ≤ 60) ∧ 3 * (T'.length : Int) + 7 * m + p + 4 ≤ 3 * T.length + 7 * m' + p' ∧ (Kds T a b → Kds T' a b') ∧ vcn T' - vcn T ≤ m' - m ∧ T.length ≤ T'.length
def kw9 (T : List Tk) : Prop := ∀ t ∈ T, t.1 = 1 → 0 ≤ t.2 ∧ t.2 ≤ 8
theorem wd9_stq (g : Int → Int) (N q : Int) : wd9 g N q = if stq g N q (chs 13) 4 = 1 then 0 else if stq g N q (chs 14) 6 = 1 then 1 else if stq g N q (chs 15) 8 = 1 then 2 else if stq g N q (chs 16) 3 = 1 then 3 else if stq g N q (chs 17) 5 = 1 then 4 else if stq g N q (chs 10) 4 = 1 then 5 else if stq g N q (chs 18) 5 = 1 then 6 else if stq g N q (chs 19) 3 = 1 then 7 else if stq g N q (chs 20) 4 = 1 then 8 else -1 := by
  unfold wd9 rwd rwd rwd rwd rwd rwd rwd rwd rwd rwd
  rw [stq_ex (f := fun j => chs 2 (0 + j)) (f' := chs 13) (l := 4) (fin_all (by decide +kernel)), stq_ex (f := fun j => chs 2 (0 + ((4 : Nat) : Int) + 1 + j)) (f' := chs 14) (l := 6) (fin_all (by decide +kernel)), stq_ex (f := fun j => chs 2 (0 + ((4 : Nat) : Int) + 1 + ((6 : Nat) : Int) + 1 + j)) (f' := chs 15) (l := 8) (fin_all (by decide +kernel)), stq_ex (f := fun j => chs 2 (0 + ((4 : Nat) : Int) + 1 + ((6 : Nat) : Int) + 1 + ((8 : Nat) : Int) + 1 + j)) (f' := chs 16) (l := 3) (fin_all (by decide +kernel)), stq_ex (f := fun j => chs 2 (0 + ((4 : Nat) : Int) + 1 + ((6 : Nat) : Int) + 1 + ((8 : Nat) : Int) + 1 + ((3 : Nat) : Int) + 1 + j)) (f' := chs 17) (l := 5) (fin_all (by decide +kernel)), stq_ex (f := fun j => chs 2 (0 + ((4 : Nat) : Int) + 1 + ((6 : Nat) : Int) + 1 + ((8 : Nat) : Int) + 1 + ((3 : Nat) : Int) + 1 + ((5 : Nat) : Int) + 1 + j)) (f' := chs 10) (l := 4) (fin_all (by decide +kernel)), stq_ex (f := fun j => chs 2 (0 + ((4 : Nat) : Int) + 1 + ((6 : Nat) : Int) + 1 + ((8 : Nat) : Int) + 1 + ((3 : Nat) : Int) + 1 + ((5 : Nat) : Int) + 1 + ((4 : Nat) : Int) + 1 + j)) (f' := chs 18) (l := 5) (fin_all (by decide +kernel)), stq_ex (f := fun j => chs 2 (0 + ((4 : Nat) : Int) + 1 + ((6 : Nat) : Int) + 1 + ((8 : Nat) : Int) + 1 + ((3 : Nat) : Int) + 1 + ((5 : Nat) : Int) + 1 + ((4 : Nat) : Int) + 1 + ((5 : Nat) : Int) + 1 + j)) (f' := chs 19) (l := 3) (fin_all (by decide +kernel)), stq_ex (f := fun j => chs 2 (0 + ((4 : Nat) : Int) + 1 + ((6 : Nat) : Int) + 1 + ((8 : Nat) : Int) + 1 + ((3 : Nat) : Int) + 1 + ((5 : Nat) : Int) + 1 + ((4 : Nat) : Int) + 1 + ((5 : Nat) : Int) + 1 + ((3 : Nat) : Int) + 1 + j)) (f' := chs 20) (l := 4) (fin_all (by decide +kernel))]
  rfl
theorem wd9_rn {g : Int → Int} {N q : Int} (h : ¬ wd9 g N q = -1) : (0 ≤ wd9 g N q ∧ wd9 g N q ≤ 8) ∧ rn g N q = q + wl9 (wd9 g N q) := by
  rw [wd9_stq] at h ⊢
  by_cases h0 : stq g N q (chs 13) 4 = 1
  · rw [if_pos h0]
    exact ⟨by omega, stq_rn h0⟩
  rw [if_neg h0] at h ⊢
  by_cases h1 : stq g N q (chs 14) 6 = 1
  · rw [if_pos h1]
    exact ⟨by omega, stq_rn h1⟩
  rw [if_neg h1] at h ⊢
  by_cases h2 : stq g N q (chs 15) 8 = 1
  · rw [if_pos h2]
    exact ⟨by omega, stq_rn h2⟩
  rw [if_neg h2] at h ⊢
  by_cases h3 : stq g N q (chs 16) 3 = 1
  · rw [if_pos h3]
    exact ⟨by omega, stq_rn h3⟩
  rw [if_neg h3] at h ⊢
  by_cases h4 : stq g N q (chs 17) 5 = 1
  · rw [if_pos h4]
    exact ⟨by omega, stq_rn h4⟩
  rw [if_neg h4] at h ⊢
  by_cases h5 : stq g N q (chs 10) 4 = 1
  · rw [if_pos h5]
    exact ⟨by omega, stq_rn h5⟩
  rw [if_neg h5] at h ⊢
  by_cases h6 : stq g N q (chs 18) 5 = 1
  · rw [if_pos h6]
    exact ⟨by omega, stq_rn h6⟩
  rw [if_neg h6] at h ⊢
  by_cases h7 : stq g N q (chs 19) 3 = 1
  · rw [if_pos h7]
    exact ⟨by omega, stq_rn h7⟩
  rw [if_neg h7] at h ⊢
  by_cases h8 : stq g N q (chs 20) 4 = 1
  · rw [if_pos h8]
    exact ⟨by omega, stq_rn h8⟩
  · rw [if_neg h8] at h
    exact absurd rfl h
theorem wl9_pos (w : Int) : 3 ≤ wl9 w := by
  unfold wl9
  repeat' split
  all_goals omega
theorem wd9_place {g : Int → Int} {N q : Int} (h : ¬ wd9 g N q = -1) : q + 3 ≤ q + wl9 (wd9 g N q) ∧ q + wl9 (wd9 g N q) ≤ N := by
  have h1 := wd9_rn h
  have h2 := rn_rng (g := g) (n := N) (p := q)
  have h3 := wl9_pos (wd9 g N q)
  omega
theorem dgt_1 {g : Int → Int} {N q : Int} (h : isdg g N q = 1) : q < (dgt g N q).1 ∧ (dgt g N q).1 ≤ N := by
  have hd := isdg_1 h
  have h1 : dgt g N q = dgf g N q ((N - q).toNat - 1) (q + 1) (10 * 0 + g q - 48) := by
    unfold dgt
    rw [show (N - q).toNat = ((N - q).toNat - 1) + 1 by omega]
    show (if q < N ∧ 48 ≤ g q ∧ g q ≤ 57 then dgf g N q ((N - q).toNat - 1) (q + 1) (if q - q < 5 then 10 * 0 + g q - 48 else 0) else (q, 0)) = _
    rw [if_pos ⟨hd.1, hd.2.1, hd.2.2⟩, if_pos (by omega)]
    rfl
  have h2 := dgf_rng (g := g) (N := N) (p0 := q) ((N - q).toNat - 1) (q + 1) (10 * 0 + g q - 48) (by omega)
  rw [h1]
  omega
theorem len_app {t : Tk} {T : List Tk} : (((T ++ [t]).length : Nat) : Int) = T.length + 1 := by
  rw [List.length_append]
  rfl
theorem vlf_g {g : Int → Int} {N p m p' m' : Int} {T T' : List Tk} (h : vlf g N p m T = (0, p', m', T')) (hp : 0 ≤ p ∧ p ≤ N) (a b : List Bool) : VG N p m p' m' T T' a b (false :: b) := by
  have hs := nm_rng (g := g) hp
  have hk := sk_rng (g := g) (n := N) (p := p)
  unfold vlf at h
  by_cases hd : isdg g N (sk g N p) = 1
  · rw [if_pos hd] at h
    by_cases h1 : amf g N (sk g N p) 0 99999 = 0
    · rw [if_neg (fun q => q h1)] at h
      by_cases h2 : 60 ≤ m
      · rw [if_pos h2] at h
        have := (prL h).1
        omega
      · rw [if_neg h2] at h
        obtain ⟨_, e1, e2, e3⟩ := prL h
        have h3 := dgt_1 hd
        refine ⟨by omega, by omega, ?_, fun hK => ?_, ?_, by rw [← e3, List.length_append]; omega⟩
        · rw [← e3, len_app]
          omega
        · rw [← e3]
          exact Kds_app hK (Or.inl ⟨rfl, rfl⟩)
        · rw [← e3, vcn_app, if_pos (Or.inl rfl)]
          omega
    · rw [if_pos h1] at h
      exact absurd (prL h).1 h1
  · rw [if_neg hd] at h
    by_cases h1 : wd9 g N (sk g N p) = -1
    · rw [if_pos h1] at h
      have := (prL h).1
      omega
    · rw [if_neg h1] at h
      by_cases h2 : 60 ≤ m
      · rw [if_pos h2] at h
        have := (prL h).1
        omega
      · rw [if_neg h2] at h
        obtain ⟨_, e1, e2, e3⟩ := prL h
        have h3 := wd9_place h1
        have h4 := wd9_rn h1
        refine ⟨by omega, by omega, ?_, fun hK => ?_, ?_, by rw [← e3, List.length_append]; omega⟩
        · rw [← e3, len_app]
          omega
        · rw [← e3]
          exact Kds_app hK (Or.inr (Or.inl ⟨rfl, h4.1.1, h4.1.2, rfl⟩))
        · rw [← e3, vcn_app, if_pos (Or.inr rfl)]
          omega
theorem sop_lt {g : Int → Int} {N p : Int} (h : ¬ sop (byt g N p) = 0) : p < N := by
  by_cases h1 : p < N
  · exact h1
  · unfold byt at h
    rw [if_neg h1] at h
    exact absurd (by decide) h
theorem wop_lt {g : Int → Int} {N p : Int} (h : ¬ wop (byt g N p) = 0) : p < N := by
  by_cases h1 : p < N
  · exact h1
  · unfold byt at h
    rw [if_neg h1] at h
    exact absurd (by decide) h
theorem sop_k {b : Int} (h : ¬ sop b = 0) : sop b = 13 ∨ sop b = 14 ∨ sop b = 15 := by
  unfold sop at h ⊢
  repeat' split
  all_goals first
    | omega
    | (exfalso; apply h; rfl)
    | (exfalso; simp_all)
theorem wop_k {b : Int} (h : ¬ wop b = 0) : wop b = 2 ∨ wop b = 3 := by
  unfold wop at h ⊢
  repeat' split
  all_goals first
    | omega
    | (exfalso; apply h; rfl)
    | (exfalso; simp_all)
/-- what may follow a VALUE -/
def VH (N p m p' m' : Int) (T T' : List Tk) (a b : List Bool) : Prop := (p ≤ p' ∧ p' ≤ N) ∧ (m ≤ m' ∧ m' ≤ 60) ∧ 3 * (T'.length : Int) + 7 * m + p ≤ 3 * T.length + 7 * m' + p' ∧ (Kds T a (false :: b) → Kds T' a (false :: b)) ∧ vcn T' - vcn T ≤ m' - m ∧ T.length ≤ T'.length
theorem tml_g {g : Int → Int} {N : Int} {a b : List Bool} : ∀ (k : Nat) (p m p' m' : Int) (T T' : List Tk), tml g N k p m T = (0, p', m', T') → 0 ≤ p → p ≤ N → m ≤ 60 → VH N p m p' m' T T' a b ∧ sk g N p' = p' := by
  intro k
  induction k with
  | zero =>
    intro p m p' m' T T' h h0 h1 h2
    have hs := nm_rng (g := g) (p := p) (N := N) ⟨h0, h1⟩
    have hk := sk_rng (g := g) (n := N) (p := p)
    obtain ⟨_, e1, e2, e3⟩ := prL h
    subst e1 e2 e3
    exact ⟨⟨by omega, by omega, by omega, fun h => h, by omega, Nat.le_refl _⟩, sk_2 g N p⟩
  | succ k ih =>
    intro p m p' m' T T' h h0 h1 h2
    have hs := nm_rng (g := g) (p := p) (N := N) ⟨h0, h1⟩
    have hk := sk_rng (g := g) (n := N) (p := p)
    unfold tml at h
    by_cases ho : sop (byt g N (sk g N p)) = 0
    · rw [if_pos ho] at h
      obtain ⟨_, e1, e2, e3⟩ := prL h
      subst e1 e2 e3
      exact ⟨⟨by omega, by omega, by omega, fun h => h, by omega, Nat.le_refl _⟩, sk_2 g N p⟩
    · rw [if_neg ho] at h
      have hlt := sop_lt ho
      rcases hv : vlf g N (sk g N p + 1) m T with ⟨f1, p1, m1, T1⟩
      rw [hv] at h
      simp only at h
      by_cases hf : f1 = 0
      · subst hf
        rw [if_neg (fun q => q rfl)] at h
        have hg := vlf_g hv (by omega) a (false :: b)
        obtain ⟨g1, g2, g3, g4, g5, g7⟩ := hg
        obtain ⟨⟨i1, i2, i3, i4, i5, i7⟩, i6⟩ := ih p1 m1 p' m' _ T' h (by omega) (by omega) (by omega)
        have i8 := len_app (t := (sop (byt g N (sk g N p)), 0)) (T := T1)
        rw [len_app] at i3
        rw [vcn_app] at i5
        have hso := sop_k ho
        have hne : ¬ (sop (byt g N (sk g N p)) = 0 ∨ sop (byt g N (sk g N p)) = 1) := by omega
        simp only [if_neg hne] at i5
        refine ⟨⟨by omega, by omega, by omega, fun hK => i4 ?_, by omega, by omega⟩, i6⟩
        exact Kds_app (g4 hK) (Or.inr (Or.inr (Or.inr (Or.inl ⟨by omega, b, rfl, rfl⟩))))
      · rw [if_pos hf] at h
        exact absurd (prL h).1 hf
theorem trm_g {g : Int → Int} {N p m p' m' : Int} {T T' : List Tk} {k : Nat} (h : trm g N k p m T = (0, p', m', T')) (hp : 0 ≤ p ∧ p ≤ N) (a b : List Bool) : VG N p m p' m' T T' a b (false :: b) ∧ sk g N p' = p' := by
  unfold trm at h
  rcases hv : vlf g N p m T with ⟨f1, p1, m1, T1⟩
  rw [hv] at h
  simp only at h
  by_cases hf : f1 = 0
  · subst hf
    rw [if_neg (fun q => q rfl)] at h
    obtain ⟨g1, g2, g3, g4, g5, g7⟩ := vlf_g hv hp a b
    obtain ⟨⟨i1, i2, i3, i4, i5, i7⟩, i6⟩ := tml_g (a := a) (b := b) k p1 m1 p' m' T1 T' h (by omega) (by omega) (by omega)
    exact ⟨⟨by omega, by omega, by omega, fun hK => i4 (g4 hK), by omega, by omega⟩, i6⟩
  · rw [if_pos hf] at h
    exact absurd (prL h).1 hf
theorem sml_g {g : Int → Int} {N : Int} {a b : List Bool} : ∀ (k : Nat) (p m p' m' : Int) (T T' : List Tk), sml g N k p m T = (0, p', m', T') → 0 ≤ p → p ≤ N → m ≤ 60 → sk g N p = p → VH N p m p' m' T T' a b ∧ sk g N p' = p' := by
  intro k
  induction k with
  | zero =>
    intro p m p' m' T T' h h0 h1 h2 h3
    obtain ⟨_, e1, e2, e3⟩ := prL h
    subst e1 e2 e3
    exact ⟨⟨by omega, by omega, by omega, fun h => h, by omega, Nat.le_refl _⟩, h3⟩
  | succ k ih =>
    intro p m p' m' T T' h h0 h1 h2 h3
    unfold sml at h
    by_cases ho : wop (byt g N p) = 0
    · rw [if_pos ho] at h
      obtain ⟨_, e1, e2, e3⟩ := prL h
      subst e1 e2 e3
      exact ⟨⟨by omega, by omega, by omega, fun h => h, by omega, Nat.le_refl _⟩, h3⟩
    · rw [if_neg ho] at h
      have hlt := wop_lt ho
      rcases hv : trm g N k (p + 1) m T with ⟨f1, p1, m1, T1⟩
      rw [hv] at h
      simp only at h
      by_cases hf : f1 = 0
      · subst hf
        rw [if_neg (fun q => q rfl)] at h
        obtain ⟨⟨g1, g2, g3, g4, g5, g7⟩, g6⟩ := trm_g hv (by omega) a (false :: b)
        obtain ⟨⟨i1, i2, i3, i4, i5, i7⟩, i6⟩ := ih p1 m1 p' m' _ T' h (by omega) (by omega) (by omega) g6
        have i8 := len_app (t := (wop (byt g N p), 0)) (T := T1)
        rw [len_app] at i3
        rw [vcn_app] at i5
        have hso := wop_k ho
        have hne : ¬ (wop (byt g N p) = 0 ∨ wop (byt g N p) = 1) := by omega
        simp only [if_neg hne] at i5
        refine ⟨⟨by omega, by omega, by omega, fun hK => i4 ?_, by omega, by omega⟩, i6⟩
        exact Kds_app (g4 hK) (Or.inr (Or.inr (Or.inr (Or.inl ⟨by omega, b, rfl, rfl⟩))))
      · rw [if_pos hf] at h
        exact absurd (prL h).1 hf
theorem smf_g {g : Int → Int} {N p m p' m' : Int} {T T' : List Tk} {k : Nat} (h : smf g N k p m T = (0, p', m', T')) (hp : 0 ≤ p ∧ p ≤ N) (a b : List Bool) : VG N p m p' m' T T' a b (false :: b) ∧ sk g N p' = p' := by
  unfold smf at h
  rcases hv : trm g N k p m T with ⟨f1, p1, m1, T1⟩
  rw [hv] at h
  simp only at h
  by_cases hf : f1 = 0
  · subst hf
    rw [if_neg (fun q => q rfl)] at h
    obtain ⟨⟨g1, g2, g3, g4, g5, g7⟩, g6⟩ := trm_g hv hp a b
    obtain ⟨⟨i1, i2, i3, i4, i5, i7⟩, i6⟩ := sml_g (a := a) (b := b) k p1 m1 p' m' T1 T' h (by omega) (by omega) (by omega) g6
    exact ⟨⟨by omega, by omega, by omega, fun hK => i4 (g4 hK), by omega, by omega⟩, i6⟩
  · rw [if_pos hf] at h
    exact absurd (prL h).1 hf

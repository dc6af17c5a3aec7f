/-! what a beach's text tells -/
def chs (a : Nat) (j : Int) : Int := (tc_chs.getD a []).getD j.toNat 0
def STRS (sh : Nat → SH) (c : Nat → Int → Int) : Prop := ∀ a, a < 25 → sh a = (9, (tc_chs.getD a []).length, []) ∧ c a = chs a
def nmf (g : Int → Int) (N p lo hi : Int) : Int := amf g N (sk g N p) lo hi
def nmv (g : Int → Int) (N p : Int) : Int := (dgt g N (sk g N p)).2
def nmp (g : Int → Int) (N p : Int) : Int := (dgt g N (sk g N p)).1
def bw (g : Int → Int) (N q : Int) : Int := rwd g N q (chs 0) 0 0 [5, 3, 4, 4, 5]
def wl5 (w : Int) : Int := if w = 0 then 5 else if w = 1 then 3 else if w = 2 then 4 else if w = 3 then 4 else 5
/-- a clause too many -/
def tmy (k w R : Int) (B : Nat → Int → Int) : Int := if 40 ≤ k then 1 else if w = 0 then (if k = 0 then 0 else 1) else if k = 0 then 1 else if w = 1 then (if R < B 0 1 then 0 else 1) else if w = 2 then (if B 0 2 < 6 then 0 else 1) else if w = 3 then (if B 0 3 < 12 then 0 else 1) else B 0 4
/-- the fault of a row's signs -/
def rwf (g : Int → Int) (N p : Int) : Nat → Int
  | 0 => 0
  | j + 1 => if ¬ rwf g N p j = 0 then rwf g N p j else if isdg g N (p + j) = 1 then 0 else 1 + 8 * (p + j)
def rwh (g h : Int → Int) (p W R : Int) (x : Int) : Int := if W * R ≤ x ∧ x < W * R + W then g (p + (x - W * R)) - 48 else h x
/-- what a clause tells: its fault, the place behind it, the rows told, the beach -/
def bpt (g : Int → Int) (N w p R : Int) (B : Nat → Int → Int) : Int × (Int × (Int × (Nat → Int → Int))) :=
  if w = 0 then
    (if ¬ nmf g N p 2 5 = 0 then (nmf g N p 2 5, 0, 0, B) else if ¬ nmf g N (nmp g N p) 2 5 = 0 then (nmf g N (nmp g N p) 2 5, 0, 0, B) else (0, nmp g N (nmp g N p), R, fr B 0 (fu (fu (B 0) 0 (nmv g N p)) 1 (nmv g N (nmp g N p)))))
  else if w = 1 then
    (if ¬ rwf g N (sk g N p) (B 0 0).toNat = 0 then (rwf g N (sk g N p) (B 0 0).toNat, 0, 0, B) else (0, sk g N p + B 0 0, R + 1, fr B 4 (rwh g (B 4) (sk g N p) (B 0 0) R)))
  else if w = 2 then
    (if ¬ nmf g N p 0 (B 0 0 * B 0 1 - 1) = 0 then (nmf g N p 0 (B 0 0 * B 0 1 - 1), 0, 0, B) else if ¬ nmf g N (nmp g N p) 1 20 = 0 then (nmf g N (nmp g N p) 1 20, 0, 0, B) else if ¬ nmf g N (nmp g N (nmp g N p)) 1 50 = 0 then (nmf g N (nmp g N (nmp g N p)) 1 50, 0, 0, B) else (0, nmp g N (nmp g N (nmp g N p)), R, fr (fr (fr (fr B 5 (fu (B 5) (B 0 2) (nmv g N p))) 1 (fu (B 1) (B 0 2) (nmv g N (nmp g N p)))) 2 (fu (B 2) (B 0 2) (nmv g N (nmp g N (nmp g N p))))) 0 (fu (B 0) 2 (B 0 2 + 1))))
  else if w = 3 then
    (if ¬ nmf g N p 0 20 = 0 then (nmf g N p 0 20, 0, 0, B) else (0, nmp g N p, R, fr (fr B 3 (fu (B 3) (B 0 3) (nmv g N p))) 0 (fu (B 0) 3 (B 0 3 + 1))))
  else
    (if ¬ nmf g N p 0 9 = 0 then (nmf g N p 0 9, 0, 0, B) else if ¬ nmf g N (nmp g N p) 0 9 = 0 then (nmf g N (nmp g N p) 0 9, 0, 0, B) else if ¬ nmf g N (nmp g N (nmp g N p)) 0 9 = 0 then (nmf g N (nmp g N (nmp g N p)) 0 9, 0, 0, B) else if nmv g N p + nmv g N (nmp g N p) + nmv g N (nmp g N (nmp g N p)) = 0 then (1 + 8 * sk g N (nmp g N (nmp g N p)) + 1, 0, 0, B) else (0, nmp g N (nmp g N (nmp g N p)), R, fr B 0 (fu (fu (fu (fu (B 0) 5 (nmv g N p)) 6 (nmv g N (nmp g N p))) 7 (nmv g N (nmp g N (nmp g N p)))) 4 1)))
def bcl (g : Int → Int) (N k p R : Int) (B : Nat → Int → Int) : Int × (Int × (Int × (Nat → Int → Int))) :=
  if bw g N (sk g N p) = -1 then (1 + 8 * sk g N p, 0, 0, B) else if ¬ tmy k (bw g N (sk g N p)) R B = 0 then (1 + 8 * sk g N p + 4, 0, 0, B) else bpt g N (bw g N (sk g N p)) (sk g N p + wl5 (bw g N (sk g N p))) R B
/-- all clauses: the fault, or the beach -/
def bpr (g : Int → Int) (N : Int) : Nat → Int → Int → Int → (Nat → Int → Int) → Int × (Nat → Int → Int)
  | 0, _, _, _, B => (0, B)
  | m + 1, k, p, R, B => if ¬ (bcl g N k p R B).1 = 0 then ((bcl g N k p R B).1, B) else if ¬ gof g N (sk g N (bcl g N k p R B).2.1) = 0 then (gof g N (sk g N (bcl g N k p R B).2.1), B) else if gon g N (sk g N (bcl g N k p R B).2.1) = 1 then bpr g N m (k + 1) (sk g N (bcl g N k p R B).2.1 + 1) (bcl g N k p R B).2.2.1 (bcl g N k p R B).2.2.2 else (0, (bcl g N k p R B).2.2.2)
def bsg : Nat → Int → Int := fun a => if a = 0 then (fun i => if i = 6 then 1 else 0) else if a = 4 then (fun _ => 2) else fun _ => 0
/-- a beach half told -/
def WP (B : Nat → Int → Int) (R k : Int) : Prop := (0 ≤ k ∧ k ≤ 40) ∧ (0 ≤ R ∧ R ≤ B 0 1) ∧ ((k = 0 ∧ B 0 0 = 0 ∧ B 0 1 = 0 ∧ B 0 2 = 0) ∨ (0 < k ∧ 2 ≤ B 0 0 ∧ B 0 0 ≤ 5 ∧ 2 ≤ B 0 1 ∧ B 0 1 ≤ 5)) ∧ (0 ≤ B 0 2 ∧ B 0 2 ≤ 6 ∧ 0 ≤ B 0 3 ∧ B 0 3 ≤ 12) ∧ (B 0 4 = 0 ∨ B 0 4 = 1) ∧ (0 ≤ B 0 5 ∧ B 0 5 ≤ 9 ∧ 0 ≤ B 0 6 ∧ B 0 6 ≤ 9 ∧ 0 ≤ B 0 7 ∧ B 0 7 ≤ 9 ∧ 0 < B 0 5 + B 0 6 + B 0 7) ∧ (∀ f, 0 ≤ f → f < B 0 2 → 1 ≤ B 1 f ∧ B 1 f ≤ 20 ∧ 1 ≤ B 2 f ∧ B 2 f ≤ 50 ∧ 0 ≤ B 5 f ∧ B 5 f < B 0 0 * B 0 1) ∧ (∀ j, 0 ≤ j → j < B 0 3 → 0 ≤ B 3 j ∧ B 3 j ≤ 20) ∧ HT 25 (B 4) ∧ (k = 0 → ∀ x, 0 ≤ x → x < 25 → B 4 x = 2)
theorem WP.wb {B : Nat → Int → Int} {R k : Int} (h : WP B R k) (hk : 0 < k) : WB B := by
  obtain ⟨_, _, h1, h2, _, h3, h4, h5, h6, _⟩ := h
  have hd : 2 ≤ B 0 0 ∧ B 0 0 ≤ 5 ∧ 2 ≤ B 0 1 ∧ B 0 1 ≤ 5 := by omega
  have hN : B 0 0 * B 0 1 ≤ 25 := by
    have := Int.mul_le_mul hd.2.1 hd.2.2.2 (by omega) (by omega)
    omega
  exact ⟨hd, h2, h3, h4, h5, fun x x1 x2 => h6 x x1 (by omega)⟩
theorem nmf_0 {g : Int → Int} {N p lo hi : Int} (h : nmf g N p lo hi = 0) (hp : 0 ≤ p) : lo ≤ nmv g N p ∧ nmv g N p ≤ hi := by
  unfold nmf amf at h
  unfold nmv
  have hs := sk_rng (g := g) (n := N) (p := p)
  split at h
  · omega
  · split at h
    · omega
    · omega
theorem nm_rng {g : Int → Int} {N p : Int} (hp : 0 ≤ p ∧ p ≤ N) : 0 ≤ nmp g N p ∧ nmp g N p ≤ N ∧ 0 ≤ sk g N p ∧ sk g N p ≤ N := by
  have hs := sk_rng (g := g) (n := N) (p := p)
  have hd := dgt_rng (g := g) (N := N) (p := sk g N p)
  unfold nmp
  omega
theorem mtc_ex {g : Int → Int} {p : Int} {f f' : Int → Int} : ∀ {l : Nat}, (∀ j : Int, 0 ≤ j → j < l → f j = f' j) → mtc g p f l = mtc g p f' l := by
  intro l
  induction l with
  | zero => intro _; rfl
  | succ l ih =>
    intro h
    unfold mtc
    rw [ih fun j j1 j2 => h j j1 (by omega), h l (by omega) (by omega)]
theorem stq_ex {g : Int → Int} {N p : Int} {f f' : Int → Int} {l : Nat} (h : ∀ j : Int, 0 ≤ j → j < l → f j = f' j) : stq g N p f l = stq g N p f' l := by
  unfold stq
  rw [mtc_ex h]
theorem fin_all {l : Nat} {f f' : Int → Int} (h : ∀ j : Fin l, f (j.val : Int) = f' (j.val : Int)) : ∀ j : Int, 0 ≤ j → j < l → f j = f' j := fun j j1 j2 => by
  have := h ⟨j.toNat, by omega⟩
  simp only [Int.toNat_of_nonneg j1] at this
  exact this
theorem bw_stq (g : Int → Int) (N q : Int) : bw g N q = if stq g N q (chs 7) 5 = 1 then 0 else if stq g N q (chs 8) 3 = 1 then 1 else if stq g N q (chs 9) 4 = 1 then 2 else if stq g N q (chs 10) 4 = 1 then 3 else if stq g N q (chs 11) 5 = 1 then 4 else -1 := by
  unfold bw rwd rwd rwd rwd rwd rwd
  rw [stq_ex (f := fun j => chs 0 (0 + j)) (f' := chs 7) (l := 5) (fin_all (by decide +kernel)), stq_ex (f := fun j => chs 0 (0 + ((5 : Nat) : Int) + 1 + j)) (f' := chs 8) (l := 3) (fin_all (by decide +kernel)), stq_ex (f := fun j => chs 0 (0 + ((5 : Nat) : Int) + 1 + ((3 : Nat) : Int) + 1 + j)) (f' := chs 9) (l := 4) (fin_all (by decide +kernel)), stq_ex (f := fun j => chs 0 (0 + ((5 : Nat) : Int) + 1 + ((3 : Nat) : Int) + 1 + ((4 : Nat) : Int) + 1 + j)) (f' := chs 10) (l := 4) (fin_all (by decide +kernel)), stq_ex (f := fun j => chs 0 (0 + ((5 : Nat) : Int) + 1 + ((3 : Nat) : Int) + 1 + ((4 : Nat) : Int) + 1 + ((4 : Nat) : Int) + 1 + j)) (f' := chs 11) (l := 5) (fin_all (by decide +kernel))]
  rfl
theorem stq_rn {g : Int → Int} {N p : Int} {f : Int → Int} {l : Nat} (h : stq g N p f l = 1) : rn g N p = p + l := by
  unfold stq at h
  split at h
  · next k => omega
  · omega
theorem bw_rn {g : Int → Int} {N q : Int} (h : ¬ bw g N q = -1) : (0 ≤ bw g N q ∧ bw g N q ≤ 4) ∧ rn g N q = q + wl5 (bw g N q) := by
  rw [bw_stq] at h ⊢
  by_cases h0 : stq g N q (chs 7) 5 = 1
  · rw [if_pos h0]
    exact ⟨by omega, stq_rn h0⟩
  rw [if_neg h0] at h ⊢
  by_cases h1 : stq g N q (chs 8) 3 = 1
  · rw [if_pos h1]
    exact ⟨by omega, stq_rn h1⟩
  rw [if_neg h1] at h ⊢
  by_cases h2 : stq g N q (chs 9) 4 = 1
  · rw [if_pos h2]
    exact ⟨by omega, stq_rn h2⟩
  rw [if_neg h2] at h ⊢
  by_cases h3 : stq g N q (chs 10) 4 = 1
  · rw [if_pos h3]
    exact ⟨by omega, stq_rn h3⟩
  rw [if_neg h3] at h ⊢
  by_cases h4 : stq g N q (chs 11) 5 = 1
  · rw [if_pos h4]
    exact ⟨by omega, stq_rn h4⟩
  · rw [if_neg h4] at h
    exact absurd rfl h
theorem bw_place {g : Int → Int} {N q : Int} (h : ¬ bw g N q = -1) (hq : 0 ≤ q ∧ q ≤ N) : 0 ≤ q + wl5 (bw g N q) ∧ q + wl5 (bw g N q) ≤ N := by
  have h1 := bw_rn h
  have h2 := rn_rng (g := g) (n := N) (p := q)
  rw [← h1.2]
  omega
theorem rwf_0 {g : Int → Int} {N p : Int} (hp : 0 ≤ p) : ∀ {m : Nat}, rwf g N p m = 0 → ∀ j : Int, 0 ≤ j → j < m → isdg g N (p + j) = 1 := by
  intro m
  induction m with
  | zero => intro _ j j1 j2; omega
  | succ m ih =>
    intro h j j1 j2
    unfold rwf at h
    by_cases h0 : rwf g N p m = 0
    · rw [if_neg (fun k => k h0)] at h
      by_cases h1 : isdg g N (p + m) = 1
      · by_cases hj : j = m
        · rw [hj]
          exact h1
        · exact ih h0 j j1 (by omega)
      · rw [if_neg h1] at h
        omega
    · rw [if_pos h0] at h
      exact absurd h h0
theorem rwf_rng {g : Int → Int} {N p : Int} (hp : 0 ≤ p) : ∀ m : Nat, 0 ≤ rwf g N p m ∧ rwf g N p m ≤ 1 + 8 * (p + m) := by
  intro m
  induction m with
  | zero => exact ⟨Int.le_refl 0, by show (0 : Int) ≤ _; omega⟩
  | succ m ih =>
    unfold rwf
    split
    · omega
    · split <;> omega
theorem isdg_1 {g : Int → Int} {N p : Int} (h : isdg g N p = 1) : p < N ∧ 48 ≤ g p ∧ g p ≤ 57 := by
  unfold isdg at h
  split at h
  · next k => exact k
  · omega
theorem pr4 {a a' b b' c c' : Int} {d d' : Nat → Int → Int} (h : (a, b, c, d) = (a', b', c', d')) : a = a' ∧ b = b' ∧ c = c' ∧ d = d' := by
  injection h with h1 h2
  injection h2 with h2 h3
  injection h3 with h3 h4
  exact ⟨h1, h2, h3, h4⟩
theorem bpt_wp {g : Int → Int} {N k w p R p' R' : Int} {B B' : Nat → Int → Int} (h : bpt g N w p R B = (0, p', R', B')) (hw : WP B R k) (ht : tmy k w R B = 0) (hp : 0 ≤ p ∧ p ≤ N) (hw4 : 0 ≤ w ∧ w ≤ 4) : WP B' R' (k + 1) ∧ 0 ≤ p' ∧ p' ≤ N := by
  obtain ⟨w1, w2, w3, w4, w5, w6, w7, w8, w9, _⟩ := hw
  have r1 := nm_rng (g := g) hp
  have r2 := nm_rng (g := g) (p := nmp g N p) ⟨r1.1, r1.2.1⟩
  have r3 := nm_rng (g := g) (p := nmp g N (nmp g N p)) ⟨r2.1, r2.2.1⟩
  unfold tmy at ht
  have hk40 : k < 40 := by
    by_cases h1 : 40 ≤ k
    · rw [if_pos h1] at ht
      omega
    · omega
  rw [if_neg (by omega)] at ht
  unfold bpt at h
  by_cases q0 : w = 0
  · subst q0
    rw [if_pos rfl] at h ht
    have hk0 : k = 0 := by
      by_cases h1 : k = 0
      · exact h1
      · rw [if_neg h1] at ht
        omega
    by_cases f1 : nmf g N p 2 5 = 0
    · rw [if_neg (fun q => q f1)] at h
      by_cases f2 : nmf g N (nmp g N p) 2 5 = 0
      · rw [if_neg (fun q => q f2)] at h
        obtain ⟨_, h2, h3, h4⟩ := pr4 h
        have v1 := nmf_0 f1 hp.1
        have v2 := nmf_0 f2 r1.1
        have e0 : B' 0 = fu (fu (B 0) 0 (nmv g N p)) 1 (nmv g N (nmp g N p)) := by rw [← h4, fr_same]
        have eo : ∀ a, ¬ a = 0 → B' a = B a := fun a ha => by rw [← h4, fr_ne ha]
        refine ⟨?_, by omega⟩
        unfold WP
        rw [e0, eo 1 (by omega), eo 2 (by omega), eo 3 (by omega), eo 4 (by omega), eo 5 (by omega)]
        simp (disch := omega) only [fu_same, fu_ne]
        exact ⟨by omega, by omega, by omega, w4, w5, w6, fun f f1 f2 => by omega, w8, w9, fun q => by omega⟩
      · rw [if_pos f2] at h
        exact absurd (pr4 h).1 f2
    · rw [if_pos f1] at h
      exact absurd (pr4 h).1 f1
  rw [if_neg q0] at h ht
  have hk0 : ¬ k = 0 := fun q => by
    rw [if_pos q] at ht
    omega
  rw [if_neg hk0] at ht
  by_cases q1 : w = 1
  · subst q1
    rw [if_pos rfl] at h ht
    have hR : R < B 0 1 := by
      by_cases h1 : R < B 0 1
      · exact h1
      · rw [if_neg h1] at ht
        omega
    by_cases f1 : rwf g N (sk g N p) (B 0 0).toNat = 0
    · rw [if_neg (fun q => q f1)] at h
      obtain ⟨_, h2, h3, h4⟩ := pr4 h
      have hd := rwf_0 r1.2.2.1 f1
      have hl := isdg_1 (hd (B 0 0 - 1) (by omega) (by omega))
      have eo : ∀ a, ¬ a = 4 → B' a = B a := fun a ha => by rw [← h4, fr_ne ha]
      have e4 : B' 4 = rwh g (B 4) (sk g N p) (B 0 0) R := by rw [← h4, fr_same]
      refine ⟨?_, by omega⟩
      unfold WP
      rw [e4, eo 0 (by omega), eo 1 (by omega), eo 2 (by omega), eo 3 (by omega), eo 5 (by omega)]
      refine ⟨by omega, by omega, by omega, w4, w5, w6, w7, w8, fun x x1 x2 => ?_, fun q => by omega⟩
      unfold rwh
      split
      · next hx =>
        have := isdg_1 (hd (x - B 0 0 * R) (by omega) (by omega))
        omega
      · exact w9 x x1 x2
    · rw [if_pos f1] at h
      exact absurd (pr4 h).1 f1
  rw [if_neg q1] at h ht
  by_cases q2 : w = 2
  · subst q2
    rw [if_pos rfl] at h ht
    have hF : B 0 2 < 6 := by
      by_cases h1 : B 0 2 < 6
      · exact h1
      · rw [if_neg h1] at ht
        omega
    by_cases f1 : nmf g N p 0 (B 0 0 * B 0 1 - 1) = 0
    · rw [if_neg (fun q => q f1)] at h
      by_cases f2 : nmf g N (nmp g N p) 1 20 = 0
      · rw [if_neg (fun q => q f2)] at h
        by_cases f3 : nmf g N (nmp g N (nmp g N p)) 1 50 = 0
        · rw [if_neg (fun q => q f3)] at h
          obtain ⟨_, h2, h3, h4⟩ := pr4 h
          have v1 := nmf_0 f1 hp.1
          have v2 := nmf_0 f2 r1.1
          have v3 := nmf_0 f3 r2.1
          have e0 : B' 0 = fu (B 0) 2 (B 0 2 + 1) := by rw [← h4, fr_same]
          have e1 : B' 1 = fu (B 1) (B 0 2) (nmv g N (nmp g N p)) := by rw [← h4]; simp (disch := omega) only [fr_ne, fr_same]
          have e2 : B' 2 = fu (B 2) (B 0 2) (nmv g N (nmp g N (nmp g N p))) := by rw [← h4]; simp (disch := omega) only [fr_ne, fr_same]
          have e3 : B' 3 = B 3 := by rw [← h4]; simp (disch := omega) only [fr_ne]
          have e4 : B' 4 = B 4 := by rw [← h4]; simp (disch := omega) only [fr_ne]
          have e5 : B' 5 = fu (B 5) (B 0 2) (nmv g N p) := by rw [← h4]; simp (disch := omega) only [fr_ne, fr_same]
          refine ⟨?_, by omega⟩
          unfold WP
          rw [e0, e1, e2, e3, e4, e5]
          simp (disch := omega) only [fu_same, fu_ne]
          refine ⟨by omega, by omega, by omega, by omega, w5, w6, fun f g1 g2 => ?_, w8, w9, fun q => by omega⟩
          by_cases hf : f = B 0 2
          · rw [hf, fu_same, fu_same, fu_same]
            omega
          · rw [fu_ne hf, fu_ne hf, fu_ne hf]
            exact w7 f g1 (by omega)
        · rw [if_pos f3] at h
          exact absurd (pr4 h).1 f3
      · rw [if_pos f2] at h
        exact absurd (pr4 h).1 f2
    · rw [if_pos f1] at h
      exact absurd (pr4 h).1 f1
  rw [if_neg q2] at h ht
  by_cases q3 : w = 3
  · subst q3
    rw [if_pos rfl] at h ht
    have hF : B 0 3 < 12 := by
      by_cases h1 : B 0 3 < 12
      · exact h1
      · rw [if_neg h1] at ht
        omega
    by_cases f1 : nmf g N p 0 20 = 0
    · rw [if_neg (fun q => q f1)] at h
      obtain ⟨_, h2, h3, h4⟩ := pr4 h
      have v1 := nmf_0 f1 hp.1
      have e0 : B' 0 = fu (B 0) 3 (B 0 3 + 1) := by rw [← h4, fr_same]
      have e3 : B' 3 = fu (B 3) (B 0 3) (nmv g N p) := by rw [← h4]; simp (disch := omega) only [fr_ne, fr_same]
      have eo : ∀ a, ¬ a = 0 → ¬ a = 3 → B' a = B a := fun a h1 h2 => by rw [← h4, fr_ne h1, fr_ne h2]
      refine ⟨?_, by omega⟩
      unfold WP
      rw [e0, e3, eo 1 (by omega) (by omega), eo 2 (by omega) (by omega), eo 4 (by omega) (by omega), eo 5 (by omega) (by omega)]
      simp (disch := omega) only [fu_same, fu_ne]
      refine ⟨by omega, by omega, by omega, by omega, w5, w6, w7, fun j g1 g2 => ?_, w9, fun q => by omega⟩
      by_cases hf : j = B 0 3
      · rw [hf, fu_same]
        omega
      · rw [fu_ne hf]
        exact w8 j g1 (by omega)
    · rw [if_pos f1] at h
      exact absurd (pr4 h).1 f1
  rw [if_neg q3] at h ht
  by_cases f1 : nmf g N p 0 9 = 0
  · rw [if_neg (fun q => q f1)] at h
    by_cases f2 : nmf g N (nmp g N p) 0 9 = 0
    · rw [if_neg (fun q => q f2)] at h
      by_cases f3 : nmf g N (nmp g N (nmp g N p)) 0 9 = 0
      · rw [if_neg (fun q => q f3)] at h
        by_cases f4 : nmv g N p + nmv g N (nmp g N p) + nmv g N (nmp g N (nmp g N p)) = 0
        · rw [if_pos f4] at h
          have := (pr4 h).1
          omega
        · rw [if_neg f4] at h
          obtain ⟨_, h2, h3, h4⟩ := pr4 h
          have v1 := nmf_0 f1 hp.1
          have v2 := nmf_0 f2 r1.1
          have v3 := nmf_0 f3 r2.1
          have e0 : B' 0 = fu (fu (fu (fu (B 0) 5 (nmv g N p)) 6 (nmv g N (nmp g N p))) 7 (nmv g N (nmp g N (nmp g N p)))) 4 1 := by rw [← h4, fr_same]
          have eo : ∀ a, ¬ a = 0 → B' a = B a := fun a h1 => by rw [← h4, fr_ne h1]
          refine ⟨?_, by omega⟩
          unfold WP
          rw [e0, eo 1 (by omega), eo 2 (by omega), eo 3 (by omega), eo 4 (by omega), eo 5 (by omega)]
          simp (disch := omega) only [fu_same, fu_ne]
          exact ⟨by omega, by omega, by omega, w4, by first | omega | trivial | exact Or.inr rfl | exact Or.inr trivial, by omega, w7, w8, w9, fun q => by omega⟩
      · rw [if_pos f3] at h
        exact absurd (pr4 h).1 f3
    · rw [if_pos f2] at h
      exact absurd (pr4 h).1 f2
  · rw [if_pos f1] at h
    exact absurd (pr4 h).1 f1
theorem bcl_wp {g : Int → Int} {N k p R p' R' : Int} {B B' : Nat → Int → Int} (h : bcl g N k p R B = (0, p', R', B')) (hw : WP B R k) (hp : 0 ≤ p ∧ p ≤ N) : WP B' R' (k + 1) ∧ 0 ≤ p' ∧ p' ≤ N := by
  have hs := nm_rng (g := g) hp
  unfold bcl at h
  by_cases h1 : bw g N (sk g N p) = -1
  · rw [if_pos h1] at h
    have := (pr4 h).1
    omega
  rw [if_neg h1] at h
  by_cases h2 : tmy k (bw g N (sk g N p)) R B = 0
  · rw [if_neg (fun q => q h2)] at h
    exact bpt_wp h hw h2 (bw_place h1 ⟨hs.2.2.1, hs.2.2.2⟩) (bw_rn h1).1
  · rw [if_pos h2] at h
    have := (pr4 h).1
    omega

/-! how calls are gone through; the reference: its small methods -/
theorem i6_lt0 (a b : Int) : (i6_cmp a b < 0) = (a < b) := by
  unfold i6_cmp
  apply propext
  by_cases h1 : a = b
  · rw [if_pos h1]; omega
  · by_cases h2 : a < b
    · rw [if_neg h1, if_pos h2]; omega
    · rw [if_neg h1, if_neg h2]; omega
theorem i6_0lt (a b : Int) : (0 < i6_cmp a b) = (b < a) := by
  unfold i6_cmp
  apply propext
  by_cases h1 : a = b
  · rw [if_pos h1]; omega
  · by_cases h2 : a < b
    · rw [if_neg h1, if_pos h2]; omega
    · rw [if_neg h1, if_neg h2]; omega
theorem i6_0le (a b : Int) : (0 ≤ i6_cmp a b) = (b ≤ a) := by
  unfold i6_cmp
  apply propext
  by_cases h1 : a = b
  · rw [if_pos h1]; omega
  · by_cases h2 : a < b
    · rw [if_neg h1, if_pos h2]; omega
    · rw [if_neg h1, if_neg h2]; omega
theorem i6_le0 (a b : Int) : (i6_cmp a b ≤ 0) = (a ≤ b) := by
  unfold i6_cmp
  apply propext
  by_cases h1 : a = b
  · rw [if_pos h1]; omega
  · by_cases h2 : a < b
    · rw [if_neg h1, if_pos h2]; omega
    · rw [if_neg h1, if_neg h2]; omega
theorem i6_eq0 (a b : Int) : (i6_cmp a b = 0) = (a = b) := by
  unfold i6_cmp
  apply propext
  by_cases h1 : a = b
  · rw [if_pos h1]; omega
  · by_cases h2 : a < b
    · rw [if_neg h1, if_pos h2]; omega
    · rw [if_neg h1, if_neg h2]; omega

theorem b10_0 (P : Prop) [Decidable P] : ((if P then (1 : Int) else 0) = 0) = ¬ P := by
  apply propext
  by_cases h : P
  · rw [if_pos h]; exact ⟨fun q => absurd q (by omega), fun q => absurd h q⟩
  · rw [if_neg h]; exact ⟨fun _ => h, fun _ => rfl⟩
theorem tc_ite {P : Prop} [Decidable P] {A B : Prop} (h1 : P → A) (h2 : ¬ P → B) : if P then A else B := by
  by_cases h : P
  · rw [if_pos h]; exact h1 h
  · rw [if_neg h]; exact h2 h
theorem q_i {Q : Option AV → List SC → Nat → Prop} {z w : Int} {h : List SC} {n : Nat} (e : z = w) (hq : Q (some (.inl z)) h n) : Q (some (.inl w)) h n := e ▸ hq
theorem q_h {Q : Option AV → List SC → Nat → Prop} {r : Option AV} {L : Nat} {sh : Nat → SH} {c d : Nat → Int → Int} {n : Nat} (e : c = d) (hq : Q r (hp L sh c) n) : Q r (hp L sh d) n := e ▸ hq
theorem q_ih {Q : Option AV → List SC → Nat → Prop} {z w : Int} {L : Nat} {sh : Nat → SH} {c d : Nat → Int → Int} {n : Nat} (e1 : z = w) (e : c = d) (hq : Q (some (.inl z)) (hp L sh c) n) : Q (some (.inl w)) (hp L sh d) n := e ▸ e1 ▸ hq
theorem tc_run_det {f g K pc : Nat} {ls st : List AV} {h : List SC} {n : Nat} {x y : Option AV × List SC × Nat} (h1 : tc_run f K pc ls st h n = some x) (h2 : tc_run g K pc ls st h n = some y) : x = y := by
  have a := tc_run_le (Nat.le_max_left f g) h1
  have b := tc_run_le (Nat.le_max_right f g) h2
  rw [a] at b
  exact Option.some.inj b
/-- a contract for every Q is a rewriting rule -/
theorem tc_det {K : Nat} {as : List AV} {h h' : List SC} {n n' : Nat} {r : Option AV} {Q : Option AV → List SC → Nat → Prop} (hc : ∀ Q : Option AV → List SC → Nat → Prop, Q r h' n' → tc_C K as h n Q) : tc_C K as h n Q = Q r h' n' := by
  apply propext
  constructor
  · rintro ⟨f, r2, h2, n2, hr, hq⟩
    obtain ⟨g, r3, h3, n3, hr3, e1, e2, e3⟩ := hc (fun a b d => a = r ∧ b = h' ∧ d = n') ⟨rfl, rfl, rfl⟩
    have := tc_run_det hr hr3
    cases this
    subst e1 e2 e3
    exact hq
  · exact hc Q
/-- the same from a place inside -/
theorem tc_wdet {K pc : Nat} {ls st : List AV} {h h' : List SC} {n n' : Nat} {r : Option AV} {Q : Option AV → List SC → Nat → Prop} (hc : ∀ Q : Option AV → List SC → Nat → Prop, Q r h' n' → tc_W K pc ls st h n Q) : tc_W K pc ls st h n Q = Q r h' n' := by
  apply propext
  constructor
  · rintro ⟨f, r2, h2, n2, hr, hq⟩
    obtain ⟨g, r3, h3, n3, hr3, e1, e2, e3⟩ := hc (fun a b d => a = r ∧ b = h' ∧ d = n') ⟨rfl, rfl, rfl⟩
    have := tc_run_det hr hr3
    cases this
    subst e1 e2 e3
    exact hq
  · exact hc Q
/-- a loop that counts up -/
theorem up {P : Nat → Prop} {N : Nat} (h1 : ∀ k, k < N → P (k + 1) → P k) (h2 : P N) : P 0 := by
  have : ∀ j, j ≤ N → P (N - j) := by
    intro j
    induction j with
    | zero => intro _; exact h2
    | succ j ih =>
      intro hj
      refine h1 _ (by omega) ?_
      rw [show N - (j + 1) + 1 = N - j by omega]
      exact ih (by omega)
  have h := this N (Nat.le_refl N)
  rw [Nat.sub_self] at h
  exact h
/-- f at 0, 1, .. behind each other -/
def fo {α : Type} (f : Nat → α → α) (s : α) : Nat → α
  | 0 => s
  | k + 1 => f k (fo f s k)

/-! the best of rows of SPADES, as numbers -/
abbrev B4 : Type := Int × Int × Int × Int
def lxl (B C : B4) : Prop := B.2.2.1 < C.2.2.1 ∨ (B.2.2.1 = C.2.2.1 ∧ B.2.2.2 ≤ C.2.2.2)
/-- B is no worse than C -/
def BE (B C : B4) : Prop := C.1 < B.1 ∨ (C.1 = B.1 ∧ (B.2.1 < C.2.1 ∨ (B.2.1 = C.2.1 ∧ lxl B C)))
theorem BE.refl (B : B4) : BE B B := Or.inr ⟨rfl, Or.inr ⟨rfl, Or.inr ⟨rfl, Int.le_refl _⟩⟩⟩
theorem BE.trans {A B C : B4} (h : BE A B) (k : BE B C) : BE A C := by
  unfold BE lxl at *
  omega
theorem BE.uq {A B : B4} (h : BE A B) (k : BE B A) : A = B := by
  unfold BE lxl at *
  obtain ⟨a1, a2, a3, a4⟩ := A
  obtain ⟨b1, b2, b3, b4⟩ := B
  simp only at h k
  have e1 : a1 = b1 := by omega
  have e2 : a2 = b2 := by omega
  have e3 : a3 = b3 := by omega
  have e4 : a4 = b4 := by omega
  rw [e1, e2, e3, e4]
theorem bst_be {B C : B4} (h : C.1 = B.1 → C.2.1 = B.2.1 → lxl B C) : BE (bst B C) B ∧ BE (bst B C) C ∧ (bst B C = B ∨ bst B C = C) := by
  unfold bst
  by_cases hc : B.1 < C.1 ∨ C.1 = B.1 ∧ C.2.1 < B.2.1
  · rw [if_pos hc]
    refine ⟨?_, BE.refl C, Or.inr rfl⟩
    unfold BE
    omega
  · rw [if_neg hc]
    refine ⟨BE.refl B, ?_, Or.inl rfl⟩
    unfold BE
    by_cases h1 : C.1 = B.1
    · by_cases h2 : C.2.1 = B.2.1
      · exact Or.inr ⟨h1, Or.inr ⟨h2.symm, h h1 h2⟩⟩
      · exact Or.inr ⟨h1, Or.inl (by omega)⟩
    · exact Or.inl (by omega)
/-- a row is noted only if it is better -/
def nbt (B C : B4) : B4 := if B.1 < C.1 then C else B
theorem nbt_be {B C : B4} (h : C.1 = B.1 → B.2.1 < C.2.1 ∨ (B.2.1 = C.2.1 ∧ lxl B C)) : BE (nbt B C) B ∧ BE (nbt B C) C ∧ (nbt B C = B ∨ nbt B C = C) := by
  unfold nbt
  by_cases hc : B.1 < C.1
  · rw [if_pos hc]
    exact ⟨Or.inl hc, BE.refl C, Or.inr rfl⟩
  · rw [if_neg hc]
    refine ⟨BE.refl B, ?_, Or.inl rfl⟩
    unfold BE
    by_cases h1 : C.1 = B.1
    · exact Or.inr ⟨h1, h h1⟩
    · exact Or.inl (by omega)
section CAND
variable (b : Nat → Int → Int) (la : Option Law) (t : Nat → Int → Int) (m : Nat)
noncomputable def k0 : B4 := (gos b la t m 4 1, 0, -2, -2)
noncomputable def k1 (a : Int) : B4 := (gos b la (dgs b t a) m 4 1, 1, a, -2)
noncomputable def k2 (a x : Int) : B4 := (gos b la (dgs b (dgs b t a) x) m 4 1, 2, a, x)
/-- of all rows of no, one or (two) two spades up to a place -/
def OP (two : Int) (B : B4) (a : Int) : Prop := (BE B (k0 b la t m) ∧ (∀ x, 0 ≤ x → x < a → cdg b t x = 1 → BE B (k1 b la t m x)) ∧ (two = 2 → ∀ x y, 0 ≤ x → x < a → 0 ≤ y → y < 4 * (b 0 0 * b 0 1) → cdg b t x = 1 → cdg b (dgs b t x) y = 1 → BE B (k2 b la t m x y))) ∧ (B = k0 b la t m ∨ (∃ x, 0 ≤ x ∧ x < a ∧ cdg b t x = 1 ∧ B = k1 b la t m x) ∨ (two = 2 ∧ ∃ x y, 0 ≤ x ∧ x < a ∧ 0 ≤ y ∧ y < 4 * (b 0 0 * b 0 1) ∧ cdg b t x = 1 ∧ cdg b (dgs b t x) y = 1 ∧ B = k2 b la t m x y))
end CAND
section CAND2
variable {b : Nat → Int → Int} {la : Option Law} {t : Nat → Int → Int} {m : Nat}
theorem OP.uq {two a : Int} {B C : B4} (h : OP b la t m two B a) (k : OP b la t m two C a) : B = C := by
  have f : ∀ {B C : B4}, OP b la t m two B a → OP b la t m two C a → BE B C := by
    intro B C h k
    obtain ⟨⟨h1, h2, h3⟩, _⟩ := h
    rcases k.2 with e | ⟨x, x1, x2, x3, e⟩ | ⟨e2, x, y, x1, x2, y1, y2, x3, y3, e⟩
    · rw [e]; exact h1
    · rw [e]; exact h2 x x1 x2 x3
    · rw [e]; exact h3 e2 x y x1 x2 y1 y2 x3 y3
  exact (f h k).uq (f k h)
theorem dg2_op {one : Int} (ho : 0 ≤ one) (hc : cdg b t one = 1) {B : B4} (hB : BE B (k0 b la t m) ∧ BE B (k1 b la t m one) ∧ (∀ x, 0 ≤ x → x < one → cdg b t x = 1 → BE B (k1 b la t m x)) ∧ (∀ x y, 0 ≤ x → x < one → 0 ≤ y → y < 4 * (b 0 0 * b 0 1) → cdg b t x = 1 → cdg b (dgs b t x) y = 1 → BE B (k2 b la t m x y))) (hB2 : B.2.1 = 2 → B.2.2.1 < one) : ∀ j : Nat, (j : Int) ≤ 4 * (b 0 0 * b 0 1) → BE (dg2 b la t m one j B) B ∧ (∀ y : Int, 0 ≤ y → y < j → cdg b (dgs b t one) y = 1 → BE (dg2 b la t m one j B) (k2 b la t m one y)) ∧ (dg2 b la t m one j B = B ∨ ∃ y : Int, 0 ≤ y ∧ y < j ∧ cdg b (dgs b t one) y = 1 ∧ dg2 b la t m one j B = k2 b la t m one y) := by
  intro j
  induction j with
  | zero => intro _; exact ⟨BE.refl _, fun y y1 y2 => by omega, Or.inl rfl⟩
  | succ j ih =>
    intro hj
    have h := ih (by omega)
    have e : dg2 b la t m one (j + 1) B = if cdg b (dgs b t one) j = 1 then bst (dg2 b la t m one j B) (k2 b la t m one j) else dg2 b la t m one j B := rfl
    rw [e]
    generalize dg2 b la t m one j B = D at h
    by_cases hcd : cdg b (dgs b t one) j = 1
    · rw [if_pos hcd]
      have hbb := bst_be (B := D) (C := k2 b la t m one j) (fun _ h2 => by
        have h2' : (2 : Int) = D.2.1 := h2
        unfold lxl
        show D.2.2.1 < one ∨ (D.2.2.1 = one ∧ D.2.2.2 ≤ (j : Int))
        rcases h.2.2 with hd | ⟨y, y1, y2, _, hd⟩
        · rw [hd] at h2' ⊢
          exact Or.inl (hB2 h2'.symm)
        · rw [hd]
          refine Or.inr ⟨rfl, ?_⟩
          show y ≤ (j : Int)
          omega)
      refine ⟨hbb.1.trans h.1, fun y y1 y2 y3 => ?_, ?_⟩
      · by_cases hy : y = j
        · rw [hy]
          exact hbb.2.1
        · exact hbb.1.trans (h.2.1 y y1 (by omega) y3)
      · rcases hbb.2.2 with hd | hd
        · rw [hd]
          rcases h.2.2 with h4 | ⟨y, y1, y2, y3, h4⟩
          · exact Or.inl h4
          · exact Or.inr ⟨y, y1, by omega, y3, h4⟩
        · exact Or.inr ⟨j, by omega, by omega, hcd, hd⟩
    · rw [if_neg hcd]
      refine ⟨h.1, fun y y1 y2 y3 => ?_, ?_⟩
      · by_cases hy : y = j
        · rw [hy] at y3
          exact absurd y3 hcd
        · exact h.2.1 y y1 (by omega) y3
      · rcases h.2.2 with h4 | ⟨y, y1, y2, y3, h4⟩
        · exact Or.inl h4
        · exact Or.inr ⟨y, y1, by omega, y3, h4⟩
theorem dg1_op {two : Int} (hN : 0 ≤ 4 * (b 0 0 * b 0 1)) : ∀ a : Nat, OP b la t m two (dg1 b la t m two a) a := by
  intro a
  induction a with
  | zero => exact ⟨⟨BE.refl _, fun x x1 x2 => by omega, fun _ x y x1 x2 => by omega⟩, Or.inl rfl⟩
  | succ a ih =>
    have e : dg1 b la t m two (a + 1) = if cdg b t a = 1 then (if two = 2 then dg2 b la t m a (4 * (b 0 0 * b 0 1)).toNat (bst (dg1 b la t m two a) (k1 b la t m a)) else bst (dg1 b la t m two a) (k1 b la t m a)) else dg1 b la t m two a := rfl
    rw [e]
    generalize dg1 b la t m two a = D at ih
    obtain ⟨⟨h1, h2, h3⟩, h4⟩ := ih
    by_cases hc : cdg b t a = 1
    · rw [if_pos hc]
      have hbb := bst_be (B := D) (C := k1 b la t m a) (fun _ q2 => by
        have q2' : (1 : Int) = D.2.1 := q2
        unfold lxl
        show D.2.2.1 < (a : Int) ∨ (D.2.2.1 = (a : Int) ∧ D.2.2.2 ≤ -2)
        rcases h4 with hd | ⟨x, x1, x2, _, hd⟩ | ⟨_, x, y, x1, x2, _, _, _, _, hd⟩
        · rw [hd] at q2'
          have : (1 : Int) = 0 := q2'
          omega
        · rw [hd]
          exact Or.inl x2
        · rw [hd]
          exact Or.inl x2)
      generalize hE : bst D (k1 b la t m a) = E at hbb
      have hE1 : E = D ∨ E = k1 b la t m a := hbb.2.2
      have g1 : BE E (k0 b la t m) := hbb.1.trans h1
      have g2 : ∀ x, 0 ≤ x → x < (a : Int) → cdg b t x = 1 → BE E (k1 b la t m x) := fun x x1 x2 x3 => hbb.1.trans (h2 x x1 x2 x3)
      by_cases h2t : two = 2
      · rw [if_pos h2t]
        have h3' := h3 h2t
        have hE2 : E.2.1 = 2 → E.2.2.1 < (a : Int) := by
          intro q
          rcases hE1 with e1 | e1
          · rw [e1] at q ⊢
            rcases h4 with hd | ⟨x, x1, x2, _, hd⟩ | ⟨_, x, y, x1, x2, _, _, _, _, hd⟩
            · rw [hd] at q
              have : (0 : Int) = 2 := q
              omega
            · rw [hd] at q
              have : (1 : Int) = 2 := q
              omega
            · rw [hd]
              exact x2
          · rw [e1] at q
            have : (1 : Int) = 2 := q
            omega
        have hd2 := dg2_op (la := la) (m := m) (one := (a : Int)) (by omega) hc (B := E) ⟨g1, hbb.2.1, g2, fun x y x1 x2 y1 y2 x3 y3 => hbb.1.trans (h3' x y x1 x2 y1 y2 x3 y3)⟩ hE2 (4 * (b 0 0 * b 0 1)).toNat (by omega)
        generalize dg2 b la t m a (4 * (b 0 0 * b 0 1)).toNat E = G at hd2
        refine ⟨⟨hd2.1.trans g1, fun x x1 x2 x3 => ?_, fun _ x y x1 x2 y1 y2 x3 y3 => ?_⟩, ?_⟩
        · by_cases hx : x = a
          · rw [hx]
            exact hd2.1.trans hbb.2.1
          · exact hd2.1.trans (g2 x x1 (by omega) x3)
        · by_cases hx : x = a
          · rw [hx] at y3 ⊢
            exact hd2.2.1 y y1 (by omega) y3
          · exact hd2.1.trans (hbb.1.trans (h3' x y x1 (by omega) y1 y2 x3 y3))
        · rcases hd2.2.2 with hd | ⟨y, y1, y2, y3, hd⟩
          · rw [hd]
            rcases hE1 with e1 | e1
            · rw [e1]
              rcases h4 with hd | ⟨x, x1, x2, x3, hd⟩ | ⟨_, x, y, x1, x2, y1, y2, x3, y3, hd⟩
              · exact Or.inl hd
              · exact Or.inr (Or.inl ⟨x, x1, by omega, x3, hd⟩)
              · exact Or.inr (Or.inr ⟨h2t, x, y, x1, by omega, y1, y2, x3, y3, hd⟩)
            · exact Or.inr (Or.inl ⟨a, by omega, by omega, hc, e1⟩)
          · exact Or.inr (Or.inr ⟨h2t, a, y, by omega, by omega, y1, by omega, hc, y3, hd⟩)
      · rw [if_neg h2t]
        refine ⟨⟨g1, fun x x1 x2 x3 => ?_, fun h => absurd h h2t⟩, ?_⟩
        · by_cases hx : x = a
          · rw [hx]
            exact hbb.2.1
          · exact g2 x x1 (by omega) x3
        · rcases hE1 with e1 | e1
          · rw [e1]
            rcases h4 with hd | ⟨x, x1, x2, x3, hd⟩ | ⟨h, _⟩
            · exact Or.inl hd
            · exact Or.inr (Or.inl ⟨x, x1, by omega, x3, hd⟩)
            · exact absurd h h2t
          · exact Or.inr (Or.inl ⟨a, by omega, by omega, hc, e1⟩)
    · rw [if_neg hc]
      refine ⟨⟨h1, fun x x1 x2 x3 => ?_, fun h2t x y x1 x2 y1 y2 x3 y3 => ?_⟩, ?_⟩
      · by_cases hx : x = a
        · rw [hx] at x3
          exact absurd x3 hc
        · exact h2 x x1 (by omega) x3
      · by_cases hx : x = a
        · rw [hx] at x3
          exact absurd x3 hc
        · exact h3 h2t x y x1 (by omega) y1 y2 x3 y3
      · rcases h4 with hd | ⟨x, x1, x2, x3, hd⟩ | ⟨h2t, x, y, x1, x2, y1, y2, x3, y3, hd⟩
        · exact Or.inl hd
        · exact Or.inr (Or.inl ⟨x, x1, by omega, x3, hd⟩)
        · exact Or.inr (Or.inr ⟨h2t, x, y, x1, by omega, y1, y2, x3, y3, hd⟩)
end CAND2

/-! the class: two SPADES -/
theorem dgs_comm {b σ : Nat → Int → Int} {a y : Int} (ha : cdg b σ a = 1) (hy : cdg b (dgs b σ a) y = 1) (h1 : ¬ y / 4 = a / 4) (h2 : ¬ y / 4 = spt b a) (h3 : ¬ spt b y = a / 4) (h4 : ¬ spt b y = spt b a) : cdg b σ y = 1 ∧ cdg b (dgs b σ y) a = 1 ∧ dgs b (dgs b σ a) y = dgs b (dgs b σ y) a := by
  have ca := cdg_1 ha
  have cy := cdg_1 hy
  have e0 : ∀ z, dgs b σ a 0 z = fu (fu (σ 0) (a / 4) (σ 0 (a / 4) - 1)) (spt b a) (σ 0 (spt b a) + 1) z := fun _ => rfl
  have e1 : dgs b σ a 0 (y / 4) = σ 0 (y / 4) := by rw [e0, fu_ne h2, fu_ne h1]
  have e2 : dgs b σ a 0 (spt b y) = σ 0 (spt b y) := by rw [e0, fu_ne h4, fu_ne h3]
  rw [e1, e2] at cy
  have f0 : ∀ z, dgs b σ y 0 z = fu (fu (σ 0) (y / 4) (σ 0 (y / 4) - 1)) (spt b y) (σ 0 (spt b y) + 1) z := fun _ => rfl
  have f1 : dgs b σ y 0 (a / 4) = σ 0 (a / 4) := by rw [f0, fu_ne (fun q => h3 q.symm), fu_ne (fun q => h1 q.symm)]
  have f2 : dgs b σ y 0 (spt b a) = σ 0 (spt b a) := by rw [f0, fu_ne (fun q => h4 q.symm), fu_ne (fun q => h2 q.symm)]
  refine ⟨if_pos cy, ?_, ?_⟩
  · refine if_pos ⟨ca.1, ?_, ?_⟩
    · rw [f1]; exact ca.2.1
    · rw [f2]; exact ca.2.2
  · funext q
    by_cases hq : q = 0
    · subst hq
      funext z
      show fu (fu (dgs b σ a 0) (y / 4) (dgs b σ a 0 (y / 4) - 1)) (spt b y) (dgs b σ a 0 (spt b y) + 1) z = fu (fu (dgs b σ y 0) (a / 4) (dgs b σ y 0 (a / 4) - 1)) (spt b a) (dgs b σ y 0 (spt b a) + 1) z
      rw [e1, e2, f1, f2]
      simp only [fu_at, e0, f0]
      by_cases z1 : z = spt b y
      · rw [if_pos z1, z1, if_neg h4, if_neg h3, if_pos rfl]
      · rw [if_neg z1]
        by_cases z2 : z = y / 4
        · rw [if_pos z2, z2, if_neg h2, if_neg h1, if_neg (fun q => z1 (z2.trans q)), if_pos rfl]
        · rw [if_neg z2]
          by_cases z3 : z = spt b a
          · rw [if_pos z3, if_pos z3]
          · rw [if_neg z3, if_neg z3]
            by_cases z4 : z = a / 4
            · rw [if_pos z4, if_pos z4]
            · rw [if_neg z4, if_neg z4, if_neg z1, if_neg z2]
    · show (if q = 0 then _ else (if q = 0 then _ else σ q)) = (if q = 0 then _ else (if q = 0 then _ else σ q))
      rw [if_neg hq, if_neg hq, if_neg hq, if_neg hq]
section DIGC2
variable {L : Nat} {sh : Nat → SH} {c : Nat → Int → Int} {n : Nat} {Q : Option AV → List SC → Nat → Prop} {s : Nat} {lo : Option Nat} {b σ : Nat → Int → Int} {la : Option Law} {k : Prop}
theorem c125 {h : List SC} {a ov y to : Int} (ha : 0 ≤ a ∧ a < 1000) (hy : 0 ≤ y ∧ y < 1000) : tc_C 125 [.inl a, .inl ov, .inl y, .inl to] h n Q = Q (some (.inl (if y / 4 = a / 4 ∨ y / 4 = ov ∨ to = a / 4 ∨ to = ov then 1 else 0))) h n := tc_det fun Q hq => by
  show tc_W 125 0 [.inl a, .inl ov, .inl y, .inl to, tc_nil] [] _ _ Q
  by_cases hm : y / 4 = a / 4 ∨ y / 4 = ov ∨ to = a / 4 ∨ to = ov
  · rw [if_pos hm] at hq
    repeat' (first | (simp (disch := first | omega | exact Nat.le_of_ble_eq_true rfl | exact rfl | assumption | (simp (disch := omega) only [fr_ne, fr_same]; first | assumption | omega)) only [r125_0, r125_1, r125_2, r125_3i, r125_5, r125_7, r125_8, r125_9, r125_13, r125_15, r125_19, r125_20, r125_21, r125_22, r125_26, r125_27, r125_31, r125_32, r125_35, r125_36h, r125_36f, r125_36t, il_s, bl_s, bl_z, ll_s, is_s, bs_s, bs_z, ls_s, al_s, al_b, al_l, fr_ne, fr_same, fr_fr, Nat.reduceEqDiff, tc_gf3_s, tc_ql2_s, tc_ws_0, tc_ws_i, tc_ws_l, tc_ws_r, Nat.reduceLeDiff, Nat.reduceAdd, Nat.reduceLT, true_and, and_true, if_true, if_false, tc_K, Option.toList_some, Option.toList_none, List.nil_append, List.cons_append, ite_true, ite_false, Int.cast_ofNat_Int, reduceIte, i3_add_eq, i3_sub_eq, Int.add_sub_cancel, Int.add_neg_cancel_right, i3_div_nn]) | (simp only [r125_10, r125_16, r125_23, r125_28, i6_lt0, i6_0lt, i6_0le, i6_le0, i6_eq0, b10_0, ite_not, Int.reduceLT, Int.reduceLE, Int.reduceEq, Int.reduceNeg, if_true, if_false, ite_true, ite_false, reduceIte, eq_self, not_true, not_false_eq_true]; try refine tc_ite (fun _ => ?_) (fun _ => ?_) <;> try (exfalso; omega)))
    all_goals first
      | exact hq
      | omega
  · rw [if_neg hm] at hq
    repeat' (first | (simp (disch := first | omega | exact Nat.le_of_ble_eq_true rfl | exact rfl | assumption | (simp (disch := omega) only [fr_ne, fr_same]; first | assumption | omega)) only [r125_0, r125_1, r125_2, r125_3i, r125_5, r125_7, r125_8, r125_9, r125_13, r125_15, r125_19, r125_20, r125_21, r125_22, r125_26, r125_27, r125_31, r125_32, r125_35, r125_36h, r125_36f, r125_36t, il_s, bl_s, bl_z, ll_s, is_s, bs_s, bs_z, ls_s, al_s, al_b, al_l, fr_ne, fr_same, fr_fr, Nat.reduceEqDiff, tc_gf3_s, tc_ql2_s, tc_ws_0, tc_ws_i, tc_ws_l, tc_ws_r, Nat.reduceLeDiff, Nat.reduceAdd, Nat.reduceLT, true_and, and_true, if_true, if_false, tc_K, Option.toList_some, Option.toList_none, List.nil_append, List.cons_append, ite_true, ite_false, Int.cast_ofNat_Int, reduceIte, i3_add_eq, i3_sub_eq, Int.add_sub_cancel, Int.add_neg_cancel_right, i3_div_nn]) | (simp only [r125_10, r125_16, r125_23, r125_28, i6_lt0, i6_0lt, i6_0le, i6_le0, i6_eq0, b10_0, ite_not, Int.reduceLT, Int.reduceLE, Int.reduceEq, Int.reduceNeg, if_true, if_false, ite_true, ite_false, reduceIte, eq_self, not_true, not_false_eq_true]; try refine tc_ite (fun _ => ?_) (fun _ => ?_) <;> try (exfalso; omega)))
    all_goals first
      | exact hq
      | omega
/-- up to the row of two spades a, y -/
def OQ (b : Nat → Int → Int) (la : Option Law) (t : Nat → Int → Int) (m : Nat) (B : B4) (a y : Int) : Prop := (BE B (k0 b la t m) ∧ (∀ x, 0 ≤ x → x < 4 * (b 0 0 * b 0 1) → cdg b t x = 1 → BE B (k1 b la t m x)) ∧ (∀ x z, 0 ≤ x → 0 ≤ z → z < 4 * (b 0 0 * b 0 1) → (x < a ∨ (x = a ∧ z < y)) → cdg b t x = 1 → cdg b (dgs b t x) z = 1 → BE B (k2 b la t m x z))) ∧ (B = k0 b la t m ∨ (∃ x, 0 ≤ x ∧ x < 4 * (b 0 0 * b 0 1) ∧ cdg b t x = 1 ∧ B = k1 b la t m x) ∨ (∃ x z, 0 ≤ x ∧ x < 4 * (b 0 0 * b 0 1) ∧ 0 ≤ z ∧ z < 4 * (b 0 0 * b 0 1) ∧ (x < a ∨ (x = a ∧ z < y)) ∧ cdg b t x = 1 ∧ cdg b (dgs b t x) z = 1 ∧ B = k2 b la t m x z))
theorem OQ.skip {m : Nat} {B : B4} {a y : Int} (h : OQ b la σ m B a y) (hs : cdg b σ a = 1 → cdg b (dgs b σ a) y = 1 → BE B (k2 b la σ m a y)) : OQ b la σ m B a (y + 1) := by
  obtain ⟨⟨h1, h2, h3⟩, h4⟩ := h
  refine ⟨⟨h1, h2, fun x z x1 z1 z2 xz x3 z3 => ?_⟩, ?_⟩
  · by_cases hxz : x = a ∧ z = y
    · rw [hxz.1] at x3 z3
      rw [hxz.2] at z3
      rw [hxz.1, hxz.2]
      exact hs x3 z3
    · exact h3 x z x1 z1 z2 (by omega) x3 z3
  · rcases h4 with h | h | ⟨x, z, x1, x2, z1, z2, xz, x3, z3, h⟩
    · exact Or.inl h
    · exact Or.inr (Or.inl h)
    · exact Or.inr (Or.inr ⟨x, z, x1, x2, z1, z2, by omega, x3, z3, h⟩)
theorem OQ.note {m : Nat} {B : B4} {a y : Int} (ha : 0 ≤ a) (ha2 : a < 4 * (b 0 0 * b 0 1)) (hy : 0 ≤ y) (hy2 : y < 4 * (b 0 0 * b 0 1)) (hc : cdg b σ a = 1) (hc2 : cdg b (dgs b σ a) y = 1) (h : OQ b la σ m B a y) : OQ b la σ m (nbt B (k2 b la σ m a y)) a (y + 1) := by
  obtain ⟨⟨h1, h2, h3⟩, h4⟩ := h
  have hbb := nbt_be (B := B) (C := k2 b la σ m a y) (fun _ => by
    rcases h4 with h | ⟨x, x1, x2, x3, h⟩ | ⟨x, z, x1, x2, z1, z2, xz, x3, z3, h⟩
    · rw [h]
      exact Or.inl (by show (0 : Int) < 2; omega)
    · rw [h]
      exact Or.inl (by show (1 : Int) < 2; omega)
    · rw [h]
      refine Or.inr ⟨rfl, ?_⟩
      unfold lxl
      show x < a ∨ (x = a ∧ z ≤ y)
      omega)
  refine ⟨⟨hbb.1.trans h1, fun x x1 x2 x3 => hbb.1.trans (h2 x x1 x2 x3), fun x z x1 z1 z2 xz x3 z3 => ?_⟩, ?_⟩
  · by_cases hxz : x = a ∧ z = y
    · rw [hxz.1, hxz.2]
      exact hbb.2.1
    · exact hbb.1.trans (h3 x z x1 z1 z2 (by omega) x3 z3)
  · rcases hbb.2.2 with h | h
    · rw [h]
      rcases h4 with h | h | ⟨x, z, x1, x2, z1, z2, xz, x3, z3, h⟩
      · exact Or.inl h
      · exact Or.inr (Or.inl h)
      · exact Or.inr (Or.inr ⟨x, z, x1, x2, z1, z2, by omega, x3, z3, h⟩)
    · exact Or.inr (Or.inr ⟨a, y, ha, ha2, hy, hy2, by omega, hc, hc2, h⟩)
theorem OQ.next {m : Nat} {B : B4} {a : Int} (h : OQ b la σ m B a (4 * (b 0 0 * b 0 1))) : OQ b la σ m B (a + 1) 0 := by
  obtain ⟨⟨h1, h2, h3⟩, h4⟩ := h
  refine ⟨⟨h1, h2, fun x z x1 z1 z2 xz x3 z3 => h3 x z x1 z1 z2 (by omega) x3 z3⟩, ?_⟩
  rcases h4 with h | h | ⟨x, z, x1, x2, z1, z2, xz, x3, z3, h⟩
  · exact Or.inl h
  · exact Or.inr (Or.inl h)
  · exact Or.inr (Or.inr ⟨x, z, x1, x2, z1, z2, by omega, x3, z3, h⟩)
theorem OQ.none {m : Nat} {B : B4} {a : Int} (h : OQ b la σ m B a 0) (hc : ¬ cdg b σ a = 1) : OQ b la σ m B (a + 1) 0 := by
  obtain ⟨⟨h1, h2, h3⟩, h4⟩ := h
  refine ⟨⟨h1, h2, fun x z x1 z1 z2 xz x3 z3 => ?_⟩, ?_⟩
  · by_cases hx : x = a
    · rw [hx] at x3
      exact absurd x3 hc
    · exact h3 x z x1 z1 z2 (by omega) x3 z3
  · rcases h4 with h | h | ⟨x, z, x1, x2, z1, z2, xz, x3, z3, h⟩
    · exact Or.inl h
    · exact Or.inr (Or.inl h)
    · exact Or.inr (Or.inr ⟨x, z, x1, x2, z1, z2, by omega, x3, z3, h⟩)
theorem OQ.op {m : Nat} {B : B4} (h : OQ b la σ m B (4 * (b 0 0 * b 0 1)) 0) : OP b la σ m 2 B (4 * (b 0 0 * b 0 1)) := by
  obtain ⟨⟨h1, h2, h3⟩, h4⟩ := h
  refine ⟨⟨h1, h2, fun _ x y x1 x2 y1 y2 x3 y3 => h3 x y x1 y1 y2 (Or.inl x2) x3 y3⟩, ?_⟩
  rcases h4 with h | h | ⟨x, z, x1, x2, z1, z2, xz, x3, z3, h⟩
  · exact Or.inl h
  · exact Or.inr (Or.inl h)
  · exact Or.inr (Or.inr ⟨rfl, x, z, x1, x2, z1, z2, x3, z3, h⟩)
theorem OQ.stop (hb : WB b) (hw : WS b σ) {m : Int} (hm : 0 ≤ m) (h9 : σ 4 0 + m ≤ 900) {B : B4} {a : Int} (h : OQ b la σ m.toNat B a 0) (hbr : ¬ B.1 < σ 4 1 + m * mrk b σ) : OP b la σ m.toNat 2 B (4 * (b 0 0 * b 0 1)) := by
  obtain ⟨⟨h1, h2, h3⟩, h4⟩ := h
  refine ⟨⟨h1, h2, fun _ x y x1 x2 y1 y2 x3 y3 => ?_⟩, ?_⟩
  · by_cases hx : x < a
    · exact h3 x y x1 y1 y2 (Or.inl hx) x3 y3
    · have hw1 := dgs_ws hb hw x1 x2 x3
      have ht : gos b la (dgs b (dgs b σ x) y) m.toNat 4 1 ≤ σ 4 1 + m * mrk b σ := gos_top (la := la) (m := m) hb (dgs_ws hb hw1 y1 y2 y3) hm h9
      unfold BE
      show gos b la (dgs b (dgs b σ x) y) m.toNat 4 1 < B.1 ∨ (gos b la (dgs b (dgs b σ x) y) m.toNat 4 1 = B.1 ∧ (B.2.1 < 2 ∨ (B.2.1 = 2 ∧ lxl B (k2 b la σ m.toNat x y))))
      by_cases hlt : gos b la (dgs b (dgs b σ x) y) m.toNat 4 1 < B.1
      · exact Or.inl hlt
      · refine Or.inr ⟨by omega, ?_⟩
        rcases h4 with h | ⟨z, z1, z2, z3, h⟩ | ⟨x', z, q1, q2, z1, z2, xz, q3, z3, h⟩
        · rw [h]
          exact Or.inl (by show (0 : Int) < 2; omega)
        · rw [h]
          exact Or.inl (by show (1 : Int) < 2; omega)
        · rw [h]
          exact Or.inr ⟨rfl, Or.inl (by show x' < x; omega)⟩
  · rcases h4 with h | h | ⟨x, z, x1, x2, z1, z2, xz, x3, z3, h⟩
    · exact Or.inl h
    · exact Or.inr (Or.inl h)
    · exact Or.inr (Or.inr ⟨rfl, x, z, x1, x2, z1, z2, x3, z3, h⟩)
end DIGC2

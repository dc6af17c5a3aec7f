/-! the reference: the past -/
def PAR (c : Nat → Int → Int) (j : Int) : Int := if j = 0 then c 76 8 else if j = 1 then c 76 9 else if j < 27 then c 77 (j - 2) else if j < 52 then c 78 (j - 27) else if j < 58 then c 79 (j - 52) else c 82 (j - 58)
theorem par_0 {c : Nat → Int → Int} : PAR c 0 = c 76 8 := rfl
theorem par_1 {c : Nat → Int → Int} : PAR c 1 = c 76 9 := rfl
theorem par_77 {c : Nat → Int → Int} {j : Int} (h1 : 2 ≤ j) (h2 : j < 27) : PAR c j = c 77 (j - 2) := by
  unfold PAR
  rw [if_neg (by omega), if_neg (by omega), if_pos h2]
theorem par_78 {c : Nat → Int → Int} {j : Int} (h1 : 27 ≤ j) (h2 : j < 52) : PAR c j = c 78 (j - 27) := by
  unfold PAR
  rw [if_neg (by omega), if_neg (by omega), if_neg (by omega), if_pos h2]
theorem par_79 {c : Nat → Int → Int} {j : Int} (h1 : 52 ≤ j) (h2 : j < 58) : PAR c j = c 79 (j - 52) := by
  unfold PAR
  rw [if_neg (by omega), if_neg (by omega), if_neg (by omega), if_neg (by omega), if_pos h2]
theorem par_82 {c : Nat → Int → Int} {j : Int} (h1 : 58 ≤ j) : PAR c j = c 82 (j - 58) := by
  unfold PAR
  rw [if_neg (by omega), if_neg (by omega), if_neg (by omega), if_neg (by omega), if_neg (by omega)]
section MOD22
variable {L : Nat} {sh : Nat → SH} {c : Nat → Int → Int} {n : Nat} {Q : Option AV → List SC → Nat → Prop}
theorem c220k (hS : MS L sh) {v : Int} (h47 : c 75 47 = 0) (hp0 : 0 ≤ c 75 46 ∧ c 75 46 < 1280) : tc_C 220 [rf 75, .inl v] (hp L sh c) n Q = Q (some (.inl v)) (hp L sh (fr (fr c 107 (fu (c 107) (c 75 46) v)) 75 (fu (c 75) 46 (c 75 46 + 1)))) n := tc_det fun Q hq => by
  show tc_W 220 0 [rf 75, .inl v, tc_nil] [] _ _ Q
  repeat' (first | (simp (disch := first | omega | exact Nat.le_of_ble_eq_true rfl | exact rfl | assumption | (simp only [fr_at, Nat.reduceEqDiff, if_false, if_true, reduceIte]; first | assumption | omega)) only [r220_0, r220_1, r220_7, r220_8, r220_11, r220_12, r220_15, r220_16, r220_19, r220_20i, r220_21, r220_22, r220_25, r220_26, r220_29, r220_30, r220_31, r220_32, r220_32A, r220_33, r220_36, r220_37, r220_38, r220_41, r220_42, g11_395_11, g11_109_11, g11_399_11, p11_399_11, mo_len, ms75 hS, mt75 hS, mo_g47, mo_g43, ms107 hS, mt107 hS, mo_g46, mo_s46, il_s, bl_s, bl_z, ll_s, is_s, bs_s, bs_z, ls_s, al_s, al_b, al_l, fr_at, fr_fr, Nat.reduceEqDiff, tc_gf3_s, tc_ql2_s, tc_ws_0, tc_ws_i, tc_ws_l, tc_ws_r, Nat.reduceLeDiff, Nat.reduceAdd, Nat.reduceLT, true_and, and_true, if_true, if_false, tc_K, Option.toList_some, Option.toList_none, List.nil_append, List.cons_append, ite_true, ite_false, Int.cast_ofNat_Int, reduceIte, i3_add_eq, i3_sub_eq, Int.add_sub_cancel, Int.add_neg_cancel_right, h47]) | (simp only [r220_4, i6_lt0, i6_0lt, i6_0le, i6_le0, i6_eq0, b10_0, ite_not, Int.reduceLT, Int.reduceLE, Int.reduceEq, Int.reduceNeg, if_true, if_false, ite_true, ite_false, reduceIte, eq_self, not_true, not_false_eq_true]; try refine tc_ite (fun _ => ?_) (fun _ => ?_) <;> try (exfalso; omega)))
  exact hq
theorem c220b (hS : MS L sh) {v : Int} (h47 : c 75 47 = 1) (hp0 : 0 ≤ c 75 46 ∧ c 75 46 < 1280) : tc_C 220 [rf 75, .inl v] (hp L sh c) n Q = Q (some (.inl (c 107 (c 75 46)))) (hp L sh (fr c 75 (fu (c 75) 46 (c 75 46 + 1)))) n := tc_det fun Q hq => by
  show tc_W 220 0 [rf 75, .inl v, tc_nil] [] _ _ Q
  repeat' (first | (simp (disch := first | omega | exact Nat.le_of_ble_eq_true rfl | exact rfl | assumption | (simp only [fr_at, Nat.reduceEqDiff, if_false, if_true, reduceIte]; first | assumption | omega)) only [r220_0, r220_1, r220_7, r220_8, r220_11, r220_12, r220_15, r220_16, r220_19, r220_20i, r220_21, r220_22, r220_25, r220_26, r220_29, r220_30, r220_31, r220_32, r220_32A, r220_33, r220_36, r220_37, r220_38, r220_41, r220_42, g11_395_11, g11_109_11, g11_399_11, p11_399_11, mo_len, ms75 hS, mt75 hS, mo_g47, mo_g43, ms107 hS, mt107 hS, mo_g46, mo_s46, il_s, bl_s, bl_z, ll_s, is_s, bs_s, bs_z, ls_s, al_s, al_b, al_l, fr_at, fr_fr, Nat.reduceEqDiff, tc_gf3_s, tc_ql2_s, tc_ws_0, tc_ws_i, tc_ws_l, tc_ws_r, Nat.reduceLeDiff, Nat.reduceAdd, Nat.reduceLT, true_and, and_true, if_true, if_false, tc_K, Option.toList_some, Option.toList_none, List.nil_append, List.cons_append, ite_true, ite_false, Int.cast_ofNat_Int, reduceIte, i3_add_eq, i3_sub_eq, Int.add_sub_cancel, Int.add_neg_cancel_right, h47, fu_id, fr_id]) | (simp only [r220_4, i6_lt0, i6_0lt, i6_0le, i6_le0, i6_eq0, b10_0, ite_not, Int.reduceLT, Int.reduceLE, Int.reduceEq, Int.reduceNeg, if_true, if_false, ite_true, ite_false, reduceIte, eq_self, not_true, not_false_eq_true]; try refine tc_ite (fun _ => ?_) (fun _ => ?_) <;> try (exfalso; omega)))
  exact hq
def KA (p q : Int) (c e : Nat → Int → Int) : Prop := (∀ b, ¬ b = 75 → ¬ b = 107 → e b = c b) ∧ (∀ i, ¬ i = 46 → ¬ i = 47 → e 75 i = c 75 i) ∧ e 75 46 = p + q ∧ e 75 47 = 0 ∧ (∀ j, (j < p ∨ p + q ≤ j) → e 107 j = c 107 j) ∧ (∀ j, 0 ≤ j → j < q → e 107 (p + j) = PAR c j)
theorem c221k (hS : MS L sh) {a m : Nat} (ha : a < L ∧ ¬ a = 75 ∧ ¬ a = 107) (hs : sh a = (0, m, [])) {p q : Int} {e : Nat → Int → Int} (hK : KA p q c e) (h0 : 0 ≤ p) (hq0 : 0 ≤ q) (hle : p + q + m ≤ 1280) (hI' : ∀ k : Int, 0 ≤ k → k < m → PAR c (q + k) = c a k)
    (hq : ∀ e', KA p (q + m) c e' → Q none (hp L sh e') n) : tc_C 221 [rf 75, rf a] (hp L sh e) n Q := by
  show tc_W 221 0 [rf 75, rf a, tc_nil] [] _ _ Q
  obtain ⟨ha1, ha2, ha3⟩ := ha
  repeat' (first | (simp (disch := first | omega | exact Nat.le_of_ble_eq_true rfl | exact rfl | assumption | (simp (disch := omega) only [fr_ne, fr_same]; first | assumption | omega)) only [r221_0, r221_1r, r221_3, r221_4, r221_8, r221_9, r221_10, r221_11, r221_12, r221_13, r221_14, v221_14_11, r221_17, r221_18r, r221_21, r221_24, ms75 hS, il_s, bl_s, bl_z, ll_s, is_s, bs_s, bs_z, ls_s, al_s, al_b, al_l, fr_ne, fr_same, fr_fr, Nat.reduceEqDiff, tc_gf3_s, tc_ql2_s, tc_ws_0, tc_ws_i, tc_ws_l, tc_ws_r, Nat.reduceLeDiff, Nat.reduceAdd, Nat.reduceLT, true_and, and_true, if_true, if_false, tc_K, Option.toList_some, Option.toList_none, List.nil_append, List.cons_append, ite_true, ite_false, Int.cast_ofNat_Int, reduceIte, i3_add_eq, i3_sub_eq, Int.add_sub_cancel, Int.add_neg_cancel_right]) | (simp only [r221_5, i6_lt0, i6_0lt, i6_0le, i6_le0, i6_eq0, b10_0, ite_not, Int.reduceLT, Int.reduceLE, Int.reduceEq, Int.reduceNeg, if_true, if_false, ite_true, ite_false, reduceIte, eq_self, not_true, not_false_eq_true]; try refine tc_ite (fun _ => ?_) (fun _ => ?_) <;> try (exfalso; omega)))
  refine lq_1 (N := m) (P := fun k (e : Nat → Int → Int) => tc_W 221 2 [rf 75, rf a, .inl k] [] (hp L sh e) n Q) (I := fun t e => KA p (q + t) c e) ?_ ?_ 0 e (by omega) (by omega) (by rw [Int.add_zero]; exact hK)
  · intro t e ht ht2 ⟨h1, h2, h3, h4, h5, h6⟩ ih
    have ea := h1 a ha2 ha3
    have h220 := fun v Q => c220k (c := e) (v := v) (n := n) (Q := Q) hS h4 (by omega)
    simp only [r221_2]
    generalize he1 : e 75 46 = P at h220 h3
    repeat' (first | (simp (disch := first | omega | exact Nat.le_of_ble_eq_true rfl | exact rfl | assumption | (simp (disch := omega) only [fr_ne, fr_same]; first | assumption | omega)) only [r221_0, r221_1r, r221_3, r221_4, r221_8, r221_9, r221_10, r221_11, r221_12, r221_13, r221_14, v221_14_11, r221_17, r221_18r, r221_21, r221_24, ms75 hS, il_s, bl_s, bl_z, ll_s, is_s, bs_s, bs_z, ls_s, al_s, al_b, al_l, fr_ne, fr_same, fr_fr, Nat.reduceEqDiff, tc_gf3_s, tc_ql2_s, tc_ws_0, tc_ws_i, tc_ws_l, tc_ws_r, Nat.reduceLeDiff, Nat.reduceAdd, Nat.reduceLT, true_and, and_true, if_true, if_false, tc_K, Option.toList_some, Option.toList_none, List.nil_append, List.cons_append, ite_true, ite_false, Int.cast_ofNat_Int, reduceIte, i3_add_eq, i3_sub_eq, Int.add_sub_cancel, Int.add_neg_cancel_right, hI ha1 hs, hIs hs, h220, fu_id]) | (simp only [r221_5, i6_lt0, i6_0lt, i6_0le, i6_le0, i6_eq0, b10_0, ite_not, Int.reduceLT, Int.reduceLE, Int.reduceEq, Int.reduceNeg, if_true, if_false, ite_true, ite_false, reduceIte, eq_self, not_true, not_false_eq_true]; try refine tc_ite (fun _ => ?_) (fun _ => ?_) <;> try (exfalso; omega)))
    refine ih _ ⟨fun b b1 b2 => ?_, fun i i1 i2 => ?_, ?_, ?_, fun j j1 => ?_, fun j j1 j2 => ?_⟩
    · by_cases hba : b = a
      · rw [hba, fr_same]
        exact ea
      · rw [fr_ne hba, fr_ne b1, fr_ne b2]
        exact h1 b b1 b2
    · rw [fr_ne (fun h => ha2 h.symm), fr_same, fu_ne i1]
      exact h2 i i1 i2
    · rw [fr_ne (fun h => ha2 h.symm), fr_same, fu_same]
      omega
    · rw [fr_ne (fun h => ha2 h.symm), fr_same, fu_ne (by omega)]
      exact h4
    · rw [fr_ne (fun h => ha3 h.symm), fr_ne (by omega), fr_same, fu_ne (by omega)]
      exact h5 j (by omega)
    · rw [fr_ne (fun h => ha3 h.symm), fr_ne (by omega), fr_same]
      by_cases hj : j = q + t
      · rw [show p + j = P by omega, fu_same, ea, hj]
        exact (hI' t ht ht2).symm
      · rw [fu_ne (by omega)]
        exact h6 j j1 (by omega)
  · intro e hK
    simp only [r221_2]
    repeat' (first | (simp (disch := first | omega | exact Nat.le_of_ble_eq_true rfl | exact rfl | assumption | (simp (disch := omega) only [fr_ne, fr_same]; first | assumption | omega)) only [r221_0, r221_1r, r221_3, r221_4, r221_8, r221_9, r221_10, r221_11, r221_12, r221_13, r221_14, v221_14_11, r221_17, r221_18r, r221_21, r221_24, ms75 hS, il_s, bl_s, bl_z, ll_s, is_s, bs_s, bs_z, ls_s, al_s, al_b, al_l, fr_ne, fr_same, fr_fr, Nat.reduceEqDiff, tc_gf3_s, tc_ql2_s, tc_ws_0, tc_ws_i, tc_ws_l, tc_ws_r, Nat.reduceLeDiff, Nat.reduceAdd, Nat.reduceLT, true_and, and_true, if_true, if_false, tc_K, Option.toList_some, Option.toList_none, List.nil_append, List.cons_append, ite_true, ite_false, Int.cast_ofNat_Int, reduceIte, i3_add_eq, i3_sub_eq, Int.add_sub_cancel, Int.add_neg_cancel_right, hI ha1 hs]) | (simp only [r221_5, i6_lt0, i6_0lt, i6_0le, i6_le0, i6_eq0, b10_0, ite_not, Int.reduceLT, Int.reduceLE, Int.reduceEq, Int.reduceNeg, if_true, if_false, ite_true, ite_false, reduceIte, eq_self, not_true, not_false_eq_true]; try refine tc_ite (fun _ => ?_) (fun _ => ?_) <;> try (exfalso; omega)))
    exact hq e hK
def BA (D : Nat → Prop) (p q : Int) (c e : Nat → Int → Int) : Prop := (∀ b, ¬ b = 75 → ¬ D b → e b = c b) ∧ (∀ i, ¬ i = 46 → ¬ i = 47 → e 75 i = c 75 i) ∧ e 75 46 = p + q ∧ e 75 47 = 1 ∧ (∀ i, ¬ i = 8 → ¬ i = 9 → e 76 i = c 76 i) ∧ (∀ j, 0 ≤ j → j < q → PAR e j = c 107 (p + j))
theorem c221b (hS : MS L sh) {a m : Nat} (ha : a < L ∧ ¬ a = 75 ∧ ¬ a = 107 ∧ ¬ a = 76) (hs : sh a = (0, m, [])) {D : Nat → Prop} {p q : Int} {e : Nat → Int → Int} (hK : BA D p q c e) (hD : ¬ D 107) (h0 : 0 ≤ p) (hq0 : 0 ≤ q) (hle : p + q + m ≤ 1280) (hI' : ∀ (e : Nat → Int → Int) (k : Int), 0 ≤ k → k < m → PAR e (q + k) = e a k) (hI2 : ∀ e e' : Nat → Int → Int, (∀ b, ¬ b = 75 → ¬ b = a → e' b = e b) → ∀ j, 0 ≤ j → j < q → PAR e' j = PAR e j)
    (hq : ∀ e', BA (fun b => D b ∨ b = a) p (q + m) c e' → Q none (hp L sh e') n) : tc_C 221 [rf 75, rf a] (hp L sh e) n Q := by
  show tc_W 221 0 [rf 75, rf a, tc_nil] [] _ _ Q
  obtain ⟨ha1, ha2, ha3, ha4⟩ := ha
  obtain ⟨h1, h2, h3, h4, h5, h6⟩ := hK
  repeat' (first | (simp (disch := first | omega | exact Nat.le_of_ble_eq_true rfl | exact rfl | assumption | (simp (disch := omega) only [fr_ne, fr_same]; first | assumption | omega)) only [r221_0, r221_1r, r221_3, r221_4, r221_8, r221_9, r221_10, r221_11, r221_12, r221_13, r221_14, v221_14_11, r221_17, r221_18r, r221_21, r221_24, ms75 hS, il_s, bl_s, bl_z, ll_s, is_s, bs_s, bs_z, ls_s, al_s, al_b, al_l, fr_ne, fr_same, fr_fr, Nat.reduceEqDiff, tc_gf3_s, tc_ql2_s, tc_ws_0, tc_ws_i, tc_ws_l, tc_ws_r, Nat.reduceLeDiff, Nat.reduceAdd, Nat.reduceLT, true_and, and_true, if_true, if_false, tc_K, Option.toList_some, Option.toList_none, List.nil_append, List.cons_append, ite_true, ite_false, Int.cast_ofNat_Int, reduceIte, i3_add_eq, i3_sub_eq, Int.add_sub_cancel, Int.add_neg_cancel_right]) | (simp only [r221_5, i6_lt0, i6_0lt, i6_0le, i6_le0, i6_eq0, b10_0, ite_not, Int.reduceLT, Int.reduceLE, Int.reduceEq, Int.reduceNeg, if_true, if_false, ite_true, ite_false, reduceIte, eq_self, not_true, not_false_eq_true]; try refine tc_ite (fun _ => ?_) (fun _ => ?_) <;> try (exfalso; omega)))
  refine lq_1 (N := m) (P := fun k (e : Nat → Int → Int) => tc_W 221 2 [rf 75, rf a, .inl k] [] (hp L sh e) n Q) (I := fun t e2 => (∀ b, ¬ b = 75 → ¬ b = a → e2 b = e b) ∧ (∀ i, ¬ i = 46 → e2 75 i = e 75 i) ∧ e2 75 46 = p + q + t ∧ (∀ k : Int, 0 ≤ k → k < t → e2 a k = c 107 (p + q + k))) ?_ ?_ 0 e (by omega) (by omega) ⟨fun _ _ _ => rfl, fun _ _ => rfl, by omega, fun k k1 k2 => by omega⟩
  · intro t e2 ht ht2 ⟨k1, k2, k3, k4⟩ ih
    have r107 : e2 107 = c 107 := (k1 107 (by omega) (fun h => ha3 h.symm)).trans (h1 107 (by omega) hD)
    have h220 := fun v Q => c220b (c := e2) (v := v) (n := n) (Q := Q) hS ((k2 47 (by omega)).trans h4) (by omega)
    rw [r107, k3] at h220
    simp only [r221_2]
    repeat' (first | (simp (disch := first | omega | exact Nat.le_of_ble_eq_true rfl | exact rfl | assumption | (simp (disch := omega) only [fr_ne, fr_same]; first | assumption | omega)) only [r221_0, r221_1r, r221_3, r221_4, r221_8, r221_9, r221_10, r221_11, r221_12, r221_13, r221_14, v221_14_11, r221_17, r221_18r, r221_21, r221_24, ms75 hS, il_s, bl_s, bl_z, ll_s, is_s, bs_s, bs_z, ls_s, al_s, al_b, al_l, fr_ne, fr_same, fr_fr, Nat.reduceEqDiff, tc_gf3_s, tc_ql2_s, tc_ws_0, tc_ws_i, tc_ws_l, tc_ws_r, Nat.reduceLeDiff, Nat.reduceAdd, Nat.reduceLT, true_and, and_true, if_true, if_false, tc_K, Option.toList_some, Option.toList_none, List.nil_append, List.cons_append, ite_true, ite_false, Int.cast_ofNat_Int, reduceIte, i3_add_eq, i3_sub_eq, Int.add_sub_cancel, Int.add_neg_cancel_right, hI ha1 hs, hIs hs, h220]) | (simp only [r221_5, i6_lt0, i6_0lt, i6_0le, i6_le0, i6_eq0, b10_0, ite_not, Int.reduceLT, Int.reduceLE, Int.reduceEq, Int.reduceNeg, if_true, if_false, ite_true, ite_false, reduceIte, eq_self, not_true, not_false_eq_true]; try refine tc_ite (fun _ => ?_) (fun _ => ?_) <;> try (exfalso; omega)))
    refine ih _ ⟨fun b b1 b2 => ?_, fun i i1 => ?_, ?_, fun k y1 y2 => ?_⟩
    · rw [fr_ne b2, fr_ne b1]
      exact k1 b b1 b2
    · rw [fr_ne (fun h => ha2 h.symm), fr_same, fu_ne i1]
      exact k2 i i1
    · rw [fr_ne (fun h => ha2 h.symm), fr_same, fu_same]
      omega
    · rw [fr_same]
      by_cases hk : k = t
      · rw [hk, fu_same]
      · rw [fu_ne hk]
        exact k4 k y1 (by omega)
  · intro e2 ⟨k1, k2, k3, k4⟩
    simp only [r221_2]
    repeat' (first | (simp (disch := first | omega | exact Nat.le_of_ble_eq_true rfl | exact rfl | assumption | (simp (disch := omega) only [fr_ne, fr_same]; first | assumption | omega)) only [r221_0, r221_1r, r221_3, r221_4, r221_8, r221_9, r221_10, r221_11, r221_12, r221_13, r221_14, v221_14_11, r221_17, r221_18r, r221_21, r221_24, ms75 hS, il_s, bl_s, bl_z, ll_s, is_s, bs_s, bs_z, ls_s, al_s, al_b, al_l, fr_ne, fr_same, fr_fr, Nat.reduceEqDiff, tc_gf3_s, tc_ql2_s, tc_ws_0, tc_ws_i, tc_ws_l, tc_ws_r, Nat.reduceLeDiff, Nat.reduceAdd, Nat.reduceLT, true_and, and_true, if_true, if_false, tc_K, Option.toList_some, Option.toList_none, List.nil_append, List.cons_append, ite_true, ite_false, Int.cast_ofNat_Int, reduceIte, i3_add_eq, i3_sub_eq, Int.add_sub_cancel, Int.add_neg_cancel_right, hI ha1 hs]) | (simp only [r221_5, i6_lt0, i6_0lt, i6_0le, i6_le0, i6_eq0, b10_0, ite_not, Int.reduceLT, Int.reduceLE, Int.reduceEq, Int.reduceNeg, if_true, if_false, ite_true, ite_false, reduceIte, eq_self, not_true, not_false_eq_true]; try refine tc_ite (fun _ => ?_) (fun _ => ?_) <;> try (exfalso; omega)))
    refine hq e2 ⟨fun b b1 b2 => (k1 b b1 (fun h => b2 (Or.inr h))).trans (h1 b b1 (fun h => b2 (Or.inl h))), fun i i1 i2 => (k2 i i1).trans (h2 i i1 i2), by omega, (k2 47 (by omega)).trans h4, fun i i1 i2 => by rw [k1 76 (by omega) (fun h => ha4 h.symm)]; exact h5 i i1 i2, fun j j0 j1 => ?_⟩
    by_cases hj : j < q
    · rw [hI2 e e2 k1 j j0 hj]
      exact h6 j j0 hj
    · have e1 := k4 (j - q) (by omega) (by omega)
      rw [← hI' e2 (j - q) (by omega) (by omega), show q + (j - q) = j by omega, show p + q + (j - q) = p + j by omega] at e1
      exact e1
theorem parx_77 {e e' : Nat → Int → Int} (h : ∀ b, ¬ b = 75 → ¬ b = 77 → e' b = e b) : ∀ j, 0 ≤ j → j < 2 → PAR e' j = PAR e j := by
  intro j j0 j1
  by_cases q0 : j = 0
  · rw [q0, par_0, par_0, h 76 (by omega) (by omega)]
  rw [show j = 1 by omega, par_1, par_1, h 76 (by omega) (by omega)]
theorem parx_78 {e e' : Nat → Int → Int} (h : ∀ b, ¬ b = 75 → ¬ b = 78 → e' b = e b) : ∀ j, 0 ≤ j → j < 27 → PAR e' j = PAR e j := by
  intro j j0 j1
  by_cases q0 : j = 0
  · rw [q0, par_0, par_0, h 76 (by omega) (by omega)]
  by_cases q1 : j = 1
  · rw [q1, par_1, par_1, h 76 (by omega) (by omega)]
  rw [par_77 (by omega) (by omega), par_77 (by omega) (by omega), h 77 (by omega) (by omega)]
theorem parx_79 {e e' : Nat → Int → Int} (h : ∀ b, ¬ b = 75 → ¬ b = 79 → e' b = e b) : ∀ j, 0 ≤ j → j < 52 → PAR e' j = PAR e j := by
  intro j j0 j1
  by_cases q0 : j = 0
  · rw [q0, par_0, par_0, h 76 (by omega) (by omega)]
  by_cases q1 : j = 1
  · rw [q1, par_1, par_1, h 76 (by omega) (by omega)]
  by_cases q2 : j < 27
  · rw [par_77 (by omega) (by omega), par_77 (by omega) (by omega), h 77 (by omega) (by omega)]
  rw [par_78 (by omega) (by omega), par_78 (by omega) (by omega), h 78 (by omega) (by omega)]
theorem parx_82 {e e' : Nat → Int → Int} (h : ∀ b, ¬ b = 75 → ¬ b = 82 → e' b = e b) : ∀ j, 0 ≤ j → j < 58 → PAR e' j = PAR e j := by
  intro j j0 j1
  by_cases q0 : j = 0
  · rw [q0, par_0, par_0, h 76 (by omega) (by omega)]
  by_cases q1 : j = 1
  · rw [q1, par_1, par_1, h 76 (by omega) (by omega)]
  by_cases q2 : j < 27
  · rw [par_77 (by omega) (by omega), par_77 (by omega) (by omega), h 77 (by omega) (by omega)]
  by_cases q3 : j < 52
  · rw [par_78 (by omega) (by omega), par_78 (by omega) (by omega), h 78 (by omega) (by omega)]
  rw [par_79 (by omega) (by omega), par_79 (by omega) (by omega), h 79 (by omega) (by omega)]
theorem c219k (hS : MS L sh) {k : Int} (hk : 0 ≤ k ∧ k ≤ 19) (hq : ∀ e, KA (64 * k) 64 c e → Q none (hp L sh e) n) : tc_C 219 [rf 75, .inl k, .inl 0] (hp L sh c) n Q := by
  show tc_W 219 0 [rf 75, .inl k, .inl 0] [] _ _ Q
  have h220 := fun e v Q (h47 : e 75 47 = 0) (hp0 : 0 ≤ e 75 46 ∧ e 75 46 < 1280) => c220k (c := e) (v := v) (n := n) (Q := Q) hS h47 hp0
  generalize hpk : 64 * k = p at hq
  have K0 : KA p 0 c (fr c 75 (fu (fu (c 75) 46 p) 47 0)) := ⟨fun b b1 b2 => fr_ne b1, fun i i1 i2 => by rw [fr_same, fu_ne i2, fu_ne i1], by rw [fr_same, fu_ne (by omega), fu_same]; omega, by rw [fr_same, fu_same], fun j _ => by rw [fr_ne (by omega)], fun j j0 j1 => by omega⟩
  repeat' (simp (disch := first | omega | exact Nat.le_of_ble_eq_true rfl | exact rfl | assumption | (simp (disch := omega) only [fr_ne, fr_same]; first | assumption | omega)) only [r219_0, r219_1, r219_3, r219_4, r219_5, r219_8, r219_9, r219_10, r219_13, r219_14, r219_17, r219_19, r219_20, r219_21, r219_24, r219_26, r219_27, v219_27_11, r219_30, r219_31, r219_32, r219_35, r219_37, r219_38, r219_39, r219_42, r219_44, r219_45, v219_45_11, r219_48, r219_49, r219_50, r219_51, r219_54, v219_54_11, r219_57, r219_58, r219_59, r219_62, v219_62_11, r219_65, r219_66, r219_67, r219_70, v219_70_11, r219_73, r219_74, r219_75, r219_78, v219_78_11, r219_81, p11_399_11, p11_395_11, g11_9_11, g11_13_11, g11_16_11, g11_19_11, g11_28_11, mo_len, ms75 hS, mt75 hS, mo_s46, mo_s47, mo_g1, ms76 hS, mt76 hS, mo_g2, ms77 hS, mt77 hS, mo_g3, ms78 hS, mt78 hS, mo_g4, ms79 hS, mt79 hS, mo_g7, ms82 hS, mt82 hS, il_s, bl_s, bl_z, ll_s, is_s, bs_s, bs_z, ls_s, al_s, al_b, al_l, fr_ne, fr_same, fr_fr, Nat.reduceEqDiff, tc_gf3_s, tc_ql2_s, tc_ws_0, tc_ws_i, tc_ws_l, tc_ws_r, Nat.reduceLeDiff, Nat.reduceAdd, Nat.reduceLT, true_and, and_true, if_true, if_false, tc_K, Option.toList_some, Option.toList_none, List.nil_append, List.cons_append, ite_true, ite_false, Int.cast_ofNat_Int, reduceIte, i3_add_eq, i3_sub_eq, Int.add_sub_cancel, Int.add_neg_cancel_right, i3_mul_eq, p11_395_11 bz0, hpk])
  generalize fr c 75 (fu (fu (c 75) 46 p) 47 0) = d0 at K0
  rw [c220k (c := d0) hS K0.2.2.2.1 (by rw [K0.2.2.1]; omega)]
  have r8 : d0 76 = c 76 := K0.1 76 (by omega) (by omega)
  have K1 : KA p 1 c (fr (fr d0 107 (fu (d0 107) (d0 75 46) (c 76 8))) 75 (fu (d0 75) 46 (d0 75 46 + 1))) := by
    obtain ⟨h1, h2, h3, h4, h5, h6⟩ := K0
    refine ⟨fun b b1 b2 => ?_, fun i i1 i2 => ?_, ?_, ?_, fun j j1 => ?_, fun j j1 j2 => ?_⟩
    · rw [fr_ne b1, fr_ne b2]
      exact h1 b b1 b2
    · rw [fr_same, fu_ne i1]
      exact h2 i i1 i2
    · rw [fr_same, fu_same]
      omega
    · rw [fr_same, fu_ne (by omega)]
      exact h4
    · rw [fr_ne (by omega), fr_same, fu_ne (by omega)]
      exact h5 j (by omega)
    · rw [fr_ne (by omega), fr_same, show j = 0 by omega, show p + 0 = d0 75 46 by omega, fu_same]
      rfl
  repeat' (simp (disch := first | omega | exact Nat.le_of_ble_eq_true rfl | exact rfl | assumption | (simp (disch := omega) only [fr_ne, fr_same]; first | assumption | omega)) only [r219_0, r219_1, r219_3, r219_4, r219_5, r219_8, r219_9, r219_10, r219_13, r219_14, r219_17, r219_19, r219_20, r219_21, r219_24, r219_26, r219_27, v219_27_11, r219_30, r219_31, r219_32, r219_35, r219_37, r219_38, r219_39, r219_42, r219_44, r219_45, v219_45_11, r219_48, r219_49, r219_50, r219_51, r219_54, v219_54_11, r219_57, r219_58, r219_59, r219_62, v219_62_11, r219_65, r219_66, r219_67, r219_70, v219_70_11, r219_73, r219_74, r219_75, r219_78, v219_78_11, r219_81, p11_399_11, p11_395_11, g11_9_11, g11_13_11, g11_16_11, g11_19_11, g11_28_11, mo_len, ms75 hS, mt75 hS, mo_s46, mo_s47, mo_g1, ms76 hS, mt76 hS, mo_g2, ms77 hS, mt77 hS, mo_g3, ms78 hS, mt78 hS, mo_g4, ms79 hS, mt79 hS, mo_g7, ms82 hS, mt82 hS, il_s, bl_s, bl_z, ll_s, is_s, bs_s, bs_z, ls_s, al_s, al_b, al_l, fr_ne, fr_same, fr_fr, Nat.reduceEqDiff, tc_gf3_s, tc_ql2_s, tc_ws_0, tc_ws_i, tc_ws_l, tc_ws_r, Nat.reduceLeDiff, Nat.reduceAdd, Nat.reduceLT, true_and, and_true, if_true, if_false, tc_K, Option.toList_some, Option.toList_none, List.nil_append, List.cons_append, ite_true, ite_false, Int.cast_ofNat_Int, reduceIte, i3_add_eq, i3_sub_eq, Int.add_sub_cancel, Int.add_neg_cancel_right, fu_id, fr_id])
  generalize hd1 : fr (fr d0 107 (fu (d0 107) (d0 75 46) (c 76 8))) 75 (fu (d0 75) 46 (d0 75 46 + 1)) = d1 at K1
  have e1 : fr d1 76 (fu (d0 76) 8 (c 76 8)) = d1 := by
    rw [r8, fu_id, ← K1.1 76 (by omega) (by omega), fr_id]
  have v1 : fu (d0 76) 8 (c 76 8) 9 = c 76 9 := by rw [fu_ne (by omega), r8]
  rw [e1, v1]
  rw [c220k (c := d1) hS K1.2.2.2.1 (by rw [K1.2.2.1]; omega)]
  have r9 : d1 76 = c 76 := K1.1 76 (by omega) (by omega)
  have K2 : KA p 2 c (fr (fr d1 107 (fu (d1 107) (d1 75 46) (c 76 9))) 75 (fu (d1 75) 46 (d1 75 46 + 1))) := by
    obtain ⟨h1, h2, h3, h4, h5, h6⟩ := K1
    refine ⟨fun b b1 b2 => ?_, fun i i1 i2 => ?_, ?_, ?_, fun j j1 => ?_, fun j j1 j2 => ?_⟩
    · rw [fr_ne b1, fr_ne b2]
      exact h1 b b1 b2
    · rw [fr_same, fu_ne i1]
      exact h2 i i1 i2
    · rw [fr_same, fu_same]
      omega
    · rw [fr_same, fu_ne (by omega)]
      exact h4
    · rw [fr_ne (by omega), fr_same, fu_ne (by omega)]
      exact h5 j (by omega)
    · rw [fr_ne (by omega), fr_same]
      by_cases hj : j = 1
      · rw [hj, show p + 1 = d1 75 46 by omega, fu_same]
        rfl
      · rw [fu_ne (by omega)]
        exact h6 j j1 (by omega)
  repeat' (simp (disch := first | omega | exact Nat.le_of_ble_eq_true rfl | exact rfl | assumption | (simp (disch := omega) only [fr_ne, fr_same]; first | assumption | omega)) only [r219_0, r219_1, r219_3, r219_4, r219_5, r219_8, r219_9, r219_10, r219_13, r219_14, r219_17, r219_19, r219_20, r219_21, r219_24, r219_26, r219_27, v219_27_11, r219_30, r219_31, r219_32, r219_35, r219_37, r219_38, r219_39, r219_42, r219_44, r219_45, v219_45_11, r219_48, r219_49, r219_50, r219_51, r219_54, v219_54_11, r219_57, r219_58, r219_59, r219_62, v219_62_11, r219_65, r219_66, r219_67, r219_70, v219_70_11, r219_73, r219_74, r219_75, r219_78, v219_78_11, r219_81, p11_399_11, p11_395_11, g11_9_11, g11_13_11, g11_16_11, g11_19_11, g11_28_11, mo_len, ms75 hS, mt75 hS, mo_s46, mo_s47, mo_g1, ms76 hS, mt76 hS, mo_g2, ms77 hS, mt77 hS, mo_g3, ms78 hS, mt78 hS, mo_g4, ms79 hS, mt79 hS, mo_g7, ms82 hS, mt82 hS, il_s, bl_s, bl_z, ll_s, is_s, bs_s, bs_z, ls_s, al_s, al_b, al_l, fr_ne, fr_same, fr_fr, Nat.reduceEqDiff, tc_gf3_s, tc_ql2_s, tc_ws_0, tc_ws_i, tc_ws_l, tc_ws_r, Nat.reduceLeDiff, Nat.reduceAdd, Nat.reduceLT, true_and, and_true, if_true, if_false, tc_K, Option.toList_some, Option.toList_none, List.nil_append, List.cons_append, ite_true, ite_false, Int.cast_ofNat_Int, reduceIte, i3_add_eq, i3_sub_eq, Int.add_sub_cancel, Int.add_neg_cancel_right, fu_id, fr_id])
  generalize hd2 : fr (fr d1 107 (fu (d1 107) (d1 75 46) (c 76 9))) 75 (fu (d1 75) 46 (d1 75 46 + 1)) = d2 at K2
  have e2 : fr d2 76 (fu (d1 76) 9 (c 76 9)) = d2 := by
    rw [r9, fu_id, ← K2.1 76 (by omega) (by omega), fr_id]
  rw [e2]
  refine c221k (c := c) (a := 77) (m := 25) (p := p) (q := 2) hS ⟨by have := hS.1; omega, by omega, by omega⟩ (hS.2 77 (by omega) (by omega)) K2 (by omega) (by omega) (by omega) (fun k h1 h2 => by rw [par_77 (by omega) (by omega)]; congr 1; omega) ?_
  intro e3 K3
  rw [show ((2 : Int) + ((25 : Nat) : Int)) = 27 from rfl] at K3
  repeat' (simp (disch := first | omega | exact Nat.le_of_ble_eq_true rfl | exact rfl | assumption | (simp (disch := omega) only [fr_ne, fr_same]; first | assumption | omega)) only [r219_0, r219_1, r219_3, r219_4, r219_5, r219_8, r219_9, r219_10, r219_13, r219_14, r219_17, r219_19, r219_20, r219_21, r219_24, r219_26, r219_27, v219_27_11, r219_30, r219_31, r219_32, r219_35, r219_37, r219_38, r219_39, r219_42, r219_44, r219_45, v219_45_11, r219_48, r219_49, r219_50, r219_51, r219_54, v219_54_11, r219_57, r219_58, r219_59, r219_62, v219_62_11, r219_65, r219_66, r219_67, r219_70, v219_70_11, r219_73, r219_74, r219_75, r219_78, v219_78_11, r219_81, p11_399_11, p11_395_11, g11_9_11, g11_13_11, g11_16_11, g11_19_11, g11_28_11, mo_len, ms75 hS, mt75 hS, mo_s46, mo_s47, mo_g1, ms76 hS, mt76 hS, mo_g2, ms77 hS, mt77 hS, mo_g3, ms78 hS, mt78 hS, mo_g4, ms79 hS, mt79 hS, mo_g7, ms82 hS, mt82 hS, il_s, bl_s, bl_z, ll_s, is_s, bs_s, bs_z, ls_s, al_s, al_b, al_l, fr_ne, fr_same, fr_fr, Nat.reduceEqDiff, tc_gf3_s, tc_ql2_s, tc_ws_0, tc_ws_i, tc_ws_l, tc_ws_r, Nat.reduceLeDiff, Nat.reduceAdd, Nat.reduceLT, true_and, and_true, if_true, if_false, tc_K, Option.toList_some, Option.toList_none, List.nil_append, List.cons_append, ite_true, ite_false, Int.cast_ofNat_Int, reduceIte, i3_add_eq, i3_sub_eq, Int.add_sub_cancel, Int.add_neg_cancel_right])
  refine c221k (c := c) (a := 78) (m := 25) (p := p) (q := 27) hS ⟨by have := hS.1; omega, by omega, by omega⟩ (hS.2 78 (by omega) (by omega)) K3 (by omega) (by omega) (by omega) (fun k h1 h2 => by rw [par_78 (by omega) (by omega)]; congr 1; omega) ?_
  intro e4 K4
  rw [show ((27 : Int) + ((25 : Nat) : Int)) = 52 from rfl] at K4
  repeat' (simp (disch := first | omega | exact Nat.le_of_ble_eq_true rfl | exact rfl | assumption | (simp (disch := omega) only [fr_ne, fr_same]; first | assumption | omega)) only [r219_0, r219_1, r219_3, r219_4, r219_5, r219_8, r219_9, r219_10, r219_13, r219_14, r219_17, r219_19, r219_20, r219_21, r219_24, r219_26, r219_27, v219_27_11, r219_30, r219_31, r219_32, r219_35, r219_37, r219_38, r219_39, r219_42, r219_44, r219_45, v219_45_11, r219_48, r219_49, r219_50, r219_51, r219_54, v219_54_11, r219_57, r219_58, r219_59, r219_62, v219_62_11, r219_65, r219_66, r219_67, r219_70, v219_70_11, r219_73, r219_74, r219_75, r219_78, v219_78_11, r219_81, p11_399_11, p11_395_11, g11_9_11, g11_13_11, g11_16_11, g11_19_11, g11_28_11, mo_len, ms75 hS, mt75 hS, mo_s46, mo_s47, mo_g1, ms76 hS, mt76 hS, mo_g2, ms77 hS, mt77 hS, mo_g3, ms78 hS, mt78 hS, mo_g4, ms79 hS, mt79 hS, mo_g7, ms82 hS, mt82 hS, il_s, bl_s, bl_z, ll_s, is_s, bs_s, bs_z, ls_s, al_s, al_b, al_l, fr_ne, fr_same, fr_fr, Nat.reduceEqDiff, tc_gf3_s, tc_ql2_s, tc_ws_0, tc_ws_i, tc_ws_l, tc_ws_r, Nat.reduceLeDiff, Nat.reduceAdd, Nat.reduceLT, true_and, and_true, if_true, if_false, tc_K, Option.toList_some, Option.toList_none, List.nil_append, List.cons_append, ite_true, ite_false, Int.cast_ofNat_Int, reduceIte, i3_add_eq, i3_sub_eq, Int.add_sub_cancel, Int.add_neg_cancel_right])
  refine c221k (c := c) (a := 79) (m := 6) (p := p) (q := 52) hS ⟨by have := hS.1; omega, by omega, by omega⟩ (hS.2 79 (by omega) (by omega)) K4 (by omega) (by omega) (by omega) (fun k h1 h2 => by rw [par_79 (by omega) (by omega)]; congr 1; omega) ?_
  intro e5 K5
  rw [show ((52 : Int) + ((6 : Nat) : Int)) = 58 from rfl] at K5
  repeat' (simp (disch := first | omega | exact Nat.le_of_ble_eq_true rfl | exact rfl | assumption | (simp (disch := omega) only [fr_ne, fr_same]; first | assumption | omega)) only [r219_0, r219_1, r219_3, r219_4, r219_5, r219_8, r219_9, r219_10, r219_13, r219_14, r219_17, r219_19, r219_20, r219_21, r219_24, r219_26, r219_27, v219_27_11, r219_30, r219_31, r219_32, r219_35, r219_37, r219_38, r219_39, r219_42, r219_44, r219_45, v219_45_11, r219_48, r219_49, r219_50, r219_51, r219_54, v219_54_11, r219_57, r219_58, r219_59, r219_62, v219_62_11, r219_65, r219_66, r219_67, r219_70, v219_70_11, r219_73, r219_74, r219_75, r219_78, v219_78_11, r219_81, p11_399_11, p11_395_11, g11_9_11, g11_13_11, g11_16_11, g11_19_11, g11_28_11, mo_len, ms75 hS, mt75 hS, mo_s46, mo_s47, mo_g1, ms76 hS, mt76 hS, mo_g2, ms77 hS, mt77 hS, mo_g3, ms78 hS, mt78 hS, mo_g4, ms79 hS, mt79 hS, mo_g7, ms82 hS, mt82 hS, il_s, bl_s, bl_z, ll_s, is_s, bs_s, bs_z, ls_s, al_s, al_b, al_l, fr_ne, fr_same, fr_fr, Nat.reduceEqDiff, tc_gf3_s, tc_ql2_s, tc_ws_0, tc_ws_i, tc_ws_l, tc_ws_r, Nat.reduceLeDiff, Nat.reduceAdd, Nat.reduceLT, true_and, and_true, if_true, if_false, tc_K, Option.toList_some, Option.toList_none, List.nil_append, List.cons_append, ite_true, ite_false, Int.cast_ofNat_Int, reduceIte, i3_add_eq, i3_sub_eq, Int.add_sub_cancel, Int.add_neg_cancel_right])
  refine c221k (c := c) (a := 82) (m := 6) (p := p) (q := 58) hS ⟨by have := hS.1; omega, by omega, by omega⟩ (hS.2 82 (by omega) (by omega)) K5 (by omega) (by omega) (by omega) (fun k h1 h2 => by rw [par_82 (by omega)]; congr 1; omega) ?_
  intro e6 K6
  rw [show ((58 : Int) + ((6 : Nat) : Int)) = 64 from rfl] at K6
  repeat' (simp (disch := first | omega | exact Nat.le_of_ble_eq_true rfl | exact rfl | assumption | (simp (disch := omega) only [fr_ne, fr_same]; first | assumption | omega)) only [r219_0, r219_1, r219_3, r219_4, r219_5, r219_8, r219_9, r219_10, r219_13, r219_14, r219_17, r219_19, r219_20, r219_21, r219_24, r219_26, r219_27, v219_27_11, r219_30, r219_31, r219_32, r219_35, r219_37, r219_38, r219_39, r219_42, r219_44, r219_45, v219_45_11, r219_48, r219_49, r219_50, r219_51, r219_54, v219_54_11, r219_57, r219_58, r219_59, r219_62, v219_62_11, r219_65, r219_66, r219_67, r219_70, v219_70_11, r219_73, r219_74, r219_75, r219_78, v219_78_11, r219_81, p11_399_11, p11_395_11, g11_9_11, g11_13_11, g11_16_11, g11_19_11, g11_28_11, mo_len, ms75 hS, mt75 hS, mo_s46, mo_s47, mo_g1, ms76 hS, mt76 hS, mo_g2, ms77 hS, mt77 hS, mo_g3, ms78 hS, mt78 hS, mo_g4, ms79 hS, mt79 hS, mo_g7, ms82 hS, mt82 hS, il_s, bl_s, bl_z, ll_s, is_s, bs_s, bs_z, ls_s, al_s, al_b, al_l, fr_ne, fr_same, fr_fr, Nat.reduceEqDiff, tc_gf3_s, tc_ql2_s, tc_ws_0, tc_ws_i, tc_ws_l, tc_ws_r, Nat.reduceLeDiff, Nat.reduceAdd, Nat.reduceLT, true_and, and_true, if_true, if_false, tc_K, Option.toList_some, Option.toList_none, List.nil_append, List.cons_append, ite_true, ite_false, Int.cast_ofNat_Int, reduceIte, i3_add_eq, i3_sub_eq, Int.add_sub_cancel, Int.add_neg_cancel_right])
  exact hq _ K6
end MOD22

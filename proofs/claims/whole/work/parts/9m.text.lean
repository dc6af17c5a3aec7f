/-! a text, byte by byte -/
theorem b_255 : ∀ z : Fin 256, i3_and ((z.val : Int) - 128) 255 = if (z.val : Int) - 128 < 0 then (z.val : Int) - 128 + 256 else (z.val : Int) - 128 := by decide +kernel
theorem and_255 {z : Int} (h : -128 ≤ z ∧ z ≤ 127) : i3_and z 255 = if z < 0 then z + 256 else z := by
  have e := b_255 ⟨(z + 128).toNat, by omega⟩
  simp only [Int.toNat_of_nonneg (show 0 ≤ z + 128 by omega), show z + 128 - 128 = z by omega] at e
  exact e
/-- the bytes of a tape -/
def TP (g : Int → Int) (n : Int) : Prop := (0 ≤ n ∧ n ≤ 400) ∧ ∀ j, 0 ≤ j → j < 400 → -128 ≤ g j ∧ g j ≤ 127
def byt (g : Int → Int) (n p : Int) : Int := if p < n then (if g p < 0 then g p + 256 else g p) else -1
/-- behind blanks -/
def skf (g : Int → Int) (n : Int) : Nat → Int → Int
  | 0, p => p
  | k + 1, p => if p < n ∧ g p = 32 then skf g n k (p + 1) else p
def sk (g : Int → Int) (n p : Int) : Int := skf g n (n - p).toNat p
theorem sk_e {g : Int → Int} {n p : Int} : sk g n p = if p < n ∧ g p = 32 then sk g n (p + 1) else p := by
  unfold sk
  by_cases h : p < n
  · rw [show (n - p).toNat = (n - (p + 1)).toNat + 1 by omega]
    rfl
  · rw [show (n - p).toNat = 0 by omega, if_neg (fun q => h q.1)]
    rfl
theorem skf_rng {g : Int → Int} {n : Int} : ∀ (k : Nat) (p : Int), p ≤ skf g n k p ∧ (skf g n k p = p ∨ skf g n k p ≤ n) := by
  intro k
  induction k with
  | zero => intro p; exact ⟨Int.le_refl _, Or.inl rfl⟩
  | succ k ih =>
    intro p
    unfold skf
    by_cases h : p < n ∧ g p = 32
    · rw [if_pos h]
      have := ih (p + 1)
      omega
    · rw [if_neg h]
      exact ⟨Int.le_refl _, Or.inl rfl⟩
theorem sk_rng {g : Int → Int} {n p : Int} : p ≤ sk g n p ∧ (sk g n p = p ∨ sk g n p ≤ n) := skf_rng _ _
/-- behind letters -/
def rnf (g : Int → Int) (n : Int) : Nat → Int → Int
  | 0, p => p
  | k + 1, p => if p < n ∧ 97 ≤ g p ∧ g p ≤ 122 then rnf g n k (p + 1) else p
def rn (g : Int → Int) (n p : Int) : Int := rnf g n (n - p).toNat p
theorem rn_e {g : Int → Int} {n p : Int} : rn g n p = if p < n ∧ 97 ≤ g p ∧ g p ≤ 122 then rn g n (p + 1) else p := by
  unfold rn
  by_cases h : p < n
  · rw [show (n - p).toNat = (n - (p + 1)).toNat + 1 by omega]
    rfl
  · rw [show (n - p).toNat = 0 by omega, if_neg (fun q => h q.1)]
    rfl
theorem rnf_rng {g : Int → Int} {n : Int} : ∀ (k : Nat) (p : Int), p ≤ rnf g n k p ∧ (rnf g n k p = p ∨ rnf g n k p ≤ n) ∧ ∀ j, p ≤ j → j < rnf g n k p → 97 ≤ g j ∧ g j ≤ 122 := by
  intro k
  induction k with
  | zero => intro p; exact ⟨Int.le_refl _, Or.inl rfl, fun j j1 j2 => by have : j < p := j2; omega⟩
  | succ k ih =>
    intro p
    unfold rnf
    by_cases h : p < n ∧ 97 ≤ g p ∧ g p ≤ 122
    · rw [if_pos h]
      have h1 := ih (p + 1)
      refine ⟨by omega, by omega, fun j j1 j2 => ?_⟩
      by_cases hj : j = p
      · rw [hj]
        exact h.2
      · exact h1.2.2 j (by omega) j2
    · rw [if_neg h]
      exact ⟨Int.le_refl _, Or.inl rfl, fun j j1 j2 => by omega⟩
theorem rn_rng {g : Int → Int} {n p : Int} : p ≤ rn g n p ∧ (rn g n p = p ∨ rn g n p ≤ n) ∧ ∀ j, p ≤ j → j < rn g n p → 97 ≤ g j ∧ g j ≤ 122 := rnf_rng _ _
/-- digits that follow one another, from a begin on: where they end, what they tell -/
def dgf (g : Int → Int) (n p0 : Int) : Nat → Int → Int → Int × Int
  | 0, p, v => (p, v)
  | k + 1, p, v => if p < n ∧ 48 ≤ g p ∧ g p ≤ 57 then dgf g n p0 k (p + 1) (if p - p0 < 5 then 10 * v + g p - 48 else v) else (p, v)
def dgt (g : Int → Int) (n p : Int) : Int × Int := dgf g n p (n - p).toNat p 0
section TXT
variable {L : Nat} {sh : Nat → SH} {c : Nat → Int → Int} {n : Nat} {Q : Option AV → List SC → Nat → Prop}
theorem c172t (hS : MS L sh) {N p : Int} (hT : TP (c 95) N) (h21 : c 75 21 = N) (h22 : c 75 22 = p) (hp0 : 0 ≤ p) : tc_C 172 [rf 75] (hp L sh c) n Q = Q (some (.inl (byt (c 95) N p))) (hp L sh c) n := tc_det fun Q hq => by
  show tc_W 172 0 [rf 75] [] _ _ Q
  unfold byt at hq
  by_cases h : p < N
  · rw [if_pos h] at hq
    have h1 := hT.1
    have h2 := and_255 (hT.2 p hp0 (by omega))
    rw [← h2] at hq
    repeat' (first | (simp (disch := first | omega | exact Nat.le_of_ble_eq_true rfl | exact rfl | assumption | (simp only [fr_at, Nat.reduceEqDiff, if_false, if_true, reduceIte]; first | assumption | omega)) only [r172_0, r172_1, r172_4, r172_5, r172_11, r172_12, r172_15, r172_16, r172_19, r172_20, r172_23, r172_24, r172_27, r172_28, g11_174_11, g11_149_11, g11_71_11, mo_len, ms75 hS, mt75 hS, mo_g22, mo_g21, mo_g31, ms95 hS, mt95 hS, il_s, bl_s, bl_z, ll_s, is_s, bs_s, bs_z, ls_s, al_s, al_b, al_l, fr_at, fr_fr, Nat.reduceEqDiff, tc_gf3_s, tc_ql2_s, tc_ws_0, tc_ws_i, tc_ws_l, tc_ws_r, Nat.reduceLeDiff, Nat.reduceAdd, Nat.reduceLT, true_and, and_true, if_true, if_false, tc_K, Option.toList_some, Option.toList_none, List.nil_append, List.cons_append, ite_true, ite_false, Int.cast_ofNat_Int, reduceIte, i3_add_eq, i3_sub_eq, Int.add_sub_cancel, Int.add_neg_cancel_right, h21, h22]) | (simp only [r172_8, i6_lt0, i6_0lt, i6_0le, i6_le0, i6_eq0, b10_0, ite_not, Int.reduceLT, Int.reduceLE, Int.reduceEq, Int.reduceNeg, if_true, if_false, ite_true, ite_false, reduceIte, eq_self, not_true, not_false_eq_true]; try refine tc_ite (fun _ => ?_) (fun _ => ?_) <;> try (exfalso; omega)))
    exact hq
  · rw [if_neg h] at hq
    repeat' (first | (simp (disch := first | omega | exact Nat.le_of_ble_eq_true rfl | exact rfl | assumption | (simp only [fr_at, Nat.reduceEqDiff, if_false, if_true, reduceIte]; first | assumption | omega)) only [r172_0, r172_1, r172_4, r172_5, r172_11, r172_12, r172_15, r172_16, r172_19, r172_20, r172_23, r172_24, r172_27, r172_28, g11_174_11, g11_149_11, g11_71_11, mo_len, ms75 hS, mt75 hS, mo_g22, mo_g21, mo_g31, ms95 hS, mt95 hS, il_s, bl_s, bl_z, ll_s, is_s, bs_s, bs_z, ls_s, al_s, al_b, al_l, fr_at, fr_fr, Nat.reduceEqDiff, tc_gf3_s, tc_ql2_s, tc_ws_0, tc_ws_i, tc_ws_l, tc_ws_r, Nat.reduceLeDiff, Nat.reduceAdd, Nat.reduceLT, true_and, and_true, if_true, if_false, tc_K, Option.toList_some, Option.toList_none, List.nil_append, List.cons_append, ite_true, ite_false, Int.cast_ofNat_Int, reduceIte, i3_add_eq, i3_sub_eq, Int.add_sub_cancel, Int.add_neg_cancel_right, h21, h22]) | (simp only [r172_8, i6_lt0, i6_0lt, i6_0le, i6_le0, i6_eq0, b10_0, ite_not, Int.reduceLT, Int.reduceLE, Int.reduceEq, Int.reduceNeg, if_true, if_false, ite_true, ite_false, reduceIte, eq_self, not_true, not_false_eq_true]; try refine tc_ite (fun _ => ?_) (fun _ => ?_) <;> try (exfalso; omega)))
    exact hq
theorem c171 (hS : MS L sh) {N : Int} (hT : TP (c 95) N) (h21 : c 75 21 = N) : ∀ (k : Nat) (p : Int), N - p ≤ k → 0 ≤ p → p ≤ 1000 → Q none (hp L sh (fr c 75 (fu (c 75) 22 (sk (c 95) N p)))) n → tc_W 171 0 [rf 75] [] (hp L sh (fr c 75 (fu (c 75) 22 p))) n Q := by
  intro k
  induction k with
  | zero =>
    intro p hk hp0 hp2 hq
    have e := sk_e (g := c 95) (n := N) (p := p)
    rw [if_neg (fun h => by omega)] at e
    rw [e] at hq
    have h172 := fun Q => c172t (c := fr c 75 (fu (c 75) 22 p)) (n := n) (Q := Q) hS (N := N) (p := p) hT (by rw [fr_same, fu_ne (by omega), h21]) (by rw [fr_same, fu_same]) hp0
    have eb : byt (fr c 75 (fu (c 75) 22 p) 95) N p = -1 := if_neg (by omega)
    simp only [eb] at h172
    simp only [r171_0]
    repeat' (first | (simp (disch := first | omega | exact Nat.le_of_ble_eq_true rfl | exact rfl | assumption | (simp only [fr_at, Nat.reduceEqDiff, if_false, if_true, reduceIte]; first | assumption | omega)) only [r171_1, v171_1_11, r171_4, r171_9, r171_10, r171_10A, r171_11, r171_14, r171_15, r171_16, r171_19, r171_22, g11_174_11, p11_174_11, mo_len, ms75 hS, mt75 hS, mo_g22, mo_s22, il_s, bl_s, bl_z, ll_s, is_s, bs_s, bs_z, ls_s, al_s, al_b, al_l, fr_at, fr_fr, Nat.reduceEqDiff, tc_gf3_s, tc_ql2_s, tc_ws_0, tc_ws_i, tc_ws_l, tc_ws_r, Nat.reduceLeDiff, Nat.reduceAdd, Nat.reduceLT, true_and, and_true, if_true, if_false, tc_K, Option.toList_some, Option.toList_none, List.nil_append, List.cons_append, ite_true, ite_false, Int.cast_ofNat_Int, reduceIte, i3_add_eq, i3_sub_eq, Int.add_sub_cancel, Int.add_neg_cancel_right, h172]) | (simp only [r171_6, i6_lt0, i6_0lt, i6_0le, i6_le0, i6_eq0, b10_0, ite_not, Int.reduceLT, Int.reduceLE, Int.reduceEq, Int.reduceNeg, if_true, if_false, ite_true, ite_false, reduceIte, eq_self, not_true, not_false_eq_true]; try refine tc_ite (fun _ => ?_) (fun _ => ?_) <;> try (exfalso; omega)))
    exact hq
  | succ k ih =>
    intro p hk hp0 hp2 hq
    have h172 := fun Q => c172t (c := fr c 75 (fu (c 75) 22 p)) (n := n) (Q := Q) hS (N := N) (p := p) hT (by rw [fr_same, fu_ne (by omega), h21]) (by rw [fr_same, fu_same]) hp0
    have er : byt (fr c 75 (fu (c 75) 22 p) 95) N p = byt (c 95) N p := rfl
    simp only [er] at h172
    have e := sk_e (g := c 95) (n := N) (p := p)
    have h1 := hT.1
    by_cases h : p < N ∧ c 95 p = 32
    · rw [if_pos h] at e
      rw [e] at hq
      have eb : byt (c 95) N p = 32 := by
        unfold byt
        rw [if_pos h.1, if_neg (by omega), h.2]
      simp only [eb] at h172
      simp only [r171_0]
      repeat' (first | (simp (disch := first | omega | exact Nat.le_of_ble_eq_true rfl | exact rfl | assumption | (simp only [fr_at, Nat.reduceEqDiff, if_false, if_true, reduceIte]; first | assumption | omega)) only [r171_1, v171_1_11, r171_4, r171_9, r171_10, r171_10A, r171_11, r171_14, r171_15, r171_16, r171_19, r171_22, g11_174_11, p11_174_11, mo_len, ms75 hS, mt75 hS, mo_g22, mo_s22, il_s, bl_s, bl_z, ll_s, is_s, bs_s, bs_z, ls_s, al_s, al_b, al_l, fr_at, fr_fr, Nat.reduceEqDiff, tc_gf3_s, tc_ql2_s, tc_ws_0, tc_ws_i, tc_ws_l, tc_ws_r, Nat.reduceLeDiff, Nat.reduceAdd, Nat.reduceLT, true_and, and_true, if_true, if_false, tc_K, Option.toList_some, Option.toList_none, List.nil_append, List.cons_append, ite_true, ite_false, Int.cast_ofNat_Int, reduceIte, i3_add_eq, i3_sub_eq, Int.add_sub_cancel, Int.add_neg_cancel_right, h172, fu_same, fu_fu]) | (simp only [r171_6, i6_lt0, i6_0lt, i6_0le, i6_le0, i6_eq0, b10_0, ite_not, Int.reduceLT, Int.reduceLE, Int.reduceEq, Int.reduceNeg, if_true, if_false, ite_true, ite_false, reduceIte, eq_self, not_true, not_false_eq_true]; try refine tc_ite (fun _ => ?_) (fun _ => ?_) <;> try (exfalso; omega)))
      exact ih (p + 1) (by omega) (by omega) (by omega) hq
    · rw [if_neg h] at e
      rw [e] at hq
      have eb : ¬ byt (c 95) N p = 32 := by
        unfold byt
        by_cases hpn : p < N
        · have h2 := hT.2 p hp0 (by omega)
          rw [if_pos hpn]
          split <;> omega
        · rw [if_neg hpn]
          omega
      simp only [r171_0]
      repeat' (first | (simp (disch := first | omega | exact Nat.le_of_ble_eq_true rfl | exact rfl | assumption | (simp only [fr_at, Nat.reduceEqDiff, if_false, if_true, reduceIte]; first | assumption | omega)) only [r171_1, v171_1_11, r171_4, r171_9, r171_10, r171_10A, r171_11, r171_14, r171_15, r171_16, r171_19, r171_22, g11_174_11, p11_174_11, mo_len, ms75 hS, mt75 hS, mo_g22, mo_s22, il_s, bl_s, bl_z, ll_s, is_s, bs_s, bs_z, ls_s, al_s, al_b, al_l, fr_at, fr_fr, Nat.reduceEqDiff, tc_gf3_s, tc_ql2_s, tc_ws_0, tc_ws_i, tc_ws_l, tc_ws_r, Nat.reduceLeDiff, Nat.reduceAdd, Nat.reduceLT, true_and, and_true, if_true, if_false, tc_K, Option.toList_some, Option.toList_none, List.nil_append, List.cons_append, ite_true, ite_false, Int.cast_ofNat_Int, reduceIte, i3_add_eq, i3_sub_eq, Int.add_sub_cancel, Int.add_neg_cancel_right, h172]) | (simp only [r171_6, i6_lt0, i6_0lt, i6_0le, i6_le0, i6_eq0, b10_0, ite_not, Int.reduceLT, Int.reduceLE, Int.reduceEq, Int.reduceNeg, if_true, if_false, ite_true, ite_false, reduceIte, eq_self, not_true, not_false_eq_true]; try refine tc_ite (fun _ => ?_) (fun _ => ?_) <;> try (exfalso; omega)))
      all_goals first
        | exact hq
        | omega
end TXT

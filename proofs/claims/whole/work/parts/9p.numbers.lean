/-! numbers of a text, on both sides -/
def fl (f k : Int) : Int := if f = 0 then k else f
theorem dgf_rng {g : Int → Int} {N p0 : Int} : ∀ (k : Nat) (p v : Int), p0 ≤ p → (p ≤ (dgf g N p0 k p v).1) ∧ ((dgf g N p0 k p v).1 = p ∨ (dgf g N p0 k p v).1 ≤ N) := by
  intro k
  induction k with
  | zero => intro p v _; exact ⟨Int.le_refl _, Or.inl rfl⟩
  | succ k ih =>
    intro p v h
    unfold dgf
    by_cases hc : p < N ∧ 48 ≤ g p ∧ g p ≤ 57
    · rw [if_pos hc]
      have := ih (p + 1) (if p - p0 < 5 then 10 * v + g p - 48 else v) (by omega)
      omega
    · rw [if_neg hc]
      exact ⟨Int.le_refl _, Or.inl rfl⟩
theorem dgt_rng {g : Int → Int} {N p : Int} : p ≤ (dgt g N p).1 ∧ ((dgt g N p).1 = p ∨ (dgt g N p).1 ≤ N) := dgf_rng _ _ _ (Int.le_refl _)
theorem dgf_e {g : Int → Int} {N p0 p v : Int} : dgf g N p0 (N - p).toNat p v = if p < N ∧ 48 ≤ g p ∧ g p ≤ 57 then dgf g N p0 (N - (p + 1)).toNat (p + 1) (if p - p0 < 5 then 10 * v + g p - 48 else v) else (p, v) := by
  by_cases h : p < N
  · rw [show (N - p).toNat = (N - (p + 1)).toNat + 1 by omega]
    rfl
  · rw [show (N - p).toNat = 0 by omega, if_neg (fun q => h q.1)]
    rfl
/-- a digit's worth keeps a number below what five digits may tell -/
def pw10 (i : Int) : Int := if i ≤ 0 then 1 else if i = 1 then 10 else if i = 2 then 100 else if i = 3 then 1000 else if i = 4 then 10000 else 100000
theorem dgf_v {g : Int → Int} {N p0 : Int} : ∀ (k : Nat) (p v : Int), p0 ≤ p → 0 ≤ v → v < pw10 (p - p0) → 0 ≤ (dgf g N p0 k p v).2 ∧ (dgf g N p0 k p v).2 ≤ 99999 := by
  intro k
  induction k with
  | zero =>
    intro p v h0 h1 h2
    show 0 ≤ v ∧ v ≤ 99999
    unfold pw10 at h2
    repeat' split at h2
    all_goals omega
  | succ k ih =>
    intro p v h0 h1 h2
    unfold dgf
    by_cases hc : p < N ∧ 48 ≤ g p ∧ g p ≤ 57
    · rw [if_pos hc]
      refine ih (p + 1) _ (by omega) ?_ ?_
      · split <;> omega
      · unfold pw10 at h2 ⊢
        by_cases h5 : p - p0 < 5
        · rw [if_pos h5]
          rcases (by omega : p - p0 = 0 ∨ p - p0 = 1 ∨ p - p0 = 2 ∨ p - p0 = 3 ∨ p - p0 = 4) with e | e | e | e | e
          all_goals
            rw [e] at h2
            rw [show p + 1 - p0 = p - p0 + 1 by omega, e]
            simp only [Int.reduceLE, Int.reduceEq, Int.reduceAdd, if_true, if_false, reduceIte] at h2 ⊢
            omega
        · rw [if_neg h5]
          rw [if_neg (by omega), if_neg (by omega), if_neg (by omega), if_neg (by omega), if_neg (by omega)] at h2 ⊢
          exact h2
    · rw [if_neg hc]
      show 0 ≤ v ∧ v ≤ 99999
      unfold pw10 at h2
      repeat' split at h2
      all_goals omega
theorem dgt_v (g : Int → Int) (N p : Int) : 0 ≤ (dgt g N p).2 ∧ (dgt g N p).2 ≤ 99999 := dgf_v _ _ _ (Int.le_refl _) (Int.le_refl _) (by rw [Int.sub_self]; decide)
section NUMR
variable {L : Nat} {sh : Nat → SH} {c : Nat → Int → Int} {n : Nat} {Q : Option AV → List SC → Nat → Prop}
theorem c180 (hS : MS L sh) {N p : Int} (hT : TP (c 95) N) (h21 : c 75 21 = N) (h22 : c 75 22 = p) (hp0 : 0 ≤ p) : tc_C 180 [rf 75] (hp L sh c) n Q = Q (some (.inl (isdg (c 95) N p))) (hp L sh c) n := tc_det fun Q hq => by
  show tc_W 180 0 [rf 75] [] _ _ Q
  have h172 := fun Q => c172t (c := c) (n := n) (Q := Q) hS hT h21 h22 hp0
  have h1 := hT.1
  have eb : (48 ≤ byt (c 95) N p ∧ byt (c 95) N p ≤ 57) ↔ (p < N ∧ 48 ≤ c 95 p ∧ c 95 p ≤ 57) := by
    unfold byt
    by_cases h : p < N
    · rw [if_pos h]
      have h2 := hT.2 p hp0 (by omega)
      split <;> omega
    · rw [if_neg h]
      omega
  unfold isdg at hq
  generalize byt (c 95) N p = v at eb h172
  by_cases h : p < N ∧ 48 ≤ c 95 p ∧ c 95 p ≤ 57
  · rw [if_pos h] at hq
    have hv := eb.mpr h
    have e181 : (if (48 : Int) ≤ v ∧ v ≤ 57 then (1 : Int) else 0) = 1 := if_pos hv
    repeat' (simp (disch := first | omega | exact Nat.le_of_ble_eq_true rfl | exact rfl | assumption | (simp only [fr_at, Nat.reduceEqDiff, if_false, if_true, reduceIte]; first | assumption | omega)) only [r180_0, r180_1, v180_1_11, r180_4, r180_5, r180_8, r180_11, r180_14h, r180_14f, r180_14t, ms75 hS, il_s, bl_s, bl_z, ll_s, is_s, bs_s, bs_z, ls_s, al_s, al_b, al_l, fr_at, fr_fr, Nat.reduceEqDiff, tc_gf3_s, tc_ql2_s, tc_ws_0, tc_ws_i, tc_ws_l, tc_ws_r, Nat.reduceLeDiff, Nat.reduceAdd, Nat.reduceLT, true_and, and_true, if_true, if_false, tc_K, Option.toList_some, Option.toList_none, List.nil_append, List.cons_append, ite_true, ite_false, Int.cast_ofNat_Int, reduceIte, i3_add_eq, i3_sub_eq, Int.add_sub_cancel, Int.add_neg_cancel_right, h172, c181, e181])
    all_goals first
      | exact hq
      | omega
  · rw [if_neg h] at hq
    have e181 : (if (48 : Int) ≤ v ∧ v ≤ 57 then (1 : Int) else 0) = 0 := if_neg fun q => h (eb.mp q)
    repeat' (simp (disch := first | omega | exact Nat.le_of_ble_eq_true rfl | exact rfl | assumption | (simp only [fr_at, Nat.reduceEqDiff, if_false, if_true, reduceIte]; first | assumption | omega)) only [r180_0, r180_1, v180_1_11, r180_4, r180_5, r180_8, r180_11, r180_14h, r180_14f, r180_14t, ms75 hS, il_s, bl_s, bl_z, ll_s, is_s, bs_s, bs_z, ls_s, al_s, al_b, al_l, fr_at, fr_fr, Nat.reduceEqDiff, tc_gf3_s, tc_ql2_s, tc_ws_0, tc_ws_i, tc_ws_l, tc_ws_r, Nat.reduceLeDiff, Nat.reduceAdd, Nat.reduceLT, true_and, and_true, if_true, if_false, tc_K, Option.toList_some, Option.toList_none, List.nil_append, List.cons_append, ite_true, ite_false, Int.cast_ofNat_Int, reduceIte, i3_add_eq, i3_sub_eq, Int.add_sub_cancel, Int.add_neg_cancel_right, h172, c181, e181])
    all_goals first
      | exact hq
      | omega
/-- what digits from p on tell of a fault -/
def dfl (g : Int → Int) (N p most : Int) : Int := if (dgt g N p).1 = p then 1 + 8 * p else if 5 < (dgt g N p).1 - p ∨ most < (dgt g N p).2 then 1 + 8 * p + 1 else 0
theorem c179 (hS : MS L sh) {N p most : Int} (hT : TP (c 95) N) (h21 : c 75 21 = N) (h22 : c 75 22 = p) (hp0 : 0 ≤ p ∧ p ≤ 500) : tc_C 179 [rf 75, .inl most] (hp L sh c) n Q = Q (some (.inl (dgt (c 95) N p).2)) (hp L sh (fr c 75 (fu (fu (c 75) 22 (dgt (c 95) N p).1) 23 (fl (c 75 23) (dfl (c 95) N p most))))) n := tc_det fun Q hq => by
  show tc_W 179 0 [rf 75, .inl most, tc_nil, tc_nil] [] _ _ Q
  have h1 := hT.1
  have h180 := fun Q => c180 (c := c) (n := n) (Q := Q) hS hT h21 h22 hp0.1
  have e0 := dgf_e (g := c 95) (N := N) (p0 := p) (p := p) (v := 0)
  have ed : dgt (c 95) N p = dgf (c 95) N p (N - p).toNat p 0 := rfl
  have hrg := dgt_rng (g := c 95) (N := N) (p := p)
  have hvr := dgt_v (c 95) N p
  by_cases hd : p < N ∧ 48 ≤ c 95 p ∧ c 95 p ≤ 57
  · have hs : isdg (c 95) N p = 1 := if_pos hd
    simp only [hs] at h180
    have hne : ¬ (dgt (c 95) N p).1 = p := by
      rw [ed, e0, if_pos hd]
      have := (dgf_rng (g := c 95) (N := N) (p0 := p) (N - (p + 1)).toNat (p + 1) (if p - p < 5 then 10 * 0 + c 95 p - 48 else 0) (by omega)).1
      omega
    have efl : dfl (c 95) N p most = if 5 < (dgt (c 95) N p).1 - p ∨ most < (dgt (c 95) N p).2 then 1 + 8 * p + 1 else 0 := if_neg hne
    rw [efl] at hq
    repeat' (first | (simp (disch := first | omega | exact Nat.le_of_ble_eq_true rfl | exact rfl | assumption | (simp only [fr_at, Nat.reduceEqDiff, if_false, if_true, reduceIte]; first | assumption | omega)) only [r179_0, r179_1, v179_1_11, r179_7, r179_8, r179_9, r179_10, r179_13, v179_13_11, r179_16, r179_17, r179_18, r179_19, r179_22i, r179_23, r179_24i, r179_26, v179_26_11, r179_32, r179_33, r179_36, r179_37, r179_38, r179_42, r179_44, r179_45, r179_46, r179_47, v179_47_11, r179_50, r179_51, r179_53, r179_54, r179_57, r179_58i, r179_59, r179_60, r179_60A, r179_61, r179_64, r179_65, r179_66, r179_69, r179_72, r179_73, r179_76, r179_77, r179_78, r179_82, r179_83, r179_87, r179_88, r179_89, r179_90, v179_90_11, r179_93, r179_94, g11_174_11, p11_174_11, mo_len, ms75 hS, mt75 hS, mo_g22, mo_s22, il_s, bl_s, bl_z, ll_s, is_s, bs_s, bs_z, ls_s, al_s, al_b, al_l, fr_at, fr_fr, Nat.reduceEqDiff, tc_gf3_s, tc_ql2_s, tc_ws_0, tc_ws_i, tc_ws_l, tc_ws_r, Nat.reduceLeDiff, Nat.reduceAdd, Nat.reduceLT, true_and, and_true, if_true, if_false, tc_K, Option.toList_some, Option.toList_none, List.nil_append, List.cons_append, ite_true, ite_false, Int.cast_ofNat_Int, reduceIte, i3_add_eq, i3_sub_eq, Int.add_sub_cancel, Int.add_neg_cancel_right, h180, h22]) | (simp only [r179_4, r179_29, r179_39, r179_79, r179_84, i6_lt0, i6_0lt, i6_0le, i6_le0, i6_eq0, b10_0, ite_not, Int.reduceLT, Int.reduceLE, Int.reduceEq, Int.reduceNeg, if_true, if_false, ite_true, ite_false, reduceIte, eq_self, not_true, not_false_eq_true]; try refine tc_ite (fun _ => ?_) (fun _ => ?_) <;> try (exfalso; omega)))
    have key : ∀ (k : Nat) (q v : Int), N - q ≤ k → p ≤ q → q ≤ 500 → 0 ≤ v → v < pw10 (q - p) → dgf (c 95) N p (N - q).toNat q v = dgt (c 95) N p → tc_W 179 25 [rf 75, .inl most, .inl p, .inl v] [] (hp L sh (fr c 75 (fu (c 75) 22 q))) n Q := by
      have fin : tc_W 179 72 [rf 75, .inl most, .inl p, .inl (dgt (c 95) N p).2] [] (hp L sh (fr c 75 (fu (c 75) 22 (dgt (c 95) N p).1))) n Q := by
        generalize dgt (c 95) N p = G at hq hrg hvr
        have h175 := fun Q => c175 (c := fr c 75 (fu (c 75) 22 G.1)) (n := n) (Q := Q) (k := 1) (p := p) hS (by omega) (by omega)
        by_cases hb : 5 < G.1 - p ∨ most < G.2
        · rw [if_pos hb] at hq
          unfold fl at hq
          simp (disch := omega) only [fr_same, fu_ne, fr_fr] at h175
          repeat' (first | (simp (disch := first | omega | exact Nat.le_of_ble_eq_true rfl | exact rfl | assumption | (simp only [fr_at, Nat.reduceEqDiff, if_false, if_true, reduceIte]; first | assumption | omega)) only [r179_0, r179_1, v179_1_11, r179_7, r179_8, r179_9, r179_10, r179_13, v179_13_11, r179_16, r179_17, r179_18, r179_19, r179_22i, r179_23, r179_24i, r179_26, v179_26_11, r179_32, r179_33, r179_36, r179_37, r179_38, r179_42, r179_44, r179_45, r179_46, r179_47, v179_47_11, r179_50, r179_51, r179_53, r179_54, r179_57, r179_58i, r179_59, r179_60, r179_60A, r179_61, r179_64, r179_65, r179_66, r179_69, r179_72, r179_73, r179_76, r179_77, r179_78, r179_82, r179_83, r179_87, r179_88, r179_89, r179_90, v179_90_11, r179_93, r179_94, g11_174_11, p11_174_11, mo_len, ms75 hS, mt75 hS, mo_g22, mo_s22, il_s, bl_s, bl_z, ll_s, is_s, bs_s, bs_z, ls_s, al_s, al_b, al_l, fr_at, fr_fr, Nat.reduceEqDiff, tc_gf3_s, tc_ql2_s, tc_ws_0, tc_ws_i, tc_ws_l, tc_ws_r, Nat.reduceLeDiff, Nat.reduceAdd, Nat.reduceLT, true_and, and_true, if_true, if_false, tc_K, Option.toList_some, Option.toList_none, List.nil_append, List.cons_append, ite_true, ite_false, Int.cast_ofNat_Int, reduceIte, i3_add_eq, i3_sub_eq, Int.add_sub_cancel, Int.add_neg_cancel_right, h175, fu_same]) | (simp only [r179_4, r179_29, r179_39, r179_79, r179_84, i6_lt0, i6_0lt, i6_0le, i6_le0, i6_eq0, b10_0, ite_not, Int.reduceLT, Int.reduceLE, Int.reduceEq, Int.reduceNeg, if_true, if_false, ite_true, ite_false, reduceIte, eq_self, not_true, not_false_eq_true]; try refine tc_ite (fun _ => ?_) (fun _ => ?_) <;> try (exfalso; omega)))
          all_goals first
            | exact hq
            | omega
        · rw [if_neg hb] at hq
          have ef : fl (c 75 23) 0 = c 75 23 := by
            unfold fl
            split <;> omega
          have eid : fu (fu (c 75) 22 G.1) 23 (c 75 23) = fu (c 75) 22 G.1 := fu_idv (by rw [fu_ne (by omega)])
          rw [ef, eid] at hq
          repeat' (first | (simp (disch := first | omega | exact Nat.le_of_ble_eq_true rfl | exact rfl | assumption | (simp only [fr_at, Nat.reduceEqDiff, if_false, if_true, reduceIte]; first | assumption | omega)) only [r179_0, r179_1, v179_1_11, r179_7, r179_8, r179_9, r179_10, r179_13, v179_13_11, r179_16, r179_17, r179_18, r179_19, r179_22i, r179_23, r179_24i, r179_26, v179_26_11, r179_32, r179_33, r179_36, r179_37, r179_38, r179_42, r179_44, r179_45, r179_46, r179_47, v179_47_11, r179_50, r179_51, r179_53, r179_54, r179_57, r179_58i, r179_59, r179_60, r179_60A, r179_61, r179_64, r179_65, r179_66, r179_69, r179_72, r179_73, r179_76, r179_77, r179_78, r179_82, r179_83, r179_87, r179_88, r179_89, r179_90, v179_90_11, r179_93, r179_94, g11_174_11, p11_174_11, mo_len, ms75 hS, mt75 hS, mo_g22, mo_s22, il_s, bl_s, bl_z, ll_s, is_s, bs_s, bs_z, ls_s, al_s, al_b, al_l, fr_at, fr_fr, Nat.reduceEqDiff, tc_gf3_s, tc_ql2_s, tc_ws_0, tc_ws_i, tc_ws_l, tc_ws_r, Nat.reduceLeDiff, Nat.reduceAdd, Nat.reduceLT, true_and, and_true, if_true, if_false, tc_K, Option.toList_some, Option.toList_none, List.nil_append, List.cons_append, ite_true, ite_false, Int.cast_ofNat_Int, reduceIte, i3_add_eq, i3_sub_eq, Int.add_sub_cancel, Int.add_neg_cancel_right, fu_same]) | (simp only [r179_4, r179_29, r179_39, r179_79, r179_84, i6_lt0, i6_0lt, i6_0le, i6_le0, i6_eq0, b10_0, ite_not, Int.reduceLT, Int.reduceLE, Int.reduceEq, Int.reduceNeg, if_true, if_false, ite_true, ite_false, reduceIte, eq_self, not_true, not_false_eq_true]; try refine tc_ite (fun _ => ?_) (fun _ => ?_) <;> try (exfalso; omega)))
          all_goals first
            | exact hq
            | omega
      intro k
      induction k with
      | zero =>
        intro q v hk hq0 hq2 hv0 hv1 he
        have e := dgf_e (g := c 95) (N := N) (p0 := p) (p := q) (v := v)
        rw [if_neg (fun h => by omega), he] at e
        rw [e] at fin
        have h180 := fun Q => c180 (c := fr c 75 (fu (c 75) 22 q)) (n := n) (Q := Q) hS (N := N) (p := q) hT (by rw [fr_same, fu_ne (by omega), h21]) (by rw [fr_same, fu_same]) (by omega)
        have hs : isdg (fr c 75 (fu (c 75) 22 q) 95) N q = 0 := if_neg fun h => by omega
        simp only [hs] at h180
        simp only [r179_25]
        repeat' (first | (simp (disch := first | omega | exact Nat.le_of_ble_eq_true rfl | exact rfl | assumption | (simp only [fr_at, Nat.reduceEqDiff, if_false, if_true, reduceIte]; first | assumption | omega)) only [r179_0, r179_1, v179_1_11, r179_7, r179_8, r179_9, r179_10, r179_13, v179_13_11, r179_16, r179_17, r179_18, r179_19, r179_22i, r179_23, r179_24i, r179_26, v179_26_11, r179_32, r179_33, r179_36, r179_37, r179_38, r179_42, r179_44, r179_45, r179_46, r179_47, v179_47_11, r179_50, r179_51, r179_53, r179_54, r179_57, r179_58i, r179_59, r179_60, r179_60A, r179_61, r179_64, r179_65, r179_66, r179_69, r179_73, r179_76, r179_77, r179_78, r179_82, r179_83, r179_87, r179_88, r179_89, r179_90, v179_90_11, r179_93, r179_94, g11_174_11, p11_174_11, mo_len, ms75 hS, mt75 hS, mo_g22, mo_s22, il_s, bl_s, bl_z, ll_s, is_s, bs_s, bs_z, ls_s, al_s, al_b, al_l, fr_at, fr_fr, Nat.reduceEqDiff, tc_gf3_s, tc_ql2_s, tc_ws_0, tc_ws_i, tc_ws_l, tc_ws_r, Nat.reduceLeDiff, Nat.reduceAdd, Nat.reduceLT, true_and, and_true, if_true, if_false, tc_K, Option.toList_some, Option.toList_none, List.nil_append, List.cons_append, ite_true, ite_false, Int.cast_ofNat_Int, reduceIte, i3_add_eq, i3_sub_eq, Int.add_sub_cancel, Int.add_neg_cancel_right, h180]) | (simp only [r179_4, r179_29, r179_39, r179_79, r179_84, i6_lt0, i6_0lt, i6_0le, i6_le0, i6_eq0, b10_0, ite_not, Int.reduceLT, Int.reduceLE, Int.reduceEq, Int.reduceNeg, if_true, if_false, ite_true, ite_false, reduceIte, eq_self, not_true, not_false_eq_true]; try refine tc_ite (fun _ => ?_) (fun _ => ?_) <;> try (exfalso; omega)))
        exact fin
      | succ k ih =>
        intro q v hk hq0 hq2 hv0 hv1 he
        have e := dgf_e (g := c 95) (N := N) (p0 := p) (p := q) (v := v)
        have h180 := fun Q => c180 (c := fr c 75 (fu (c 75) 22 q)) (n := n) (Q := Q) hS (N := N) (p := q) hT (by rw [fr_same, fu_ne (by omega), h21]) (by rw [fr_same, fu_same]) (by omega)
        have er : isdg (fr c 75 (fu (c 75) 22 q) 95) N q = isdg (c 95) N q := rfl
        simp only [er] at h180
        simp only [r179_25]
        by_cases hd2 : q < N ∧ 48 ≤ c 95 q ∧ c 95 q ≤ 57
        · have hs2 : isdg (c 95) N q = 1 := if_pos hd2
          simp only [hs2] at h180
          rw [if_pos hd2, he] at e
          have h172 := fun Q => c172t (c := fr c 75 (fu (c 75) 22 q)) (n := n) (Q := Q) hS (N := N) (p := q) hT (by rw [fr_same, fu_ne (by omega), h21]) (by rw [fr_same, fu_same]) (by omega)
          have eb : byt (fr c 75 (fu (c 75) 22 q) 95) N q = c 95 q := by
            show byt (c 95) N q = c 95 q
            unfold byt
            rw [if_pos hd2.1, if_neg (by omega)]
          simp only [eb] at h172
          have hvb : v < 100000 := by
            unfold pw10 at hv1
            repeat' split at hv1
            all_goals omega
          by_cases h5 : q - p < 5
          · rw [if_pos h5] at e
            have hv2 : 10 * v + c 95 q - 48 < pw10 (q + 1 - p) := by
              unfold pw10 at hv1 ⊢
              rcases (by omega : q - p = 0 ∨ q - p = 1 ∨ q - p = 2 ∨ q - p = 3 ∨ q - p = 4) with e | e | e | e | e
              all_goals
                rw [e] at hv1
                rw [show q + 1 - p = q - p + 1 by omega, e]
                simp only [Int.reduceLE, Int.reduceEq, Int.reduceAdd, if_true, if_false, reduceIte] at hv1 ⊢
                omega
            repeat' (first | (simp (disch := first | omega | exact Nat.le_of_ble_eq_true rfl | exact rfl | assumption | (simp only [fr_at, Nat.reduceEqDiff, if_false, if_true, reduceIte]; first | assumption | omega)) only [r179_0, r179_1, v179_1_11, r179_7, r179_8, r179_9, r179_10, r179_13, v179_13_11, r179_16, r179_17, r179_18, r179_19, r179_22i, r179_23, r179_24i, r179_26, v179_26_11, r179_32, r179_33, r179_36, r179_37, r179_38, r179_42, r179_44, r179_45, r179_46, r179_47, v179_47_11, r179_50, r179_51, r179_53, r179_54, r179_57, r179_58i, r179_59, r179_60, r179_60A, r179_61, r179_64, r179_65, r179_66, r179_69, r179_73, r179_76, r179_77, r179_78, r179_82, r179_83, r179_87, r179_88, r179_89, r179_90, v179_90_11, r179_93, r179_94, g11_174_11, p11_174_11, mo_len, ms75 hS, mt75 hS, mo_g22, mo_s22, il_s, bl_s, bl_z, ll_s, is_s, bs_s, bs_z, ls_s, al_s, al_b, al_l, fr_at, fr_fr, Nat.reduceEqDiff, tc_gf3_s, tc_ql2_s, tc_ws_0, tc_ws_i, tc_ws_l, tc_ws_r, Nat.reduceLeDiff, Nat.reduceAdd, Nat.reduceLT, true_and, and_true, if_true, if_false, tc_K, Option.toList_some, Option.toList_none, List.nil_append, List.cons_append, ite_true, ite_false, Int.cast_ofNat_Int, reduceIte, i3_add_eq, i3_sub_eq, Int.add_sub_cancel, Int.add_neg_cancel_right, h180, h172, fu_same, fu_fu, i3_mul_eq]) | (simp only [r179_4, r179_29, r179_39, r179_79, r179_84, i6_lt0, i6_0lt, i6_0le, i6_le0, i6_eq0, b10_0, ite_not, Int.reduceLT, Int.reduceLE, Int.reduceEq, Int.reduceNeg, if_true, if_false, ite_true, ite_false, reduceIte, eq_self, not_true, not_false_eq_true]; try refine tc_ite (fun _ => ?_) (fun _ => ?_) <;> try (exfalso; omega)))
            all_goals first
              | exact ih (q + 1) (10 * v + c 95 q - 48) (by omega) (by omega) (by omega) (by omega) hv2 e.symm
              | omega
          · rw [if_neg h5] at e
            have hv2 : v < pw10 (q + 1 - p) := by
              unfold pw10 at hv1 ⊢
              rw [if_neg (by omega), if_neg (by omega), if_neg (by omega), if_neg (by omega), if_neg (by omega)] at hv1 ⊢
              exact hv1
            repeat' (first | (simp (disch := first | omega | exact Nat.le_of_ble_eq_true rfl | exact rfl | assumption | (simp only [fr_at, Nat.reduceEqDiff, if_false, if_true, reduceIte]; first | assumption | omega)) only [r179_0, r179_1, v179_1_11, r179_7, r179_8, r179_9, r179_10, r179_13, v179_13_11, r179_16, r179_17, r179_18, r179_19, r179_22i, r179_23, r179_24i, r179_26, v179_26_11, r179_32, r179_33, r179_36, r179_37, r179_38, r179_42, r179_44, r179_45, r179_46, r179_47, v179_47_11, r179_50, r179_51, r179_53, r179_54, r179_57, r179_58i, r179_59, r179_60, r179_60A, r179_61, r179_64, r179_65, r179_66, r179_69, r179_73, r179_76, r179_77, r179_78, r179_82, r179_83, r179_87, r179_88, r179_89, r179_90, v179_90_11, r179_93, r179_94, g11_174_11, p11_174_11, mo_len, ms75 hS, mt75 hS, mo_g22, mo_s22, il_s, bl_s, bl_z, ll_s, is_s, bs_s, bs_z, ls_s, al_s, al_b, al_l, fr_at, fr_fr, Nat.reduceEqDiff, tc_gf3_s, tc_ql2_s, tc_ws_0, tc_ws_i, tc_ws_l, tc_ws_r, Nat.reduceLeDiff, Nat.reduceAdd, Nat.reduceLT, true_and, and_true, if_true, if_false, tc_K, Option.toList_some, Option.toList_none, List.nil_append, List.cons_append, ite_true, ite_false, Int.cast_ofNat_Int, reduceIte, i3_add_eq, i3_sub_eq, Int.add_sub_cancel, Int.add_neg_cancel_right, h180, h172, fu_same, fu_fu, i3_mul_eq]) | (simp only [r179_4, r179_29, r179_39, r179_79, r179_84, i6_lt0, i6_0lt, i6_0le, i6_le0, i6_eq0, b10_0, ite_not, Int.reduceLT, Int.reduceLE, Int.reduceEq, Int.reduceNeg, if_true, if_false, ite_true, ite_false, reduceIte, eq_self, not_true, not_false_eq_true]; try refine tc_ite (fun _ => ?_) (fun _ => ?_) <;> try (exfalso; omega)))
            all_goals first
              | exact ih (q + 1) v (by omega) (by omega) (by omega) (by omega) hv2 e.symm
              | omega
        · have hs2 : isdg (c 95) N q = 0 := if_neg hd2
          simp only [hs2] at h180
          rw [if_neg hd2, he] at e
          rw [e] at fin
          repeat' (first | (simp (disch := first | omega | exact Nat.le_of_ble_eq_true rfl | exact rfl | assumption | (simp only [fr_at, Nat.reduceEqDiff, if_false, if_true, reduceIte]; first | assumption | omega)) only [r179_0, r179_1, v179_1_11, r179_7, r179_8, r179_9, r179_10, r179_13, v179_13_11, r179_16, r179_17, r179_18, r179_19, r179_22i, r179_23, r179_24i, r179_26, v179_26_11, r179_32, r179_33, r179_36, r179_37, r179_38, r179_42, r179_44, r179_45, r179_46, r179_47, v179_47_11, r179_50, r179_51, r179_53, r179_54, r179_57, r179_58i, r179_59, r179_60, r179_60A, r179_61, r179_64, r179_65, r179_66, r179_69, r179_73, r179_76, r179_77, r179_78, r179_82, r179_83, r179_87, r179_88, r179_89, r179_90, v179_90_11, r179_93, r179_94, g11_174_11, p11_174_11, mo_len, ms75 hS, mt75 hS, mo_g22, mo_s22, il_s, bl_s, bl_z, ll_s, is_s, bs_s, bs_z, ls_s, al_s, al_b, al_l, fr_at, fr_fr, Nat.reduceEqDiff, tc_gf3_s, tc_ql2_s, tc_ws_0, tc_ws_i, tc_ws_l, tc_ws_r, Nat.reduceLeDiff, Nat.reduceAdd, Nat.reduceLT, true_and, and_true, if_true, if_false, tc_K, Option.toList_some, Option.toList_none, List.nil_append, List.cons_append, ite_true, ite_false, Int.cast_ofNat_Int, reduceIte, i3_add_eq, i3_sub_eq, Int.add_sub_cancel, Int.add_neg_cancel_right, h180]) | (simp only [r179_4, r179_29, r179_39, r179_79, r179_84, i6_lt0, i6_0lt, i6_0le, i6_le0, i6_eq0, b10_0, ite_not, Int.reduceLT, Int.reduceLE, Int.reduceEq, Int.reduceNeg, if_true, if_false, ite_true, ite_false, reduceIte, eq_self, not_true, not_false_eq_true]; try refine tc_ite (fun _ => ?_) (fun _ => ?_) <;> try (exfalso; omega)))
          exact fin
    have h := key (N - p).toNat p 0 (by omega) (by omega) (by omega) (by omega) (by rw [Int.sub_self]; decide) rfl
    rw [fu_idv h22, fr_id] at h
    exact h
  · have hs : isdg (c 95) N p = 0 := if_neg hd
    simp only [hs] at h180
    have eg : dgt (c 95) N p = (p, 0) := by rw [ed, e0, if_neg hd]
    have efl : dfl (c 95) N p most = 1 + 8 * p := by
      unfold dfl
      rw [eg, if_pos rfl]
    rw [efl, eg] at hq
    unfold fl at hq
    rw [fu_idv (f := c 75) (k := 22) (v := ((p, (0 : Int)) : Int × Int).1) h22] at hq
    have h175 := fun Q => c175 (c := c) (n := n) (Q := Q) (k := 0) (p := p) hS (by omega) (by omega)
    simp only [Int.add_zero] at h175
    repeat' (first | (simp (disch := first | omega | exact Nat.le_of_ble_eq_true rfl | exact rfl | assumption | (simp only [fr_at, Nat.reduceEqDiff, if_false, if_true, reduceIte]; first | assumption | omega)) only [r179_0, r179_1, v179_1_11, r179_7, r179_8, r179_9, r179_10, r179_13, v179_13_11, r179_16, r179_17, r179_18, r179_19, r179_22i, r179_23, r179_24i, r179_26, v179_26_11, r179_32, r179_33, r179_36, r179_37, r179_38, r179_42, r179_44, r179_45, r179_46, r179_47, v179_47_11, r179_50, r179_51, r179_53, r179_54, r179_57, r179_58i, r179_59, r179_60, r179_60A, r179_61, r179_64, r179_65, r179_66, r179_69, r179_72, r179_73, r179_76, r179_77, r179_78, r179_82, r179_83, r179_87, r179_88, r179_89, r179_90, v179_90_11, r179_93, r179_94, g11_174_11, p11_174_11, mo_len, ms75 hS, mt75 hS, mo_g22, mo_s22, il_s, bl_s, bl_z, ll_s, is_s, bs_s, bs_z, ls_s, al_s, al_b, al_l, fr_at, fr_fr, Nat.reduceEqDiff, tc_gf3_s, tc_ql2_s, tc_ws_0, tc_ws_i, tc_ws_l, tc_ws_r, Nat.reduceLeDiff, Nat.reduceAdd, Nat.reduceLT, true_and, and_true, if_true, if_false, tc_K, Option.toList_some, Option.toList_none, List.nil_append, List.cons_append, ite_true, ite_false, Int.cast_ofNat_Int, reduceIte, i3_add_eq, i3_sub_eq, Int.add_sub_cancel, Int.add_neg_cancel_right, h180, h22, h175]) | (simp only [r179_4, r179_29, r179_39, r179_79, r179_84, i6_lt0, i6_0lt, i6_0le, i6_le0, i6_eq0, b10_0, ite_not, Int.reduceLT, Int.reduceLE, Int.reduceEq, Int.reduceNeg, if_true, if_false, ite_true, ite_false, reduceIte, eq_self, not_true, not_false_eq_true]; try refine tc_ite (fun _ => ?_) (fun _ => ?_) <;> try (exfalso; omega)))
    all_goals first
      | exact hq
      | omega
end NUMR

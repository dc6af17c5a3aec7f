/-! cells to wall, as numbers -/
def wht (p : Int → Bool) (ht : Int → Int) (x : Int) : Int := if p x = true then 9 else ht x
/-- whether a wall p keeps the cell k dry -/
noncomputable def wdr (W N : Int) (ht : Int → Int) (F k : Int) (p : Int → Bool) : Int := if stg W N (wht p ht) F k = 0 then 1 else 0
theorem wdr_01 (W N : Int) (ht : Int → Int) (F k : Int) (p : Int → Bool) : wdr W N ht F k p = 0 ∨ wdr W N ht F k p = 1 := by
  unfold wdr
  split <;> omega
def s0 : Int → Bool := fun _ => false
def s1 (a : Int) : Int → Bool := fun j => decide (j = a)
def s2 (a b : Int) : Int → Bool := fun j => decide (j = a) || decide (j = b)
def s3 (a b d : Int) : Int → Bool := fun j => (decide (j = a) || decide (j = b)) || decide (j = d)
/-- the least of the smallest walls -/
def WSP (N k : Int) (g : (Int → Bool) → Int) (R : Int) : Prop :=
  (R = 0 ∧ g s0 = 1) ∨ (g s0 = 0 ∧ ∃ a, 0 ≤ a ∧ a < N ∧ ¬ a = k ∧ g (s1 a) = 1 ∧ R = (mk (s1 a) 25 : Nat) ∧ ∀ x, 0 ≤ x → x < a → ¬ x = k → g (s1 x) = 0) ∨
  (g s0 = 0 ∧ (∀ x, 0 ≤ x → x < N → ¬ x = k → g (s1 x) = 0) ∧ ∃ a b, 0 ≤ b ∧ b < a ∧ a < N ∧ ¬ a = k ∧ ¬ b = k ∧ g (s2 a b) = 1 ∧ R = (mk (s2 a b) 25 : Nat) ∧ ∀ x y, 0 ≤ y → y < x → (x < a ∨ x = a ∧ y < b) → ¬ x = k → ¬ y = k → g (s2 x y) = 0) ∨
  (g s0 = 0 ∧ (∀ x, 0 ≤ x → x < N → ¬ x = k → g (s1 x) = 0) ∧ (∀ x y, 0 ≤ y → y < x → x < N → ¬ x = k → ¬ y = k → g (s2 x y) = 0) ∧ ∃ a b d, 0 ≤ d ∧ d < b ∧ b < a ∧ a < N ∧ ¬ a = k ∧ ¬ b = k ∧ ¬ d = k ∧ g (s3 a b d) = 1 ∧ R = (mk (s3 a b d) 25 : Nat) ∧ ∀ x y z, 0 ≤ z → z < y → y < x → (x < a ∨ x = a ∧ (y < b ∨ y = b ∧ z < d)) → ¬ x = k → ¬ y = k → ¬ z = k → g (s3 x y z) = 0) ∨
  (g s0 = 0 ∧ (∀ x, 0 ≤ x → x < N → ¬ x = k → g (s1 x) = 0) ∧ (∀ x y, 0 ≤ y → y < x → x < N → ¬ x = k → ¬ y = k → g (s2 x y) = 0) ∧ (∀ x y z, 0 ≤ z → z < y → y < x → x < N → ¬ x = k → ¬ y = k → ¬ z = k → g (s3 x y z) = 0) ∧ R = -2)
theorem WSP.uq {N k : Int} {g : (Int → Bool) → Int} {R R' : Int} (h : WSP N k g R) (h' : WSP N k g R') : R = R' := by
  rcases h with ⟨h1, h2⟩ | ⟨h1, a, a1, a2, a3, a4, a5, a6⟩ | ⟨h1, h2, a, b, b1, b2, a2, a3, b3, a4, a5, a6⟩ | ⟨h1, h2, h3, a, b, d, d1, d2, b2, a2, a3, b3, d3, a4, a5, a6⟩ | ⟨h1, h2, h3, h4, h5⟩ <;>
  rcases h' with ⟨k1, k2⟩ | ⟨k1, x, x1, x2, x3, x4, x5, x6⟩ | ⟨k1, k2, x, y, y1, y2, x2, x3, y3, x4, x5, x6⟩ | ⟨k1, k2, k3, x, y, z, z1, z2, y2, x2, x3, y3, z3, x4, x5, x6⟩ | ⟨k1, k2, k3, k4, k5⟩
  all_goals try omega
  · have q1 := a6 x x1
    have q2 := x6 a a1
    have : a = x := by
      rcases Int.lt_trichotomy a x with h | h | h
      · have := q2 h a3; omega
      · exact h
      · have := q1 h x3; omega
    rw [a5, x5, this]
  · have := k2 a a1 a2 a3; omega
  · have := k2 a a1 a2 a3; omega
  · have := k2 a a1 a2 a3; omega
  · have := h2 x x1 x2 x3; omega
  · have q1 := a6 x y y1 y2
    have q2 := x6 a b b1 b2
    have : a = x ∧ b = y := by
      rcases Int.lt_trichotomy a x with h | h | h
      · have := q2 (Or.inl h) a3 b3; omega
      · rcases Int.lt_trichotomy b y with h' | h' | h'
        · have := q2 (Or.inr ⟨h, h'⟩) a3 b3; omega
        · exact ⟨h, h'⟩
        · have := q1 (Or.inr ⟨h.symm, h'⟩) x3 y3; omega
      · have := q1 (Or.inl h) x3 y3; omega
    rw [a5, x5, this.1, this.2]
  · have := k3 a b b1 b2 a2 a3 b3; omega
  · have := k3 a b b1 b2 a2 a3 b3; omega
  · have := h2 x x1 x2 x3; omega
  · have := h3 x y y1 y2 x2 x3 y3; omega
  · have q1 := a6 x y z z1 z2 y2
    have q2 := x6 a b d d1 d2 b2
    have : a = x ∧ b = y ∧ d = z := by
      rcases Int.lt_trichotomy a x with h | h | h
      · have := q2 (Or.inl h) a3 b3 d3; omega
      · rcases Int.lt_trichotomy b y with h' | h' | h'
        · have := q2 (Or.inr ⟨h, Or.inl h'⟩) a3 b3 d3; omega
        · rcases Int.lt_trichotomy d z with h'' | h'' | h''
          · have := q2 (Or.inr ⟨h, Or.inr ⟨h', h''⟩⟩) a3 b3 d3; omega
          · exact ⟨h, h', h''⟩
          · have := q1 (Or.inr ⟨h.symm, Or.inr ⟨h'.symm, h''⟩⟩) x3 y3 z3; omega
        · have := q1 (Or.inr ⟨h.symm, Or.inl h'⟩) x3 y3 z3; omega
      · have := q1 (Or.inl h) x3 y3 z3; omega
    rw [a5, x5, this.1, this.2.1, this.2.2]
  · have := k4 a b d d1 d2 b2 a2 a3 b3 d3; omega
  · have := h2 x x1 x2 x3; omega
  · have := h3 x y y1 y2 x2 x3 y3; omega
  · have := h4 x y z z1 z2 y2 x2 x3 y3 z3; omega
theorem mk_s0 : mk s0 25 = 0 := by decide +kernel
theorem mk_s1 {a : Int} (h : 0 ≤ a) (h2 : a < 25) : i3_shl 1 a = ((mk (s1 a) 25 : Nat) : Int) := by
  have e := mk_set (p := s0) (N := 25) (by omega) h h2
  rw [mk_s0] at e
  have e2 : mk (fun j => s0 j || decide (j = a)) 25 = mk (s1 a) 25 := mk_ext fun j _ _ => by
    show (false || decide (j = a)) = decide (j = a)
    rw [Bool.false_or]
  rw [e2] at e
  rw [← e, i3_shl_1i h (by omega)]
  rw [i3_or_nat (a := 0) (b := 2 ^ a.toNat) (by omega) (p2_31 (by omega)), Nat.zero_or]
theorem mk_s2 {a b : Int} (h : 0 ≤ a) (h2 : a < 25) (k : 0 ≤ b) (k2 : b < 25) : i3_or (i3_shl 1 a) (i3_shl 1 b) = ((mk (s2 a b) 25 : Nat) : Int) := by
  rw [mk_s1 h h2, mk_set (N := 25) (by omega) k k2]
  rfl
theorem mk_s3 {a b d : Int} (h : 0 ≤ a) (h2 : a < 25) (k : 0 ≤ b) (k2 : b < 25) (l : 0 ≤ d) (l2 : d < 25) : i3_or (i3_or (i3_shl 1 a) (i3_shl 1 b)) (i3_shl 1 d) = ((mk (s3 a b d) 25 : Nat) : Int) := by
  rw [mk_s2 h h2 k k2, mk_set (N := 25) (by omega) l l2]
  rfl
section MOD15
variable {L : Nat} {sh : Nat → SH} {c : Nat → Int → Int} {n : Nat} {Q : Option AV → List SC → Nat → Prop}
theorem c257 {h : List SC} {p : Int → Bool} {k : Int} (hk : 0 ≤ k) (hk2 : k < 25) : tc_C 257 [.inl (mk p 25 : Nat), .inl k] h n Q = Q (some (.inl (if p k = true then 1 else 0))) h n := tc_det fun Q hq => by
  have hb := mk_i3bit (p := p) (N := 25) (k := k) (by omega) hk (by omega)
  show tc_W 257 0 [.inl (mk p 25 : Nat), .inl k] [] _ _ Q
  by_cases h1 : p k = true
  · rw [if_pos h1] at hq
    rw [if_pos ⟨by omega, h1⟩] at hb
    repeat' (first | (simp (disch := first | omega | exact Nat.le_of_ble_eq_true rfl | exact rfl | assumption | (simp only [fr_at, Nat.reduceEqDiff, if_false, if_true, reduceIte]; first | assumption | omega)) only [r257_0, r257_1, r257_2, r257_3, r257_4, r257_5, r257_9, r257_10, r257_13, r257_14h, r257_14f, r257_14t, il_s, bl_s, bl_z, ll_s, is_s, bs_s, bs_z, ls_s, al_s, al_b, al_l, fr_at, fr_fr, Nat.reduceEqDiff, tc_gf3_s, tc_ql2_s, tc_ws_0, tc_ws_i, tc_ws_l, tc_ws_r, Nat.reduceLeDiff, Nat.reduceAdd, Nat.reduceLT, true_and, and_true, if_true, if_false, tc_K, Option.toList_some, Option.toList_none, List.nil_append, List.cons_append, ite_true, ite_false, Int.cast_ofNat_Int, reduceIte, i3_add_eq, i3_sub_eq, Int.add_sub_cancel, Int.add_neg_cancel_right, hb]) | (simp only [r257_6, i6_lt0, i6_0lt, i6_0le, i6_le0, i6_eq0, b10_0, ite_not, Int.reduceLT, Int.reduceLE, Int.reduceEq, Int.reduceNeg, if_true, if_false, ite_true, ite_false, reduceIte, eq_self, not_true, not_false_eq_true]; try refine tc_ite (fun _ => ?_) (fun _ => ?_) <;> try (exfalso; omega)))
    all_goals first | exact hq | exact q_i (by omega) hq | (simp (disch := omega) only [if_pos, if_neg] at hq; exact hq)
  · rw [if_neg h1] at hq
    rw [if_neg (fun q => h1 q.2)] at hb
    repeat' (first | (simp (disch := first | omega | exact Nat.le_of_ble_eq_true rfl | exact rfl | assumption | (simp only [fr_at, Nat.reduceEqDiff, if_false, if_true, reduceIte]; first | assumption | omega)) only [r257_0, r257_1, r257_2, r257_3, r257_4, r257_5, r257_9, r257_10, r257_13, r257_14h, r257_14f, r257_14t, il_s, bl_s, bl_z, ll_s, is_s, bs_s, bs_z, ls_s, al_s, al_b, al_l, fr_at, fr_fr, Nat.reduceEqDiff, tc_gf3_s, tc_ql2_s, tc_ws_0, tc_ws_i, tc_ws_l, tc_ws_r, Nat.reduceLeDiff, Nat.reduceAdd, Nat.reduceLT, true_and, and_true, if_true, if_false, tc_K, Option.toList_some, Option.toList_none, List.nil_append, List.cons_append, ite_true, ite_false, Int.cast_ofNat_Int, reduceIte, i3_add_eq, i3_sub_eq, Int.add_sub_cancel, Int.add_neg_cancel_right, hb]) | (simp only [r257_6, i6_lt0, i6_0lt, i6_0le, i6_le0, i6_eq0, b10_0, ite_not, Int.reduceLT, Int.reduceLE, Int.reduceEq, Int.reduceNeg, if_true, if_false, ite_true, ite_false, reduceIte, eq_self, not_true, not_false_eq_true]; try refine tc_ite (fun _ => ?_) (fun _ => ?_) <;> try (exfalso; omega)))
    all_goals first | exact hq | exact q_i (by omega) hq | (simp (disch := omega) only [if_pos, if_neg] at hq; exact hq)
theorem c256 (hS : MS L sh) (hb : WB (bm c)) (hh : HT (c 76 0 * c 76 1) (c 77)) (h8 : 0 ≤ c 76 8 ∧ c 76 8 ≤ 900) {p : Int → Bool} {k : Int} (hk : 0 ≤ k) (hk2 : k < c 76 0 * c 76 1)
    (hq : ∀ e, QX c e → Q (some (.inl (wdr (c 76 0) (c 76 0 * c 76 1) (c 77) (tof (bm c) (c 76 8)) k p))) (hp L sh e) n) : tc_C 256 [rf 75, .inl k, .inl (mk p 25 : Nat)] (hp L sh c) n Q := by
  show tc_W 256 0 [rf 75, .inl k, .inl (mk p 25 : Nat), tc_nil] [] _ _ Q
  obtain ⟨hd, hbd⟩ := hb.dm
  have hN := hd.m.1
  have h185 := fun Q => c185 (c := c) (n := n) (Q := Q) (a := 77) (b := 106) (m := 25) (L := L) (sh := sh) (by have := hS.1; omega) (hS.2 77 (by omega) (by omega)) (hS.2 106 (by omega) (by omega)) (by omega) (by omega)
  repeat' (first | (simp (disch := first | omega | exact Nat.le_of_ble_eq_true rfl | exact rfl | assumption | (simp only [fr_at, Nat.reduceEqDiff, if_false, if_true, reduceIte]; first | assumption | omega)) only [r256_0, r256_1, r256_4, r256_5, r256_8, r256_11, r256_12i, r256_14, r256_15, v256_15_11, r256_21, r256_22, r256_25, r256_26, r256_27, r256_28, r256_34, r256_36, r256_39, r256_40, r256_43, r256_44, r256_45, r256_46i, r256_49, r256_52, r256_53, r256_54, v256_54_11, r256_57, v256_57_11, r256_60, r256_61, r256_64, r256_65, r256_68, r256_71, r256_72, r256_75, r256_76, r256_80, r256_81, r256_84, r256_85h, r256_85f, r256_85t, g11_13_11, g11_106_11, g11_103_11, mo_len, ms75 hS, mt75 hS, mo_g2, ms77 hS, mt77 hS, mo_g42, ms106 hS, mt106 hS, mo_g41, ms105 hS, mt105 hS, il_s, bl_s, bl_z, ll_s, is_s, bs_s, bs_z, ls_s, al_s, al_b, al_l, fr_at, fr_fr, Nat.reduceEqDiff, tc_gf3_s, tc_ql2_s, tc_ws_0, tc_ws_i, tc_ws_l, tc_ws_r, Nat.reduceLeDiff, Nat.reduceAdd, Nat.reduceLT, true_and, and_true, if_true, if_false, tc_K, Option.toList_some, Option.toList_none, List.nil_append, List.cons_append, ite_true, ite_false, Int.cast_ofNat_Int, reduceIte, i3_add_eq, i3_sub_eq, Int.add_sub_cancel, Int.add_neg_cancel_right, h185]) | (simp only [r256_18, r256_31, r256_77, i6_lt0, i6_0lt, i6_0le, i6_le0, i6_eq0, b10_0, ite_not, Int.reduceLT, Int.reduceLE, Int.reduceEq, Int.reduceNeg, if_true, if_false, ite_true, ite_false, reduceIte, eq_self, not_true, not_false_eq_true]; try refine tc_ite (fun _ => ?_) (fun _ => ?_) <;> try (exfalso; omega)))
  have hlp := upI (N := c 76 0 * c 76 1) (P := fun x => tc_W 256 13 [rf 75, .inl k, .inl (mk p 25 : Nat), .inl x] [] (hp L sh (fr (fr c 106 (lay 25 (c 77) (c 106))) 77 (lay x (wht p (c 77)) (c 77)))) n Q) hN.1 ?_ ?_
  · rw [lay_0] at hlp
    have e : fr (fr c 106 (lay 25 (c 77) (c 106))) 77 (c 77) = fr c 106 (lay 25 (c 77) (c 106)) := by
      funext a
      unfold fr
      split
      · rename_i h
        rw [h]
        rfl
      · rfl
    rw [e] at hlp
    exact hlp
  · intro x hx hx2 ih
    have hd' : DM (fr (fr c 106 (lay 25 (c 77) (c 106))) 77 (lay x (wht p (c 77)) (c 77)) 76) := hd
    have h187 := fun Q => c187 (c := fr (fr c 106 (lay 25 (c 77) (c 106))) 77 (lay x (wht p (c 77)) (c 77))) (n := n) (Q := Q) hS hd'
    simp (disch := omega) only [fr_ne] at h187
    have h257 := fun h Q => c257 (n := n) (Q := Q) (h := h) (p := p) (k := x) hx (by omega)
    have ew : wht p (c 77) x = if p x = true then 9 else c 77 x := rfl
    have eo : lay x (wht p (c 77)) (c 77) x = c 77 x := lay_out (by omega)
    simp only [r256_13]
    by_cases hp : p x = true
    · rw [if_pos hp] at ew
      simp only [hp, if_true] at h257
      repeat' (first | (simp (disch := first | omega | exact Nat.le_of_ble_eq_true rfl | exact rfl | assumption | (simp only [fr_at, Nat.reduceEqDiff, if_false, if_true, reduceIte]; first | assumption | omega)) only [r256_0, r256_1, r256_4, r256_5, r256_8, r256_11, r256_12i, r256_14, r256_15, v256_15_11, r256_21, r256_22, r256_25, r256_26, r256_27, r256_28, r256_34, r256_36, r256_39, r256_40, r256_43, r256_44, r256_45, r256_46i, r256_49, r256_52, r256_53, r256_54, v256_54_11, r256_57, v256_57_11, r256_60, r256_61, r256_64, r256_65, r256_68, r256_71, r256_72, r256_75, r256_76, r256_80, r256_81, r256_84, r256_85h, r256_85f, r256_85t, g11_13_11, g11_106_11, g11_103_11, mo_len, ms75 hS, mt75 hS, mo_g2, ms77 hS, mt77 hS, mo_g42, ms106 hS, mt106 hS, mo_g41, ms105 hS, mt105 hS, il_s, bl_s, bl_z, ll_s, is_s, bs_s, bs_z, ls_s, al_s, al_b, al_l, fr_at, fr_fr, Nat.reduceEqDiff, tc_gf3_s, tc_ql2_s, tc_ws_0, tc_ws_i, tc_ws_l, tc_ws_r, Nat.reduceLeDiff, Nat.reduceAdd, Nat.reduceLT, true_and, and_true, if_true, if_false, tc_K, Option.toList_some, Option.toList_none, List.nil_append, List.cons_append, ite_true, ite_false, Int.cast_ofNat_Int, reduceIte, i3_add_eq, i3_sub_eq, Int.add_sub_cancel, Int.add_neg_cancel_right, h187, h257]) | (simp only [r256_18, r256_31, r256_77, i6_lt0, i6_0lt, i6_0le, i6_le0, i6_eq0, b10_0, ite_not, Int.reduceLT, Int.reduceLE, Int.reduceEq, Int.reduceNeg, if_true, if_false, ite_true, ite_false, reduceIte, eq_self, not_true, not_false_eq_true]; try refine tc_ite (fun _ => ?_) (fun _ => ?_) <;> try (exfalso; omega)))
      rw [lay_upv hx ew.symm]
      exact ih
    · rw [if_neg hp] at ew
      simp only [eq_false_of_ne_true hp, Bool.false_eq_true, if_false] at h257
      repeat' (first | (simp (disch := first | omega | exact Nat.le_of_ble_eq_true rfl | exact rfl | assumption | (simp only [fr_at, Nat.reduceEqDiff, if_false, if_true, reduceIte]; first | assumption | omega)) only [r256_0, r256_1, r256_4, r256_5, r256_8, r256_11, r256_12i, r256_14, r256_15, v256_15_11, r256_21, r256_22, r256_25, r256_26, r256_27, r256_28, r256_34, r256_36, r256_39, r256_40, r256_43, r256_44, r256_45, r256_46i, r256_49, r256_52, r256_53, r256_54, v256_54_11, r256_57, v256_57_11, r256_60, r256_61, r256_64, r256_65, r256_68, r256_71, r256_72, r256_75, r256_76, r256_80, r256_81, r256_84, r256_85h, r256_85f, r256_85t, g11_13_11, g11_106_11, g11_103_11, mo_len, ms75 hS, mt75 hS, mo_g2, ms77 hS, mt77 hS, mo_g42, ms106 hS, mt106 hS, mo_g41, ms105 hS, mt105 hS, il_s, bl_s, bl_z, ll_s, is_s, bs_s, bs_z, ls_s, al_s, al_b, al_l, fr_at, fr_fr, Nat.reduceEqDiff, tc_gf3_s, tc_ql2_s, tc_ws_0, tc_ws_i, tc_ws_l, tc_ws_r, Nat.reduceLeDiff, Nat.reduceAdd, Nat.reduceLT, true_and, and_true, if_true, if_false, tc_K, Option.toList_some, Option.toList_none, List.nil_append, List.cons_append, ite_true, ite_false, Int.cast_ofNat_Int, reduceIte, i3_add_eq, i3_sub_eq, Int.add_sub_cancel, Int.add_neg_cancel_right, h187, h257, eo]) | (simp only [r256_18, r256_31, r256_77, i6_lt0, i6_0lt, i6_0le, i6_le0, i6_eq0, b10_0, ite_not, Int.reduceLT, Int.reduceLE, Int.reduceEq, Int.reduceNeg, if_true, if_false, ite_true, ite_false, reduceIte, eq_self, not_true, not_false_eq_true]; try refine tc_ite (fun _ => ?_) (fun _ => ?_) <;> try (exfalso; omega)))
      rw [lay_upv hx ew.symm]
      exact ih
  · have hht : HT (c 76 0 * c 76 1) (lay (c 76 0 * c 76 1) (wht p (c 77)) (c 77)) := fun x x1 x2 => by
      rw [lay_in ⟨x1, x2⟩]
      have := hh x x1 x2
      unfold wht
      split <;> omega
    generalize hd1 : fr (fr c 106 (lay 25 (c 77) (c 106))) 77 (lay (c 76 0 * c 76 1) (wht p (c 77)) (c 77)) = d
    have r77 : d 77 = lay (c 76 0 * c 76 1) (wht p (c 77)) (c 77) := by rw [← hd1, fr_same]
    have r106 : d 106 = lay 25 (c 77) (c 106) := by rw [← hd1, fr_ne (by omega), fr_same]
    have ro : ∀ a, ¬ a = 77 → ¬ a = 106 → d a = c a := fun a a1 a2 => by rw [← hd1, fr_ne a1, fr_ne a2]
    have r76 := ro 76 (by omega) (by omega)
    have h187 := fun Q => c187 (c := d) (n := n) (Q := Q) hS (by rw [r76]; exact hd)
    have hbb : bm d = bm c := bm_ext r76 (ro _ (by omega) (by omega)) (ro _ (by omega) (by omega)) (ro _ (by omega) (by omega)) (ro _ (by omega) (by omega)) (ro _ (by omega) (by omega))
    have h207 := fun Q => c207n (c := d) (d := d) (n := n) (Q := Q) hS (by rw [hbb]; exact hb) (GF.refl d) (w := c 76 8) (by rw [r76]) (by omega)
    have htf := tof_rng hb (c 76 8)
    have h209 := fun Q => c209 (c := d) (n := n) (Q := Q) hS (by rw [r76]; exact hd) (by rw [r76]; exact hbd) (by rw [r76, r77]; exact hht) (F := tof (bm c) (c 76 8)) (by omega)
    simp only [r76, hbb] at h187 h207 h209
    have es : stg (c 76 0) (c 76 0 * c 76 1) (d 77) (tof (bm c) (c 76 8)) = stg (c 76 0) (c 76 0 * c 76 1) (wht p (c 77)) (tof (bm c) (c 76 8)) := by
      rw [r77]
      exact stg_ext ⟨hbd.1, hbd.2.1⟩ fun x x1 x2 => lay_in ⟨x1, x2⟩
    simp only [es] at h209
    generalize hg : lay (c 76 0 * c 76 1) (stg (c 76 0) (c 76 0 * c 76 1) (wht p (c 77)) (tof (bm c) (c 76 8))) (d 105) = g at h209
    have h185b := fun Q => c185 (c := fr d 105 g) (n := n) (Q := Q) (a := 106) (b := 77) (m := 25) (L := L) (sh := sh) (by have := hS.1; omega) (hS.2 106 (by omega) (by omega)) (hS.2 77 (by omega) (by omega)) (by omega) (by omega)
    have e77 : lay ((25 : Nat) : Int) (fr d 105 g 106) (fr d 105 g 77) = c 77 := by
      rw [fr_ne (by omega), fr_ne (by omega), r106, r77]
      funext x
      by_cases hx : 0 ≤ x ∧ x < 25
      · rw [lay_in (k := ((25 : Nat) : Int)) (by omega), lay_in hx]
      · rw [lay_out (k := ((25 : Nat) : Int)) (by omega), lay_out (by omega)]
    simp only [e77] at h185b
    have egk : g k = stg (c 76 0) (c 76 0 * c 76 1) (wht p (c 77)) (tof (bm c) (c 76 8)) k := by
      rw [← hg]
      exact lay_in ⟨hk, hk2⟩
    have hx : QX c (fr (fr d 105 g) 77 (c 77)) := by
      refine ⟨fun a a1 a2 => ?_, fun i _ _ _ _ => ?_, fun j _ => ?_⟩
      · by_cases h : a = 77
        · rw [h, fr_same]
        · rw [fr_ne h, fr_ne (by omega), ro a h (by omega)]
      · rw [fr_ne (by omega), fr_ne (by omega), ro 75 (by omega) (by omega)]
      · rw [fr_ne (by omega), fr_ne (by omega), ro 113 (by omega) (by omega)]
    have hq' := hq _ hx
    unfold wdr at hq'
    rw [← egk] at hq'
    simp only [r256_13]
    by_cases h0 : g k = 0
    · rw [if_pos h0] at hq'
      repeat' (first | (simp (disch := first | omega | exact Nat.le_of_ble_eq_true rfl | exact rfl | assumption | (simp only [fr_at, Nat.reduceEqDiff, if_false, if_true, reduceIte]; first | assumption | omega)) only [r256_0, r256_1, r256_4, r256_5, r256_8, r256_11, r256_12i, r256_14, r256_15, v256_15_11, r256_21, r256_22, r256_25, r256_26, r256_27, r256_28, r256_34, r256_36, r256_39, r256_40, r256_43, r256_44, r256_45, r256_46i, r256_49, r256_52, r256_53, r256_54, v256_54_11, r256_57, v256_57_11, r256_60, r256_61, r256_64, r256_65, r256_68, r256_71, r256_72, r256_75, r256_76, r256_80, r256_81, r256_84, r256_85h, r256_85f, r256_85t, g11_13_11, g11_106_11, g11_103_11, mo_len, ms75 hS, mt75 hS, mo_g2, ms77 hS, mt77 hS, mo_g42, ms106 hS, mt106 hS, mo_g41, ms105 hS, mt105 hS, il_s, bl_s, bl_z, ll_s, is_s, bs_s, bs_z, ls_s, al_s, al_b, al_l, fr_at, fr_fr, Nat.reduceEqDiff, tc_gf3_s, tc_ql2_s, tc_ws_0, tc_ws_i, tc_ws_l, tc_ws_r, Nat.reduceLeDiff, Nat.reduceAdd, Nat.reduceLT, true_and, and_true, if_true, if_false, tc_K, Option.toList_some, Option.toList_none, List.nil_append, List.cons_append, ite_true, ite_false, Int.cast_ofNat_Int, reduceIte, i3_add_eq, i3_sub_eq, Int.add_sub_cancel, Int.add_neg_cancel_right, h187, h207, h209, h185b, h0]) | (simp only [r256_18, r256_31, r256_77, i6_lt0, i6_0lt, i6_0le, i6_le0, i6_eq0, b10_0, ite_not, Int.reduceLT, Int.reduceLE, Int.reduceEq, Int.reduceNeg, if_true, if_false, ite_true, ite_false, reduceIte, eq_self, not_true, not_false_eq_true]; try refine tc_ite (fun _ => ?_) (fun _ => ?_) <;> try (exfalso; omega)))
      exact hq'
    · rw [if_neg h0] at hq'
      repeat' (first | (simp (disch := first | omega | exact Nat.le_of_ble_eq_true rfl | exact rfl | assumption | (simp only [fr_at, Nat.reduceEqDiff, if_false, if_true, reduceIte]; first | assumption | omega)) only [r256_0, r256_1, r256_4, r256_5, r256_8, r256_11, r256_12i, r256_14, r256_15, v256_15_11, r256_21, r256_22, r256_25, r256_26, r256_27, r256_28, r256_34, r256_36, r256_39, r256_40, r256_43, r256_44, r256_45, r256_46i, r256_49, r256_52, r256_53, r256_54, v256_54_11, r256_57, v256_57_11, r256_60, r256_61, r256_64, r256_65, r256_68, r256_71, r256_72, r256_75, r256_76, r256_80, r256_81, r256_84, r256_85h, r256_85f, r256_85t, g11_13_11, g11_106_11, g11_103_11, mo_len, ms75 hS, mt75 hS, mo_g2, ms77 hS, mt77 hS, mo_g42, ms106 hS, mt106 hS, mo_g41, ms105 hS, mt105 hS, il_s, bl_s, bl_z, ll_s, is_s, bs_s, bs_z, ls_s, al_s, al_b, al_l, fr_at, fr_fr, Nat.reduceEqDiff, tc_gf3_s, tc_ql2_s, tc_ws_0, tc_ws_i, tc_ws_l, tc_ws_r, Nat.reduceLeDiff, Nat.reduceAdd, Nat.reduceLT, true_and, and_true, if_true, if_false, tc_K, Option.toList_some, Option.toList_none, List.nil_append, List.cons_append, ite_true, ite_false, Int.cast_ofNat_Int, reduceIte, i3_add_eq, i3_sub_eq, Int.add_sub_cancel, Int.add_neg_cancel_right, h187, h207, h209, h185b]) | (simp only [r256_18, r256_31, r256_77, i6_lt0, i6_0lt, i6_0le, i6_le0, i6_eq0, b10_0, ite_not, Int.reduceLT, Int.reduceLE, Int.reduceEq, Int.reduceNeg, if_true, if_false, ite_true, ite_false, reduceIte, eq_self, not_true, not_false_eq_true]; try refine tc_ite (fun _ => ?_) (fun _ => ?_) <;> try (exfalso; omega)))
      all_goals first
        | exact hq'
        | omega
end MOD15

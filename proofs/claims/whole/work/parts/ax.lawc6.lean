/-! the class: a rule read, all of it -/
theorem al_take {m M : Nat} {f : Int → Int} (h : m ≤ M) : (al M f).take m = al m f := by
  apply List.ext_getElem?
  intro j
  by_cases hj : j < m
  · rw [List.getElem?_take_of_lt hj, al_nat (by omega), al_nat hj]
  · rw [List.getElem?_eq_none (by rw [List.length_take, al_len]; omega), List.getElem?_eq_none (by rw [al_len]; omega)]
theorem cpy_al2 (m M : Nat) (h : m ≤ M) (f g : Int → Int) : tc_cpy (al M f) (al m g) (0 : Int).toNat (0 : Int).toNat ((m : Nat) : Int).toNat = al m f := by
  unfold tc_cpy
  rw [show (0 : Int).toNat = 0 from rfl, Int.toNat_natCast, List.take_zero, List.nil_append, List.drop_zero, Nat.zero_add]
  rw [al_take h, List.drop_of_length_le (by rw [al_len]; exact Nat.le_refl m), List.append_nil]
/-- which words are among the first steps -/
def msk (g : Int → Int) : Nat → Int → Bool
  | 0, _ => false
  | k + 1, w => if -9 ≤ g k ∧ g k < 0 then (msk g k w || decide (w = -1 - g k)) else msk g k w
theorem msk_of {g : Int → Int} : ∀ (m k : Nat), k < m → -9 ≤ g k → g k < 0 → msk g m (-1 - g k) = true := by
  intro m
  induction m with
  | zero => intro k h; omega
  | succ m ih =>
    intro k hk h1 h2
    unfold msk
    by_cases hkm : k = m
    · subst hkm
      rw [if_pos ⟨h1, h2⟩, decide_eq_true rfl, Bool.or_true]
    · have := ih k (by omega) h1 h2
      split
      · rw [this, Bool.true_or]
      · exact this
theorem ctk_1 {z w : Int} (h : ctk z = (1, w)) : -9 ≤ z ∧ z < 0 ∧ w = -1 - z := by
  by_cases h0 : 0 ≤ z
  · rw [ctk_n h0] at h
    injection h with h _
    omega
  by_cases h9 : -9 ≤ z
  · unfold ctk at h
    rw [if_neg h0, if_pos h9] at h
    injection h with _ h
    omega
  exfalso
  have hf : (ctk z).1 = 1 := by rw [h]
  rcases (by omega : z = -10 ∨ z = -11 ∨ z = -12 ∨ z = -13 ∨ z = -14 ∨ z = -15 ∨ z = -16 ∨ z = -17 ∨ z = -18 ∨ z = -19 ∨ z = -20 ∨ z = -21 ∨ z = -22 ∨ z < -22) with rfl | rfl | rfl | rfl | rfl | rfl | rfl | rfl | rfl | rfl | rfl | rfl | rfl | hz
  all_goals first
    | exact absurd hf (by decide)
    | (unfold ctk at hf
       rw [if_neg h0, if_neg h9, if_neg (by omega), if_neg (by omega), if_neg (by omega), if_neg (by omega), if_neg (by omega), if_neg (by omega), if_neg (by omega), if_neg (by omega), if_neg (by omega), if_neg (by omega), if_neg (by omega), if_neg (by omega), if_neg (by omega)] at hf
       exact absurd hf (by decide))
theorem sc_mem {g : Int → Int} {t : Tk} : ∀ (m : Nat) (a : Int), t ∈ sc g a m → ∃ j, a ≤ j ∧ j < a + m ∧ ctk (g j) = t := by
  intro m
  induction m with
  | zero => intro a h; exact absurd h (by simp [sc])
  | succ m ih =>
    intro a h
    have h : t ∈ ctk (g a) :: sc g (a + 1) m := h
    rcases List.mem_cons.mp h with e | e
    · exact ⟨a, by omega, by omega, e.symm⟩
    · obtain ⟨j, j1, j2, j3⟩ := ih (a + 1) e
      exact ⟨j, by omega, by omega, j3⟩
theorem clr_mem {s t : Int → Int} {u : Tk} : ∀ (l : Law) (x z : Int), clr s t l x z → (∃ q ∈ l, u ∈ q.1 ∨ u ∈ q.2) → ∃ j, z ≤ j ∧ j < z + tz l ∧ ctk (s j) = u := by
  intro l
  induction l with
  | nil => intro x z _ ⟨q, hq, _⟩; exact absurd hq (by simp)
  | cons y l ih =>
    intro x z ⟨c1, c2, c3, c4, c5⟩ ⟨q, hq, hu⟩
    have ht : tz (y :: l) = y.1.length + y.2.length + tz l := rfl
    have hn := tz_nn l
    rcases List.mem_cons.mp hq with e | e
    · rw [e] at hu
      rcases hu with hu | hu
      · rw [← c3] at hu
        obtain ⟨j, j1, j2, j3⟩ := sc_mem _ _ hu
        exact ⟨j, j1, by omega, j3⟩
      · rw [← c4] at hu
        obtain ⟨j, j1, j2, j3⟩ := sc_mem _ _ hu
        exact ⟨j, by omega, by omega, j3⟩
    · obtain ⟨j, j1, j2, j3⟩ := ih (x + 1) _ c5 ⟨q, e, hu⟩
      exact ⟨j, by omega, by omega, j3⟩
theorem clr_hd {s t : Int → Int} {l : Law} {x z : Int} (h : clr s t l x z) (he : t (2 * (x + l.length)) = z + tz l) : t (2 * x) = z := by
  cases l with
  | nil =>
    have e0 : tz [] = 0 := rfl
    have e1 : (([] : Law).length : Int) = 0 := rfl
    rw [e0, e1] at he
    rw [show 2 * x = 2 * (x + 0) by omega, he]
    omega
  | cons q l => exact h.1
theorem clr_cla {c : Nat → Int → Int} {r : Nat} : ∀ (l : Law) (x z : Int), clr (c (r + 1)) (c (r + 2)) l x z → c (r + 2) (2 * (x + l.length)) = z + tz l → cla c r (2 * x) l.length = l := by
  intro l
  induction l with
  | nil => intro x z _ _; rfl
  | cons q l ih =>
    intro x z ⟨c1, c2, c3, c4, c5⟩ he
    have hl : (((q :: l).length : Nat) : Int) = l.length + 1 := by
      show ((l.length + 1 : Nat) : Int) = _
      omega
    have ht : tz (q :: l) = q.1.length + q.2.length + tz l := rfl
    rw [hl, ht] at he
    have he2 : c (r + 2) (2 * (x + 1 + l.length)) = z + q.1.length + q.2.length + tz l := by
      rw [show x + 1 + (l.length : Int) = x + (l.length + 1) by omega, he]
      omega
    have hd := clr_hd c5 he2
    show (sc (c (r + 1)) (c (r + 2) (2 * x)) (c (r + 2) (2 * x + 1) - c (r + 2) (2 * x)).toNat, sc (c (r + 1)) (c (r + 2) (2 * x + 1)) (c (r + 2) (2 * x + 2) - c (r + 2) (2 * x + 1)).toNat) :: cla c r (2 * x + 2) l.length = q :: l
    rw [show 2 * x + 2 = 2 * (x + 1) by omega, ih (x + 1) _ c5 he2, hd, c1, c2, show (z + (q.1.length : Int) - z).toNat = q.1.length by omega, show (z + (q.1.length : Int) + q.2.length - (z + q.1.length)).toNat = q.2.length by omega, c3, c4]
theorem clr_mono {s t : Int → Int} : ∀ (l : Law) (x z : Int), 0 ≤ z → clr s t l x z → t (2 * (x + l.length)) = z + tz l → ∀ y, 2 * x ≤ y → y < 2 * (x + l.length) → z ≤ t y ∧ t y ≤ t (y + 1) ∧ t (y + 1) ≤ z + tz l := by
  intro l
  induction l with
  | nil =>
    intro x z _ _ _ y h1 h2
    have e1 : (([] : Law).length : Int) = 0 := rfl
    omega
  | cons q l ih =>
    intro x z hz ⟨c1, c2, c3, c4, c5⟩ he y h1 h2
    have hl : (((q :: l).length : Nat) : Int) = l.length + 1 := by
      show ((l.length + 1 : Nat) : Int) = _
      omega
    have ht : tz (q :: l) = q.1.length + q.2.length + tz l := rfl
    have hn := tz_nn l
    rw [hl, ht] at he
    rw [hl] at h2
    rw [ht]
    have he2 : t (2 * (x + 1 + l.length)) = z + q.1.length + q.2.length + tz l := by
      rw [show x + 1 + (l.length : Int) = x + (l.length + 1) by omega, he]
      omega
    have hd := clr_hd c5 he2
    by_cases y0 : y = 2 * x
    · subst y0
      omega
    by_cases y1 : y = 2 * x + 1
    · subst y1
      rw [show 2 * x + 1 + 1 = 2 * (x + 1) by omega]
      omega
    · have := ih (x + 1) _ (by omega) c5 he2 y (by omega) (by omega)
      omega
section LAWS6
variable {L : Nat} {sh : Nat → SH} {c : Nat → Int → Int} {n : Nat} {Q : Option AV → List SC → Nat → Prop} {g : Int → Int} {N p m z f p' m' k : Int} {X Y : List Tk} {l l' : Law}
theorem c64 {a M : Nat} (ha : a < L) (hs : sh a = (0, M, [])) (hM : M ≤ 1000) {m : Nat} (hm : m ≤ M) : tc_C 64 [rf a, .inl (m : Int)] (hp L sh c) n Q = Q (some (rf L)) (hp (L + 1) (fs sh L (0, m, [])) (fr c L (c a))) (n + m) := tc_det fun Q hq => by
  show tc_W 64 0 [rf a, .inl (m : Int), tc_nil] [] _ _ Q
  by_cases hmm : m = M
  · subst hmm
    repeat' (first | (simp (disch := first | omega | exact Nat.le_of_ble_eq_true rfl | exact rfl | assumption | (simp (disch := omega) only [fr_ne, fr_same]; first | assumption | omega)) only [r64_0, r64_1, r64_2, r64_6, r64_10, r64_13, r64_14, r64_15, r64_17i, r64_18, r64_19, r64_20, r64_21, r64_22, r64_23, r64_24, r64_25, r64_28, r64_31, r64_32, il_s, bl_s, bl_z, ll_s, is_s, bs_s, bs_z, ls_s, al_s, al_b, al_l, fr_ne, fr_same, fr_fr, Nat.reduceEqDiff, tc_gf3_s, tc_ql2_s, tc_ws_0, tc_ws_i, tc_ws_l, tc_ws_r, Nat.reduceLeDiff, Nat.reduceAdd, Nat.reduceLT, true_and, and_true, if_true, if_false, tc_K, Option.toList_some, Option.toList_none, List.nil_append, List.cons_append, ite_true, ite_false, Int.cast_ofNat_Int, reduceIte, i3_add_eq, i3_sub_eq, Int.add_sub_cancel, Int.add_neg_cancel_right, hI ha hs]) | (simp only [r64_3, i6_lt0, i6_0lt, i6_0le, i6_le0, i6_eq0, b10_0, ite_not, Int.reduceLT, Int.reduceLE, Int.reduceEq, Int.reduceNeg, if_true, if_false, ite_true, ite_false, reduceIte, eq_self, not_true, not_false_eq_true]; try refine tc_ite (fun _ => ?_) (fun _ => ?_) <;> try (exfalso; omega)))
    rw [r64_7 (hI ha hs) (Nat.le_of_ble_eq_true rfl)]
    have e1 : hp L sh c ++ [.inl (0, al m (c a))] = hp (L + 1) (fs sh L (0, m, [])) (fr c L (c a)) := hp_app (s := (0, m, []))
    rw [e1, hp_len, al_len]
    rw [r64_10 (hI (by omega) (fs_same _ _ _))]
    repeat' (first | (simp (disch := first | omega | exact Nat.le_of_ble_eq_true rfl | exact rfl | assumption | (simp (disch := omega) only [fr_ne, fr_same]; first | assumption | omega)) only [r64_0, r64_1, r64_2, r64_6, r64_7, r64_10, r64_13, r64_14, r64_15, r64_17i, r64_18, r64_19, r64_20, r64_21, r64_22, r64_23, r64_24, r64_25, r64_28, r64_31, r64_32, il_s, bl_s, bl_z, ll_s, is_s, bs_s, bs_z, ls_s, al_s, al_b, al_l, fr_ne, fr_same, fr_fr, Nat.reduceEqDiff, tc_gf3_s, tc_ql2_s, tc_ws_0, tc_ws_i, tc_ws_l, tc_ws_r, Nat.reduceLeDiff, Nat.reduceAdd, Nat.reduceLT, true_and, and_true, if_true, if_false, tc_K, Option.toList_some, Option.toList_none, List.nil_append, List.cons_append, ite_true, ite_false, Int.cast_ofNat_Int, reduceIte, i3_add_eq, i3_sub_eq, Int.add_sub_cancel, Int.add_neg_cancel_right]) | (simp only [r64_3, i6_lt0, i6_0lt, i6_0le, i6_le0, i6_eq0, b10_0, ite_not, Int.reduceLT, Int.reduceLE, Int.reduceEq, Int.reduceNeg, if_true, if_false, ite_true, ite_false, reduceIte, eq_self, not_true, not_false_eq_true]; try refine tc_ite (fun _ => ?_) (fun _ => ?_) <;> try (exfalso; omega)))
    exact hq
  · have hne : ¬ (m : Int) = (M : Int) := by omega
    have e2 : (if (m : Int) < (M : Int) then (m : Int) else (M : Int)) = m := if_pos (by omega)
    have e3 : ((m : Int)).toNat = m := Int.toNat_natCast m
    repeat' (first | (simp (disch := first | omega | exact Nat.le_of_ble_eq_true rfl | exact rfl | assumption | (simp (disch := omega) only [fr_ne, fr_same]; first | assumption | omega)) only [r64_0, r64_1, r64_2, r64_6, r64_7, r64_10, r64_13, r64_14, r64_15, r64_17i, r64_18, r64_19, r64_20, r64_21, r64_22, r64_23, r64_24, r64_25, r64_31, r64_32, il_s, bl_s, bl_z, ll_s, is_s, bs_s, bs_z, ls_s, al_s, al_b, al_l, fr_ne, fr_same, fr_fr, Nat.reduceEqDiff, tc_gf3_s, tc_ql2_s, tc_ws_0, tc_ws_i, tc_ws_l, tc_ws_r, Nat.reduceLeDiff, Nat.reduceAdd, Nat.reduceLT, true_and, and_true, if_true, if_false, tc_K, Option.toList_some, Option.toList_none, List.nil_append, List.cons_append, ite_true, ite_false, Int.cast_ofNat_Int, reduceIte, i3_add_eq, i3_sub_eq, Int.add_sub_cancel, Int.add_neg_cancel_right, hI ha hs, nap_i, hp_len, e3]) | (simp only [r64_3, i6_lt0, i6_0lt, i6_0le, i6_le0, i6_eq0, b10_0, ite_not, Int.reduceLT, Int.reduceLE, Int.reduceEq, Int.reduceNeg, if_true, if_false, ite_true, ite_false, reduceIte, eq_self, not_true, not_false_eq_true]; try refine tc_ite (fun _ => ?_) (fun _ => ?_) <;> try (exfalso; omega)))
    all_goals try omega
    have ha2 : a < L + 1 := by omega
    have hs2 : fs sh L (0, m, []) a = (0, M, []) := by rw [fs_ne (by omega)]; exact hs
    repeat' (first | (simp (disch := first | omega | exact Nat.le_of_ble_eq_true rfl | exact rfl | assumption | (simp (disch := omega) only [fr_ne, fr_same]; first | assumption | omega)) only [r64_0, r64_1, r64_2, r64_6, r64_7, r64_10, r64_13, r64_14, r64_15, r64_17i, r64_18, r64_19, r64_20, r64_21, r64_22, r64_23, r64_24, r64_25, r64_31, r64_32, il_s, bl_s, bl_z, ll_s, is_s, bs_s, bs_z, ls_s, al_s, al_b, al_l, fr_ne, fr_same, fr_fr, Nat.reduceEqDiff, tc_gf3_s, tc_ql2_s, tc_ws_0, tc_ws_i, tc_ws_l, tc_ws_r, Nat.reduceLeDiff, Nat.reduceAdd, Nat.reduceLT, true_and, and_true, if_true, if_false, tc_K, Option.toList_some, Option.toList_none, List.nil_append, List.cons_append, ite_true, ite_false, Int.cast_ofNat_Int, reduceIte, i3_add_eq, i3_sub_eq, Int.add_sub_cancel, Int.add_neg_cancel_right, hI ha2 hs2, e2]) | (simp only [r64_3, i6_lt0, i6_0lt, i6_0le, i6_le0, i6_eq0, b10_0, ite_not, Int.reduceLT, Int.reduceLE, Int.reduceEq, Int.reduceNeg, if_true, if_false, ite_true, ite_false, reduceIte, eq_self, not_true, not_false_eq_true]; try refine tc_ite (fun _ => ?_) (fun _ => ?_) <;> try (exfalso; omega)))
    rw [r64_28 (Nat.le_of_ble_eq_true rfl) (hI (by omega) (fs_same _ _ _)) (hI ha2 hs2) ⟨by omega, by omega, by omega, by omega, by rw [al_len]; show 0 + ((m : Int)).toNat ≤ M; omega, by rw [al_len]; show 0 + ((m : Int)).toNat ≤ m; omega⟩]
    rw [fr_ne (show ¬ a = L by omega), fr_same, cpy_al2 m M hm, hIs (fs_same _ _ _), fr_fr]
    repeat' (first | (simp (disch := first | omega | exact Nat.le_of_ble_eq_true rfl | exact rfl | assumption | (simp (disch := omega) only [fr_ne, fr_same]; first | assumption | omega)) only [r64_0, r64_1, r64_2, r64_6, r64_7, r64_10, r64_13, r64_14, r64_15, r64_17i, r64_18, r64_19, r64_20, r64_21, r64_22, r64_23, r64_24, r64_25, r64_28, r64_31, r64_32, il_s, bl_s, bl_z, ll_s, is_s, bs_s, bs_z, ls_s, al_s, al_b, al_l, fr_ne, fr_same, fr_fr, Nat.reduceEqDiff, tc_gf3_s, tc_ql2_s, tc_ws_0, tc_ws_i, tc_ws_l, tc_ws_r, Nat.reduceLeDiff, Nat.reduceAdd, Nat.reduceLT, true_and, and_true, if_true, if_false, tc_K, Option.toList_some, Option.toList_none, List.nil_append, List.cons_append, ite_true, ite_false, Int.cast_ofNat_Int, reduceIte, i3_add_eq, i3_sub_eq, Int.add_sub_cancel, Int.add_neg_cancel_right]) | (simp only [r64_3, i6_lt0, i6_0lt, i6_0le, i6_le0, i6_eq0, b10_0, ite_not, Int.reduceLT, Int.reduceLE, Int.reduceEq, Int.reduceNeg, if_true, if_false, ite_true, ite_false, reduceIte, eq_self, not_true, not_false_eq_true]; try refine tc_ite (fun _ => ?_) (fun _ => ?_) <;> try (exfalso; omega)))
    exact hq
theorem c65 {r a1 a2 m1 : Nat} (hr : r < L) (h1 : a1 < L) (hs : sh r = (6, 1, [none, none])) (ha : sh a1 = (0, m1, [])) (hm : m1 ≤ 400) (hne : ¬ a1 = r) (hq : ∀ F : Int → Int, F 2 = ((mk (msk (c a1) m1) 9 : Nat) : Int) → Q none (hp L (fs sh r (6, 1, [some a1, some a2])) (fr c r F)) n) : tc_C 65 [rf r, rf a1, rf a2] (hp L sh c) n Q := by
  show tc_W 65 0 [rf r, rf a1, rf a2, tc_nil, tc_nil] [] _ _ Q
  repeat' (first | (simp (disch := first | omega | exact Nat.le_of_ble_eq_true rfl | exact rfl | assumption | (simp (disch := omega) only [fr_ne, fr_same]; first | assumption | omega)) only [r65_0, r65_1, r65_4, r65_5, r65_6, r65_9, r65_10, r65_11, r65_14, r65_15r, r65_16, r65_17i, r65_21, r65_22, r65_26, r65_27, r65_29, r65_33, r65_34, r65_36, r65_37, r65_42, r65_43, r65_44, r65_45, r65_46, r65_48, r65_49, r65_50, r65_51, r65_52r, r65_53i, r65_56, r65_59, r65_60, r65_61, r65_64, p1_9_1, p1_13_1, p1_16_1, o1_len, o1_s0, o1_s1, o1_s2, il_s, bl_s, bl_z, ll_s, is_s, bs_s, bs_z, ls_s, al_s, al_b, al_l, fr_ne, fr_same, fr_fr, Nat.reduceEqDiff, tc_gf3_s, tc_ql2_s, tc_ws_0, tc_ws_i, tc_ws_l, tc_ws_r, Nat.reduceLeDiff, Nat.reduceAdd, Nat.reduceLT, true_and, and_true, if_true, if_false, tc_K, Option.toList_some, Option.toList_none, List.nil_append, List.cons_append, ite_true, ite_false, Int.cast_ofNat_Int, reduceIte, i3_add_eq, i3_sub_eq, Int.add_sub_cancel, Int.add_neg_cancel_right, hp_get, hs, px_o, fs_same, hOr, fs_fs]) | (simp only [r65_23, r65_30, r65_39, i6_lt0, i6_0lt, i6_0le, i6_le0, i6_eq0, b10_0, ite_not, Int.reduceLT, Int.reduceLE, Int.reduceEq, Int.reduceNeg, if_true, if_false, ite_true, ite_false, reduceIte, eq_self, not_true, not_false_eq_true]; try refine tc_ite (fun _ => ?_) (fun _ => ?_) <;> try (exfalso; omega)))
  rw [fr_id]
  generalize hS1 : fs sh r (6, 1, [some a1, some a2]) = S1
  have hr1 : S1 r = (6, 1, [some a1, some a2]) := by rw [← hS1, fs_same]
  have ha1 : S1 a1 = (0, m1, []) := by rw [← hS1, fs_ne hne]; exact ha
  have hz : ((mk (msk (c a1) 0) 9 : Nat) : Int) = 0 := by
    rw [(mk_z (p := msk (c a1) 0) (N := 9)).mpr fun j _ _ => rfl]
    rfl
  have hlp := up (N := m1) (P := fun i => tc_W 65 19 [rf r, rf a1, rf a2, .inl ((mk (msk (c a1) i) 9 : Nat) : Int), .inl (i : Int)] [] (hp L S1 c) n Q) ?_ ?_
  · rw [hz] at hlp
    exact hlp
  · intro i hi ih
    simp only [r65_19]
    by_cases hw : -9 ≤ c a1 i ∧ c a1 i < 0
    · have e1 : (fun w => msk (c a1) (i + 1) w) = fun w => (msk (c a1) i w || decide (w = -1 - c a1 i)) := by
        funext w
        show (if -9 ≤ c a1 i ∧ c a1 i < 0 then (msk (c a1) i w || decide (w = -1 - c a1 i)) else msk (c a1) i w) = _
        rw [if_pos hw]
      have e2 := mk_set (p := msk (c a1) i) (N := 9) (k := -1 - c a1 i) (by omega) (by omega) (by omega)
      rw [← e1] at e2
      repeat' (first | (simp (disch := first | omega | exact Nat.le_of_ble_eq_true rfl | exact rfl | assumption | (simp (disch := omega) only [fr_ne, fr_same]; first | assumption | omega)) only [r65_0, r65_1, r65_4, r65_5, r65_6, r65_9, r65_10, r65_11, r65_14, r65_15r, r65_16, r65_17i, r65_21, r65_22, r65_26, r65_27, r65_29, r65_33, r65_34, r65_36, r65_37, r65_42, r65_43, r65_44, r65_45, r65_46, r65_48, r65_49, r65_50, r65_51, r65_52r, r65_53i, r65_56, r65_59, r65_60, r65_61, r65_64, p1_9_1, p1_13_1, p1_16_1, o1_len, o1_s0, o1_s1, o1_s2, il_s, bl_s, bl_z, ll_s, is_s, bs_s, bs_z, ls_s, al_s, al_b, al_l, fr_ne, fr_same, fr_fr, Nat.reduceEqDiff, tc_gf3_s, tc_ql2_s, tc_ws_0, tc_ws_i, tc_ws_l, tc_ws_r, Nat.reduceLeDiff, Nat.reduceAdd, Nat.reduceLT, true_and, and_true, if_true, if_false, tc_K, Option.toList_some, Option.toList_none, List.nil_append, List.cons_append, ite_true, ite_false, Int.cast_ofNat_Int, reduceIte, i3_add_eq, i3_sub_eq, Int.add_sub_cancel, Int.add_neg_cancel_right, hI h1 ha1, e2]) | (simp only [r65_23, r65_30, r65_39, i6_lt0, i6_0lt, i6_0le, i6_le0, i6_eq0, b10_0, ite_not, Int.reduceLT, Int.reduceLE, Int.reduceEq, Int.reduceNeg, if_true, if_false, ite_true, ite_false, reduceIte, eq_self, not_true, not_false_eq_true]; try refine tc_ite (fun _ => ?_) (fun _ => ?_) <;> try (exfalso; omega)))
      all_goals first
        | exact ih
        | omega
    · have e1 : (fun w => msk (c a1) (i + 1) w) = fun w => msk (c a1) i w := by
        funext w
        show (if -9 ≤ c a1 i ∧ c a1 i < 0 then (msk (c a1) i w || decide (w = -1 - c a1 i)) else msk (c a1) i w) = _
        rw [if_neg hw]
      have e2 : mk (msk (c a1) (i + 1)) 9 = mk (msk (c a1) i) 9 := congrArg (fun f => mk f 9) e1
      rw [e2] at ih
      repeat' (first | (simp (disch := first | omega | exact Nat.le_of_ble_eq_true rfl | exact rfl | assumption | (simp (disch := omega) only [fr_ne, fr_same]; first | assumption | omega)) only [r65_0, r65_1, r65_4, r65_5, r65_6, r65_9, r65_10, r65_11, r65_14, r65_15r, r65_16, r65_17i, r65_21, r65_22, r65_26, r65_27, r65_29, r65_33, r65_34, r65_36, r65_37, r65_42, r65_43, r65_44, r65_45, r65_46, r65_48, r65_49, r65_50, r65_51, r65_52r, r65_53i, r65_56, r65_59, r65_60, r65_61, r65_64, p1_9_1, p1_13_1, p1_16_1, o1_len, o1_s0, o1_s1, o1_s2, il_s, bl_s, bl_z, ll_s, is_s, bs_s, bs_z, ls_s, al_s, al_b, al_l, fr_ne, fr_same, fr_fr, Nat.reduceEqDiff, tc_gf3_s, tc_ql2_s, tc_ws_0, tc_ws_i, tc_ws_l, tc_ws_r, Nat.reduceLeDiff, Nat.reduceAdd, Nat.reduceLT, true_and, and_true, if_true, if_false, tc_K, Option.toList_some, Option.toList_none, List.nil_append, List.cons_append, ite_true, ite_false, Int.cast_ofNat_Int, reduceIte, i3_add_eq, i3_sub_eq, Int.add_sub_cancel, Int.add_neg_cancel_right, hI h1 ha1]) | (simp only [r65_23, r65_30, r65_39, i6_lt0, i6_0lt, i6_0le, i6_le0, i6_eq0, b10_0, ite_not, Int.reduceLT, Int.reduceLE, Int.reduceEq, Int.reduceNeg, if_true, if_false, ite_true, ite_false, reduceIte, eq_self, not_true, not_false_eq_true]; try refine tc_ite (fun _ => ?_) (fun _ => ?_) <;> try (exfalso; omega)))
      all_goals first
        | exact ih
        | omega
  · have hq' := hq (fu (c r) 2 ((mk (msk (c a1) m1) 9 : Nat) : Int)) (fu_same _ _ _)
    rw [hS1] at hq'
    simp only [r65_19]
    repeat' (first | (simp (disch := first | omega | exact Nat.le_of_ble_eq_true rfl | exact rfl | assumption | (simp (disch := omega) only [fr_ne, fr_same]; first | assumption | omega)) only [r65_0, r65_1, r65_4, r65_5, r65_6, r65_9, r65_10, r65_11, r65_14, r65_15r, r65_16, r65_17i, r65_21, r65_22, r65_26, r65_27, r65_29, r65_33, r65_34, r65_36, r65_37, r65_42, r65_43, r65_44, r65_45, r65_46, r65_48, r65_49, r65_50, r65_51, r65_52r, r65_53i, r65_56, r65_59, r65_60, r65_61, r65_64, p1_9_1, p1_13_1, p1_16_1, o1_len, o1_s0, o1_s1, o1_s2, il_s, bl_s, bl_z, ll_s, is_s, bs_s, bs_z, ls_s, al_s, al_b, al_l, fr_ne, fr_same, fr_fr, Nat.reduceEqDiff, tc_gf3_s, tc_ql2_s, tc_ws_0, tc_ws_i, tc_ws_l, tc_ws_r, Nat.reduceLeDiff, Nat.reduceAdd, Nat.reduceLT, true_and, and_true, if_true, if_false, tc_K, Option.toList_some, Option.toList_none, List.nil_append, List.cons_append, ite_true, ite_false, Int.cast_ofNat_Int, reduceIte, i3_add_eq, i3_sub_eq, Int.add_sub_cancel, Int.add_neg_cancel_right, hI h1 ha1, hO hr hr1, hOs hr1]) | (simp only [r65_23, r65_30, r65_39, i6_lt0, i6_0lt, i6_0le, i6_le0, i6_eq0, b10_0, ite_not, Int.reduceLT, Int.reduceLE, Int.reduceEq, Int.reduceNeg, if_true, if_false, ite_true, ite_false, reduceIte, eq_self, not_true, not_false_eq_true]; try refine tc_ite (fun _ => ?_) (fun _ => ?_) <;> try (exfalso; omega)))
    all_goals first
      | exact hq'
      | omega
end LAWS6

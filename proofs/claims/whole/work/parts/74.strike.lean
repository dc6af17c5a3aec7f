/-! the class: a WAVE -/
theorem evs_w {w w' : Int → Int} : ∀ {ts : List Tk} {st : List Int}, (∀ k, ((1, k) : Tk) ∈ ts → w k = w' k) → evs w ts st = evs w' ts st := by
  intro ts
  induction ts with
  | nil => intros; rfl
  | cons t ts ih =>
    intro st h
    show evs w ts (ev1 w t.1 t.2 st) = evs w' ts (ev1 w' t.1 t.2 st)
    have e : ev1 w t.1 t.2 st = ev1 w' t.1 t.2 st := by
      unfold ev1
      by_cases h1 : t.1 = 1
      · have h2 := h t.2 (by rw [show ((1, t.2) : Tk) = t from Prod.ext h1.symm rfl]; exact List.mem_cons_self)
        rw [h2]
      · rw [if_neg h1, if_neg h1]
    rw [e]
    exact ih fun k hk => h k (List.mem_cons_of_mem _ hk)
theorem lev_w {w w' : Int → Int} : ∀ {l : Law}, (∀ q ∈ l, ∀ k, (((1, k) : Tk) ∈ q.1 ∨ ((1, k) : Tk) ∈ q.2) → w k = w' k) → lev w l = lev w' l := by
  intro l
  induction l with
  | nil => intro _; rfl
  | cons q l ih =>
    intro h
    have h1 := h q List.mem_cons_self
    show (if q.2 = [] ∨ (evs w q.2 []).headD 0 = 1 then clmp ((evs w q.1 []).headD 0) else lev w l) = (if q.2 = [] ∨ (evs w' q.2 []).headD 0 = 1 then clmp ((evs w' q.1 []).headD 0) else lev w' l)
    rw [ih (fun q' hq => h q' (List.mem_cons_of_mem _ hq)), evs_w (fun k hk => h1 k (Or.inl hk)), evs_w (fun k hk => h1 k (Or.inr hk))]
/-- the rule that the steps and starts tell -/
def cla (c : Nat → Int → Int) (r : Nat) (x : Int) : Nat → Law
  | 0 => []
  | m + 1 => (sc (c (r + 1)) (c (r + 2) x) (c (r + 2) (x + 1) - c (r + 2) x).toNat, sc (c (r + 1)) (c (r + 2) (x + 1)) (c (r + 2) (x + 2) - c (r + 2) (x + 1)).toNat) :: cla c r (x + 2) m
theorem sc_nil {g : Int → Int} {a : Int} {m : Nat} : sc g a m = [] ↔ m = 0 := by
  cases m with
  | zero => exact ⟨fun _ => rfl, fun _ => rfl⟩
  | succ m => exact ⟨fun h => absurd h (by intro h; cases h), fun h => absurd h (by omega)⟩
theorem cla_ext {c d : Nat → Int → Int} {r : Nat} (h1 : d (r + 1) = c (r + 1)) (h2 : d (r + 2) = c (r + 2)) : ∀ (m : Nat) (x : Int), cla d r x m = cla c r x m := by
  intro m
  induction m with
  | zero => intro _; rfl
  | succ m ih =>
    intro x
    unfold cla
    rw [ih, h1, h2]
def CL (L : Nat) (sh : Nat → SH) (c : Nat → Int → Int) (r : Nat) (l : Law) : Prop := 115 ≤ r ∧ ∃ m1 k : Nat, LawS L sh r m1 (2 * k + 1) ∧ m1 ≤ 400 ∧ k ≤ 12 ∧ cla c r 0 k = l ∧ (∀ x : Int, 0 ≤ x → x < 2 * k → 0 ≤ c (r + 2) x ∧ c (r + 2) x ≤ c (r + 2) (x + 1) ∧ c (r + 2) (x + 1) ≤ m1) ∧ LOk l ∧ (∀ q ∈ l, vcn q.1 ≤ 60 ∧ vcn q.2 ≤ 60) ∧ (∀ w, 0 ≤ w → w ≤ 8 → (∃ q ∈ l, ((1, w) : Tk) ∈ q.1 ∨ ((1, w) : Tk) ∈ q.2) → i3_and (i3_shr (c r 2) w) 1 = 1)
theorem CL.of {L L2 : Nat} {sh sh2 : Nat → SH} {c d : Nat → Int → Int} {r : Nat} {l : Law} (h : CL L sh c r l) (hL : L ≤ L2) (hs : ∀ a, a < L → sh2 a = sh a) (h0 : d r = c r) (h1 : d (r + 1) = c (r + 1)) (h2 : d (r + 2) = c (r + 2)) : CL L2 sh2 d r l := by
  obtain ⟨hr, m1, k, h3, h4, h5, h6, h7, h8, h9, h10⟩ := h
  refine ⟨hr, m1, k, LawS_of h3 hL hs, h4, h5, (cla_ext h1 h2 k 0).trans h6, ?_, h8, h9, ?_⟩
  · rw [h2]; exact h7
  · rw [h0]; exact h10
theorem Kds_w : ∀ {ts : List Tk} {a b : List Bool}, Kds ts a b → ∀ k, ((1, k) : Tk) ∈ ts → 0 ≤ k ∧ k ≤ 8 := by
  intro ts
  induction ts with
  | nil => intro a b _ k hk; cases hk
  | cons t ts ih =>
    intro a b h k hk
    obtain ⟨m, h1, h2⟩ := h
    rcases List.mem_cons.mp hk with rfl | hk
    · rcases h1 with h1 | h1 | h1 | h1 | h1 | h1
      · simp only at h1; omega
      · exact ⟨h1.2.1, h1.2.2.1⟩
      all_goals (simp only at h1; omega)
    · exact ih h2 k hk
section CWAVE
variable {L : Nat} {sh : Nat → SH} {c : Nat → Int → Int} {n : Nat} {Q : Option AV → List SC → Nat → Prop} {r : Nat}
theorem c95_l {m1 k : Nat} (hS : LawS L sh r m1 (2 * k + 1)) (h54 : 54 < L ∧ sh 54 = (3, 9, [])) (h55 : 55 < L ∧ sh 55 = (3, 60, [])) (hr : 115 ≤ r) (hm1 : m1 ≤ 400) (hk : k ≤ 12) (hst : ∀ x : Int, 0 ≤ x → x < 2 * k → 0 ≤ c (r + 2) x ∧ c (r + 2) x ≤ c (r + 2) (x + 1) ∧ c (r + 2) (x + 1) ≤ m1) : ∀ (m : Nat) (x : Int) (g : Int → Int) (a4 a5 : AV), 0 ≤ x → x + 2 * m = 2 * k → LOk (cla c r x m) → (∀ q ∈ cla c r x m, vcn q.1 ≤ 60 ∧ vcn q.2 ≤ 60) → (∀ g, Q (some (.inl (lev (c 54) (cla c r x m)))) (hp L sh (fr c 55 g)) n) → tc_W 95 2 [rf r, rf 54, rf 55, .inl x, a4, a5, tc_nil, tc_nil] [] (hp L sh (fr c 55 g)) n Q := by
  intro m
  induction m with
  | zero =>
    intro x g a4 a5 hx hx2 hl hv hq
    simp only [r95_2]
    repeat' (first | (simp (disch := first | omega | exact Nat.le_of_ble_eq_true rfl | exact rfl | assumption | (simp (disch := omega) only [fr_ne, fr_same]; first | assumption | omega)) only [r95_0, r95_1r, r95_3, r95_4, r95_5, r95_6, r95_9, r95_13, r95_14, r95_17, r95_18, r95_19, r95_20, r95_21i, r95_23, r95_24, r95_27, r95_28, r95_29, r95_30, r95_31i, r95_33, r95_35, r95_40, r95_41, r95_43, r95_45, r95_46, r95_47, v95_47_1, r95_50, r95_51, r95_55, r95_56, r95_57, r95_60, r95_61, r95_62, r95_64, r95_65, r95_66, v95_66_1, r95_69i, r95_71, r95_72, r95_75, r95_77, r95_80, r95_83, r95_84, r95_85r, r95_88, r95_91, r95_92, g1_13_1, o1_len, o1_g1, il_s, bl_s, bl_z, ll_s, is_s, bs_s, bs_z, ls_s, al_s, al_b, al_l, fr_ne, fr_same, fr_fr, Nat.reduceEqDiff, tc_gf3_s, tc_ql2_s, tc_ws_0, tc_ws_i, tc_ws_l, tc_ws_r, Nat.reduceLeDiff, Nat.reduceAdd, Nat.reduceLT, true_and, and_true, if_true, if_false, tc_K, Option.toList_some, Option.toList_none, List.nil_append, List.cons_append, ite_true, ite_false, Int.cast_ofNat_Int, reduceIte, i3_add_eq, i3_sub_eq, Int.add_sub_cancel, Int.add_neg_cancel_right, LawS_g0 hS, LawS_s0 hS, LawS_g1 hS, LawS_s1 hS, LawS_g2 hS, LawS_s2 hS]) | (simp only [r95_10, r95_37, r95_52, i6_lt0, i6_0lt, i6_0le, i6_le0, i6_eq0, b10_0, ite_not, Int.reduceLT, Int.reduceLE, Int.reduceEq, Int.reduceNeg, if_true, if_false, ite_true, ite_false, reduceIte, eq_self, not_true, not_false_eq_true]; try refine tc_ite (fun _ => ?_) (fun _ => ?_) <;> try (exfalso; omega)))
    exact hq g
  | succ m ih =>
    intro x g a4 a5 hx hx2 hl hv hq
    have h1 := hst x hx (by omega)
    have h2 := hst (x + 1) (by omega) (by omega)
    rw [show x + 1 + 1 = x + 2 by omega] at h2
    have hl1 := hl _ (List.mem_cons_self)
    have hv1 := hv _ (List.mem_cons_self)
    simp only at hl1 hv1
    have ec : cla c r x (m + 1) = (sc (c (r + 1)) (c (r + 2) x) (c (r + 2) (x + 1) - c (r + 2) x).toNat, sc (c (r + 1)) (c (r + 2) (x + 1)) (c (r + 2) (x + 2) - c (r + 2) (x + 1)).toNat) :: cla c r (x + 2) m := rfl
    have fin : ∀ g, (c (r + 2) (x + 1) = c (r + 2) (x + 2) ∨ (evs (c 54) (sc (c (r + 1)) (c (r + 2) (x + 1)) (c (r + 2) (x + 2) - c (r + 2) (x + 1)).toNat) []).headD 0 = 1) → tc_W 95 55 [rf r, rf 54, rf 55, .inl x, .inl (c (r + 2) (x + 1)), .inl (c (r + 2) (x + 2)), tc_nil, tc_nil] [] (hp L sh (fr c 55 g)) n Q := by
      intro g hy
      have e : lev (c 54) (cla c r x (m + 1)) = clmp ((evs (c 54) (sc (c (r + 1)) (c (r + 2) x) (c (r + 2) (x + 1) - c (r + 2) x).toNat) []).headD 0) := by
        refine if_pos (hy.imp (fun e => ?_) id)
        exact sc_nil.mpr (by omega)
      rw [e] at hq
      repeat' (first | (simp (disch := first | omega | exact Nat.le_of_ble_eq_true rfl | exact rfl | assumption | (simp (disch := omega) only [fr_ne, fr_same]; first | assumption | omega)) only [r95_0, r95_1r, r95_3, r95_4, r95_5, r95_6, r95_9, r95_13, r95_14, r95_17, r95_18, r95_19, r95_20, r95_21i, r95_23, r95_24, r95_27, r95_28, r95_29, r95_30, r95_31i, r95_33, r95_35, r95_40, r95_41, r95_43, r95_45, r95_46, r95_47, v95_47_1, r95_50, r95_51, r95_55, r95_56, r95_57, r95_60, r95_61, r95_62, r95_64, r95_65, r95_66, v95_66_1, r95_69i, r95_71, r95_72, r95_75, r95_77, r95_80, r95_83, r95_84, r95_85r, r95_88, r95_91, r95_92, g1_13_1, o1_len, o1_g1, il_s, bl_s, bl_z, ll_s, is_s, bs_s, bs_z, ls_s, al_s, al_b, al_l, fr_ne, fr_same, fr_fr, Nat.reduceEqDiff, tc_gf3_s, tc_ql2_s, tc_ws_0, tc_ws_i, tc_ws_l, tc_ws_r, Nat.reduceLeDiff, Nat.reduceAdd, Nat.reduceLT, true_and, and_true, if_true, if_false, tc_K, Option.toList_some, Option.toList_none, List.nil_append, List.cons_append, ite_true, ite_false, Int.cast_ofNat_Int, reduceIte, i3_add_eq, i3_sub_eq, Int.add_sub_cancel, Int.add_neg_cancel_right, LawS_g0 hS, LawS_s0 hS, LawS_g1 hS, LawS_s1 hS, LawS_g2 hS, LawS_s2 hS]) | (simp only [r95_10, r95_37, r95_52, i6_lt0, i6_0lt, i6_0le, i6_le0, i6_eq0, b10_0, ite_not, Int.reduceLT, Int.reduceLE, Int.reduceEq, Int.reduceNeg, if_true, if_false, ite_true, ite_false, reduceIte, eq_self, not_true, not_false_eq_true]; try refine tc_ite (fun _ => ?_) (fun _ => ?_) <;> try (exfalso; omega)))
      refine c96 (c := fr c 55 g) hS h54 h55 hr h1.1 h1.2.1 h1.2.2 hm1 (b := false) ?_ ?_ ?_
      · rw [fr_ne (by omega)]
        exact hl1.1
      · rw [fr_ne (by omega)]
        exact hv1.1
      intro g2
      rw [fr_fr, fr_ne (by omega), fr_ne (by omega)]
      have hq2 := hq g2
      generalize (evs (c 54) (sc (c (r + 1)) (c (r + 2) x) (c (r + 2) (x + 1) - c (r + 2) x).toNat) []).headD 0 = v at hq2
      unfold clmp at hq2
      repeat' (first | (simp (disch := first | omega | exact Nat.le_of_ble_eq_true rfl | exact rfl | assumption | (simp (disch := omega) only [fr_ne, fr_same]; first | assumption | omega)) only [r95_0, r95_1r, r95_3, r95_4, r95_5, r95_6, r95_9, r95_13, r95_14, r95_17, r95_18, r95_19, r95_20, r95_21i, r95_23, r95_24, r95_27, r95_28, r95_29, r95_30, r95_31i, r95_33, r95_35, r95_40, r95_41, r95_43, r95_45, r95_46, r95_47, v95_47_1, r95_50, r95_51, r95_55, r95_56, r95_57, r95_60, r95_61, r95_62, r95_64, r95_65, r95_66, v95_66_1, r95_69i, r95_71, r95_72, r95_75, r95_77, r95_80, r95_83, r95_84, r95_85r, r95_88, r95_91, r95_92, g1_13_1, o1_len, o1_g1, il_s, bl_s, bl_z, ll_s, is_s, bs_s, bs_z, ls_s, al_s, al_b, al_l, fr_ne, fr_same, fr_fr, Nat.reduceEqDiff, tc_gf3_s, tc_ql2_s, tc_ws_0, tc_ws_i, tc_ws_l, tc_ws_r, Nat.reduceLeDiff, Nat.reduceAdd, Nat.reduceLT, true_and, and_true, if_true, if_false, tc_K, Option.toList_some, Option.toList_none, List.nil_append, List.cons_append, ite_true, ite_false, Int.cast_ofNat_Int, reduceIte, i3_add_eq, i3_sub_eq, Int.add_sub_cancel, Int.add_neg_cancel_right, LawS_g0 hS, LawS_s0 hS, LawS_g1 hS, LawS_s1 hS, LawS_g2 hS, LawS_s2 hS]) | (simp only [r95_10, r95_37, r95_52, i6_lt0, i6_0lt, i6_0le, i6_le0, i6_eq0, b10_0, ite_not, Int.reduceLT, Int.reduceLE, Int.reduceEq, Int.reduceNeg, if_true, if_false, ite_true, ite_false, reduceIte, eq_self, not_true, not_false_eq_true]; try refine tc_ite (fun _ => ?_) (fun _ => ?_) <;> try (exfalso; omega)))
      refine q_i ?_ hq2
      have ev : (if 0 < (if v < 3 then v else 3) then (if v < 3 then v else 3) else 0) = (if v < 0 then 0 else if 3 < v then 3 else v) := by
        repeat' split
        all_goals omega
      rw [ev]
      refine (i6_i_eq ?_).symm
      repeat' split
      all_goals omega
    simp only [r95_2]
    by_cases e : c (r + 2) (x + 1) = c (r + 2) (x + 2)
    · repeat' (first | (simp (disch := first | omega | exact Nat.le_of_ble_eq_true rfl | exact rfl | assumption | (simp (disch := omega) only [fr_ne, fr_same]; first | assumption | omega)) only [r95_0, r95_1r, r95_3, r95_4, r95_5, r95_6, r95_9, r95_13, r95_14, r95_17, r95_18, r95_19, r95_20, r95_21i, r95_23, r95_24, r95_27, r95_28, r95_29, r95_30, r95_31i, r95_33, r95_35, r95_40, r95_41, r95_43, r95_45, r95_46, r95_47, v95_47_1, r95_50, r95_51, r95_56, r95_57, r95_60, r95_61, r95_62, r95_64, r95_65, r95_66, v95_66_1, r95_69i, r95_71, r95_72, r95_75, r95_77, r95_80, r95_83, r95_84, r95_85r, r95_88, r95_91, r95_92, g1_13_1, o1_len, o1_g1, il_s, bl_s, bl_z, ll_s, is_s, bs_s, bs_z, ls_s, al_s, al_b, al_l, fr_ne, fr_same, fr_fr, Nat.reduceEqDiff, tc_gf3_s, tc_ql2_s, tc_ws_0, tc_ws_i, tc_ws_l, tc_ws_r, Nat.reduceLeDiff, Nat.reduceAdd, Nat.reduceLT, true_and, and_true, if_true, if_false, tc_K, Option.toList_some, Option.toList_none, List.nil_append, List.cons_append, ite_true, ite_false, Int.cast_ofNat_Int, reduceIte, i3_add_eq, i3_sub_eq, Int.add_sub_cancel, Int.add_neg_cancel_right, LawS_g0 hS, LawS_s0 hS, LawS_g1 hS, LawS_s1 hS, LawS_g2 hS, LawS_s2 hS]) | (simp only [r95_10, r95_37, r95_52, i6_lt0, i6_0lt, i6_0le, i6_le0, i6_eq0, b10_0, ite_not, Int.reduceLT, Int.reduceLE, Int.reduceEq, Int.reduceNeg, if_true, if_false, ite_true, ite_false, reduceIte, eq_self, not_true, not_false_eq_true]; try refine tc_ite (fun _ => ?_) (fun _ => ?_) <;> try (exfalso; omega)))
      exact fin g (Or.inl e)
    · have h7 : Kds (sc (c (r + 1)) (c (r + 2) (x + 1)) (c (r + 2) (x + 2) - c (r + 2) (x + 1)).toNat) [] [true] := by
        rcases hl1.2 with h7 | h7
        · have := sc_nil.mp h7
          omega
        · exact h7
      repeat' (first | (simp (disch := first | omega | exact Nat.le_of_ble_eq_true rfl | exact rfl | assumption | (simp (disch := omega) only [fr_ne, fr_same]; first | assumption | omega)) only [r95_0, r95_1r, r95_3, r95_4, r95_5, r95_6, r95_9, r95_13, r95_14, r95_17, r95_18, r95_19, r95_20, r95_21i, r95_23, r95_24, r95_27, r95_28, r95_29, r95_30, r95_31i, r95_33, r95_35, r95_40, r95_41, r95_43, r95_45, r95_46, r95_47, v95_47_1, r95_50, r95_51, r95_56, r95_57, r95_60, r95_61, r95_62, r95_64, r95_65, r95_66, v95_66_1, r95_69i, r95_71, r95_72, r95_75, r95_77, r95_80, r95_83, r95_84, r95_85r, r95_88, r95_91, r95_92, g1_13_1, o1_len, o1_g1, il_s, bl_s, bl_z, ll_s, is_s, bs_s, bs_z, ls_s, al_s, al_b, al_l, fr_ne, fr_same, fr_fr, Nat.reduceEqDiff, tc_gf3_s, tc_ql2_s, tc_ws_0, tc_ws_i, tc_ws_l, tc_ws_r, Nat.reduceLeDiff, Nat.reduceAdd, Nat.reduceLT, true_and, and_true, if_true, if_false, tc_K, Option.toList_some, Option.toList_none, List.nil_append, List.cons_append, ite_true, ite_false, Int.cast_ofNat_Int, reduceIte, i3_add_eq, i3_sub_eq, Int.add_sub_cancel, Int.add_neg_cancel_right, LawS_g0 hS, LawS_s0 hS, LawS_g1 hS, LawS_s1 hS, LawS_g2 hS, LawS_s2 hS]) | (simp only [r95_10, r95_37, r95_52, i6_lt0, i6_0lt, i6_0le, i6_le0, i6_eq0, b10_0, ite_not, Int.reduceLT, Int.reduceLE, Int.reduceEq, Int.reduceNeg, if_true, if_false, ite_true, ite_false, reduceIte, eq_self, not_true, not_false_eq_true]; try refine tc_ite (fun _ => ?_) (fun _ => ?_) <;> try (exfalso; omega)))
      refine c96 (c := fr c 55 g) hS h54 h55 hr h2.1 h2.2.1 h2.2.2 hm1 (b := true) ?_ ?_ ?_
      · rw [fr_ne (by omega)]
        exact h7
      · rw [fr_ne (by omega)]
        exact hv1.2
      intro g2
      rw [fr_fr, fr_ne (by omega), fr_ne (by omega)]
      have h01 : (evs (c 54) (sc (c (r + 1)) (c (r + 2) (x + 1)) (c (r + 2) (x + 2) - c (r + 2) (x + 1)).toNat) []).headD 0 = 0 ∨ (evs (c 54) (sc (c (r + 1)) (c (r + 2) (x + 1)) (c (r + 2) (x + 2) - c (r + 2) (x + 1)).toNat) []).headD 0 = 1 := by
        obtain ⟨v, q, ev, hv2, _⟩ := (evs_ty (w := c 54) (st := []) (a := []) trivial h7).c
        rw [ev]
        exact hv2 rfl
      rcases h01 with e3 | e3
      · repeat' (first | (simp (disch := first | omega | exact Nat.le_of_ble_eq_true rfl | exact rfl | assumption | (simp (disch := omega) only [fr_ne, fr_same]; first | assumption | omega)) only [r95_0, r95_1r, r95_3, r95_4, r95_5, r95_6, r95_9, r95_13, r95_14, r95_17, r95_18, r95_19, r95_20, r95_21i, r95_23, r95_24, r95_27, r95_28, r95_29, r95_30, r95_31i, r95_33, r95_35, r95_40, r95_41, r95_43, r95_45, r95_46, r95_47, v95_47_1, r95_50, r95_51, r95_56, r95_57, r95_60, r95_61, r95_62, r95_64, r95_65, r95_66, v95_66_1, r95_69i, r95_71, r95_72, r95_75, r95_77, r95_80, r95_83, r95_84, r95_85r, r95_88, r95_91, r95_92, g1_13_1, o1_len, o1_g1, il_s, bl_s, bl_z, ll_s, is_s, bs_s, bs_z, ls_s, al_s, al_b, al_l, fr_ne, fr_same, fr_fr, Nat.reduceEqDiff, tc_gf3_s, tc_ql2_s, tc_ws_0, tc_ws_i, tc_ws_l, tc_ws_r, Nat.reduceLeDiff, Nat.reduceAdd, Nat.reduceLT, true_and, and_true, if_true, if_false, tc_K, Option.toList_some, Option.toList_none, List.nil_append, List.cons_append, ite_true, ite_false, Int.cast_ofNat_Int, reduceIte, i3_add_eq, i3_sub_eq, Int.add_sub_cancel, Int.add_neg_cancel_right, e3]) | (simp only [r95_10, r95_37, r95_52, i6_lt0, i6_0lt, i6_0le, i6_le0, i6_eq0, b10_0, ite_not, Int.reduceLT, Int.reduceLE, Int.reduceEq, Int.reduceNeg, if_true, if_false, ite_true, ite_false, reduceIte, eq_self, not_true, not_false_eq_true]; try refine tc_ite (fun _ => ?_) (fun _ => ?_) <;> try (exfalso; omega)))
        rw [show x + 2 = x + 2 from rfl]
        refine ih (x + 2) g2 _ _ (by omega) (by omega) (fun q hq' => hl q (List.mem_cons_of_mem _ hq')) (fun q hq' => hv q (List.mem_cons_of_mem _ hq')) ?_
        have e4 : lev (c 54) (cla c r x (m + 1)) = lev (c 54) (cla c r (x + 2) m) := by
          refine if_neg ?_
          rintro (h | h)
          · have := sc_nil.mp h
            omega
          · simp only [e3] at h
            omega
        rw [← e4]
        exact hq
      · repeat' (first | (simp (disch := first | omega | exact Nat.le_of_ble_eq_true rfl | exact rfl | assumption | (simp (disch := omega) only [fr_ne, fr_same]; first | assumption | omega)) only [r95_0, r95_1r, r95_3, r95_4, r95_5, r95_6, r95_9, r95_13, r95_14, r95_17, r95_18, r95_19, r95_20, r95_21i, r95_23, r95_24, r95_27, r95_28, r95_29, r95_30, r95_31i, r95_33, r95_35, r95_40, r95_41, r95_43, r95_45, r95_46, r95_47, v95_47_1, r95_50, r95_51, r95_56, r95_57, r95_60, r95_61, r95_62, r95_64, r95_65, r95_66, v95_66_1, r95_69i, r95_71, r95_72, r95_75, r95_77, r95_80, r95_83, r95_84, r95_85r, r95_88, r95_91, r95_92, g1_13_1, o1_len, o1_g1, il_s, bl_s, bl_z, ll_s, is_s, bs_s, bs_z, ls_s, al_s, al_b, al_l, fr_ne, fr_same, fr_fr, Nat.reduceEqDiff, tc_gf3_s, tc_ql2_s, tc_ws_0, tc_ws_i, tc_ws_l, tc_ws_r, Nat.reduceLeDiff, Nat.reduceAdd, Nat.reduceLT, true_and, and_true, if_true, if_false, tc_K, Option.toList_some, Option.toList_none, List.nil_append, List.cons_append, ite_true, ite_false, Int.cast_ofNat_Int, reduceIte, i3_add_eq, i3_sub_eq, Int.add_sub_cancel, Int.add_neg_cancel_right, e3]) | (simp only [r95_10, r95_37, r95_52, i6_lt0, i6_0lt, i6_0le, i6_le0, i6_eq0, b10_0, ite_not, Int.reduceLT, Int.reduceLE, Int.reduceEq, Int.reduceNeg, if_true, if_false, ite_true, ite_false, reduceIte, eq_self, not_true, not_false_eq_true]; try refine tc_ite (fun _ => ?_) (fun _ => ?_) <;> try (exfalso; omega)))
        exact fin g2 (Or.inr e3)
theorem c95 {l : Law} (hl : CL L sh c r l) (h54 : 54 < L ∧ sh 54 = (3, 9, [])) (h55 : 55 < L ∧ sh 55 = (3, 60, [])) (hq : ∀ g, Q (some (.inl (lev (c 54) l))) (hp L sh (fr c 55 g)) n) : tc_C 95 [rf r, rf 54, rf 55] (hp L sh c) n Q := by
  obtain ⟨hr, m1, k, h3, h4, h5, rfl, h7, h8, h9, h10⟩ := hl
  show tc_W 95 0 [rf r, rf 54, rf 55, tc_nil, tc_nil, tc_nil, tc_nil, tc_nil] [] _ _ Q
  repeat' (first | (simp (disch := first | omega | exact Nat.le_of_ble_eq_true rfl | exact rfl | assumption | (simp (disch := omega) only [fr_ne, fr_same]; first | assumption | omega)) only [r95_0, r95_1r, r95_3, r95_4, r95_5, r95_6, r95_9, r95_13, r95_14, r95_17, r95_18, r95_19, r95_20, r95_21i, r95_23, r95_24, r95_27, r95_28, r95_29, r95_30, r95_31i, r95_33, r95_35, r95_40, r95_41, r95_43, r95_45, r95_46, r95_47, v95_47_1, r95_50, r95_51, r95_55, r95_56, r95_57, r95_60, r95_61, r95_62, r95_64, r95_65, r95_66, v95_66_1, r95_69i, r95_71, r95_72, r95_75, r95_77, r95_80, r95_83, r95_84, r95_85r, r95_88, r95_91, r95_92, g1_13_1, o1_len, o1_g1, il_s, bl_s, bl_z, ll_s, is_s, bs_s, bs_z, ls_s, al_s, al_b, al_l, fr_ne, fr_same, fr_fr, Nat.reduceEqDiff, tc_gf3_s, tc_ql2_s, tc_ws_0, tc_ws_i, tc_ws_l, tc_ws_r, Nat.reduceLeDiff, Nat.reduceAdd, Nat.reduceLT, true_and, and_true, if_true, if_false, tc_K, Option.toList_some, Option.toList_none, List.nil_append, List.cons_append, ite_true, ite_false, Int.cast_ofNat_Int, reduceIte, i3_add_eq, i3_sub_eq, Int.add_sub_cancel, Int.add_neg_cancel_right]) | (simp only [r95_10, r95_37, r95_52, i6_lt0, i6_0lt, i6_0le, i6_le0, i6_eq0, b10_0, ite_not, Int.reduceLT, Int.reduceLE, Int.reduceEq, Int.reduceNeg, if_true, if_false, ite_true, ite_false, reduceIte, eq_self, not_true, not_false_eq_true]; try refine tc_ite (fun _ => ?_) (fun _ => ?_) <;> try (exfalso; omega)))
  have h := c95_l (c := c) (n := n) (Q := Q) h3 h54 h55 hr h4 h5 h7 k 0 (c 55) tc_nil tc_nil (by omega) (by omega) h8 h9 hq
  rw [fr_id] at h
  exact h
theorem c92 {m1 m2 : Nat} (hS : LawS L sh r m1 m2) {w : Int} : tc_C 92 [rf r, .inl w] (hp L sh c) n Q = Q (some (.inl (if i3_and (i3_shr (c r 2) w) 1 = 1 then 1 else 0))) (hp L sh c) n := tc_det fun Q hq => by
  show tc_W 92 0 [rf r, .inl w] [] _ _ Q
  repeat' (first | (simp (disch := first | omega | exact Nat.le_of_ble_eq_true rfl | exact rfl | assumption | (simp (disch := omega) only [fr_ne, fr_same]; first | assumption | omega)) only [r92_0, r92_1, r92_4, r92_5, r92_6, r92_7, r92_8, r92_12, r92_13, r92_16, r92_17h, r92_17f, r92_17t, g1_16_1, o1_len, o1_g2, il_s, bl_s, bl_z, ll_s, is_s, bs_s, bs_z, ls_s, al_s, al_b, al_l, fr_ne, fr_same, fr_fr, Nat.reduceEqDiff, tc_gf3_s, tc_ql2_s, tc_ws_0, tc_ws_i, tc_ws_l, tc_ws_r, Nat.reduceLeDiff, Nat.reduceAdd, Nat.reduceLT, true_and, and_true, if_true, if_false, tc_K, Option.toList_some, Option.toList_none, List.nil_append, List.cons_append, ite_true, ite_false, Int.cast_ofNat_Int, reduceIte, i3_add_eq, i3_sub_eq, Int.add_sub_cancel, Int.add_neg_cancel_right, LawS_g0 hS, LawS_s0 hS, LawS_g1 hS, LawS_s1 hS, LawS_g2 hS, LawS_s2 hS]) | (simp only [r92_9, i6_lt0, i6_0lt, i6_0le, i6_le0, i6_eq0, b10_0, ite_not, Int.reduceLT, Int.reduceLE, Int.reduceEq, Int.reduceNeg, if_true, if_false, ite_true, ite_false, reduceIte, eq_self, not_true, not_false_eq_true]; try refine tc_ite (fun _ => ?_) (fun _ => ?_) <;> try (exfalso; omega)))
  all_goals first | exact hq | exact q_i (by omega) hq | (simp (disch := omega) only [if_pos, if_neg] at hq; exact hq)
theorem c70 (hR : SanS L sh r) {p : Int → Bool} {m : Nat} (hm : m ≤ 31) (h3 : c r 3 = (mk p m : Nat)) {f : Int} (hf : 0 ≤ f) (hf2 : f < m) : tc_C 70 [rf r, .inl f] (hp L sh c) n Q = Q (some (.inl (if p f = true then 1 else 0))) (hp L sh c) n := tc_det fun Q hq => by
  have hb : i3_and (i3_shr (c r 3) f) 1 = if p f = true then 1 else 0 := by
    rw [h3, mk_i3bit hm hf (by omega)]
    by_cases h : p f = true
    · rw [if_pos ⟨hf2, h⟩, if_pos h]
    · rw [if_neg (fun q => h q.2), if_neg h]
  show tc_W 70 0 [rf r, .inl f] [] _ _ Q
  by_cases h : p f = true
  · rw [if_pos h] at hq hb
    repeat' (first | (simp (disch := first | omega | exact Nat.le_of_ble_eq_true rfl | exact rfl | assumption | (simp (disch := omega) only [fr_ne, fr_same]; first | assumption | omega)) only [r70_0, r70_1, r70_4, r70_5, r70_6, r70_7, r70_8, r70_12, r70_13, r70_16, r70_17h, r70_17f, r70_17t, g5_21_5, o5_len, o5_g3, il_s, bl_s, bl_z, ll_s, is_s, bs_s, bs_z, ls_s, al_s, al_b, al_l, fr_ne, fr_same, fr_fr, Nat.reduceEqDiff, tc_gf3_s, tc_ql2_s, tc_ws_0, tc_ws_i, tc_ws_l, tc_ws_r, Nat.reduceLeDiff, Nat.reduceAdd, Nat.reduceLT, true_and, and_true, if_true, if_false, tc_K, Option.toList_some, Option.toList_none, List.nil_append, List.cons_append, ite_true, ite_false, Int.cast_ofNat_Int, reduceIte, i3_add_eq, i3_sub_eq, Int.add_sub_cancel, Int.add_neg_cancel_right, SanS_g0 hR, SanS_s0 hR, SanS_g1 hR, SanS_s1 hR, SanS_g2 hR, SanS_s2 hR, SanS_g3 hR, SanS_s3 hR, hb]) | (simp only [r70_9, i6_lt0, i6_0lt, i6_0le, i6_le0, i6_eq0, b10_0, ite_not, Int.reduceLT, Int.reduceLE, Int.reduceEq, Int.reduceNeg, if_true, if_false, ite_true, ite_false, reduceIte, eq_self, not_true, not_false_eq_true]; try refine tc_ite (fun _ => ?_) (fun _ => ?_) <;> try (exfalso; omega)))
    all_goals first | exact hq | exact q_i (by omega) hq | (simp (disch := omega) only [if_pos, if_neg] at hq; exact hq)
  · rw [if_neg h] at hq hb
    repeat' (first | (simp (disch := first | omega | exact Nat.le_of_ble_eq_true rfl | exact rfl | assumption | (simp (disch := omega) only [fr_ne, fr_same]; first | assumption | omega)) only [r70_0, r70_1, r70_4, r70_5, r70_6, r70_7, r70_8, r70_12, r70_13, r70_16, r70_17h, r70_17f, r70_17t, g5_21_5, o5_len, o5_g3, il_s, bl_s, bl_z, ll_s, is_s, bs_s, bs_z, ls_s, al_s, al_b, al_l, fr_ne, fr_same, fr_fr, Nat.reduceEqDiff, tc_gf3_s, tc_ql2_s, tc_ws_0, tc_ws_i, tc_ws_l, tc_ws_r, Nat.reduceLeDiff, Nat.reduceAdd, Nat.reduceLT, true_and, and_true, if_true, if_false, tc_K, Option.toList_some, Option.toList_none, List.nil_append, List.cons_append, ite_true, ite_false, Int.cast_ofNat_Int, reduceIte, i3_add_eq, i3_sub_eq, Int.add_sub_cancel, Int.add_neg_cancel_right, SanS_g0 hR, SanS_s0 hR, SanS_g1 hR, SanS_s1 hR, SanS_g2 hR, SanS_s2 hR, SanS_g3 hR, SanS_s3 hR, hb]) | (simp only [r70_9, i6_lt0, i6_0lt, i6_0le, i6_le0, i6_eq0, b10_0, ite_not, Int.reduceLT, Int.reduceLE, Int.reduceEq, Int.reduceNeg, if_true, if_false, ite_true, ite_false, reduceIte, eq_self, not_true, not_false_eq_true]; try refine tc_ite (fun _ => ?_) (fun _ => ?_) <;> try (exfalso; omega)))
    all_goals first | exact hq | exact q_i (by omega) hq | (simp (disch := omega) only [if_pos, if_neg] at hq; exact hq)
theorem c101 (hR : SanS L sh r) {f : Int} (hf : 0 ≤ f) (hf2 : f < 6) : tc_C 101 [rf r, .inl f] (hp L sh c) n Q = Q none (hp L sh (fr (fr c r (fu (c r) 3 (i3_and (c r 3) (i3_xor (i3_shl 1 f) (-1))))) (r + 3) (fu (c (r + 3)) f (c r 6)))) n := tc_det fun Q hq => by
  show tc_W 101 0 [rf r, .inl f] [] _ _ Q
  repeat' (simp (disch := first | omega | exact Nat.le_of_ble_eq_true rfl | exact rfl | assumption | (simp (disch := omega) only [fr_ne, fr_same]; first | assumption | omega)) only [r101_0, r101_1, r101_1A, r101_2, r101_5, r101_6, r101_7, r101_8, r101_9, r101_10, r101_11, r101_14, r101_15, r101_18, r101_19, r101_20, r101_23, r101_24, g5_21_5, p5_21_5, g5_18_5, g5_31_5, o5_len, o5_g3, o5_s3, o5_g2, o5_g6, il_s, bl_s, bl_z, ll_s, is_s, bs_s, bs_z, ls_s, al_s, al_b, al_l, fr_ne, fr_same, fr_fr, Nat.reduceEqDiff, tc_gf3_s, tc_ql2_s, tc_ws_0, tc_ws_i, tc_ws_l, tc_ws_r, Nat.reduceLeDiff, Nat.reduceAdd, Nat.reduceLT, true_and, and_true, if_true, if_false, tc_K, Option.toList_some, Option.toList_none, List.nil_append, List.cons_append, ite_true, ite_false, Int.cast_ofNat_Int, reduceIte, i3_add_eq, i3_sub_eq, Int.add_sub_cancel, Int.add_neg_cancel_right, SanS_g0 hR, SanS_s0 hR, SanS_g1 hR, SanS_s1 hR, SanS_g2 hR, SanS_s2 hR, SanS_g3 hR, SanS_s3 hR, fu_ne, Int.reduceEq, not_false_eq_true])
  all_goals first | exact hq | exact q_i (by omega) hq | (simp (disch := omega) only [if_pos, if_neg] at hq; exact hq)
end CWAVE

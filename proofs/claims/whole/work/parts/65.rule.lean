/-! RULES as signs behind values -/
abbrev Tk : Type := Int × Int
def ev1 (w : Int → Int) (k v : Int) (st : List Int) : List Int :=
  if k = 0 then v :: st else if k = 1 then w v :: st else if k = 9 then (match st with
    | a :: r => i6_sub 1 a :: r
    | [] => [])
  else match st with
    | b :: a :: r => bot k a b :: r
    | r => r
def evs (w : Int → Int) : List Tk → List Int → List Int
  | [], st => st
  | t :: ts, st => evs w ts (ev1 w t.1 t.2 st)
/-- kinds of what lies on the stack: true is a test's answer -/
def Kd (k v : Int) (a b : List Bool) : Prop :=
  (k = 0 ∧ b = false :: a) ∨ (k = 1 ∧ 0 ≤ v ∧ v ≤ 8 ∧ b = false :: a) ∨ (k = 9 ∧ ∃ r, a = true :: r ∧ b = true :: r) ∨
  ((k = 2 ∨ k = 3 ∨ k = 13 ∨ k = 14 ∨ k = 15) ∧ ∃ r, a = false :: false :: r ∧ b = false :: r) ∨
  ((k = 4 ∨ k = 5 ∨ k = 6 ∨ k = 7 ∨ k = 8) ∧ ∃ r, a = false :: false :: r ∧ b = true :: r) ∨
  ((k = 10 ∨ k = 11) ∧ ∃ r, a = true :: true :: r ∧ b = true :: r)
def Kds : List Tk → List Bool → List Bool → Prop
  | [], a, b => a = b
  | t :: ts, a, b => ∃ m, Kd t.1 t.2 a m ∧ Kds ts m b
def Ty : List Int → List Bool → Prop
  | [], [] => True
  | v :: st, b :: ks => (b = true → v = 0 ∨ v = 1) ∧ Ty st ks
  | _, _ => False
theorem Ty.c {st : List Int} {b : Bool} {ks : List Bool} (h : Ty st (b :: ks)) : ∃ v r, st = v :: r ∧ (b = true → v = 0 ∨ v = 1) ∧ Ty r ks := by
  cases st with
  | nil => exact h.elim
  | cons v r => exact ⟨v, r, rfl, h⟩
theorem Ty.len : ∀ {st : List Int} {ks : List Bool}, Ty st ks → st.length = ks.length := by
  intro st
  induction st with
  | nil =>
    intro ks h
    cases ks with
    | nil => rfl
    | cons _ _ => exact h.elim
  | cons v r ih =>
    intro ks h
    cases ks with
    | nil => exact h.elim
    | cons b ks => exact congrArg (· + 1) (ih h.2)
theorem ev1_ty {w : Int → Int} {k v : Int} {st : List Int} {a b : List Bool} (ht : Ty st a) (hk : Kd k v a b) : Ty (ev1 w k v st) b := by
  rcases hk with ⟨rfl, rfl⟩ | ⟨rfl, _, _, rfl⟩ | ⟨rfl, r, rfl, rfl⟩ | ⟨hk, r, rfl, rfl⟩ | ⟨hk, r, rfl, rfl⟩ | ⟨hk, r, rfl, rfl⟩
  · exact ⟨fun h => absurd h (by decide), ht⟩
  · exact ⟨fun h => absurd h (by decide), ht⟩
  · obtain ⟨x, q, rfl, h1, h2⟩ := ht.c
    refine ⟨fun _ => ?_, h2⟩
    rcases h1 rfl with rfl | rfl <;> decide +kernel
  · obtain ⟨x, q, rfl, h1, h2⟩ := ht.c
    obtain ⟨y, q2, rfl, h3, h4⟩ := h2.c
    unfold ev1
    rw [if_neg (by omega), if_neg (by omega), if_neg (by omega)]
    exact ⟨fun h => absurd h (by decide), h4⟩
  · obtain ⟨x, q, rfl, h1, h2⟩ := ht.c
    obtain ⟨y, q2, rfl, h3, h4⟩ := h2.c
    unfold ev1
    rw [if_neg (by omega), if_neg (by omega), if_neg (by omega)]
    refine ⟨fun _ => ?_, h4⟩
    rcases hk with rfl | rfl | rfl | rfl | rfl
    all_goals
      simp only [bot, Int.reduceEq, if_true, if_false, reduceIte]
      split <;> omega
  · obtain ⟨x, q, rfl, h1, h2⟩ := ht.c
    obtain ⟨y, q2, rfl, h3, h4⟩ := h2.c
    unfold ev1
    rw [if_neg (by omega), if_neg (by omega), if_neg (by omega)]
    refine ⟨fun _ => ?_, h4⟩
    rcases h1 rfl with rfl | rfl <;> rcases h3 rfl with rfl | rfl <;> rcases hk with rfl | rfl <;> decide +kernel
theorem evs_ty {w : Int → Int} : ∀ {ts : List Tk} {st : List Int} {a b : List Bool}, Ty st a → Kds ts a b → Ty (evs w ts st) b := by
  intro ts
  induction ts with
  | nil => intro st a b h1 h2; cases h2; exact h1
  | cons t ts ih =>
    intro st a b h1 h2
    obtain ⟨m, h3, h4⟩ := h2
    exact ih (ev1_ty h1 h3) h4
/-- a piece of the signs' rows -/
def sg (p q : Int → Int) (a : Int) : Nat → List Tk
  | 0 => []
  | m + 1 => (p a, q a) :: sg p q (a + 1) m
/-- a stack in a row -/
def SK (g : Int → Int) : List Int → Prop
  | [] => True
  | a :: r => g (r.length : Int) = a ∧ SK g r
theorem SK.fu {g : Int → Int} {v : Int} : ∀ {st : List Int} {j : Int}, SK g st → (st.length : Int) ≤ j → SK (fu g j v) st := by
  intro st
  induction st with
  | nil => intro j _ _; exact trivial
  | cons a r ih =>
    intro j h hj
    have : ((a :: r).length : Int) = r.length + 1 := rfl
    exact ⟨(fu_ne (by omega)).trans h.1, ih h.2 (by omega)⟩
section MOD4
variable {L : Nat} {sh : Nat → SH} {c : Nat → Int → Int} {n : Nat} {Q : Option AV → List SC → Nat → Prop}
theorem c228_l (hS : MS L sh) {w fr0 un : Int} (hw : 0 ≤ w ∧ w ≤ 5) (hf : 0 ≤ fr0) (hu : un ≤ 300) {fin : List Bool} : ∀ (m : Nat) (k : Int) (st : List Int) (ks : List Bool) (g : Int → Int) (a6 a7 : AV), k + m = un → (st.length : Int) ≤ k - fr0 → SK g st → Ty st ks → Kds (sg (c 96) (c 97) (300 * w + k) m) ks fin → (∀ g', SK g' (evs (c 103) (sg (c 96) (c 97) (300 * w + k) m) st) → Q (some (.inr (.inl (g' 0)))) (hp L sh (fr c 104 g')) n) → tc_W 228 6 [rf 75, .inl w, .inl fr0, .inl un, .inl (st.length : Int), .inl k, a6, a7] [] (hp L sh (fr c 104 g)) n Q := by
  intro m
  induction m with
  | zero =>
    intro k st ks g a6 a7 hk hl hg ht hK hq
    simp only [r228_6]
    repeat' (first | (simp (disch := first | omega | exact Nat.le_of_ble_eq_true rfl | exact rfl | assumption | (simp only [fr_at, Nat.reduceEqDiff, if_false, if_true, reduceIte]; first | assumption | omega)) only [r228_0, r228_1i, r228_3, r228_4i, r228_8, r228_12, r228_13, r228_16, r228_19, r228_20, r228_21, r228_23, r228_24, r228_25i, r228_27, r228_28, r228_31, r228_34, r228_35, r228_36, r228_38, r228_39, r228_40i, r228_42, r228_47, r228_49, r228_53, r228_54, r228_57, r228_59, r228_64, r228_66, r228_67, r228_70, r228_71, r228_74, r228_76, r228_77, r228_78i, r228_81, r228_84, r228_86, r228_91, r228_92, r228_95, r228_97, r228_98, r228_99, r228_100, r228_101, r228_104, r228_106, r228_107, r228_108, r228_109, r228_110, r228_111, r228_114i, r228_117, r228_118, r228_121, r228_123, r228_124, r228_125, r228_127, r228_128, r228_131, r228_133, r228_134, r228_135, r228_136, r228_137, r228_140, r228_142, r228_143, r228_146, r228_147i, r228_150, r228_153, r228_154, r228_157, r228_158, r228_159, g11_75_11, g11_78_11, g11_100_11, g11_96_11, mo_len, ms75 hS, mt75 hS, mo_g32, ms96 hS, mt96 hS, mo_g33, ms97 hS, mt97 hS, mo_g40, ms104 hS, mt104 hS, mo_g39, ms103 hS, mt103 hS, il_s, bl_s, bl_z, ll_s, is_s, bs_s, bs_z, ls_s, al_s, al_b, al_l, fr_at, fr_fr, Nat.reduceEqDiff, tc_gf3_s, tc_ql2_s, tc_ws_0, tc_ws_i, tc_ws_l, tc_ws_r, Nat.reduceLeDiff, Nat.reduceAdd, Nat.reduceLT, true_and, and_true, if_true, if_false, tc_K, Option.toList_some, Option.toList_none, List.nil_append, List.cons_append, ite_true, ite_false, Int.cast_ofNat_Int, reduceIte, i3_add_eq, i3_sub_eq, Int.add_sub_cancel, Int.add_neg_cancel_right]) | (simp only [r228_9, r228_44, r228_50, r228_61, r228_88, i6_lt0, i6_0lt, i6_0le, i6_le0, i6_eq0, b10_0, ite_not, Int.reduceLT, Int.reduceLE, Int.reduceEq, Int.reduceNeg, if_true, if_false, ite_true, ite_false, reduceIte, eq_self, not_true, not_false_eq_true]; try refine tc_ite (fun _ => ?_) (fun _ => ?_) <;> try (exfalso; omega)))
    exact hq g hg
  | succ m ih =>
    intro k st ks g a6 a7 hk hl hg ht hK hq
    obtain ⟨m1, h1, h2⟩ := hK
    simp only at h1 h2
    rw [show 300 * w + k + 1 = 300 * w + (k + 1) by omega] at h2
    have hty := ev1_ty (w := c 103) ht h1
    have hq' : ∀ g', SK g' (evs (c 103) (sg (c 96) (c 97) (300 * w + (k + 1)) m) (ev1 (c 103) (c 96 (300 * w + k)) (c 97 (300 * w + k)) st)) → Q (some (.inr (.inl (g' 0)))) (hp L sh (fr c 104 g')) n := by
      intro g' hg'
      refine hq g' ?_
      show SK g' (evs (c 103) (sg (c 96) (c 97) (300 * w + k + 1) m) _)
      rw [show 300 * w + k + 1 = 300 * w + (k + 1) by omega]
      exact hg'
    simp only [r228_6]
    rcases h1 with ⟨e, rfl⟩ | ⟨e, e1, e2, rfl⟩ | ⟨e, r, rfl, rfl⟩ | ⟨e, r, rfl, rfl⟩ | ⟨e, r, rfl, rfl⟩ | ⟨e, r, rfl, rfl⟩
    · repeat' (first | (simp (disch := first | omega | exact Nat.le_of_ble_eq_true rfl | exact rfl | assumption | (simp only [fr_at, Nat.reduceEqDiff, if_false, if_true, reduceIte]; first | assumption | omega)) only [r228_0, r228_1i, r228_3, r228_4i, r228_8, r228_12, r228_13, r228_16, r228_19, r228_20, r228_21, r228_23, r228_24, r228_25i, r228_27, r228_28, r228_31, r228_34, r228_35, r228_36, r228_38, r228_39, r228_40i, r228_42, r228_47, r228_49, r228_53, r228_54, r228_57, r228_59, r228_64, r228_66, r228_67, r228_70, r228_71, r228_74, r228_76, r228_77, r228_78i, r228_81, r228_84, r228_86, r228_91, r228_92, r228_95, r228_97, r228_98, r228_99, r228_100, r228_101, r228_104, r228_106, r228_107, r228_108, r228_109, r228_110, r228_111, r228_114i, r228_117, r228_118, r228_121, r228_123, r228_124, r228_125, r228_127, r228_128, r228_131, r228_133, r228_134, r228_135, r228_136, r228_137, r228_140, r228_142, r228_143, r228_146, r228_147i, r228_150, r228_153, r228_154, r228_157, r228_158, r228_159, g11_75_11, g11_78_11, g11_100_11, g11_96_11, mo_len, ms75 hS, mt75 hS, mo_g32, ms96 hS, mt96 hS, mo_g33, ms97 hS, mt97 hS, mo_g40, ms104 hS, mt104 hS, mo_g39, ms103 hS, mt103 hS, il_s, bl_s, bl_z, ll_s, is_s, bs_s, bs_z, ls_s, al_s, al_b, al_l, fr_at, fr_fr, Nat.reduceEqDiff, tc_gf3_s, tc_ql2_s, tc_ws_0, tc_ws_i, tc_ws_l, tc_ws_r, Nat.reduceLeDiff, Nat.reduceAdd, Nat.reduceLT, true_and, and_true, if_true, if_false, tc_K, Option.toList_some, Option.toList_none, List.nil_append, List.cons_append, ite_true, ite_false, Int.cast_ofNat_Int, reduceIte, i3_add_eq, i3_sub_eq, Int.add_sub_cancel, Int.add_neg_cancel_right, i3_mul_eq, e]) | (simp only [r228_9, r228_44, r228_50, r228_61, r228_88, i6_lt0, i6_0lt, i6_0le, i6_le0, i6_eq0, b10_0, ite_not, Int.reduceLT, Int.reduceLE, Int.reduceEq, Int.reduceNeg, if_true, if_false, ite_true, ite_false, reduceIte, eq_self, not_true, not_false_eq_true]; try refine tc_ite (fun _ => ?_) (fun _ => ?_) <;> try (exfalso; omega)))
      have e3 : ev1 (c 103) (c 96 (300 * w + k)) (c 97 (300 * w + k)) st = c 97 (300 * w + k) :: st := by rw [e]; rfl
      rw [e3] at hq' hty
      exact ih (k + 1) (c 97 (300 * w + k) :: st) _ _ _ _ (by omega) (by show ((st.length + 1 : Nat) : Int) ≤ _; omega) ⟨fu_same _ _ _, hg.fu (by omega)⟩ hty h2 hq'
    · repeat' (first | (simp (disch := first | omega | exact Nat.le_of_ble_eq_true rfl | exact rfl | assumption | (simp only [fr_at, Nat.reduceEqDiff, if_false, if_true, reduceIte]; first | assumption | omega)) only [r228_0, r228_1i, r228_3, r228_4i, r228_8, r228_12, r228_13, r228_16, r228_19, r228_20, r228_21, r228_23, r228_24, r228_25i, r228_27, r228_28, r228_31, r228_34, r228_35, r228_36, r228_38, r228_39, r228_40i, r228_42, r228_47, r228_49, r228_53, r228_54, r228_57, r228_59, r228_64, r228_66, r228_67, r228_70, r228_71, r228_74, r228_76, r228_77, r228_78i, r228_81, r228_84, r228_86, r228_91, r228_92, r228_95, r228_97, r228_98, r228_99, r228_100, r228_101, r228_104, r228_106, r228_107, r228_108, r228_109, r228_110, r228_111, r228_114i, r228_117, r228_118, r228_121, r228_123, r228_124, r228_125, r228_127, r228_128, r228_131, r228_133, r228_134, r228_135, r228_136, r228_137, r228_140, r228_142, r228_143, r228_146, r228_147i, r228_150, r228_153, r228_154, r228_157, r228_158, r228_159, g11_75_11, g11_78_11, g11_100_11, g11_96_11, mo_len, ms75 hS, mt75 hS, mo_g32, ms96 hS, mt96 hS, mo_g33, ms97 hS, mt97 hS, mo_g40, ms104 hS, mt104 hS, mo_g39, ms103 hS, mt103 hS, il_s, bl_s, bl_z, ll_s, is_s, bs_s, bs_z, ls_s, al_s, al_b, al_l, fr_at, fr_fr, Nat.reduceEqDiff, tc_gf3_s, tc_ql2_s, tc_ws_0, tc_ws_i, tc_ws_l, tc_ws_r, Nat.reduceLeDiff, Nat.reduceAdd, Nat.reduceLT, true_and, and_true, if_true, if_false, tc_K, Option.toList_some, Option.toList_none, List.nil_append, List.cons_append, ite_true, ite_false, Int.cast_ofNat_Int, reduceIte, i3_add_eq, i3_sub_eq, Int.add_sub_cancel, Int.add_neg_cancel_right, i3_mul_eq, e]) | (simp only [r228_9, r228_44, r228_50, r228_61, r228_88, i6_lt0, i6_0lt, i6_0le, i6_le0, i6_eq0, b10_0, ite_not, Int.reduceLT, Int.reduceLE, Int.reduceEq, Int.reduceNeg, if_true, if_false, ite_true, ite_false, reduceIte, eq_self, not_true, not_false_eq_true]; try refine tc_ite (fun _ => ?_) (fun _ => ?_) <;> try (exfalso; omega)))
      have e3 : ev1 (c 103) (c 96 (300 * w + k)) (c 97 (300 * w + k)) st = c 103 (c 97 (300 * w + k)) :: st := by rw [e]; rfl
      rw [e3] at hq' hty
      exact ih (k + 1) (c 103 (c 97 (300 * w + k)) :: st) _ _ _ _ (by omega) (by show ((st.length + 1 : Nat) : Int) ≤ _; omega) ⟨fu_same _ _ _, hg.fu (by omega)⟩ hty h2 hq'
    · obtain ⟨x, q, rfl, h3, h4⟩ := ht.c
      have hle : ((x :: q).length : Int) = q.length + 1 := rfl
      rw [hle] at hl ⊢
      repeat' (first | (simp (disch := first | omega | exact Nat.le_of_ble_eq_true rfl | exact rfl | assumption | (simp only [fr_at, Nat.reduceEqDiff, if_false, if_true, reduceIte]; first | assumption | omega)) only [r228_0, r228_1i, r228_3, r228_4i, r228_8, r228_12, r228_13, r228_16, r228_19, r228_20, r228_21, r228_23, r228_24, r228_25i, r228_27, r228_28, r228_31, r228_34, r228_35, r228_36, r228_38, r228_39, r228_40i, r228_42, r228_47, r228_49, r228_53, r228_54, r228_57, r228_59, r228_64, r228_66, r228_67, r228_70, r228_71, r228_74, r228_76, r228_77, r228_78i, r228_81, r228_84, r228_86, r228_91, r228_92, r228_95, r228_97, r228_98, r228_99, r228_100, r228_101, r228_104, r228_106, r228_107, r228_108, r228_109, r228_110, r228_111, r228_114i, r228_117, r228_118, r228_121, r228_123, r228_124, r228_125, r228_127, r228_128, r228_131, r228_133, r228_134, r228_135, r228_136, r228_137, r228_140, r228_142, r228_143, r228_146, r228_147i, r228_150, r228_153, r228_154, r228_157, r228_158, r228_159, g11_75_11, g11_78_11, g11_100_11, g11_96_11, mo_len, ms75 hS, mt75 hS, mo_g32, ms96 hS, mt96 hS, mo_g33, ms97 hS, mt97 hS, mo_g40, ms104 hS, mt104 hS, mo_g39, ms103 hS, mt103 hS, il_s, bl_s, bl_z, ll_s, is_s, bs_s, bs_z, ls_s, al_s, al_b, al_l, fr_at, fr_fr, Nat.reduceEqDiff, tc_gf3_s, tc_ql2_s, tc_ws_0, tc_ws_i, tc_ws_l, tc_ws_r, Nat.reduceLeDiff, Nat.reduceAdd, Nat.reduceLT, true_and, and_true, if_true, if_false, tc_K, Option.toList_some, Option.toList_none, List.nil_append, List.cons_append, ite_true, ite_false, Int.cast_ofNat_Int, reduceIte, i3_add_eq, i3_sub_eq, Int.add_sub_cancel, Int.add_neg_cancel_right, i3_mul_eq, e]) | (simp only [r228_9, r228_44, r228_50, r228_61, r228_88, i6_lt0, i6_0lt, i6_0le, i6_le0, i6_eq0, b10_0, ite_not, Int.reduceLT, Int.reduceLE, Int.reduceEq, Int.reduceNeg, if_true, if_false, ite_true, ite_false, reduceIte, eq_self, not_true, not_false_eq_true]; try refine tc_ite (fun _ => ?_) (fun _ => ?_) <;> try (exfalso; omega)))
      have e3 : ev1 (c 103) (c 96 (300 * w + k)) (c 97 (300 * w + k)) (x :: q) = i6_sub 1 x :: q := by rw [e]; rfl
      rw [e3] at hq' hty
      rw [hg.1]
      exact ih (k + 1) (i6_sub 1 x :: q) _ _ _ _ (by omega) (by show ((q.length + 1 : Nat) : Int) ≤ _; omega) ⟨fu_same _ _ _, hg.2.fu (by omega)⟩ hty h2 hq'
    all_goals
      obtain ⟨x, q, rfl, h3, h4⟩ := ht.c
      obtain ⟨y, q2, rfl, h5, h6⟩ := h4.c
      have hle : ((x :: y :: q2).length : Int) = q2.length + 1 + 1 := rfl
      rw [hle] at hl ⊢
      have e3 : ev1 (c 103) (c 96 (300 * w + k)) (c 97 (300 * w + k)) (x :: y :: q2) = bot (c 96 (300 * w + k)) y x :: q2 := by
        unfold ev1
        rw [if_neg (by omega), if_neg (by omega), if_neg (by omega)]
      rw [e3] at hq' hty
      have e5 : q2.length + 1 + 1 + -1 = ((q2.length + 1 : Nat) : Int) := by omega
      repeat' (first | (simp (disch := first | omega | exact Nat.le_of_ble_eq_true rfl | exact rfl | assumption | (simp only [fr_at, Nat.reduceEqDiff, if_false, if_true, reduceIte]; first | assumption | omega)) only [r228_0, r228_1i, r228_3, r228_4i, r228_8, r228_12, r228_13, r228_16, r228_19, r228_20, r228_21, r228_23, r228_24, r228_25i, r228_27, r228_28, r228_31, r228_34, r228_35, r228_36, r228_38, r228_39, r228_40i, r228_42, r228_47, r228_49, r228_53, r228_54, r228_57, r228_59, r228_64, r228_66, r228_67, r228_70, r228_71, r228_74, r228_76, r228_77, r228_78i, r228_81, r228_84, r228_86, r228_91, r228_92, r228_95, r228_97, r228_98, r228_99, r228_100, r228_101, r228_104, r228_106, r228_107, r228_108, r228_109, r228_110, r228_111, r228_114i, r228_117, r228_118, r228_121, r228_123, r228_124, r228_125, r228_127, r228_128, r228_131, r228_133, r228_134, r228_135, r228_136, r228_137, r228_140, r228_142, r228_143, r228_146, r228_147i, r228_150, r228_153, r228_154, r228_157, r228_158, r228_159, g11_75_11, g11_78_11, g11_100_11, g11_96_11, mo_len, ms75 hS, mt75 hS, mo_g32, ms96 hS, mt96 hS, mo_g33, ms97 hS, mt97 hS, mo_g40, ms104 hS, mt104 hS, mo_g39, ms103 hS, mt103 hS, il_s, bl_s, bl_z, ll_s, is_s, bs_s, bs_z, ls_s, al_s, al_b, al_l, fr_at, fr_fr, Nat.reduceEqDiff, tc_gf3_s, tc_ql2_s, tc_ws_0, tc_ws_i, tc_ws_l, tc_ws_r, Nat.reduceLeDiff, Nat.reduceAdd, Nat.reduceLT, true_and, and_true, if_true, if_false, tc_K, Option.toList_some, Option.toList_none, List.nil_append, List.cons_append, ite_true, ite_false, Int.cast_ofNat_Int, reduceIte, i3_add_eq, i3_sub_eq, Int.add_sub_cancel, Int.add_neg_cancel_right, i3_mul_eq, c229]) | (simp only [r228_9, r228_44, r228_50, r228_61, r228_88, i6_lt0, i6_0lt, i6_0le, i6_le0, i6_eq0, b10_0, ite_not, Int.reduceLT, Int.reduceLE, Int.reduceEq, Int.reduceNeg, if_true, if_false, ite_true, ite_false, reduceIte, eq_self, not_true, not_false_eq_true]; try refine tc_ite (fun _ => ?_) (fun _ => ?_) <;> try (exfalso; omega)))
      rw [show g ((q2.length : Int) + 1) = x from hg.1, show g (q2.length : Int) = y from hg.2.1]
      exact ih (k + 1) (bot (c 96 (300 * w + k)) y x :: q2) _ _ _ _ (by omega) (by show ((q2.length + 1 : Nat) : Int) ≤ _; omega) ⟨fu_same _ _ _, hg.2.2.fu (by omega)⟩ hty h2 hq'
theorem c228 (hS : MS L sh) {w fr0 un : Int} (hw : 0 ≤ w ∧ w ≤ 5) (hf : 0 ≤ fr0) (hfu : fr0 ≤ un) (hu : un ≤ 300) {b : Bool} (hK : Kds (sg (c 96) (c 97) (300 * w + fr0) (un - fr0).toNat) [] [b])
    (hq : ∀ g, Q (some (.inr (.inl ((evs (c 103) (sg (c 96) (c 97) (300 * w + fr0) (un - fr0).toNat) []).headD 0)))) (hp L sh (fr c 104 g)) n) : tc_C 228 [rf 75, .inl w, .inl fr0, .inl un] (hp L sh c) n Q := by
  show tc_W 228 0 [rf 75, .inl w, .inl fr0, .inl un, tc_nil, tc_nil, tc_nil, tc_nil] [] _ _ Q
  repeat' (first | (simp (disch := first | omega | exact Nat.le_of_ble_eq_true rfl | exact rfl | assumption | (simp only [fr_at, Nat.reduceEqDiff, if_false, if_true, reduceIte]; first | assumption | omega)) only [r228_0, r228_1i, r228_3, r228_4i, r228_8, r228_12, r228_13, r228_16, r228_19, r228_20, r228_21, r228_23, r228_24, r228_25i, r228_27, r228_28, r228_31, r228_34, r228_35, r228_36, r228_38, r228_39, r228_40i, r228_42, r228_47, r228_49, r228_53, r228_54, r228_57, r228_59, r228_64, r228_66, r228_67, r228_70, r228_71, r228_74, r228_76, r228_77, r228_78i, r228_81, r228_84, r228_86, r228_91, r228_92, r228_95, r228_97, r228_98, r228_99, r228_100, r228_101, r228_104, r228_106, r228_107, r228_108, r228_109, r228_110, r228_111, r228_114i, r228_117, r228_118, r228_121, r228_123, r228_124, r228_125, r228_127, r228_128, r228_131, r228_133, r228_134, r228_135, r228_136, r228_137, r228_140, r228_142, r228_143, r228_146, r228_147i, r228_150, r228_153, r228_154, r228_157, r228_158, r228_159, g11_75_11, g11_78_11, g11_100_11, g11_96_11, mo_len, ms75 hS, mt75 hS, mo_g32, ms96 hS, mt96 hS, mo_g33, ms97 hS, mt97 hS, mo_g40, ms104 hS, mt104 hS, mo_g39, ms103 hS, mt103 hS, il_s, bl_s, bl_z, ll_s, is_s, bs_s, bs_z, ls_s, al_s, al_b, al_l, fr_at, fr_fr, Nat.reduceEqDiff, tc_gf3_s, tc_ql2_s, tc_ws_0, tc_ws_i, tc_ws_l, tc_ws_r, Nat.reduceLeDiff, Nat.reduceAdd, Nat.reduceLT, true_and, and_true, if_true, if_false, tc_K, Option.toList_some, Option.toList_none, List.nil_append, List.cons_append, ite_true, ite_false, Int.cast_ofNat_Int, reduceIte, i3_add_eq, i3_sub_eq, Int.add_sub_cancel, Int.add_neg_cancel_right]) | (simp only [r228_9, r228_44, r228_50, r228_61, r228_88, i6_lt0, i6_0lt, i6_0le, i6_le0, i6_eq0, b10_0, ite_not, Int.reduceLT, Int.reduceLE, Int.reduceEq, Int.reduceNeg, if_true, if_false, ite_true, ite_false, reduceIte, eq_self, not_true, not_false_eq_true]; try refine tc_ite (fun _ => ?_) (fun _ => ?_) <;> try (exfalso; omega)))
  have h := c228_l (c := c) (n := n) (Q := Q) hS hw hf hu (un - fr0).toNat fr0 [] [] (c 104) tc_nil tc_nil (by omega) (by show (0 : Int) ≤ _; omega) trivial trivial hK ?_
  · rw [fr_id] at h
    exact h
  · intro g hg
    obtain ⟨v, r, e, _, h2⟩ := (evs_ty (w := c 103) (st := []) (a := []) trivial hK).c
    have e2 : r = [] := by
      cases r with
      | nil => rfl
      | cons _ _ => exact h2.elim
    subst e2
    have hq' := hq g
    rw [e] at hg hq'
    rw [show g 0 = v from hg.1]
    exact hq'
end MOD4

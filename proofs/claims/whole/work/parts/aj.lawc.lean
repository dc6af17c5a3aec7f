/-! the class: a rule read -/
theorem sc_app {g : Int → Int} : ∀ (m : Nat) (a : Int), sc g a (m + 1) = sc g a m ++ [ctk (g (a + m))] := by
  intro m
  induction m with
  | zero =>
    intro a
    show [ctk (g a)] = [ctk (g (a + 0))]
    rw [Int.add_zero]
  | succ m ih =>
    intro a
    show ctk (g a) :: sc g (a + 1) (m + 1) = ctk (g a) :: (sc g (a + 1) m ++ [ctk (g (a + ((m + 1 : Nat) : Int)))])
    rw [ih (a + 1), show a + ((m + 1 : Nat) : Int) = a + 1 + m by omega]
theorem sc_ex {g h : Int → Int} : ∀ (m : Nat) (a : Int), (∀ j, a ≤ j → j < a + m → g j = h j) → sc g a m = sc h a m := by
  intro m
  induction m with
  | zero => intro a _; rfl
  | succ m ih =>
    intro a hh
    show ctk (g a) :: sc g (a + 1) m = ctk (h a) :: sc h (a + 1) m
    rw [hh a (by omega) (by omega), ih (a + 1) fun j j1 j2 => hh j (by omega) (by omega)]
def LRd (L : Nat) (sh : Nat → SH) : Prop := 115 ≤ L ∧ sh 70 = (6, 2, [some 27, some 71, some 72, some 73]) ∧ sh 27 = (1, 400, []) ∧ sh 71 = (0, 400, []) ∧ sh 72 = (0, 25, []) ∧ sh 73 = (0, 10, [])
def LD (c : Nat → Int → Int) (g : Int → Int) (N p m z : Int) (T : List Tk) : Prop := c 27 = g ∧ c 70 1 = N ∧ c 70 2 = p ∧ c 70 4 = 0 ∧ c 70 8 = z + T.length ∧ c 70 9 = m ∧ sc (c 71) z T.length = T
/-- what reading leaves as it was -/
def LQ (c e : Nat → Int → Int) (Z : Int) : Prop := (∀ a, ¬ a = 70 → ¬ a = 71 → e a = c a) ∧ (∀ i, i < Z → e 71 i = c 71 i) ∧ e 70 1 = c 70 1 ∧ e 70 10 = c 70 10 ∧ e 70 11 = c 70 11
def RG (e : Nat → Int → Int) (N : Int) : Prop := (0 ≤ e 70 2 ∧ e 70 2 ≤ N) ∧ 0 ≤ e 70 9 ∧ e 70 9 ≤ 61
section LAWC
variable {L : Nat} {sh : Nat → SH} {c : Nat → Int → Int} {n : Nat} {Q : Option AV → List SC → Nat → Prop} {g : Int → Int} {N p m z f p' m' : Int} {T T' : List Tk}
theorem LQ.refl {Z : Int} : LQ c c Z := ⟨fun _ _ _ => rfl, fun _ _ => rfl, rfl, rfl, rfl⟩
theorem LQ.trans {d e : Nat → Int → Int} {Z Z' : Int} (h : LQ c d Z) (k : LQ d e Z') (hZ : Z ≤ Z') : LQ c e Z := ⟨fun a a1 a2 => (k.1 a a1 a2).trans (h.1 a a1 a2), fun i i1 => (k.2.1 i (by omega)).trans (h.2.1 i i1), k.2.2.1.trans h.2.2.1, k.2.2.2.1.trans h.2.2.2.1, k.2.2.2.2.trans h.2.2.2.2⟩
theorem LQ.of70 {e : Nat → Int → Int} {Z : Int} (h : ∀ a, ¬ a = 70 → e a = c a) (h1 : e 70 1 = c 70 1) (h2 : e 70 10 = c 70 10) (h3 : e 70 11 = c 70 11) : LQ c e Z := ⟨fun a a1 _ => h a a1, fun i _ => by rw [h 71 (by omega)], h1, h2, h3⟩
theorem c55 (hR : LRd L sh) {Z st : Int} (h4 : c 70 4 = 0) (h8 : c 70 8 = Z) (hZ : 0 ≤ Z ∧ Z < 400) : tc_C 55 [rf 70, .inl st] (hp L sh c) n Q = Q none (hp L sh (fr (fr c 71 (fu (c 71) Z st)) 70 (fu (c 70) 8 (Z + 1)))) n := tc_det fun Q hq => by
  obtain ⟨hL, h70, h27, h71, h72, h73⟩ := hR
  have hL70 : 70 < L := by omega
  have hL71 : 71 < L := by omega
  show tc_W 55 0 [rf 70, .inl st] [] _ _ Q
  repeat' (first | (simp (disch := first | omega | exact Nat.le_of_ble_eq_true rfl | exact rfl | assumption | (simp (disch := omega) only [fr_ne, fr_same]; first | assumption | omega)) only [r55_0, r55_1, r55_7, r55_8, r55_11, r55_12, r55_15, r55_19, r55_20, r55_23, r55_24, r55_27, r55_28, r55_29, r55_30, r55_30A, r55_31, r55_34, r55_35, r55_36, r55_39, g2_46_0, g2_46_2, g2_21_2, g2_9_2, p2_21_2, o0_len, o0_g4, o2_len, o2_g4, o2_g8, o2_g5, o2_s8, il_s, bl_s, bl_z, ll_s, is_s, bs_s, bs_z, ls_s, al_s, al_b, al_l, fr_ne, fr_same, fr_fr, Nat.reduceEqDiff, tc_gf3_s, tc_ql2_s, tc_ws_0, tc_ws_i, tc_ws_l, tc_ws_r, Nat.reduceLeDiff, Nat.reduceAdd, Nat.reduceLT, true_and, and_true, if_true, if_false, tc_K, Option.toList_some, Option.toList_none, List.nil_append, List.cons_append, ite_true, ite_false, Int.cast_ofNat_Int, reduceIte, i3_add_eq, i3_sub_eq, Int.add_sub_cancel, Int.add_neg_cancel_right, hO hL70 h70, hOs h70, hI hL71 h71, hIs h71, h4, h8]) | (simp only [r55_4, r55_16, i6_lt0, i6_0lt, i6_0le, i6_le0, i6_eq0, b10_0, ite_not, Int.reduceLT, Int.reduceLE, Int.reduceEq, Int.reduceNeg, if_true, if_false, ite_true, ite_false, reduceIte, eq_self, not_true, not_false_eq_true]; try refine tc_ite (fun _ => ?_) (fun _ => ?_) <;> try (exfalso; omega)))
  all_goals first
    | exact hq
    | omega
theorem c55f (hR : LRd L sh) {F st : Int} (h4 : c 70 4 = F) (hF : ¬ F = 0) : tc_C 55 [rf 70, .inl st] (hp L sh c) n Q = Q none (hp L sh c) n := tc_det fun Q hq => by
  obtain ⟨hL, h70, h27, h71, h72, h73⟩ := hR
  have hL70 : 70 < L := by omega
  show tc_W 55 0 [rf 70, .inl st] [] _ _ Q
  repeat' (first | (simp (disch := first | omega | exact Nat.le_of_ble_eq_true rfl | exact rfl | assumption | (simp (disch := omega) only [fr_ne, fr_same]; first | assumption | omega)) only [r55_0, r55_1, r55_7, r55_8, r55_11, r55_12, r55_15, r55_19, r55_20, r55_23, r55_24, r55_27, r55_28, r55_29, r55_30, r55_30A, r55_31, r55_34, r55_35, r55_36, r55_39, g2_46_0, g2_46_2, g2_21_2, g2_9_2, p2_21_2, o0_len, o0_g4, o2_len, o2_g4, o2_g8, o2_g5, o2_s8, il_s, bl_s, bl_z, ll_s, is_s, bs_s, bs_z, ls_s, al_s, al_b, al_l, fr_ne, fr_same, fr_fr, Nat.reduceEqDiff, tc_gf3_s, tc_ql2_s, tc_ws_0, tc_ws_i, tc_ws_l, tc_ws_r, Nat.reduceLeDiff, Nat.reduceAdd, Nat.reduceLT, true_and, and_true, if_true, if_false, tc_K, Option.toList_some, Option.toList_none, List.nil_append, List.cons_append, ite_true, ite_false, Int.cast_ofNat_Int, reduceIte, i3_add_eq, i3_sub_eq, Int.add_sub_cancel, Int.add_neg_cancel_right, hO hL70 h70, h4]) | (simp only [r55_4, r55_16, i6_lt0, i6_0lt, i6_0le, i6_le0, i6_eq0, b10_0, ite_not, Int.reduceLT, Int.reduceLE, Int.reduceEq, Int.reduceNeg, if_true, if_false, ite_true, ite_false, reduceIte, eq_self, not_true, not_false_eq_true]; try refine tc_ite (fun _ => ?_) (fun _ => ?_) <;> try (exfalso; omega)))
  all_goals first
    | exact hq
    | omega
theorem c58_0 (hR : LRd L sh) : tc_C 58 [rf 70, .inl 0] (hp L sh c) n Q = Q none (hp L sh c) n := tc_det fun Q hq => by
  show tc_W 58 0 [rf 70, .inl 0] [] _ _ Q
  repeat' (first | (simp (disch := first | omega | exact Nat.le_of_ble_eq_true rfl | exact rfl | assumption | (simp (disch := omega) only [fr_ne, fr_same]; first | assumption | omega)) only [r58_0, r58_4, r58_5, r58_6, v58_6_2, r58_9, il_s, bl_s, bl_z, ll_s, is_s, bs_s, bs_z, ls_s, al_s, al_b, al_l, fr_ne, fr_same, fr_fr, Nat.reduceEqDiff, tc_gf3_s, tc_ql2_s, tc_ws_0, tc_ws_i, tc_ws_l, tc_ws_r, Nat.reduceLeDiff, Nat.reduceAdd, Nat.reduceLT, true_and, and_true, if_true, if_false, tc_K, Option.toList_some, Option.toList_none, List.nil_append, List.cons_append, ite_true, ite_false, Int.cast_ofNat_Int, reduceIte, i3_add_eq, i3_sub_eq, Int.add_sub_cancel, Int.add_neg_cancel_right]) | (simp only [r58_1, i6_lt0, i6_0lt, i6_0le, i6_le0, i6_eq0, b10_0, ite_not, Int.reduceLT, Int.reduceLE, Int.reduceEq, Int.reduceNeg, if_true, if_false, ite_true, ite_false, reduceIte, eq_self, not_true, not_false_eq_true]; try refine tc_ite (fun _ => ?_) (fun _ => ?_) <;> try (exfalso; omega)))
  exact hq
theorem c58f (hR : LRd L sh) {F st : Int} (h4 : c 70 4 = F) (hF : ¬ F = 0) : tc_C 58 [rf 70, .inl st] (hp L sh c) n Q = Q none (hp L sh c) n := tc_det fun Q hq => by
  have h55 := fun Q => c55f (c := c) (n := n) (Q := Q) (st := st) hR h4 hF
  obtain ⟨hL, h70, h27, h71, h72, h73⟩ := hR
  have hL70 : 70 < L := by omega
  show tc_W 58 0 [rf 70, .inl st] [] _ _ Q
  repeat' (first | (simp (disch := first | omega | exact Nat.le_of_ble_eq_true rfl | exact rfl | assumption | (simp (disch := omega) only [fr_ne, fr_same]; first | assumption | omega)) only [r58_0, r58_4, r58_5, r58_6, v58_6_2, r58_9, il_s, bl_s, bl_z, ll_s, is_s, bs_s, bs_z, ls_s, al_s, al_b, al_l, fr_ne, fr_same, fr_fr, Nat.reduceEqDiff, tc_gf3_s, tc_ql2_s, tc_ws_0, tc_ws_i, tc_ws_l, tc_ws_r, Nat.reduceLeDiff, Nat.reduceAdd, Nat.reduceLT, true_and, and_true, if_true, if_false, tc_K, Option.toList_some, Option.toList_none, List.nil_append, List.cons_append, ite_true, ite_false, Int.cast_ofNat_Int, reduceIte, i3_add_eq, i3_sub_eq, Int.add_sub_cancel, Int.add_neg_cancel_right, hO hL70 h70, h55]) | (simp only [r58_1, i6_lt0, i6_0lt, i6_0le, i6_le0, i6_eq0, b10_0, ite_not, Int.reduceLT, Int.reduceLE, Int.reduceEq, Int.reduceNeg, if_true, if_false, ite_true, ite_false, reduceIte, eq_self, not_true, not_false_eq_true]; try refine tc_ite (fun _ => ?_) (fun _ => ?_) <;> try (exfalso; omega)))
  all_goals exact hq
/-- a step more -/
theorem LD.push (h : LD c g N p m z T) {st : Int} {t : Tk} (ht : ctk st = t) : LD (fr (fr c 71 (fu (c 71) (z + T.length) st)) 70 (fu (c 70) 8 (z + T.length + 1))) g N p m z (T ++ [t]) ∧ LQ c (fr (fr c 71 (fu (c 71) (z + T.length) st)) 70 (fu (c 70) 8 (z + T.length + 1))) (z + T.length) := by
  obtain ⟨h1, h2, h3, h4, h5, h6, h7⟩ := h
  refine ⟨⟨h1, ?_, ?_, ?_, ?_, ?_, ?_⟩, ⟨fun a a1 a2 => ?_, fun i hi => ?_, ?_, ?_, ?_⟩⟩
  · rw [fr_same, fu_ne (by omega)]
    exact h2
  · rw [fr_same, fu_ne (by omega)]
    exact h3
  · rw [fr_same, fu_ne (by omega)]
    exact h4
  · rw [fr_same, fu_same, len_app]
    omega
  · rw [fr_same, fu_ne (by omega)]
    exact h6
  · rw [fr_ne (by omega), fr_same, List.length_append, show T.length + [t].length = T.length + 1 from rfl, sc_app, fu_same, ht, sc_ex (h := c 71) _ _ fun j j1 j2 => fu_ne (by omega), h7]
  · rw [fr_ne a1, fr_ne a2]
  · rw [fr_ne (by omega), fr_same, fu_ne (by omega)]
  · rw [fr_same, fu_ne (by omega)]
  · rw [fr_same, fu_ne (by omega)]
  · rw [fr_same, fu_ne (by omega)]
theorem c58 (hR : LRd L sh) (hD : LD c g N p m z T) {st : Int} {t : Tk} (ht : ctk st = t) (hst : ¬ st = 0) (hz : 0 ≤ z + T.length ∧ z + T.length < 400) (hq : ∀ e, LD e g N p m z (T ++ [t]) → LQ c e (z + T.length) → Q none (hp L sh e) n) : tc_C 58 [rf 70, .inl st] (hp L sh c) n Q := by
  have h55 := fun Q => c55 (c := c) (n := n) (Q := Q) (st := st) hR hD.2.2.2.1 hD.2.2.2.2.1 hz
  have hpu := hD.push ht
  obtain ⟨hL, h70, h27, h71, h72, h73⟩ := hR
  have hL70 : 70 < L := by omega
  show tc_W 58 0 [rf 70, .inl st] [] _ _ Q
  repeat' (first | (simp (disch := first | omega | exact Nat.le_of_ble_eq_true rfl | exact rfl | assumption | (simp (disch := omega) only [fr_ne, fr_same]; first | assumption | omega)) only [r58_0, r58_4, r58_5, r58_6, v58_6_2, r58_9, il_s, bl_s, bl_z, ll_s, is_s, bs_s, bs_z, ls_s, al_s, al_b, al_l, fr_ne, fr_same, fr_fr, Nat.reduceEqDiff, tc_gf3_s, tc_ql2_s, tc_ws_0, tc_ws_i, tc_ws_l, tc_ws_r, Nat.reduceLeDiff, Nat.reduceAdd, Nat.reduceLT, true_and, and_true, if_true, if_false, tc_K, Option.toList_some, Option.toList_none, List.nil_append, List.cons_append, ite_true, ite_false, Int.cast_ofNat_Int, reduceIte, i3_add_eq, i3_sub_eq, Int.add_sub_cancel, Int.add_neg_cancel_right, hO hL70 h70, h55]) | (simp only [r58_1, i6_lt0, i6_0lt, i6_0le, i6_le0, i6_eq0, b10_0, ite_not, Int.reduceLT, Int.reduceLE, Int.reduceEq, Int.reduceNeg, if_true, if_false, ite_true, ite_false, reduceIte, eq_self, not_true, not_false_eq_true]; try refine tc_ite (fun _ => ?_) (fun _ => ?_) <;> try (exfalso; omega)))
  all_goals exact hq _ hpu.1 hpu.2
theorem c54 (hR : LRd L sh) {at_ : Int} (ha : 0 ≤ at_ ∧ at_ ≤ 1000) (h9 : c 70 9 = m) (hm : 0 ≤ m ∧ m ≤ 100) : tc_C 54 [rf 70, .inl at_] (hp L sh c) n Q = Q none (hp L sh (if 60 ≤ m then fr c 70 (fu (fu (c 70) 9 (m + 1)) 4 (if c 70 4 = 0 then 1 + 8 * at_ + 3 else c 70 4)) else fr c 70 (fu (c 70) 9 (m + 1)))) n := tc_det fun Q hq => by
  obtain ⟨hL, h70, h27, h71, h72, h73⟩ := hR
  have hL70 : 70 < L := by omega
  show tc_W 54 0 [rf 70, .inl at_] [] _ _ Q
  by_cases h : 60 ≤ m
  · rw [if_pos h] at hq
    have h34 := fun Q => c34_l (c := fr c 70 (fu (c 70) 9 (m + 1))) (n := n) (Q := Q) (a := at_) (k := 3) h70 h27 hL ha (by omega)
    rw [fr_same, fu_ne (by omega), fr_fr] at h34
    repeat' (first | (simp (disch := first | omega | exact Nat.le_of_ble_eq_true rfl | exact rfl | assumption | (simp (disch := omega) only [fr_ne, fr_same]; first | assumption | omega)) only [r54_0, r54_1, r54_1A, r54_2, r54_5, r54_6, r54_7, r54_10, r54_11, r54_14, r54_19, r54_20, r54_21, r54_22, v54_22_2, r54_25, g2_25_2, p2_25_2, o2_len, o2_g9, o2_s9, il_s, bl_s, bl_z, ll_s, is_s, bs_s, bs_z, ls_s, al_s, al_b, al_l, fr_ne, fr_same, fr_fr, Nat.reduceEqDiff, tc_gf3_s, tc_ql2_s, tc_ws_0, tc_ws_i, tc_ws_l, tc_ws_r, Nat.reduceLeDiff, Nat.reduceAdd, Nat.reduceLT, true_and, and_true, if_true, if_false, tc_K, Option.toList_some, Option.toList_none, List.nil_append, List.cons_append, ite_true, ite_false, Int.cast_ofNat_Int, reduceIte, i3_add_eq, i3_sub_eq, Int.add_sub_cancel, Int.add_neg_cancel_right, hO hL70 h70, hOs h70, h9, fu_same, h34]) | (simp only [r54_16, i6_lt0, i6_0lt, i6_0le, i6_le0, i6_eq0, b10_0, ite_not, Int.reduceLT, Int.reduceLE, Int.reduceEq, Int.reduceNeg, if_true, if_false, ite_true, ite_false, reduceIte, eq_self, not_true, not_false_eq_true]; try refine tc_ite (fun _ => ?_) (fun _ => ?_) <;> try (exfalso; omega)))
    all_goals first
      | exact hq
      | omega
  · rw [if_neg h] at hq
    repeat' (first | (simp (disch := first | omega | exact Nat.le_of_ble_eq_true rfl | exact rfl | assumption | (simp (disch := omega) only [fr_ne, fr_same]; first | assumption | omega)) only [r54_0, r54_1, r54_1A, r54_2, r54_5, r54_6, r54_7, r54_10, r54_11, r54_14, r54_19, r54_20, r54_21, r54_22, v54_22_2, r54_25, g2_25_2, p2_25_2, o2_len, o2_g9, o2_s9, il_s, bl_s, bl_z, ll_s, is_s, bs_s, bs_z, ls_s, al_s, al_b, al_l, fr_ne, fr_same, fr_fr, Nat.reduceEqDiff, tc_gf3_s, tc_ql2_s, tc_ws_0, tc_ws_i, tc_ws_l, tc_ws_r, Nat.reduceLeDiff, Nat.reduceAdd, Nat.reduceLT, true_and, and_true, if_true, if_false, tc_K, Option.toList_some, Option.toList_none, List.nil_append, List.cons_append, ite_true, ite_false, Int.cast_ofNat_Int, reduceIte, i3_add_eq, i3_sub_eq, Int.add_sub_cancel, Int.add_neg_cancel_right, hO hL70 h70, hOs h70, h9, fu_same]) | (simp only [r54_16, i6_lt0, i6_0lt, i6_0le, i6_le0, i6_eq0, b10_0, ite_not, Int.reduceLT, Int.reduceLE, Int.reduceEq, Int.reduceNeg, if_true, if_false, ite_true, ite_false, reduceIte, eq_self, not_true, not_false_eq_true]; try refine tc_ite (fun _ => ?_) (fun _ => ?_) <;> try (exfalso; omega)))
    all_goals first
      | exact hq
      | omega
theorem c56 (hR : LRd L sh) (hTP : TP (c 27) N) (h1 : c 70 1 = N) (h2 : c 70 2 = p) (hp0 : 0 ≤ p ∧ p ≤ N) {q o : Int} (hq0 : sk (c 27) N p = q) (ho : sop (byt (c 27) N q) = o) : tc_C 56 [rf 70] (hp L sh c) n Q = Q (some (.inl (if o = 0 then 0 else 1 - o))) (hp L sh (fr c 70 (fu (c 70) 2 (if o = 0 then q else q + 1)))) n := tc_det fun Q hq => by
  obtain ⟨hL, h70, h27, h71, h72, h73⟩ := hR
  have hL70 : 70 < L := by omega
  have hN := hTP.1
  have hs := nm_rng (g := c 27) hp0
  have hsq : sk (c 27) N q = q := by rw [← hq0]; exact sk_2 _ _ _
  have e1 := fun ch Q => c46_l (c := c) (n := n) (Q := Q) (ch := ch) h70 h27 hL hTP h1 h2 (by omega)
  rw [hq0] at e1 hs
  generalize hc1 : fr c 70 (fu (c 70) 2 q) = c1
  have a27 : c1 27 = c 27 := by rw [← hc1, fr_ne (by omega)]
  have e2 := fun ch Q => c46_l (c := c1) (n := n) (Q := Q) (N := N) (p := q) (ch := ch) h70 h27 hL (by rw [a27]; exact hTP) (by rw [← hc1, fr_same, fu_ne (by omega)]; exact h1) (by rw [← hc1, fr_same, fu_same]) (by omega)
  rw [a27, hsq] at e2
  have f1 : ∀ v, fr c1 70 (fu (c1 70) 2 v) = fr c 70 (fu (c 70) 2 v) := fun v => by rw [← hc1, fr_fr, fr_same, fu_fu]
  simp only [f1] at e2
  generalize byt (c 27) N q = b at ho e1 e2
  unfold sop at ho
  show tc_W 56 0 [rf 70] [] _ _ Q
  by_cases b1 : b = 42
  · rw [if_pos b1] at ho
    subst ho
    rw [if_neg (by omega), if_neg (by omega)] at hq
    have e1' := e1 42
    simp only [if_pos b1] at e1'
    repeat' (first | (simp (disch := first | omega | exact Nat.le_of_ble_eq_true rfl | exact rfl | assumption | (simp (disch := omega) only [fr_ne, fr_same]; first | assumption | omega)) only [r56_0, r56_1, r56_3, v56_3_2, r56_9, r56_11, r56_12, r56_13, r56_15, v56_15_2, r56_21, r56_23, r56_24, r56_25, r56_27, v56_27_2, r56_33, r56_35, r56_38, r56_39, il_s, bl_s, bl_z, ll_s, is_s, bs_s, bs_z, ls_s, al_s, al_b, al_l, fr_ne, fr_same, fr_fr, Nat.reduceEqDiff, tc_gf3_s, tc_ql2_s, tc_ws_0, tc_ws_i, tc_ws_l, tc_ws_r, Nat.reduceLeDiff, Nat.reduceAdd, Nat.reduceLT, true_and, and_true, if_true, if_false, tc_K, Option.toList_some, Option.toList_none, List.nil_append, List.cons_append, ite_true, ite_false, Int.cast_ofNat_Int, reduceIte, i3_add_eq, i3_sub_eq, Int.add_sub_cancel, Int.add_neg_cancel_right, hO hL70 h70, e1']) | (simp only [r56_6, r56_18, r56_30, i6_lt0, i6_0lt, i6_0le, i6_le0, i6_eq0, b10_0, ite_not, Int.reduceLT, Int.reduceLE, Int.reduceEq, Int.reduceNeg, if_true, if_false, ite_true, ite_false, reduceIte, eq_self, not_true, not_false_eq_true]; try refine tc_ite (fun _ => ?_) (fun _ => ?_) <;> try (exfalso; omega)))
    all_goals first
      | exact hq
      | omega
  rw [if_neg b1] at ho
  have e1' := e1 42
  simp only [if_neg b1, hc1] at e1'
  by_cases b2 : b = 47
  · rw [if_pos b2] at ho
    subst ho
    rw [if_neg (by omega), if_neg (by omega)] at hq
    have e2' := e2 47
    simp only [if_pos b2] at e2'
    repeat' (first | (simp (disch := first | omega | exact Nat.le_of_ble_eq_true rfl | exact rfl | assumption | (simp (disch := omega) only [fr_ne, fr_same]; first | assumption | omega)) only [r56_0, r56_1, r56_3, v56_3_2, r56_9, r56_11, r56_12, r56_13, r56_15, v56_15_2, r56_21, r56_23, r56_24, r56_25, r56_27, v56_27_2, r56_33, r56_35, r56_38, r56_39, il_s, bl_s, bl_z, ll_s, is_s, bs_s, bs_z, ls_s, al_s, al_b, al_l, fr_ne, fr_same, fr_fr, Nat.reduceEqDiff, tc_gf3_s, tc_ql2_s, tc_ws_0, tc_ws_i, tc_ws_l, tc_ws_r, Nat.reduceLeDiff, Nat.reduceAdd, Nat.reduceLT, true_and, and_true, if_true, if_false, tc_K, Option.toList_some, Option.toList_none, List.nil_append, List.cons_append, ite_true, ite_false, Int.cast_ofNat_Int, reduceIte, i3_add_eq, i3_sub_eq, Int.add_sub_cancel, Int.add_neg_cancel_right, hO hL70 h70, e1', e2']) | (simp only [r56_6, r56_18, r56_30, i6_lt0, i6_0lt, i6_0le, i6_le0, i6_eq0, b10_0, ite_not, Int.reduceLT, Int.reduceLE, Int.reduceEq, Int.reduceNeg, if_true, if_false, ite_true, ite_false, reduceIte, eq_self, not_true, not_false_eq_true]; try refine tc_ite (fun _ => ?_) (fun _ => ?_) <;> try (exfalso; omega)))
    all_goals first
      | exact hq
      | omega
  rw [if_neg b2] at ho
  have e2' := e2 47
  simp only [if_neg b2, hc1] at e2'
  by_cases b3 : b = 37
  · rw [if_pos b3] at ho
    subst ho
    rw [if_neg (by omega), if_neg (by omega)] at hq
    have e3' := e2 37
    simp only [if_pos b3] at e3'
    repeat' (first | (simp (disch := first | omega | exact Nat.le_of_ble_eq_true rfl | exact rfl | assumption | (simp (disch := omega) only [fr_ne, fr_same]; first | assumption | omega)) only [r56_0, r56_1, r56_3, v56_3_2, r56_9, r56_11, r56_12, r56_13, r56_15, v56_15_2, r56_21, r56_23, r56_24, r56_25, r56_27, v56_27_2, r56_33, r56_35, r56_38, r56_39, il_s, bl_s, bl_z, ll_s, is_s, bs_s, bs_z, ls_s, al_s, al_b, al_l, fr_ne, fr_same, fr_fr, Nat.reduceEqDiff, tc_gf3_s, tc_ql2_s, tc_ws_0, tc_ws_i, tc_ws_l, tc_ws_r, Nat.reduceLeDiff, Nat.reduceAdd, Nat.reduceLT, true_and, and_true, if_true, if_false, tc_K, Option.toList_some, Option.toList_none, List.nil_append, List.cons_append, ite_true, ite_false, Int.cast_ofNat_Int, reduceIte, i3_add_eq, i3_sub_eq, Int.add_sub_cancel, Int.add_neg_cancel_right, hO hL70 h70, e1', e2', e3']) | (simp only [r56_6, r56_18, r56_30, i6_lt0, i6_0lt, i6_0le, i6_le0, i6_eq0, b10_0, ite_not, Int.reduceLT, Int.reduceLE, Int.reduceEq, Int.reduceNeg, if_true, if_false, ite_true, ite_false, reduceIte, eq_self, not_true, not_false_eq_true]; try refine tc_ite (fun _ => ?_) (fun _ => ?_) <;> try (exfalso; omega)))
    all_goals first
      | exact hq
      | omega
  · rw [if_neg b3] at ho
    subst ho
    rw [if_pos rfl, if_pos rfl, hc1] at hq
    have e3' := e2 37
    simp only [if_neg b3, hc1] at e3'
    repeat' (first | (simp (disch := first | omega | exact Nat.le_of_ble_eq_true rfl | exact rfl | assumption | (simp (disch := omega) only [fr_ne, fr_same]; first | assumption | omega)) only [r56_0, r56_1, r56_3, v56_3_2, r56_9, r56_11, r56_12, r56_13, r56_15, v56_15_2, r56_21, r56_23, r56_24, r56_25, r56_27, v56_27_2, r56_33, r56_35, r56_38, r56_39, il_s, bl_s, bl_z, ll_s, is_s, bs_s, bs_z, ls_s, al_s, al_b, al_l, fr_ne, fr_same, fr_fr, Nat.reduceEqDiff, tc_gf3_s, tc_ql2_s, tc_ws_0, tc_ws_i, tc_ws_l, tc_ws_r, Nat.reduceLeDiff, Nat.reduceAdd, Nat.reduceLT, true_and, and_true, if_true, if_false, tc_K, Option.toList_some, Option.toList_none, List.nil_append, List.cons_append, ite_true, ite_false, Int.cast_ofNat_Int, reduceIte, i3_add_eq, i3_sub_eq, Int.add_sub_cancel, Int.add_neg_cancel_right, hO hL70 h70, e1', e2', e3']) | (simp only [r56_6, r56_18, r56_30, i6_lt0, i6_0lt, i6_0le, i6_le0, i6_eq0, b10_0, ite_not, Int.reduceLT, Int.reduceLE, Int.reduceEq, Int.reduceNeg, if_true, if_false, ite_true, ite_false, reduceIte, eq_self, not_true, not_false_eq_true]; try refine tc_ite (fun _ => ?_) (fun _ => ?_) <;> try (exfalso; omega)))
    all_goals first
      | exact hq
      | omega
theorem c57 (hR : LRd L sh) (hTP : TP (c 27) N) (h1 : c 70 1 = N) (h2 : c 70 2 = p) (hp0 : 0 ≤ p ∧ p ≤ N) {q o : Int} (hq0 : sk (c 27) N p = q) (ho : wop (byt (c 27) N q) = o) : tc_C 57 [rf 70] (hp L sh c) n Q = Q (some (.inl (if o = 0 then 0 else -8 - o))) (hp L sh (fr c 70 (fu (c 70) 2 (if o = 0 then q else q + 1)))) n := tc_det fun Q hq => by
  obtain ⟨hL, h70, h27, h71, h72, h73⟩ := hR
  have hL70 : 70 < L := by omega
  have hN := hTP.1
  have hs := nm_rng (g := c 27) hp0
  have hsq : sk (c 27) N q = q := by rw [← hq0]; exact sk_2 _ _ _
  have e1 := fun ch Q => c46_l (c := c) (n := n) (Q := Q) (ch := ch) h70 h27 hL hTP h1 h2 (by omega)
  rw [hq0] at e1 hs
  generalize hc1 : fr c 70 (fu (c 70) 2 q) = c1
  have a27 : c1 27 = c 27 := by rw [← hc1, fr_ne (by omega)]
  have e2 := fun ch Q => c46_l (c := c1) (n := n) (Q := Q) (N := N) (p := q) (ch := ch) h70 h27 hL (by rw [a27]; exact hTP) (by rw [← hc1, fr_same, fu_ne (by omega)]; exact h1) (by rw [← hc1, fr_same, fu_same]) (by omega)
  rw [a27, hsq] at e2
  have f1 : ∀ v, fr c1 70 (fu (c1 70) 2 v) = fr c 70 (fu (c 70) 2 v) := fun v => by rw [← hc1, fr_fr, fr_same, fu_fu]
  simp only [f1] at e2
  generalize byt (c 27) N q = b at ho e1 e2
  unfold wop at ho
  show tc_W 57 0 [rf 70] [] _ _ Q
  by_cases b1 : b = 43
  · rw [if_pos b1] at ho
    subst ho
    rw [if_neg (by omega), if_neg (by omega)] at hq
    have e1' := e1 43
    simp only [if_pos b1] at e1'
    repeat' (first | (simp (disch := first | omega | exact Nat.le_of_ble_eq_true rfl | exact rfl | assumption | (simp (disch := omega) only [fr_ne, fr_same]; first | assumption | omega)) only [r57_0, r57_1, r57_3, v57_3_2, r57_9, r57_11, r57_12, r57_13, r57_15, v57_15_2, r57_21, r57_23, r57_26, r57_27, il_s, bl_s, bl_z, ll_s, is_s, bs_s, bs_z, ls_s, al_s, al_b, al_l, fr_ne, fr_same, fr_fr, Nat.reduceEqDiff, tc_gf3_s, tc_ql2_s, tc_ws_0, tc_ws_i, tc_ws_l, tc_ws_r, Nat.reduceLeDiff, Nat.reduceAdd, Nat.reduceLT, true_and, and_true, if_true, if_false, tc_K, Option.toList_some, Option.toList_none, List.nil_append, List.cons_append, ite_true, ite_false, Int.cast_ofNat_Int, reduceIte, i3_add_eq, i3_sub_eq, Int.add_sub_cancel, Int.add_neg_cancel_right, hO hL70 h70, e1']) | (simp only [r57_6, r57_18, i6_lt0, i6_0lt, i6_0le, i6_le0, i6_eq0, b10_0, ite_not, Int.reduceLT, Int.reduceLE, Int.reduceEq, Int.reduceNeg, if_true, if_false, ite_true, ite_false, reduceIte, eq_self, not_true, not_false_eq_true]; try refine tc_ite (fun _ => ?_) (fun _ => ?_) <;> try (exfalso; omega)))
    all_goals first
      | exact hq
      | omega
  rw [if_neg b1] at ho
  have e1' := e1 43
  simp only [if_neg b1, hc1] at e1'
  by_cases b2 : b = 45
  · rw [if_pos b2] at ho
    subst ho
    rw [if_neg (by omega), if_neg (by omega)] at hq
    have e2' := e2 45
    simp only [if_pos b2] at e2'
    repeat' (first | (simp (disch := first | omega | exact Nat.le_of_ble_eq_true rfl | exact rfl | assumption | (simp (disch := omega) only [fr_ne, fr_same]; first | assumption | omega)) only [r57_0, r57_1, r57_3, v57_3_2, r57_9, r57_11, r57_12, r57_13, r57_15, v57_15_2, r57_21, r57_23, r57_26, r57_27, il_s, bl_s, bl_z, ll_s, is_s, bs_s, bs_z, ls_s, al_s, al_b, al_l, fr_ne, fr_same, fr_fr, Nat.reduceEqDiff, tc_gf3_s, tc_ql2_s, tc_ws_0, tc_ws_i, tc_ws_l, tc_ws_r, Nat.reduceLeDiff, Nat.reduceAdd, Nat.reduceLT, true_and, and_true, if_true, if_false, tc_K, Option.toList_some, Option.toList_none, List.nil_append, List.cons_append, ite_true, ite_false, Int.cast_ofNat_Int, reduceIte, i3_add_eq, i3_sub_eq, Int.add_sub_cancel, Int.add_neg_cancel_right, hO hL70 h70, e1', e2']) | (simp only [r57_6, r57_18, i6_lt0, i6_0lt, i6_0le, i6_le0, i6_eq0, b10_0, ite_not, Int.reduceLT, Int.reduceLE, Int.reduceEq, Int.reduceNeg, if_true, if_false, ite_true, ite_false, reduceIte, eq_self, not_true, not_false_eq_true]; try refine tc_ite (fun _ => ?_) (fun _ => ?_) <;> try (exfalso; omega)))
    all_goals first
      | exact hq
      | omega
  · rw [if_neg b2] at ho
    subst ho
    rw [if_pos rfl, if_pos rfl, hc1] at hq
    have e2' := e2 45
    simp only [if_neg b2, hc1] at e2'
    repeat' (first | (simp (disch := first | omega | exact Nat.le_of_ble_eq_true rfl | exact rfl | assumption | (simp (disch := omega) only [fr_ne, fr_same]; first | assumption | omega)) only [r57_0, r57_1, r57_3, v57_3_2, r57_9, r57_11, r57_12, r57_13, r57_15, v57_15_2, r57_21, r57_23, r57_26, r57_27, il_s, bl_s, bl_z, ll_s, is_s, bs_s, bs_z, ls_s, al_s, al_b, al_l, fr_ne, fr_same, fr_fr, Nat.reduceEqDiff, tc_gf3_s, tc_ql2_s, tc_ws_0, tc_ws_i, tc_ws_l, tc_ws_r, Nat.reduceLeDiff, Nat.reduceAdd, Nat.reduceLT, true_and, and_true, if_true, if_false, tc_K, Option.toList_some, Option.toList_none, List.nil_append, List.cons_append, ite_true, ite_false, Int.cast_ofNat_Int, reduceIte, i3_add_eq, i3_sub_eq, Int.add_sub_cancel, Int.add_neg_cancel_right, hO hL70 h70, e1', e2']) | (simp only [r57_6, r57_18, i6_lt0, i6_0lt, i6_0le, i6_le0, i6_eq0, b10_0, ite_not, Int.reduceLT, Int.reduceLE, Int.reduceEq, Int.reduceNeg, if_true, if_false, ite_true, ite_false, reduceIte, eq_self, not_true, not_false_eq_true]; try refine tc_ite (fun _ => ?_) (fun _ => ?_) <;> try (exfalso; omega)))
    all_goals first
      | exact hq
      | omega
end LAWC

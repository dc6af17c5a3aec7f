/-! what a scene of the class and the reference's rows have in common -/
section IMAGEM
variable {L : Nat} {sh : Nat → SH} {c : Nat → Int → Int} {n : Nat} {Q : Option AV → List SC → Nat → Prop}
theorem c277 (hS : MS L sh) {k : Int} (hk : 0 ≤ k ∧ k ≤ 3) (hq : ∀ e, KP (1500 * k) 1441 (fr (fr c 114 (fu (c 114) k 1)) 108 (fu (c 108) 0 (c 75 45))) e → Q (some (.inl (c 76 8))) (hp L sh e) n) : tc_C 277 [rf 75, .inl k] (hp L sh c) n Q := by
  show tc_W 277 0 [rf 75, .inl k] [] _ _ Q
  repeat' (first | (simp (disch := first | omega | exact Nat.le_of_ble_eq_true rfl | exact rfl | assumption | (simp only [fr_at, Nat.reduceEqDiff, if_false, if_true, reduceIte]; first | assumption | omega)) only [r277_0, r277_1, r277_2, r277_3, r277_6, r277_12, r277_13, r277_14, r277_15, r277_18, r277_19, r277_20, r277_21, r277_22, r277_23, r277_24, v277_24_11, r277_27, r277_28, r277_31, r277_33, r277_34, g11_130_11, g11_9_11, mo_len, ms75 hS, mt75 hS, mo_g55, ms114 hS, mt114 hS, mo_g1, ms76 hS, mt76 hS, il_s, bl_s, bl_z, ll_s, is_s, bs_s, bs_z, ls_s, al_s, al_b, al_l, fr_at, fr_fr, Nat.reduceEqDiff, tc_gf3_s, tc_ql2_s, tc_ws_0, tc_ws_i, tc_ws_l, tc_ws_r, Nat.reduceLeDiff, Nat.reduceAdd, Nat.reduceLT, true_and, and_true, if_true, if_false, tc_K, Option.toList_some, Option.toList_none, List.nil_append, List.cons_append, ite_true, ite_false, Int.cast_ofNat_Int, reduceIte, i3_add_eq, i3_sub_eq, Int.add_sub_cancel, Int.add_neg_cancel_right, c181]) | (simp only [r277_9, i6_lt0, i6_0lt, i6_0le, i6_le0, i6_eq0, b10_0, ite_not, Int.reduceLT, Int.reduceLE, Int.reduceEq, Int.reduceNeg, if_true, if_false, ite_true, ite_false, reduceIte, eq_self, not_true, not_false_eq_true]; try refine tc_ite (fun _ => ?_) (fun _ => ?_) <;> try (exfalso; omega)))
  all_goals try omega
  refine c242K hS hk ?_
  intro e he
  have he' : KP (1500 * k) 1441 (fr (fr c 114 (fu (c 114) k 1)) 108 (fu (c 108) 0 (c 75 45))) e := he
  have h8 : e 76 8 = c 76 8 := by rw [he'.1 76 (by omega) (by omega), fr_ne (by omega), fr_ne (by omega)]
  repeat' (first | (simp (disch := first | omega | exact Nat.le_of_ble_eq_true rfl | exact rfl | assumption | (simp only [fr_at, Nat.reduceEqDiff, if_false, if_true, reduceIte]; first | assumption | omega)) only [r277_0, r277_1, r277_2, r277_3, r277_6, r277_12, r277_13, r277_14, r277_15, r277_18, r277_19, r277_20, r277_21, r277_22, r277_23, r277_24, v277_24_11, r277_27, r277_28, r277_31, r277_33, r277_34, g11_130_11, g11_9_11, mo_len, ms75 hS, mt75 hS, mo_g55, ms114 hS, mt114 hS, mo_g1, ms76 hS, mt76 hS, il_s, bl_s, bl_z, ll_s, is_s, bs_s, bs_z, ls_s, al_s, al_b, al_l, fr_at, fr_fr, Nat.reduceEqDiff, tc_gf3_s, tc_ql2_s, tc_ws_0, tc_ws_i, tc_ws_l, tc_ws_r, Nat.reduceLeDiff, Nat.reduceAdd, Nat.reduceLT, true_and, and_true, if_true, if_false, tc_K, Option.toList_some, Option.toList_none, List.nil_append, List.cons_append, ite_true, ite_false, Int.cast_ofNat_Int, reduceIte, i3_add_eq, i3_sub_eq, Int.add_sub_cancel, Int.add_neg_cancel_right, h8]) | (simp only [r277_9, i6_lt0, i6_0lt, i6_0le, i6_le0, i6_eq0, b10_0, ite_not, Int.reduceLT, Int.reduceLE, Int.reduceEq, Int.reduceNeg, if_true, if_false, ite_true, ite_false, reduceIte, eq_self, not_true, not_false_eq_true]; try refine tc_ite (fun _ => ?_) (fun _ => ?_) <;> try (exfalso; omega)))
  exact hq e he'
theorem c278 (hS : MS L sh) {k : Int} (hk : 0 ≤ k ∧ k ≤ 3) (h4 : ¬ c 114 k = 0) (hq : ∀ e, (∀ b, ¬ b = 75 → ¬ b = 76 → ¬ b = 77 → ¬ b = 78 → ¬ b = 79 → ¬ b = 80 → ¬ b = 81 → ¬ b = 82 → ¬ b = 83 → ¬ b = 84 → ¬ b = 85 → ¬ b = 86 → ¬ b = 87 → ¬ b = 88 → ¬ b = 107 → ¬ b = 108 → e b = c b) → (∀ i, ¬ i = 45 → ¬ i = 56 → ¬ i = 57 → e 75 i = c 75 i) → e 75 45 = c 113 (1500 * k + 75) → (∀ j, 0 ≤ j → j < 1441 → IM e j = c 113 (1500 * k + j)) → Q (some (.inl (e 76 8))) (hp L sh e) n) : tc_C 278 [rf 75, .inl k] (hp L sh c) n Q := by
  show tc_W 278 0 [rf 75, .inl k] [] _ _ Q
  repeat' (first | (simp (disch := first | omega | exact Nat.le_of_ble_eq_true rfl | exact rfl | assumption | (simp only [fr_at, Nat.reduceEqDiff, if_false, if_true, reduceIte]; first | assumption | omega)) only [r278_0, r278_1, r278_2, r278_3, r278_6, r278_12, r278_13, r278_16, r278_17, r278_21, r278_22, r278_23, r278_24, r278_25, r278_26, v278_26_11, r278_29, r278_30, r278_33, r278_35, r278_36, g11_130_11, g11_9_11, mo_len, ms75 hS, mt75 hS, mo_g55, ms114 hS, mt114 hS, mo_g1, ms76 hS, mt76 hS, il_s, bl_s, bl_z, ll_s, is_s, bs_s, bs_z, ls_s, al_s, al_b, al_l, fr_at, fr_fr, Nat.reduceEqDiff, tc_gf3_s, tc_ql2_s, tc_ws_0, tc_ws_i, tc_ws_l, tc_ws_r, Nat.reduceLeDiff, Nat.reduceAdd, Nat.reduceLT, true_and, and_true, if_true, if_false, tc_K, Option.toList_some, Option.toList_none, List.nil_append, List.cons_append, ite_true, ite_false, Int.cast_ofNat_Int, reduceIte, i3_add_eq, i3_sub_eq, Int.add_sub_cancel, Int.add_neg_cancel_right, c181]) | (simp only [r278_9, r278_18, i6_lt0, i6_0lt, i6_0le, i6_le0, i6_eq0, b10_0, ite_not, Int.reduceLT, Int.reduceLE, Int.reduceEq, Int.reduceNeg, if_true, if_false, ite_true, ite_false, reduceIte, eq_self, not_true, not_false_eq_true]; try refine tc_ite (fun _ => ?_) (fun _ => ?_) <;> try (exfalso; omega)))
  all_goals try omega
  refine c242B hS hk ?_
  intro e k1 k2 k3 k4
  have hq' := hq e k1 k2 k3 k4
  repeat' (first | (simp (disch := first | omega | exact Nat.le_of_ble_eq_true rfl | exact rfl | assumption | (simp only [fr_at, Nat.reduceEqDiff, if_false, if_true, reduceIte]; first | assumption | omega)) only [r278_0, r278_1, r278_2, r278_3, r278_6, r278_12, r278_13, r278_16, r278_17, r278_21, r278_22, r278_23, r278_24, r278_25, r278_26, v278_26_11, r278_29, r278_30, r278_33, r278_35, r278_36, g11_130_11, g11_9_11, mo_len, ms75 hS, mt75 hS, mo_g55, ms114 hS, mt114 hS, mo_g1, ms76 hS, mt76 hS, il_s, bl_s, bl_z, ll_s, is_s, bs_s, bs_z, ls_s, al_s, al_b, al_l, fr_at, fr_fr, Nat.reduceEqDiff, tc_gf3_s, tc_ql2_s, tc_ws_0, tc_ws_i, tc_ws_l, tc_ws_r, Nat.reduceLeDiff, Nat.reduceAdd, Nat.reduceLT, true_and, and_true, if_true, if_false, tc_K, Option.toList_some, Option.toList_none, List.nil_append, List.cons_append, ite_true, ite_false, Int.cast_ofNat_Int, reduceIte, i3_add_eq, i3_sub_eq, Int.add_sub_cancel, Int.add_neg_cancel_right]) | (simp only [r278_9, r278_18, i6_lt0, i6_0lt, i6_0le, i6_le0, i6_eq0, b10_0, ite_not, Int.reduceLT, Int.reduceLE, Int.reduceEq, Int.reduceNeg, if_true, if_false, ite_true, ite_false, reduceIte, eq_self, not_true, not_false_eq_true]; try refine tc_ite (fun _ => ?_) (fun _ => ?_) <;> try (exfalso; omega)))
  exact hq'
end IMAGEM
def BRG (b b' : Nat → Int → Int) : Prop := (∀ k, 0 ≤ k → k ≤ 7 → b' 0 k = b 0 k) ∧ (∀ f, 0 ≤ f → f < 6 → f < b 0 2 → b' 1 f = b 1 f ∧ b' 2 f = b 2 f ∧ b' 5 f = b 5 f) ∧ (∀ k, 0 ≤ k → k < 12 → k < b 0 3 → b' 3 k = b 3 k) ∧ (∀ x, 0 ≤ x → x < 25 → b' 4 x = b 4 x)
section CONG
variable {b b' s t c : Nat → Int → Int} {k : Prop} {r : Nat}
theorem WS.br (h : BRG b b') (hw : WS b s) : WS b' s := by
  unfold WS
  rw [h.1 0 (by omega) (by omega), h.1 1 (by omega) (by omega), h.1 2 (by omega) (by omega)]
  exact hw
theorem SAN.br (h : BRG b b') (hw : SAN k b r c s) : SAN k b' r c s := by
  unfold SAN
  rw [h.1 0 (by omega) (by omega), h.1 1 (by omega) (by omega), h.1 2 (by omega) (by omega)]
  exact hw
theorem SEq.br (h : BRG b b') (hw : SEq b s t) : SEq b' s t := by
  unfold SEq
  rw [h.1 0 (by omega) (by omega), h.1 1 (by omega) (by omega), h.1 2 (by omega) (by omega)]
  exact hw
theorem SAN.sq (h : SAN k b r c s) (e : SEq b s t) : SAN k b r c t := by
  refine ⟨fun x h1 h2 => ?_, fun f h1 h2 => ?_, ?_, ?_, ?_, ?_⟩
  · rw [← (e.1 x h1 h2).1]; exact h.1 x h1 h2
  · rw [← (e.2.1 f h1 h2).1, ← (e.2.1 f h1 h2).2]; exact h.2.1 f h1 h2
  · rw [h.2.2.1, mk_ext (p := stn (s 3)) (q := stn (t 3)) fun j h1 h2 => by unfold stn; rw [(e.2.1 j h1 (by omega)).2]]
  · rw [h.2.2.2.1, mk_ext (p := fun x => decide (s 1 x = 1)) (q := fun x => decide (t 1 x = 1)) fun j h1 h2 => by simp only [(e.1 j h1 (by omega)).2]]
  · rw [h.2.2.2.2.1]; exact e.2.2.2
  · rw [h.2.2.2.2.2]; exact e.2.2.1
theorem WB.br (h : BRG b b') (hb : WB b) : WB b' := by
  have hN := hb.n25
  obtain ⟨h1, h2, h3, h4, h5, h6⟩ := hb
  obtain ⟨r0, r1, r2, r3⟩ := h
  unfold WB
  rw [r0 0 (by omega) (by omega), r0 1 (by omega) (by omega), r0 2 (by omega) (by omega), r0 3 (by omega) (by omega), r0 5 (by omega) (by omega), r0 6 (by omega) (by omega), r0 7 (by omega) (by omega)]
  refine ⟨h1, h2, h3, fun f f1 f2 => ?_, fun k k1 k2 => ?_, fun x x1 x2 => ?_⟩
  · obtain ⟨q1, q2, q3⟩ := r1 f f1 (by omega) f2
    rw [q1, q2, q3]
    exact h4 f f1 f2
  · rw [r2 k k1 (by omega) k2]
    exact h5 k k1 k2
  · rw [r3 x x1 (by omega)]
    exact h6 x x1 x2
theorem SHO.br (h : BRG b b') (hb : WB b) (hs : SHO b r c) : SHO b' r c := by
  have hN := hb.n25
  have hb2 := hb.2.1
  obtain ⟨h1, h2, h3, h4, h5, h6⟩ := hs
  obtain ⟨r0, r1, r2, r3⟩ := h
  unfold SHO
  rw [r0 0 (by omega) (by omega), r0 1 (by omega) (by omega), r0 2 (by omega) (by omega), r0 3 (by omega) (by omega), r0 5 (by omega) (by omega), r0 6 (by omega) (by omega), r0 7 (by omega) (by omega)]
  refine ⟨h1, h2, fun f f1 f2 => ?_, fun k k1 k2 => ?_, h5, fun x x1 x2 => ?_⟩
  · obtain ⟨q1, q2, q3⟩ := r1 f f1 (by omega) f2
    rw [q1, q2, q3]
    exact h3 f f1 f2
  · rw [r2 k k1 (by omega) k2]
    exact h4 k k1 k2
  · rw [r3 x x1 (by omega)]
    exact h6 x x1 x2
end CONG
/-- the rows of an image -/
def IMR (d e : Nat → Int → Int) : Prop := (∀ i, 0 ≤ i → i < 13 → e 76 i = d 76 i) ∧ (∀ x, 0 ≤ x → x < 25 → e 77 x = d 77 x ∧ e 78 x = d 78 x ∧ e 87 x = d 87 x) ∧ (∀ f, 0 ≤ f → f < 6 → e 79 f = d 79 f ∧ e 82 f = d 82 f ∧ e 80 f = d 80 f ∧ e 81 f = d 81 f ∧ e 88 f = d 88 f) ∧ (∀ k, 0 ≤ k → k < 12 → e 83 k = d 83 k) ∧ (∀ k, 0 ≤ k → k < 10 → e 84 k = d 84 k ∧ e 85 k = d 85 k ∧ e 86 k = d 86 k) ∧ (∀ j, 0 ≤ j → j < 1280 → e 107 j = d 107 j)
theorem IMR.of {d e : Nat → Int → Int} (h : ∀ j, 0 ≤ j → j < 1441 → IM e j = IM d j) : IMR d e ∧ e 108 0 = d 108 0 := by
  have q : ∀ (lo i : Int), 0 ≤ i → 0 ≤ lo → lo + i < 1441 → IM e (lo + i) = IM d (lo + i) := fun lo i h1 h2 h3 => h _ (by omega) h3
  refine ⟨⟨fun i i1 i2 => ?_, fun i i1 i2 => ⟨?_, ?_, ?_⟩, fun i i1 i2 => ⟨?_, ?_, ?_, ?_, ?_⟩, fun i i1 i2 => ?_, fun i i1 i2 => ⟨?_, ?_, ?_⟩, fun i i1 i2 => ?_⟩, ?_⟩
  · have := q 0 i i1 (by omega) (by omega)
    unfold IM at this
    simp (disch := omega) only [if_pos, if_neg, Int.zero_add] at this
    exact this
  · have := q 13 i i1 (by omega) (by omega)
    unfold IM at this
    simp (disch := omega) only [if_pos, if_neg] at this
    rw [show 13 + i - 13 = i by omega] at this
    exact this
  · have := q 38 i i1 (by omega) (by omega)
    unfold IM at this
    simp (disch := omega) only [if_pos, if_neg] at this
    rw [show 38 + i - 38 = i by omega] at this
    exact this
  · have := q 130 i i1 (by omega) (by omega)
    unfold IM at this
    simp (disch := omega) only [if_pos, if_neg] at this
    rw [show 130 + i - 130 = i by omega] at this
    exact this
  · have := q 63 i i1 (by omega) (by omega)
    unfold IM at this
    simp (disch := omega) only [if_pos, if_neg] at this
    rw [show 63 + i - 63 = i by omega] at this
    exact this
  · have := q 69 i i1 (by omega) (by omega)
    unfold IM at this
    simp (disch := omega) only [if_pos, if_neg] at this
    rw [show 69 + i - 69 = i by omega] at this
    exact this
  · have := q 76 i i1 (by omega) (by omega)
    unfold IM at this
    simp (disch := omega) only [if_pos, if_neg] at this
    rw [show 76 + i - 76 = i by omega] at this
    exact this
  · have := q 82 i i1 (by omega) (by omega)
    unfold IM at this
    simp (disch := omega) only [if_pos, if_neg] at this
    rw [show 82 + i - 82 = i by omega] at this
    exact this
  · have := q 155 i i1 (by omega) (by omega)
    unfold IM at this
    simp (disch := omega) only [if_pos, if_neg] at this
    rw [show 155 + i - 155 = i by omega] at this
    exact this
  · have := q 88 i i1 (by omega) (by omega)
    unfold IM at this
    simp (disch := omega) only [if_pos, if_neg] at this
    rw [show 88 + i - 88 = i by omega] at this
    exact this
  · have := q 100 i i1 (by omega) (by omega)
    unfold IM at this
    simp (disch := omega) only [if_pos, if_neg] at this
    rw [show 100 + i - 100 = i by omega] at this
    exact this
  · have := q 110 i i1 (by omega) (by omega)
    unfold IM at this
    simp (disch := omega) only [if_pos, if_neg] at this
    rw [show 110 + i - 110 = i by omega] at this
    exact this
  · have := q 120 i i1 (by omega) (by omega)
    unfold IM at this
    simp (disch := omega) only [if_pos, if_neg] at this
    rw [show 120 + i - 120 = i by omega] at this
    exact this
  · have := q 161 i i1 (by omega) (by omega)
    unfold IM at this
    simp (disch := omega) only [if_pos, if_neg] at this
    rw [show 161 + i - 161 = i by omega] at this
    exact this
  · exact h 75 (by omega) (by omega)
/-- a scene of the class (hd, nw, pa, lg, s, D) is the reference's state d with P acts -/
def CON (W m : Int) (c : Nat → Int → Int) (hd nw pa lg s : Nat) (D : Nat → Option Nat) (P : Int) (d : Nat → Int → Int) : Prop :=
  (c hd 4 = d 76 12 ∧ -1 ≤ d 76 12 ∧ d 76 12 < m) ∧ (c hd 5 = d 76 11 ∧ 0 ≤ d 76 11 ∧ d 76 11 < 2147483648) ∧
  (c lg 3 = d 76 10 ∧ LGI d ∧ ∀ k, 0 ≤ k → k < 10 → c (lg + 1) k = d 84 k ∧ c (lg + 2) k = d 85 k ∧ c (lg + 3) k = d 86 k) ∧
  (c pa 1 = P ∧ 0 ≤ P ∧ P ≤ 20) ∧
  (WS (bm d) (pm d) ∧ SAN True (bm d) nw c (pm d) ∧ d 76 8 ≤ W) ∧
  (∀ i : Nat, (i : Int) < P → ∃ y, D i = some y ∧ WS (bm d) (pv (d 107) i) ∧ SAN True (bm d) y c (pv (d 107) i) ∧ pv (d 107) i 4 0 ≤ W) ∧
  ((WB (bm d) ∧ SHO (bm d) s c) ∨ ((d 76 0 = 0 ∧ d 76 1 = 0 ∧ d 76 2 = 0 ∧ d 76 3 = 0) ∧ c s 0 = 0 ∧ c s 1 = 0 ∧ c s 2 = 0 ∧ c s 3 = 0 ∧ c s 4 = 0))
theorem IMR.bm {d e : Nat → Int → Int} (h : IMR d e) : BRG (bm d) (bm e) := ⟨fun k k1 k2 => h.1 k k1 (by omega), fun f f1 f2 _ => ⟨(h.2.2.1 f f1 f2).2.2.1, (h.2.2.1 f f1 f2).2.2.2.1, (h.2.2.1 f f1 f2).2.2.2.2⟩, fun k k1 k2 _ => h.2.2.2.1 k k1 k2, fun x x1 x2 => (h.2.1 x x1 x2).2.2⟩
section CONS
variable {W m P : Int} {c d e : Nat → Int → Int} {hd nw pa lg s : Nat} {D : Nat → Option Nat}
theorem CON.dm (h : CON W m c hd nw pa lg s D P d) : DM (d 76) ∧ 0 ≤ d 76 0 * d 76 1 ∧ d 76 0 * d 76 1 ≤ 25 := by
  rcases h.2.2.2.2.2.2 with q | q
  · exact ⟨q.1.dm.1, q.1.n25⟩
  · obtain ⟨⟨q0, q1, q2, q3⟩, _⟩ := q
    refine ⟨?_, ?_⟩
    · unfold DM; omega
    · rw [q0, q1]; omega
theorem CON.cg (hr : IMR d e) (h : CON W m c hd nw pa lg s D P d) : CON W m c hd nw pa lg s D P e := by
  have hdm := h.dm
  obtain ⟨⟨⟨_, _, _, _⟩, _, hd6, _, _⟩, hN, hN2⟩ := hdm
  obtain ⟨h1, h2, ⟨h3, h4, h5⟩, h6, ⟨h7, h8, h9⟩, h10, h11⟩ := h
  have hb := hr.bm
  obtain ⟨r1, r2, r3, r4, r5, r6⟩ := hr
  have sq : SEq (bm d) (pm d) (pm e) := ⟨fun x x1 x2 => ⟨(r2 x x1 (by have : x < d 76 0 * d 76 1 := x2; omega)).1.symm, (r2 x x1 (by have : x < d 76 0 * d 76 1 := x2; omega)).2.1.symm⟩, fun f f1 f2 => ⟨(r3 f f1 (by have : f < d 76 2 := f2; omega)).1.symm, (r3 f f1 (by have : f < d 76 2 := f2; omega)).2.1.symm⟩, (r1 8 (by omega) (by omega)).symm, (r1 9 (by omega) (by omega)).symm⟩
  have sp : ∀ i : Nat, i < 20 → SEq (bm d) (pv (d 107) i) (pv (e 107) i) := fun i hi => by
    refine ⟨fun x x1 x2 => ?_, fun f f1 f2 => ?_, (r6 _ (by omega) (by omega)).symm, (r6 _ (by omega) (by omega)).symm⟩
    · have x2 : x < d 76 0 * d 76 1 := x2
      exact ⟨(r6 _ (by omega) (by omega)).symm, (r6 _ (by omega) (by omega)).symm⟩
    · have f2 : f < d 76 2 := f2
      exact ⟨(r6 _ (by omega) (by omega)).symm, (r6 _ (by omega) (by omega)).symm⟩
  refine ⟨?_, ?_, ⟨?_, ?_, fun k k1 k2 => ?_⟩, h6, ⟨WS.br hb (WS.of sq h7), SAN.br hb (h8.sq sq), ?_⟩, fun i hi => ?_, ?_⟩
  · rw [r1 12 (by omega) (by omega)]; exact h1
  · rw [r1 11 (by omega) (by omega)]; exact h2
  · rw [r1 10 (by omega) (by omega)]; exact h3
  · unfold LGI at h4 ⊢
    rw [r1 10 (by omega) (by omega), r1 0 (by omega) (by omega), r1 1 (by omega) (by omega)]
    refine ⟨h4.1, h4.2.1, fun k k1 k2 => ?_⟩
    obtain ⟨q1, q2, q3⟩ := r5 k k1 (by omega)
    rw [q1, q2, q3]
    exact h4.2.2 k k1 k2
  · obtain ⟨q1, q2, q3⟩ := r5 k k1 k2
    rw [q1, q2, q3]
    exact h5 k k1 k2
  · rw [r1 8 (by omega) (by omega)]; exact h9
  · obtain ⟨y, y1, y2, y3, y4⟩ := h10 i hi
    have sp := sp i (by omega)
    exact ⟨y, y1, WS.br hb (WS.of sp y2), SAN.br hb (y3.sq sp), by rw [← sp.2.2.1]; exact y4⟩
  · rcases h11 with q | q
    · exact Or.inl ⟨WB.br hb q.1, SHO.br hb q.1 q.2⟩
    · rw [r1 0 (by omega) (by omega), r1 1 (by omega) (by omega), r1 2 (by omega) (by omega), r1 3 (by omega) (by omega)]
      exact Or.inr q
theorem CON.mono {W' m' : Int} (hW : W ≤ W') (hm : m ≤ m') (h : CON W m c hd nw pa lg s D P d) : CON W' m' c hd nw pa lg s D P d := by
  obtain ⟨h1, h2, h3, h6, ⟨h7, h8, h9⟩, h10, h11⟩ := h
  refine ⟨by omega, h2, h3, h6, ⟨h7, h8, by omega⟩, fun i hi => ?_, h11⟩
  obtain ⟨y, y1, y2, y3, y4⟩ := h10 i hi
  exact ⟨y, y1, y2, y3, by omega⟩
theorem CON.fr {c' : Nat → Int → Int} (h : CON W m c hd nw pa lg s D P d) (f1 : c' hd = c hd) (f2 : ∀ a, nw ≤ a → a ≤ nw + 3 → c' a = c a) (f3 : c' pa = c pa) (f4 : ∀ a, lg ≤ a → a ≤ lg + 3 → c' a = c a) (f5 : ∀ a, s ≤ a → a ≤ s + 7 → c' a = c a) (f6 : ∀ i y, i < 20 → D i = some y → ∀ a, y ≤ a → a ≤ y + 3 → c' a = c a) : CON W m c' hd nw pa lg s D P d := by
  obtain ⟨h1, h2, ⟨h3, h4, h5⟩, h6, ⟨h7, h8, h9⟩, h10, h11⟩ := h
  refine ⟨by rw [f1]; exact h1, by rw [f1]; exact h2, ⟨by rw [f4 lg (by omega) (by omega)]; exact h3, h4, fun k k1 k2 => ?_⟩, by rw [f3]; exact h6, ⟨h7, h8.fr (f2 _ (by omega) (by omega)) (f2 _ (by omega) (by omega)) (f2 _ (by omega) (by omega)) (f2 _ (by omega) (by omega)), h9⟩, fun i hi => ?_, ?_⟩
  · rw [f4 (lg + 1) (by omega) (by omega), f4 (lg + 2) (by omega) (by omega), f4 (lg + 3) (by omega) (by omega)]
    exact h5 k k1 k2
  · obtain ⟨y, y1, y2, y3, y4⟩ := h10 i hi
    have g := f6 i y (by omega) y1
    exact ⟨y, y1, y2, y3.fr (g _ (by omega) (by omega)) (g _ (by omega) (by omega)) (g _ (by omega) (by omega)) (g _ (by omega) (by omega)), y4⟩
  · rcases h11 with q | q
    · exact Or.inl ⟨q.1, q.2.fr f5⟩
    · rw [f5 s (by omega) (by omega)]
      exact Or.inr q
end CONS

/-! WAVES in a row, as numbers -/
def BEq (b b' : Nat → Int → Int) : Prop := (∀ k, 0 ≤ k → k ≤ 7 → b 0 k = b' 0 k) ∧ ∀ a, ¬ a = 0 → b a = b' a
theorem BEq.refl (b : Nat → Int → Int) : BEq b b := ⟨fun _ _ _ => rfl, fun _ _ => rfl⟩
theorem BEq.symm {b b' : Nat → Int → Int} (h : BEq b b') : BEq b' b := ⟨fun k h1 h2 => (h.1 k h1 h2).symm, fun a h1 => (h.2 a h1).symm⟩
theorem BEq.trans {b b' b2 : Nat → Int → Int} (h : BEq b b') (k : BEq b' b2) : BEq b b2 := ⟨fun i h1 h2 => (h.1 i h1 h2).trans (k.1 i h1 h2), fun a h1 => (h.2 a h1).trans (k.2 a h1)⟩
theorem stp_beq {b b' : Nat → Int → Int} (h : BEq b b') (s : Nat → Int → Int) (la : Option Law) (F : Int) : stp b s la F = stp b' s la F := by
  have e0 := h.1 0 (by omega) (by omega)
  have e1 := h.1 1 (by omega) (by omega)
  have e2 := h.1 2 (by omega) (by omega)
  have e3 := h.2 1 (by omega)
  have e4 := h.2 2 (by omega)
  have ew : ∀ g x, wds b s F g x = wds b' s F g x := fun g x => by
    funext k
    unfold wds
    rw [e0, e1, e2]
  have et : ∀ g, tks b s la F g = tks b' s la F g := fun g => by
    funext x
    unfold tks
    rw [ew]
  have eh : ∀ g, nhs b s la F g = nhs b' s la F g := fun g => by
    funext x
    unfold nhs
    rw [et]
  have en : ∀ g, nes b s la F g = nes b' s la F g := fun g => by
    funext x
    unfold nes
    rw [eh, e3]
  have em : ∀ g, mks b s la F g = mks b' s la F g := fun g => by
    funext x
    unfold mks
    rw [en, e4]
  have es : sgb b s F = sgb b' s F := by
    unfold sgb
    rw [e0, e1]
  unfold stp
  rw [es, eh, en, em, e2]
theorem SEq.beq {b b' s t : Nat → Int → Int} (h : BEq b b') (k : SEq b s t) : SEq b' s t := by
  have e0 := h.1 0 (by omega) (by omega)
  have e1 := h.1 1 (by omega) (by omega)
  have e2 := h.1 2 (by omega) (by omega)
  unfold SEq
  rw [← e0, ← e1, ← e2]
  exact k
theorem WS.beq {b b' s : Nat → Int → Int} (h : BEq b b') (k : WS b s) : WS b' s := by
  have e0 := h.1 0 (by omega) (by omega)
  have e1 := h.1 1 (by omega) (by omega)
  have e2 := h.1 2 (by omega) (by omega)
  unfold WS
  rw [← e0, ← e1, ← e2]
  exact k
theorem WB.beq {b b' : Nat → Int → Int} (h : BEq b b') (k : WB b) : WB b' := by
  unfold WB
  rw [← h.1 0 (by omega) (by omega), ← h.1 1 (by omega) (by omega), ← h.1 2 (by omega) (by omega), ← h.1 3 (by omega) (by omega), ← h.1 5 (by omega) (by omega), ← h.1 6 (by omega) (by omega), ← h.1 7 (by omega) (by omega), ← h.2 1 (by omega), ← h.2 2 (by omega), ← h.2 3 (by omega), ← h.2 4 (by omega), ← h.2 5 (by omega)]
  exact k
/-- the force told for a wave -/
def tof (b : Nat → Int → Int) (w : Int) : Int := if b 0 3 = 0 then 5 else b 3 (w % b 0 3)
theorem tof_rng {b : Nat → Int → Int} (hb : WB b) (w : Int) : 0 ≤ tof b w ∧ tof b w ≤ 20 := by
  unfold tof
  have h1 := hb.2.1
  by_cases h : b 0 3 = 0
  · rw [if_pos h]; omega
  · rw [if_neg h]
    have h2 := Int.emod_nonneg w h
    have h3 := Int.emod_lt_of_pos w (by omega : 0 < b 0 3)
    exact hb.2.2.2.2.1 _ h2 h3
theorem tof_beq {b b' : Nat → Int → Int} (h : BEq b b') (w : Int) : tof b w = tof b' w := by
  unfold tof
  rw [h.1 3 (by omega) (by omega), h.2 3 (by omega)]
/-- so many waves as told -/
noncomputable def gos (b : Nat → Int → Int) (la : Option Law) (s : Nat → Int → Int) : Nat → Nat → Int → Int
  | 0 => s
  | k + 1 => stp b (gos b la s k) la (tof b (gos b la s k 4 0))
theorem gos_w {b s : Nat → Int → Int} {la : Option Law} : ∀ k : Nat, gos b la s k 4 0 = s 4 0 + k := by
  intro k
  induction k with
  | zero => show s 4 0 = s 4 0 + 0; omega
  | succ k ih =>
    show gos b la s k 4 0 + 1 = _
    rw [ih]
    omega
theorem gos_ws {b s : Nat → Int → Int} {la : Option Law} (hb : WB b) (hw : WS b s) : ∀ k : Nat, s 4 0 + k ≤ 900 → WS b (gos b la s k) := by
  intro k
  induction k with
  | zero => intro _; exact hw
  | succ k ih =>
    intro h
    exact stp_ws hb (ih (by omega)) (by rw [gos_w]; omega)
theorem gos_beq {b b' s : Nat → Int → Int} {la : Option Law} (h : BEq b b') : ∀ k : Nat, gos b la s k = gos b' la s k := by
  intro k
  induction k with
  | zero => rfl
  | succ k ih =>
    show stp b (gos b la s k) la (tof b (gos b la s k 4 0)) = stp b' (gos b' la s k) la (tof b' (gos b' la s k 4 0))
    rw [ih, tof_beq h, stp_beq h]
theorem gos_ext {b s t : Nat → Int → Int} {la : Option Law} (hb : WB b) (hw : WS b s) (e : SEq b s t) (hl : ∀ l, la = some l → LOk l) : ∀ k : Nat, s 4 0 + k ≤ 900 → SEq b (gos b la s k) (gos b la t k) := by
  intro k
  induction k with
  | zero => intro _; exact e
  | succ k ih =>
    intro h
    have h1 := ih (by omega)
    show SEq b (stp b (gos b la s k) la (tof b (gos b la s k 4 0))) (stp b (gos b la t k) la (tof b (gos b la t k 4 0)))
    rw [← h1.2.2.1]
    exact stp_ext hb (gos_ws hb hw k (by omega)) h1 hl
theorem gos_add {b s : Nat → Int → Int} {la : Option Law} (j : Nat) : ∀ k : Nat, gos b la s (j + k) = gos b la (gos b la s j) k := by
  intro k
  induction k with
  | zero => rfl
  | succ k ih =>
    show stp b (gos b la s (j + k)) la (tof b (gos b la s (j + k) 4 0)) = _
    rw [ih]
    rfl
/-! the reference: what a wave leaves as it was -/
def GF (c d : Nat → Int → Int) : Prop := (∀ a, ¬ a = 76 → ¬ a = 77 → ¬ a = 78 → ¬ a = 82 → ¬ a = 103 → ¬ a = 104 → ¬ a = 105 → ¬ a = 106 → d a = c a) ∧ (∀ i, ¬ i = 8 → ¬ i = 9 → d 76 i = c 76 i)
theorem GF.refl (c : Nat → Int → Int) : GF c c := ⟨fun _ _ _ _ _ _ _ _ _ => rfl, fun _ _ _ => rfl⟩
theorem GF.trans {c d e : Nat → Int → Int} (h : GF c d) (k : GF d e) : GF c e := ⟨fun a h1 h2 h3 h4 h5 h6 h7 h8 => (k.1 a h1 h2 h3 h4 h5 h6 h7 h8).trans (h.1 a h1 h2 h3 h4 h5 h6 h7 h8), fun i h1 h2 => (k.2 i h1 h2).trans (h.2 i h1 h2)⟩
theorem GF.lr {c d : Nat → Int → Int} (h : GF c d) : LR c d := by
  obtain ⟨h, _⟩ := h
  unfold LR
  exact ⟨h _ (by omega) (by omega) (by omega) (by omega) (by omega) (by omega) (by omega) (by omega), h _ (by omega) (by omega) (by omega) (by omega) (by omega) (by omega) (by omega) (by omega), h _ (by omega) (by omega) (by omega) (by omega) (by omega) (by omega) (by omega) (by omega), h _ (by omega) (by omega) (by omega) (by omega) (by omega) (by omega) (by omega) (by omega), h _ (by omega) (by omega) (by omega) (by omega) (by omega) (by omega) (by omega) (by omega), h _ (by omega) (by omega) (by omega) (by omega) (by omega) (by omega) (by omega) (by omega)⟩
theorem bm_beq {c d : Nat → Int → Int} (h : ∀ i, 0 ≤ i → i ≤ 7 → d 76 i = c 76 i) (h2 : d 80 = c 80) (h3 : d 81 = c 81) (h4 : d 83 = c 83) (h5 : d 87 = c 87) (h6 : d 88 = c 88) : BEq (bm c) (bm d) := by
  refine ⟨fun k h7 h8 => (h k h7 h8).symm, fun a ha => ?_⟩
  unfold bm
  rw [if_neg ha, if_neg ha, h2, h3, h4, h5, h6]
theorem GF.beq {c d : Nat → Int → Int} (h : GF c d) : BEq (bm c) (bm d) := by
  obtain ⟨h, k⟩ := h
  exact bm_beq (fun i h1 h2 => k i (by omega) (by omega)) (h _ (by omega) (by omega) (by omega) (by omega) (by omega) (by omega) (by omega) (by omega)) (h _ (by omega) (by omega) (by omega) (by omega) (by omega) (by omega) (by omega) (by omega)) (h _ (by omega) (by omega) (by omega) (by omega) (by omega) (by omega) (by omega) (by omega)) (h _ (by omega) (by omega) (by omega) (by omega) (by omega) (by omega) (by omega) (by omega)) (h _ (by omega) (by omega) (by omega) (by omega) (by omega) (by omega) (by omega) (by omega))
theorem GF.lm {c d : Nat → Int → Int} (h : GF c d) : lm d = lm c := lm_ext h.lr (h.2 12 (by omega) (by omega))
theorem GF.lf {c d : Nat → Int → Int} (h : GF c d) (k : LF c) : LF d := LF_ext h.lr (h.2 12 (by omega) (by omega)) k
section MOD7
variable {L : Nat} {sh : Nat → SH} {c : Nat → Int → Int} {n : Nat} {Q : Option AV → List SC → Nat → Prop}
/-- a wave as told, from a place that waves have led to -/
theorem c224n (hS : MS L sh) (hb : WB (bm c)) (hw : WS (bm c) (pm c)) (hf : LF c) {d : Nat → Int → Int} {t : Nat → Int → Int} (hd : GF c d) (ht : WS (bm c) t) (he : SEq (bm c) (pm d) t) (h9 : t 4 0 < 900) {F : Int} (hF : 0 ≤ F ∧ F ≤ 100)
    (hq : ∀ e, GF c e → SEq (bm c) (pm e) (stp (bm c) t (lm c) F) → Q (some (.inl (sm (nws (sgb (bm c) t F)) (c 76 0 * c 76 1).toNat))) (hp L sh e) n) : tc_C 224 [rf 75, .inl F] (hp L sh d) n Q := by
  have hwd : WS (bm d) (pm d) := WS.beq hd.beq (WS.of he.symm ht)
  have hbd : WB (bm d) := WB.beq hd.beq hb
  have h8 : d 76 8 = t 4 0 := he.2.2.1
  refine c224 (c := d) hS hbd hwd (hd.lf hf) hF (by omega) ?_
  intro e h1 h2 h3
  have hge : GF c e := hd.trans ⟨h1, h2⟩
  have e1 : sgb (bm d) (pm d) F = sgb (bm c) t F := by
    have e2 : sgb (bm d) (pm d) F = sgb (bm c) (pm d) F := by
      unfold sgb
      rw [← hd.beq.1 0 (by omega) (by omega), ← hd.beq.1 1 (by omega) (by omega)]
    rw [e2]
    exact sgb_ext hb he
  have e3 : d 76 0 * d 76 1 = c 76 0 * c 76 1 := by
    rw [hd.2 0 (by omega) (by omega), hd.2 1 (by omega) (by omega)]
  rw [e1, e3]
  refine hq e hge ?_
  have h4 := SEq.beq hd.beq.symm h3
  rw [← stp_beq hd.beq, hd.lm] at h4
  exact h4.trans (stp_ext hb (WS.of he.symm ht) he hf.ok)
theorem c207n (hS : MS L sh) (hb : WB (bm c)) {d : Nat → Int → Int} (hd : GF c d) {w : Int} (hw : d 76 8 = w) (hw2 : 0 ≤ w ∧ w < 2147483648) : tc_C 207 [rf 75] (hp L sh d) n Q = Q (some (.inl (tof (bm c) w))) (hp L sh d) n := by
  have hbd : WB (bm d) := WB.beq hd.beq hb
  rw [c207 hS hbd.dm.1 (by omega) (by omega), hw, tof_beq hd.beq]
  rfl
theorem c244 (hS : MS L sh) (hb : WB (bm c)) (hw : WS (bm c) (pm c)) (hf : LF c) {m : Int} (hm : 0 ≤ m) {d : Nat → Int → Int} {t : Nat → Int → Int} (hd : GF c d) (ht : WS (bm c) t) (he : SEq (bm c) (pm d) t) (h9 : t 4 0 + m ≤ 900)
    (hq : ∀ e, GF c e → SEq (bm c) (pm e) (gos (bm c) (lm c) t m.toNat) → Q none (hp L sh e) n) : tc_C 244 [rf 75, .inl m] (hp L sh d) n Q := by
  show tc_W 244 0 [rf 75, .inl m, tc_nil] [] _ _ Q
  have hw4 := ht.2.2.2
  repeat' (first | (simp (disch := first | omega | exact Nat.le_of_ble_eq_true rfl | exact rfl | assumption | (simp only [fr_at, Nat.reduceEqDiff, if_false, if_true, reduceIte]; first | assumption | omega)) only [r244_0, r244_1i, r244_3, r244_7, r244_8, r244_9, v244_9_11, r244_12, v244_12_11, r244_15, r244_15A, r244_16i, r244_19, r244_22, ms75 hS, il_s, bl_s, bl_z, ll_s, is_s, bs_s, bs_z, ls_s, al_s, al_b, al_l, fr_at, fr_fr, Nat.reduceEqDiff, tc_gf3_s, tc_ql2_s, tc_ws_0, tc_ws_i, tc_ws_l, tc_ws_r, Nat.reduceLeDiff, Nat.reduceAdd, Nat.reduceLT, true_and, and_true, if_true, if_false, tc_K, Option.toList_some, Option.toList_none, List.nil_append, List.cons_append, ite_true, ite_false, Int.cast_ofNat_Int, reduceIte, i3_add_eq, i3_sub_eq, Int.add_sub_cancel, Int.add_neg_cancel_right]) | (simp only [r244_4, i6_lt0, i6_0lt, i6_0le, i6_le0, i6_eq0, b10_0, ite_not, Int.reduceLT, Int.reduceLE, Int.reduceEq, Int.reduceNeg, if_true, if_false, ite_true, ite_false, reduceIte, eq_self, not_true, not_false_eq_true]; try refine tc_ite (fun _ => ?_) (fun _ => ?_) <;> try (exfalso; omega)))
  refine lq_1 (N := m) (P := fun k (e : Nat → Int → Int) => tc_W 244 2 [rf 75, .inl m, .inl k] [] (hp L sh e) n Q) (I := fun k e => GF c e ∧ SEq (bm c) (pm e) (gos (bm c) (lm c) t k.toNat)) ?_ ?_ 0 d (by omega) hm ⟨hd, he⟩
  · intro k e hk hk2 ⟨h1, h2⟩ ih
    have h3 := gos_w (b := bm c) (s := t) (la := lm c) k.toNat
    have h4 : e 76 8 = gos (bm c) (lm c) t k.toNat 4 0 := h2.2.2.1
    have h207 := fun Q => c207n (n := n) (Q := Q) hS hb h1 h4 (by omega)
    have h5 := tof_rng hb (gos (bm c) (lm c) t k.toNat 4 0)
    simp only [r244_2]
    repeat' (first | (simp (disch := first | omega | exact Nat.le_of_ble_eq_true rfl | exact rfl | assumption | (simp only [fr_at, Nat.reduceEqDiff, if_false, if_true, reduceIte]; first | assumption | omega)) only [r244_0, r244_1i, r244_3, r244_7, r244_8, r244_9, v244_9_11, r244_12, v244_12_11, r244_15, r244_15A, r244_16i, r244_19, r244_22, ms75 hS, il_s, bl_s, bl_z, ll_s, is_s, bs_s, bs_z, ls_s, al_s, al_b, al_l, fr_at, fr_fr, Nat.reduceEqDiff, tc_gf3_s, tc_ql2_s, tc_ws_0, tc_ws_i, tc_ws_l, tc_ws_r, Nat.reduceLeDiff, Nat.reduceAdd, Nat.reduceLT, true_and, and_true, if_true, if_false, tc_K, Option.toList_some, Option.toList_none, List.nil_append, List.cons_append, ite_true, ite_false, Int.cast_ofNat_Int, reduceIte, i3_add_eq, i3_sub_eq, Int.add_sub_cancel, Int.add_neg_cancel_right, h207]) | (simp only [r244_4, i6_lt0, i6_0lt, i6_0le, i6_le0, i6_eq0, b10_0, ite_not, Int.reduceLT, Int.reduceLE, Int.reduceEq, Int.reduceNeg, if_true, if_false, ite_true, ite_false, reduceIte, eq_self, not_true, not_false_eq_true]; try refine tc_ite (fun _ => ?_) (fun _ => ?_) <;> try (exfalso; omega)))
    refine c224n hS hb hw hf h1 (gos_ws hb ht k.toNat (by omega)) h2 (by omega) (by omega) ?_
    intro e2 h6 h7
    repeat' (first | (simp (disch := first | omega | exact Nat.le_of_ble_eq_true rfl | exact rfl | assumption | (simp only [fr_at, Nat.reduceEqDiff, if_false, if_true, reduceIte]; first | assumption | omega)) only [r244_0, r244_1i, r244_3, r244_7, r244_8, r244_9, v244_9_11, r244_12, v244_12_11, r244_15, r244_15A, r244_16i, r244_19, r244_22, ms75 hS, il_s, bl_s, bl_z, ll_s, is_s, bs_s, bs_z, ls_s, al_s, al_b, al_l, fr_at, fr_fr, Nat.reduceEqDiff, tc_gf3_s, tc_ql2_s, tc_ws_0, tc_ws_i, tc_ws_l, tc_ws_r, Nat.reduceLeDiff, Nat.reduceAdd, Nat.reduceLT, true_and, and_true, if_true, if_false, tc_K, Option.toList_some, Option.toList_none, List.nil_append, List.cons_append, ite_true, ite_false, Int.cast_ofNat_Int, reduceIte, i3_add_eq, i3_sub_eq, Int.add_sub_cancel, Int.add_neg_cancel_right]) | (simp only [r244_4, i6_lt0, i6_0lt, i6_0le, i6_le0, i6_eq0, b10_0, ite_not, Int.reduceLT, Int.reduceLE, Int.reduceEq, Int.reduceNeg, if_true, if_false, ite_true, ite_false, reduceIte, eq_self, not_true, not_false_eq_true]; try refine tc_ite (fun _ => ?_) (fun _ => ?_) <;> try (exfalso; omega)))
    refine ih e2 ⟨h6, ?_⟩
    rw [show (k + 1).toNat = k.toNat + 1 by omega]
    exact h7
  · intro e ⟨h1, h2⟩
    simp only [r244_2]
    repeat' (first | (simp (disch := first | omega | exact Nat.le_of_ble_eq_true rfl | exact rfl | assumption | (simp only [fr_at, Nat.reduceEqDiff, if_false, if_true, reduceIte]; first | assumption | omega)) only [r244_0, r244_1i, r244_3, r244_7, r244_8, r244_9, v244_9_11, r244_12, v244_12_11, r244_15, r244_15A, r244_16i, r244_19, r244_22, ms75 hS, il_s, bl_s, bl_z, ll_s, is_s, bs_s, bs_z, ls_s, al_s, al_b, al_l, fr_at, fr_fr, Nat.reduceEqDiff, tc_gf3_s, tc_ql2_s, tc_ws_0, tc_ws_i, tc_ws_l, tc_ws_r, Nat.reduceLeDiff, Nat.reduceAdd, Nat.reduceLT, true_and, and_true, if_true, if_false, tc_K, Option.toList_some, Option.toList_none, List.nil_append, List.cons_append, ite_true, ite_false, Int.cast_ofNat_Int, reduceIte, i3_add_eq, i3_sub_eq, Int.add_sub_cancel, Int.add_neg_cancel_right]) | (simp only [r244_4, i6_lt0, i6_0lt, i6_0le, i6_le0, i6_eq0, b10_0, ite_not, Int.reduceLT, Int.reduceLE, Int.reduceEq, Int.reduceNeg, if_true, if_false, ite_true, ite_false, reduceIte, eq_self, not_true, not_false_eq_true]; try refine tc_ite (fun _ => ?_) (fun _ => ?_) <;> try (exfalso; omega)))
    exact hq e h1 h2
end MOD7

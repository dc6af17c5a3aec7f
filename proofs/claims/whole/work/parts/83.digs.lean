/-! SPADES, as numbers -/
def spt (b : Nat → Int → Int) (k : Int) : Int := bes (b 0 0) (b 0 0 * b 0 1) (k / 4) (k % 4)
def cdg (b s : Nat → Int → Int) (k : Int) : Int := if ¬ spt b k = -1 ∧ 0 < s 0 (k / 4) ∧ s 0 (spt b k) < 9 then 1 else 0
def dgs (b s : Nat → Int → Int) (k : Int) : Nat → Int → Int := fun a => if a = 0 then fu (fu (s 0) (k / 4) (s 0 (k / 4) - 1)) (spt b k) (s 0 (spt b k) + 1) else s a
theorem cdg_01 (b s : Nat → Int → Int) (k : Int) : cdg b s k = 0 ∨ cdg b s k = 1 := by
  unfold cdg
  split <;> omega
theorem cdg_1 {b s : Nat → Int → Int} {k : Int} (h : cdg b s k = 1) : ¬ spt b k = -1 ∧ 0 < s 0 (k / 4) ∧ s 0 (spt b k) < 9 := by
  unfold cdg at h
  by_cases h1 : ¬ spt b k = -1 ∧ 0 < s 0 (k / 4) ∧ s 0 (spt b k) < 9
  · exact h1
  · rw [if_neg h1] at h
    omega
theorem spt_rng {b : Nat → Int → Int} (hb : WB b) {k : Int} (hk : 0 ≤ k) (hk2 : k < 4 * (b 0 0 * b 0 1)) : (spt b k = -1 ∨ (0 ≤ spt b k ∧ spt b k < b 0 0 * b 0 1)) ∧ ¬ spt b k = k / 4 ∧ (0 ≤ k / 4 ∧ k / 4 < b 0 0 * b 0 1) := by
  have hW : 2 ≤ b 0 0 ∧ b 0 0 ≤ 5 := ⟨hb.1.1, hb.1.2.1⟩
  exact ⟨bes_rng hW (by omega) (by omega) (by omega) (by omega), bes_ne hW (by omega) (by omega) (by omega) (by omega), by omega, by omega⟩
theorem dgs_ws {b s : Nat → Int → Int} (hb : WB b) (hw : WS b s) {k : Int} (hk : 0 ≤ k) (hk2 : k < 4 * (b 0 0 * b 0 1)) (h : cdg b s k = 1) : WS b (dgs b s k) := by
  have h1 := cdg_1 h
  have h2 := spt_rng hb hk hk2
  refine ⟨fun x x1 x2 => ?_, hw.2.1, hw.2.2.1, hw.2.2.2⟩
  have h3 := hw.1 x x1 x2
  have h4 := hw.1 (spt b k) (by omega) (by omega)
  have h5 := hw.1 (k / 4) (by omega) (by omega)
  show 0 ≤ fu (fu (s 0) (k / 4) (s 0 (k / 4) - 1)) (spt b k) (s 0 (spt b k) + 1) x ∧ fu (fu (s 0) (k / 4) (s 0 (k / 4) - 1)) (spt b k) (s 0 (spt b k) + 1) x ≤ 9
  rw [fu_at, fu_at]
  split
  · omega
  · split <;> omega
theorem cdg_eq {b s t : Nat → Int → Int} (hb : WB b) (e : SEq b s t) {k : Int} (hk : 0 ≤ k) (hk2 : k < 4 * (b 0 0 * b 0 1)) : cdg b s k = cdg b t k := by
  have h2 := spt_rng hb hk hk2
  unfold cdg
  rw [(e.1 (k / 4) h2.2.2.1 h2.2.2.2).1]
  rcases h2.1 with h3 | h3
  · rw [h3, if_neg (fun h => h.1 rfl), if_neg (fun h => h.1 rfl)]
  · rw [(e.1 _ h3.1 h3.2).1]
theorem dgs_eq {b s t : Nat → Int → Int} (hb : WB b) (e : SEq b s t) {k : Int} (hk : 0 ≤ k) (hk2 : k < 4 * (b 0 0 * b 0 1)) (h : ¬ spt b k = -1) : SEq b (dgs b s k) (dgs b t k) := by
  have h2 := spt_rng hb hk hk2
  refine ⟨fun x x1 x2 => ⟨?_, (e.1 x x1 x2).2⟩, e.2⟩
  show fu (fu (s 0) (k / 4) (s 0 (k / 4) - 1)) (spt b k) (s 0 (spt b k) + 1) x = fu (fu (t 0) (k / 4) (t 0 (k / 4) - 1)) (spt b k) (t 0 (spt b k) + 1) x
  rw [fu_at, fu_at, fu_at, fu_at, (e.1 x x1 x2).1, (e.1 (k / 4) h2.2.2.1 h2.2.2.2).1, (e.1 (spt b k) (by omega) (by omega)).1]
theorem spt_beq {b b' : Nat → Int → Int} (h : BEq b b') (k : Int) : spt b k = spt b' k := by
  unfold spt
  rw [h.1 0 (by omega) (by omega), h.1 1 (by omega) (by omega)]
def bst (B C : Int × Int × Int × Int) : Int × Int × Int × Int := if B.1 < C.1 ∨ C.1 = B.1 ∧ C.2.1 < B.2.1 then C else B
noncomputable def dg2 (b : Nat → Int → Int) (la : Option Law) (t : Nat → Int → Int) (m : Nat) (one : Int) : Nat → Int × Int × Int × Int → Int × Int × Int × Int
  | 0, B => B
  | k + 1, B => if cdg b (dgs b t one) k = 1 then bst (dg2 b la t m one k B) (gos b la (dgs b (dgs b t one) k) m 4 1, 2, one, (k : Int)) else dg2 b la t m one k B
noncomputable def dg1 (b : Nat → Int → Int) (la : Option Law) (t : Nat → Int → Int) (m : Nat) (two : Int) : Nat → Int × Int × Int × Int
  | 0 => (gos b la t m 4 1, 0, -2, -2)
  | k + 1 => if cdg b t k = 1 then (if two = 2 then dg2 b la t m k (4 * (b 0 0 * b 0 1)).toNat (bst (dg1 b la t m two k) (gos b la (dgs b t k) m 4 1, 1, (k : Int), -2)) else bst (dg1 b la t m two k) (gos b la (dgs b t k) m 4 1, 1, (k : Int), -2)) else dg1 b la t m two k
/-- the rival's best answer -/
noncomputable def rvl (b : Nat → Int → Int) (la : Option Law) (t : Nat → Int → Int) (m : Nat) : Nat → Int
  | 0 => gos b la t m 4 1
  | k + 1 => if cdg b t k = 1 ∧ gos b la (dgs b t k) m 4 1 < rvl b la t m k then gos b la (dgs b t k) m 4 1 else rvl b la t m k
noncomputable def rvs (b : Nat → Int → Int) (la : Option Law) (t : Nat → Int → Int) (m : Nat) (M : Nat) : Nat → Int × Int
  | 0 => (-1, rvl b la t m M)
  | k + 1 => if cdg b t k = 1 ∧ (rvs b la t m M k).2 < rvl b la (dgs b t k) m M then ((k : Int), rvl b la (dgs b t k) m M) else rvs b la t m M k
/-! the reference: SPADES -/
def BR (d : Nat → Int → Int) (B : Int × Int × Int × Int) : Prop := d 75 50 = B.1 ∧ d 75 51 = B.2.1 ∧ d 110 0 = B.2.2.1 ∧ d 110 1 = B.2.2.2
theorem BR.ke {d e : Nat → Int → Int} {B : Int × Int × Int × Int} (h : BR d B) (k : KE d e) : BR e B := ⟨k.2.1.trans h.1, k.2.2.trans h.2.1, by rw [k.1 110 (by omega)]; exact h.2.2.1, by rw [k.1 110 (by omega)]; exact h.2.2.2⟩
section MOD13
variable {L : Nat} {sh : Nat → SH} {c : Nat → Int → Int} {n : Nat} {Q : Option AV → List SC → Nat → Prop}
theorem c232q (hS : MS L sh) (hb : WB (bm c)) {d t : Nat → Int → Int} (hd : QG c d) (he : SEq (bm c) (pm d) t) {k : Int} (hk : 0 ≤ k) (hk2 : k < 4 * (c 76 0 * c 76 1)) : tc_C 232 [rf 75, .inl k] (hp L sh d) n Q = Q (some (.inl (cdg (bm c) t k))) (hp L sh d) n := by
  have hdm := hd.dm hb.dm.1
  have hW : 2 ≤ c 76 0 ∧ c 76 0 ≤ 5 := ⟨hb.dm.2.1, hb.dm.2.2.1⟩
  have hN := hb.dm.1.m.1
  have r0 := hd.2.1 0 (by omega) (by omega) (by omega) (by omega)
  have r1 := hd.2.1 1 (by omega) (by omega) (by omega) (by omega)
  rw [c232 (c := d) hS hdm (by omega) (by
    rw [r0, r1]
    intro x s x1 x2 h
    have := bes_rng (d := s) hW x1 x2 (by omega) (by omega)
    omega) hk (by rw [r0, r1]; exact hk2), r0, r1]
  rw [← cdg_eq hb he hk hk2]
  rfl
theorem c233n (hS : MS L sh) (hd : DM (c 76)) (hw : 0 < c 76 0) {k : Int} (hk : 0 ≤ k) (hk2 : k < 4 * (c 76 0 * c 76 1)) (hb : 0 ≤ bes (c 76 0) (c 76 0 * c 76 1) (k / 4) (k % 4) ∧ bes (c 76 0) (c 76 0 * c 76 1) (k / 4) (k % 4) < 25) (hne : ¬ bes (c 76 0) (c 76 0 * c 76 1) (k / 4) (k % 4) = k / 4) (h4 : 0 ≤ c 77 (k / 4) ∧ c 77 (k / 4) ≤ 9) (h5 : 0 ≤ c 77 (bes (c 76 0) (c 76 0 * c 76 1) (k / 4) (k % 4)) ∧ c 77 (bes (c 76 0) (c 76 0 * c 76 1) (k / 4) (k % 4)) ≤ 9) : tc_C 233 [rf 75, .inl k] (hp L sh c) n Q = Q none (hp L sh (fr c 77 (fu (fu (c 77) (k / 4) (c 77 (k / 4) - 1)) (bes (c 76 0) (c 76 0 * c 76 1) (k / 4) (k % 4)) (c 77 (bes (c 76 0) (c 76 0 * c 76 1) (k / 4) (k % 4)) + 1)))) n := tc_det fun Q hq => by
  show tc_W 233 0 [rf 75, .inl k] [] _ _ Q
  have h3 := hd.m.1
  repeat' (simp (disch := first | omega | exact Nat.le_of_ble_eq_true rfl | exact rfl | assumption | (simp only [fr_at, Nat.reduceEqDiff, if_false, if_true, reduceIte]; first | assumption | omega)) only [r233_0, r233_1, r233_4, r233_5, r233_6, r233_7, r233_8, r233_9, r233_10, r233_11, r233_12, r233_13, r233_16, r233_17, r233_18, r233_19, r233_20, r233_21, r233_22, r233_23, v233_23_11, r233_26, r233_27, r233_28, r233_29, r233_30, r233_31, g11_13_11, mo_len, ms75 hS, mt75 hS, mo_g2, ms77 hS, mt77 hS, il_s, bl_s, bl_z, ll_s, is_s, bs_s, bs_z, ls_s, al_s, al_b, al_l, fr_at, fr_fr, Nat.reduceEqDiff, tc_gf3_s, tc_ql2_s, tc_ws_0, tc_ws_i, tc_ws_l, tc_ws_r, Nat.reduceLeDiff, Nat.reduceAdd, Nat.reduceLT, true_and, and_true, if_true, if_false, tc_K, Option.toList_some, Option.toList_none, List.nil_append, List.cons_append, ite_true, ite_false, Int.cast_ofNat_Int, reduceIte, i3_add_eq, i3_sub_eq, Int.add_sub_cancel, Int.add_neg_cancel_right, c212 hS, i3_div_nn, i3_rem_nn, hd, hw, fu_ne])
  all_goals first | exact hq | exact q_i (by omega) hq | (simp (disch := omega) only [if_pos, if_neg] at hq; exact hq)
theorem c233q (hS : MS L sh) (hb : WB (bm c)) {d t : Nat → Int → Int} (hd : QG c d) (ht : WS (bm c) t) (he : SEq (bm c) (pm d) t) {k : Int} (hk : 0 ≤ k) (hk2 : k < 4 * (c 76 0 * c 76 1)) (h1 : cdg (bm c) t k = 1)
    (hq : ∀ e, QG c e → KE d e → GF d e → SEq (bm c) (pm e) (dgs (bm c) t k) → Q none (hp L sh e) n) : tc_C 233 [rf 75, .inl k] (hp L sh d) n Q := by
  have hdm := hd.dm hb.dm.1
  have hW : 2 ≤ c 76 0 ∧ c 76 0 ≤ 5 := ⟨hb.dm.2.1, hb.dm.2.2.1⟩
  have hN := hb.dm.1.m.1
  have r0 := hd.2.1 0 (by omega) (by omega) (by omega) (by omega)
  have r1 := hd.2.1 1 (by omega) (by omega) (by omega) (by omega)
  have h2 := cdg_1 h1
  have h3 := spt_rng hb hk hk2
  have es : spt (bm c) k = bes (c 76 0) (c 76 0 * c 76 1) (k / 4) (k % 4) := rfl
  have e1 : d 77 (k / 4) = t 0 (k / 4) := (he.1 (k / 4) h3.2.2.1 h3.2.2.2).1
  have h31 : 0 ≤ spt (bm c) k ∧ spt (bm c) k < c 76 0 * c 76 1 := by
    rcases h3.1 with h | h
    · exact absurd h h2.1
    · exact h
  have e2 : d 77 (spt (bm c) k) = t 0 (spt (bm c) k) := (he.1 (spt (bm c) k) h31.1 h31.2).1
  have w1 := ht.1 (k / 4) h3.2.2.1 h3.2.2.2
  have w2 := ht.1 (spt (bm c) k) h31.1 h31.2
  rw [c233n (c := d) hS hdm (by omega) hk (by rw [r0, r1]; exact hk2) (by rw [r0, r1, ← es]; omega) (by rw [r0, r1, ← es]; exact h3.2.1) (by rw [e1]; exact w1) (by rw [r0, r1, ← es, e2]; exact w2), r0, r1, ← es]
  have hg : GF d (fr d 77 (fu (fu (d 77) (k / 4) (d 77 (k / 4) - 1)) (spt (bm c) k) (d 77 (spt (bm c) k) + 1))) := ⟨fun a _ a2 _ _ _ _ _ _ => fr_ne a2, fun i _ _ => by rw [fr_ne (by omega)]⟩
  refine hq _ (hd.gf hg).1 (hd.gf hg).2 hg ?_
  have h4 := dgs_eq hb he hk hk2 h2.1
  refine SEq.trans ?_ h4
  refine ⟨fun x x1 x2 => ⟨?_, ?_⟩, fun f f1 f2 => ⟨?_, ?_⟩, ?_, ?_⟩
  · show fr d 77 (fu (fu (d 77) (k / 4) (d 77 (k / 4) - 1)) (spt (bm c) k) (d 77 (spt (bm c) k) + 1)) 77 x = _
    rw [fr_same]
    rfl
  all_goals rfl
theorem c250q (hS : MS L sh) {d : Nat → Int → Int} (hd : QR c d) {B : Int × Int × Int × Int} (hB : BR d B) {ma mn o1 o2 : Int} (hq : ∀ e, QR c e → BR e (bst B (ma, mn, o1, o2)) → Q none (hp L sh e) n) : tc_C 250 [rf 75, .inl ma, .inl mn, .inl o1, .inl o2] (hp L sh d) n Q := by
  rw [c250 (c := d) hS]
  obtain ⟨b1, b2, b3, b4⟩ := hB
  rw [b1, b2]
  by_cases h : B.1 < ma ∨ ma = B.1 ∧ mn < B.2.1
  · rw [if_pos h]
    have eb : bst B (ma, mn, o1, o2) = (ma, mn, o1, o2) := if_pos h
    rw [eb] at hq
    obtain ⟨⟨q1, q2, q3, q4, q5⟩, k1, k2, k3, k4, k5⟩ := hd
    refine hq _ ⟨⟨fun a a1 a2 a3 a4 a5 a6 a7 => ?_, fun i i1 i2 i3 i4 => ?_, fun i i1 i2 i3 i4 => ?_, fun j j1 => ?_, fun j j1 j2 => ?_⟩, ?_, ?_, ?_, ?_, ?_⟩ ⟨?_, ?_, ?_, ?_⟩
    · rw [fr_ne (by omega), fr_ne a1]
      exact q1 a a1 a2 a3 a4 a5 a6 a7
    · rw [fr_ne (by omega), fr_ne (by omega)]
      exact q2 i i1 i2 i3 i4
    · rw [fr_ne (by omega), fr_same, fu_ne i2, fu_ne i1]
      exact q3 i i1 i2 i3 i4
    · rw [fr_ne (by omega), fr_ne (by omega)]
      exact q4 j j1
    · rw [fr_ne (by omega), fr_ne (by omega)]
      exact q5 j j1 j2
    · rw [fr_ne (by omega), fr_ne (by omega)]; exact k1
    · rw [fr_ne (by omega), fr_ne (by omega)]; exact k2
    · rw [fr_ne (by omega), fr_ne (by omega)]; exact k3
    · rw [fr_ne (by omega), fr_ne (by omega)]; exact k4
    · rw [fr_ne (by omega), fr_ne (by omega)]; exact k5
    · rw [fr_ne (by omega), fr_same, fu_ne (by omega), fu_same]
    · rw [fr_ne (by omega), fr_same, fu_same]
    · rw [fr_same, fu_ne (by omega), fu_same]
    · rw [fr_same, fu_same]
  · rw [if_neg h]
    have eb : bst B (ma, mn, o1, o2) = B := if_neg h
    rw [eb] at hq
    exact hq d hd ⟨b1, b2, b3, b4⟩
theorem c251 (hS : MS L sh) (hb : WB (bm c)) (hw : WS (bm c) (pm c)) (hla : LF c) (h9 : c 76 8 ≤ 700) {one m : Int} (hm : 1 ≤ m ∧ m ≤ 6) (ho : 0 ≤ one) (ho2 : one < 4 * (c 76 0 * c 76 1)) (hc1 : cdg (bm c) (pm c) one = 1) {d : Nat → Int → Int} (hd : QR c d) {B : Int × Int × Int × Int} (hB : BR d B)
    (hq : ∀ e, QR c e → BR e (dg2 (bm c) (lm c) (pm c) m.toNat one (4 * (c 76 0 * c 76 1)).toNat B) → Q none (hp L sh e) n) : tc_C 251 [rf 75, .inl one, .inl m] (hp L sh d) n Q := by
  show tc_W 251 0 [rf 75, .inl one, .inl m, tc_nil, tc_nil] [] _ _ Q
  obtain ⟨hdm, hbd⟩ := hb.dm
  have hN := hdm.m.1
  repeat' (first | (simp (disch := first | omega | exact Nat.le_of_ble_eq_true rfl | exact rfl | assumption | (simp only [fr_at, Nat.reduceEqDiff, if_false, if_true, reduceIte]; first | assumption | omega)) only [r251_0, r251_1i, r251_3, r251_4, r251_5, v251_5_11, r251_8, r251_12, r251_13, r251_14, v251_14_11, r251_17, r251_18, r251_19, v251_19_11, r251_22i, r251_24, r251_29, r251_30, r251_31, v251_31_11, r251_34, r251_35, r251_36, r251_37, v251_37_11, r251_40, r251_41, r251_42, r251_43, v251_43_11, r251_46, r251_49, r251_50, v251_50_11, r251_53i, r251_56, r251_59, ms75 hS, il_s, bl_s, bl_z, ll_s, is_s, bs_s, bs_z, ls_s, al_s, al_b, al_l, fr_at, fr_fr, Nat.reduceEqDiff, tc_gf3_s, tc_ql2_s, tc_ws_0, tc_ws_i, tc_ws_l, tc_ws_r, Nat.reduceLeDiff, Nat.reduceAdd, Nat.reduceLT, true_and, and_true, if_true, if_false, tc_K, Option.toList_some, Option.toList_none, List.nil_append, List.cons_append, ite_true, ite_false, Int.cast_ofNat_Int, reduceIte, i3_add_eq, i3_sub_eq, Int.add_sub_cancel, Int.add_neg_cancel_right]) | (simp only [r251_9, r251_26, i6_lt0, i6_0lt, i6_0le, i6_le0, i6_eq0, b10_0, ite_not, Int.reduceLT, Int.reduceLE, Int.reduceEq, Int.reduceNeg, if_true, if_false, ite_true, ite_false, reduceIte, eq_self, not_true, not_false_eq_true]; try refine tc_ite (fun _ => ?_) (fun _ => ?_) <;> try (exfalso; omega)))
  refine lq_2 (N := 4 * (c 76 0 * c 76 1)) (P := fun k (d : Nat → Int → Int) (a4 : AV) => tc_W 251 2 [rf 75, .inl one, .inl m, .inl k, a4] [] (hp L sh d) n Q) (I := fun k d _ => QR c d ∧ BR d (dg2 (bm c) (lm c) (pm c) m.toNat one k.toNat B)) ?_ ?_ 0 d tc_nil (by omega) (by omega) ⟨hd, hB⟩
  · intro k d a4 hk hk2 ⟨hr, hbr⟩ ih
    have r76 := hr.2.1
    have h187 := fun Q => c187 (c := d) (n := n) (Q := Q) hS (by rw [r76]; exact hdm)
    simp only [r76] at h187
    have e1 : dg2 (bm c) (lm c) (pm c) m.toNat one (k + 1).toNat B = if cdg (bm c) (dgs (bm c) (pm c) one) k = 1 then bst (dg2 (bm c) (lm c) (pm c) m.toNat one k.toNat B) (gos (bm c) (lm c) (dgs (bm c) (dgs (bm c) (pm c) one) k) m.toNat 4 1, 2, one, k) else dg2 (bm c) (lm c) (pm c) m.toNat one k.toNat B := by
      rw [show (k + 1).toNat = k.toNat + 1 by omega]
      show (if cdg (bm c) (dgs (bm c) (pm c) one) (k.toNat : Int) = 1 then bst (dg2 (bm c) (lm c) (pm c) m.toNat one k.toNat B) (gos (bm c) (lm c) (dgs (bm c) (dgs (bm c) (pm c) one) (k.toNat : Int)) m.toNat 4 1, 2, one, (k.toNat : Int)) else dg2 (bm c) (lm c) (pm c) m.toNat one k.toNat B) = _
      rw [Int.toNat_of_nonneg hk]
    rw [e1] at ih
    generalize dg2 (bm c) (lm c) (pm c) m.toNat one k.toNat B = B1 at ih hbr
    simp only [r251_2]
    repeat' (first | (simp (disch := first | omega | exact Nat.le_of_ble_eq_true rfl | exact rfl | assumption | (simp only [fr_at, Nat.reduceEqDiff, if_false, if_true, reduceIte]; first | assumption | omega)) only [r251_0, r251_1i, r251_3, r251_4, r251_5, v251_5_11, r251_8, r251_12, r251_13, r251_14, v251_14_11, r251_17, r251_18, r251_19, v251_19_11, r251_22i, r251_24, r251_29, r251_30, r251_31, v251_31_11, r251_34, r251_35, r251_36, r251_37, v251_37_11, r251_40, r251_41, r251_42, r251_43, v251_43_11, r251_46, r251_49, r251_50, v251_50_11, r251_53i, r251_56, r251_59, ms75 hS, il_s, bl_s, bl_z, ll_s, is_s, bs_s, bs_z, ls_s, al_s, al_b, al_l, fr_at, fr_fr, Nat.reduceEqDiff, tc_gf3_s, tc_ql2_s, tc_ws_0, tc_ws_i, tc_ws_l, tc_ws_r, Nat.reduceLeDiff, Nat.reduceAdd, Nat.reduceLT, true_and, and_true, if_true, if_false, tc_K, Option.toList_some, Option.toList_none, List.nil_append, List.cons_append, ite_true, ite_false, Int.cast_ofNat_Int, reduceIte, i3_add_eq, i3_sub_eq, Int.add_sub_cancel, Int.add_neg_cancel_right, h187, i3_mul_eq]) | (simp only [r251_9, r251_26, i6_lt0, i6_0lt, i6_0le, i6_le0, i6_eq0, b10_0, ite_not, Int.reduceLT, Int.reduceLE, Int.reduceEq, Int.reduceNeg, if_true, if_false, ite_true, ite_false, reduceIte, eq_self, not_true, not_false_eq_true]; try refine tc_ite (fun _ => ?_) (fun _ => ?_) <;> try (exfalso; omega)))
    refine c233q (c := c) (t := pm c) hS hb hr.1 hw (by rw [hr.pm]; exact SEq.refl _ _) ho ho2 hc1 ?_
    intro e h1 h2 h3 h4
    have hw1 := dgs_ws hb hw ho ho2 hc1
    have h232 := fun Q => c232q (n := n) (Q := Q) hS hb h1 h4 hk hk2
    rcases cdg_01 (bm c) (dgs (bm c) (pm c) one) k with h0 | h0
    · rw [if_neg (by omega)] at ih
      repeat' (first | (simp (disch := first | omega | exact Nat.le_of_ble_eq_true rfl | exact rfl | assumption | (simp only [fr_at, Nat.reduceEqDiff, if_false, if_true, reduceIte]; first | assumption | omega)) only [r251_0, r251_1i, r251_3, r251_4, r251_5, v251_5_11, r251_8, r251_12, r251_13, r251_14, v251_14_11, r251_17, r251_18, r251_19, v251_19_11, r251_22i, r251_24, r251_29, r251_30, r251_31, v251_31_11, r251_34, r251_35, r251_36, r251_37, v251_37_11, r251_40, r251_41, r251_42, r251_43, v251_43_11, r251_46, r251_49, r251_50, v251_50_11, r251_53i, r251_56, r251_59, ms75 hS, il_s, bl_s, bl_z, ll_s, is_s, bs_s, bs_z, ls_s, al_s, al_b, al_l, fr_at, fr_fr, Nat.reduceEqDiff, tc_gf3_s, tc_ql2_s, tc_ws_0, tc_ws_i, tc_ws_l, tc_ws_r, Nat.reduceLeDiff, Nat.reduceAdd, Nat.reduceLT, true_and, and_true, if_true, if_false, tc_K, Option.toList_some, Option.toList_none, List.nil_append, List.cons_append, ite_true, ite_false, Int.cast_ofNat_Int, reduceIte, i3_add_eq, i3_sub_eq, Int.add_sub_cancel, Int.add_neg_cancel_right, h232, h0]) | (simp only [r251_9, r251_26, i6_lt0, i6_0lt, i6_0le, i6_le0, i6_eq0, b10_0, ite_not, Int.reduceLT, Int.reduceLE, Int.reduceEq, Int.reduceNeg, if_true, if_false, ite_true, ite_false, reduceIte, eq_self, not_true, not_false_eq_true]; try refine tc_ite (fun _ => ?_) (fun _ => ?_) <;> try (exfalso; omega)))
      refine c246q (c := c) hS h1 ?_
      intro e2 h5 h6
      repeat' (first | (simp (disch := first | omega | exact Nat.le_of_ble_eq_true rfl | exact rfl | assumption | (simp only [fr_at, Nat.reduceEqDiff, if_false, if_true, reduceIte]; first | assumption | omega)) only [r251_0, r251_1i, r251_3, r251_4, r251_5, v251_5_11, r251_8, r251_12, r251_13, r251_14, v251_14_11, r251_17, r251_18, r251_19, v251_19_11, r251_22i, r251_24, r251_29, r251_30, r251_31, v251_31_11, r251_34, r251_35, r251_36, r251_37, v251_37_11, r251_40, r251_41, r251_42, r251_43, v251_43_11, r251_46, r251_49, r251_50, v251_50_11, r251_53i, r251_56, r251_59, ms75 hS, il_s, bl_s, bl_z, ll_s, is_s, bs_s, bs_z, ls_s, al_s, al_b, al_l, fr_at, fr_fr, Nat.reduceEqDiff, tc_gf3_s, tc_ql2_s, tc_ws_0, tc_ws_i, tc_ws_l, tc_ws_r, Nat.reduceLeDiff, Nat.reduceAdd, Nat.reduceLT, true_and, and_true, if_true, if_false, tc_K, Option.toList_some, Option.toList_none, List.nil_append, List.cons_append, ite_true, ite_false, Int.cast_ofNat_Int, reduceIte, i3_add_eq, i3_sub_eq, Int.add_sub_cancel, Int.add_neg_cancel_right]) | (simp only [r251_9, r251_26, i6_lt0, i6_0lt, i6_0le, i6_le0, i6_eq0, b10_0, ite_not, Int.reduceLT, Int.reduceLE, Int.reduceEq, Int.reduceNeg, if_true, if_false, ite_true, ite_false, reduceIte, eq_self, not_true, not_false_eq_true]; try refine tc_ite (fun _ => ?_) (fun _ => ?_) <;> try (exfalso; omega)))
      exact ih e2 _ ⟨h5, hbr.ke (h2.trans h6)⟩
    · rw [if_pos h0] at ih
      repeat' (first | (simp (disch := first | omega | exact Nat.le_of_ble_eq_true rfl | exact rfl | assumption | (simp only [fr_at, Nat.reduceEqDiff, if_false, if_true, reduceIte]; first | assumption | omega)) only [r251_0, r251_1i, r251_3, r251_4, r251_5, v251_5_11, r251_8, r251_12, r251_13, r251_14, v251_14_11, r251_17, r251_18, r251_19, v251_19_11, r251_22i, r251_24, r251_29, r251_30, r251_31, v251_31_11, r251_34, r251_35, r251_36, r251_37, v251_37_11, r251_40, r251_41, r251_42, r251_43, v251_43_11, r251_46, r251_49, r251_50, v251_50_11, r251_53i, r251_56, r251_59, ms75 hS, il_s, bl_s, bl_z, ll_s, is_s, bs_s, bs_z, ls_s, al_s, al_b, al_l, fr_at, fr_fr, Nat.reduceEqDiff, tc_gf3_s, tc_ql2_s, tc_ws_0, tc_ws_i, tc_ws_l, tc_ws_r, Nat.reduceLeDiff, Nat.reduceAdd, Nat.reduceLT, true_and, and_true, if_true, if_false, tc_K, Option.toList_some, Option.toList_none, List.nil_append, List.cons_append, ite_true, ite_false, Int.cast_ofNat_Int, reduceIte, i3_add_eq, i3_sub_eq, Int.add_sub_cancel, Int.add_neg_cancel_right, h232, h0]) | (simp only [r251_9, r251_26, i6_lt0, i6_0lt, i6_0le, i6_le0, i6_eq0, b10_0, ite_not, Int.reduceLT, Int.reduceLE, Int.reduceEq, Int.reduceNeg, if_true, if_false, ite_true, ite_false, reduceIte, eq_self, not_true, not_false_eq_true]; try refine tc_ite (fun _ => ?_) (fun _ => ?_) <;> try (exfalso; omega)))
      refine c233q (c := c) hS hb h1 hw1 h4 hk hk2 h0 ?_
      intro e2 h5 h6 h7 h8
      have h12 : e2 76 12 = c 76 12 := by
        rw [h7.2 12 (by omega) (by omega), h3.2 12 (by omega) (by omega), r76]
      repeat' (first | (simp (disch := first | omega | exact Nat.le_of_ble_eq_true rfl | exact rfl | assumption | (simp only [fr_at, Nat.reduceEqDiff, if_false, if_true, reduceIte]; first | assumption | omega)) only [r251_0, r251_1i, r251_3, r251_4, r251_5, v251_5_11, r251_8, r251_12, r251_13, r251_14, v251_14_11, r251_17, r251_18, r251_19, v251_19_11, r251_22i, r251_24, r251_29, r251_30, r251_31, v251_31_11, r251_34, r251_35, r251_36, r251_37, v251_37_11, r251_40, r251_41, r251_42, r251_43, v251_43_11, r251_46, r251_49, r251_50, v251_50_11, r251_53i, r251_56, r251_59, ms75 hS, il_s, bl_s, bl_z, ll_s, is_s, bs_s, bs_z, ls_s, al_s, al_b, al_l, fr_at, fr_fr, Nat.reduceEqDiff, tc_gf3_s, tc_ql2_s, tc_ws_0, tc_ws_i, tc_ws_l, tc_ws_r, Nat.reduceLeDiff, Nat.reduceAdd, Nat.reduceLT, true_and, and_true, if_true, if_false, tc_K, Option.toList_some, Option.toList_none, List.nil_append, List.cons_append, ite_true, ite_false, Int.cast_ofNat_Int, reduceIte, i3_add_eq, i3_sub_eq, Int.add_sub_cancel, Int.add_neg_cancel_right]) | (simp only [r251_9, r251_26, i6_lt0, i6_0lt, i6_0le, i6_le0, i6_eq0, b10_0, ite_not, Int.reduceLT, Int.reduceLE, Int.reduceEq, Int.reduceNeg, if_true, if_false, ite_true, ite_false, reduceIte, eq_self, not_true, not_false_eq_true]; try refine tc_ite (fun _ => ?_) (fun _ => ?_) <;> try (exfalso; omega)))
      refine c249 (c := c) hS hb h5 (LF_ext h5.lr h12 hla) (dgs_ws hb hw1 hk hk2 h0) h8 (by omega) (by show c 76 8 + m ≤ 900; omega) ?_
      intro e3 h10 h11
      rw [lm_ext h5.lr h12]
      repeat' (first | (simp (disch := first | omega | exact Nat.le_of_ble_eq_true rfl | exact rfl | assumption | (simp only [fr_at, Nat.reduceEqDiff, if_false, if_true, reduceIte]; first | assumption | omega)) only [r251_0, r251_1i, r251_3, r251_4, r251_5, v251_5_11, r251_8, r251_12, r251_13, r251_14, v251_14_11, r251_17, r251_18, r251_19, v251_19_11, r251_22i, r251_24, r251_29, r251_30, r251_31, v251_31_11, r251_34, r251_35, r251_36, r251_37, v251_37_11, r251_40, r251_41, r251_42, r251_43, v251_43_11, r251_46, r251_49, r251_50, v251_50_11, r251_53i, r251_56, r251_59, ms75 hS, il_s, bl_s, bl_z, ll_s, is_s, bs_s, bs_z, ls_s, al_s, al_b, al_l, fr_at, fr_fr, Nat.reduceEqDiff, tc_gf3_s, tc_ql2_s, tc_ws_0, tc_ws_i, tc_ws_l, tc_ws_r, Nat.reduceLeDiff, Nat.reduceAdd, Nat.reduceLT, true_and, and_true, if_true, if_false, tc_K, Option.toList_some, Option.toList_none, List.nil_append, List.cons_append, ite_true, ite_false, Int.cast_ofNat_Int, reduceIte, i3_add_eq, i3_sub_eq, Int.add_sub_cancel, Int.add_neg_cancel_right]) | (simp only [r251_9, r251_26, i6_lt0, i6_0lt, i6_0le, i6_le0, i6_eq0, b10_0, ite_not, Int.reduceLT, Int.reduceLE, Int.reduceEq, Int.reduceNeg, if_true, if_false, ite_true, ite_false, reduceIte, eq_self, not_true, not_false_eq_true]; try refine tc_ite (fun _ => ?_) (fun _ => ?_) <;> try (exfalso; omega)))
      refine c250q (c := c) hS h10 (((hbr.ke h2).ke h6).ke h11) ?_
      intro e4 h13 h14
      repeat' (first | (simp (disch := first | omega | exact Nat.le_of_ble_eq_true rfl | exact rfl | assumption | (simp only [fr_at, Nat.reduceEqDiff, if_false, if_true, reduceIte]; first | assumption | omega)) only [r251_0, r251_1i, r251_3, r251_4, r251_5, v251_5_11, r251_8, r251_12, r251_13, r251_14, v251_14_11, r251_17, r251_18, r251_19, v251_19_11, r251_22i, r251_24, r251_29, r251_30, r251_31, v251_31_11, r251_34, r251_35, r251_36, r251_37, v251_37_11, r251_40, r251_41, r251_42, r251_43, v251_43_11, r251_46, r251_49, r251_50, v251_50_11, r251_53i, r251_56, r251_59, ms75 hS, il_s, bl_s, bl_z, ll_s, is_s, bs_s, bs_z, ls_s, al_s, al_b, al_l, fr_at, fr_fr, Nat.reduceEqDiff, tc_gf3_s, tc_ql2_s, tc_ws_0, tc_ws_i, tc_ws_l, tc_ws_r, Nat.reduceLeDiff, Nat.reduceAdd, Nat.reduceLT, true_and, and_true, if_true, if_false, tc_K, Option.toList_some, Option.toList_none, List.nil_append, List.cons_append, ite_true, ite_false, Int.cast_ofNat_Int, reduceIte, i3_add_eq, i3_sub_eq, Int.add_sub_cancel, Int.add_neg_cancel_right]) | (simp only [r251_9, r251_26, i6_lt0, i6_0lt, i6_0le, i6_le0, i6_eq0, b10_0, ite_not, Int.reduceLT, Int.reduceLE, Int.reduceEq, Int.reduceNeg, if_true, if_false, ite_true, ite_false, reduceIte, eq_self, not_true, not_false_eq_true]; try refine tc_ite (fun _ => ?_) (fun _ => ?_) <;> try (exfalso; omega)))
      exact ih e4 _ ⟨h13, h14⟩
  · intro d a4 ⟨hr, hbr⟩
    have r76 := hr.2.1
    have h187 := fun Q => c187 (c := d) (n := n) (Q := Q) hS (by rw [r76]; exact hdm)
    simp only [r76] at h187
    simp only [r251_2]
    repeat' (first | (simp (disch := first | omega | exact Nat.le_of_ble_eq_true rfl | exact rfl | assumption | (simp only [fr_at, Nat.reduceEqDiff, if_false, if_true, reduceIte]; first | assumption | omega)) only [r251_0, r251_1i, r251_3, r251_4, r251_5, v251_5_11, r251_8, r251_12, r251_13, r251_14, v251_14_11, r251_17, r251_18, r251_19, v251_19_11, r251_22i, r251_24, r251_29, r251_30, r251_31, v251_31_11, r251_34, r251_35, r251_36, r251_37, v251_37_11, r251_40, r251_41, r251_42, r251_43, v251_43_11, r251_46, r251_49, r251_50, v251_50_11, r251_53i, r251_56, r251_59, ms75 hS, il_s, bl_s, bl_z, ll_s, is_s, bs_s, bs_z, ls_s, al_s, al_b, al_l, fr_at, fr_fr, Nat.reduceEqDiff, tc_gf3_s, tc_ql2_s, tc_ws_0, tc_ws_i, tc_ws_l, tc_ws_r, Nat.reduceLeDiff, Nat.reduceAdd, Nat.reduceLT, true_and, and_true, if_true, if_false, tc_K, Option.toList_some, Option.toList_none, List.nil_append, List.cons_append, ite_true, ite_false, Int.cast_ofNat_Int, reduceIte, i3_add_eq, i3_sub_eq, Int.add_sub_cancel, Int.add_neg_cancel_right, h187, i3_mul_eq]) | (simp only [r251_9, r251_26, i6_lt0, i6_0lt, i6_0le, i6_le0, i6_eq0, b10_0, ite_not, Int.reduceLT, Int.reduceLE, Int.reduceEq, Int.reduceNeg, if_true, if_false, ite_true, ite_false, reduceIte, eq_self, not_true, not_false_eq_true]; try refine tc_ite (fun _ => ?_) (fun _ => ?_) <;> try (exfalso; omega)))
    exact hq d hr hbr
end MOD13

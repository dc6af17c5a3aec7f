/-! the class: the least wall -/
def r2 : Nat → Nat
  | 0 => 0
  | b + 1 => r2 b + b
def r3 : Nat → Nat
  | 0 => 0
  | a + 1 => r3 a + r2 a
theorem r_bnd : ∀ a : Fin 25, r2 a.val + a.val ≤ 2300 ∧ ∀ b : Fin 25, b.val < a.val → r3 a.val + r2 b.val + b.val ≤ 2300 := by decide +kernel
theorem r2_s {b : Int} (hb : 0 ≤ b) : ((r2 (b + 1).toNat : Nat) : Int) = (r2 b.toNat : Nat) + b := by
  rw [show (b + 1).toNat = b.toNat + 1 by omega]
  show ((r2 b.toNat + b.toNat : Nat) : Int) = _
  omega
theorem r3_s {a : Int} (ha : 0 ≤ a) : ((r3 (a + 1).toNat : Nat) : Int) = (r3 a.toNat : Nat) + (r2 a.toNat : Nat) := by
  rw [show (a + 1).toNat = a.toNat + 1 by omega]
  show ((r3 a.toNat + r2 a.toNat : Nat) : Int) = _
  omega
theorem nx1i {a : Int} (h0 : 0 ≤ a) (h1 : a < 25) : nxz (t1 a) a = t1 (a + 1) ∧ lwz (t1 a) = i3_sub (i3_shl 1 a) 1 := by
  have h := nx_1 ⟨a.toNat, by omega⟩
  simp only [Int.toNat_of_nonneg h0] at h
  exact ⟨h.1, h.2.1⟩
theorem nx2i {a b : Int} (h0 : 0 ≤ b) (hb : b < a) (h1 : a < 25) : nxz (t2 a b) b = (if b + 1 < a then t2 a (b + 1) else t2 (a + 1) 0) ∧ lwz (t2 a b) = i3_sub (i3_shl 1 b) 1 := by
  have h := nx_2 ⟨a.toNat, by omega⟩ ⟨b.toNat, by omega⟩ (by show b.toNat < a.toNat; omega)
  simp only [Int.toNat_of_nonneg h0, Int.toNat_of_nonneg (show 0 ≤ a by omega)] at h
  exact ⟨h.1, h.2.1⟩
theorem nx3i {a b d : Int} (h0 : 0 ≤ d) (hd : d < b) (hb : b < a) (h1 : a < 25) : nxz (t3 a b d) d = (if d + 1 < b then t3 a b (d + 1) else if b + 1 < a then t3 a (b + 1) 0 else t3 (a + 1) 1 0) ∧ lwz (t3 a b d) = i3_sub (i3_shl 1 d) 1 := by
  have h := nx_3 ⟨a.toNat, by omega⟩ ⟨b.toNat, by omega⟩ ⟨d.toNat, by omega⟩ (by show d.toNat < b.toNat; omega) (by show b.toNat < a.toNat; omega)
  simp only [Int.toNat_of_nonneg h0, Int.toNat_of_nonneg (show 0 ≤ a by omega), Int.toNat_of_nonneg (show 0 ≤ b by omega)] at h
  exact ⟨h.1, h.2.1⟩
theorem tp_n : ∀ N : Fin 26, ¬ t1 N.val < i3_shl 1 N.val ∧ ¬ t2 N.val 0 < i3_shl 1 N.val ∧ ¬ t3 N.val 1 0 < i3_shl 1 N.val := by decide +kernel
theorem mk_ltN {p : Int → Bool} {N : Int} (h0 : 0 ≤ N) (h1 : N ≤ 25) (hp' : ∀ j, N ≤ j → p j = false) : ((mk p 25 : Nat) : Int) < i3_shl 1 N := by
  have e : mk p 25 = mk p N.toNat := by
    refine mk_uq fun j => ?_
    rw [mk_bit]
    by_cases hj : j < N.toNat
    · rw [decide_eq_true hj, decide_eq_true (by omega)]
    · rw [decide_eq_false hj, hp' j (by omega), Bool.and_false, Bool.false_and]
  rw [e, i3_shl_1i h0 (by omega)]
  have := mk_lt p N.toNat
  omega
theorem fi_1 : i3_sub (i3_shl 1 1) 1 = t1 0 := by decide +kernel
theorem fi_2 : i3_sub (i3_shl 1 2) 1 = t2 1 0 := by decide +kernel
theorem fi_3 : i3_sub (i3_shl 1 3) 1 = t3 2 1 0 := by decide +kernel
def FW (c e : Nat → Int → Int) : Prop := ∀ a, ¬ a = 50 → ¬ a = 53 → ¬ a = 57 → e a = c a
section LEASTW
variable {L : Nat} {sh : Nat → SH} {c : Nat → Int → Int} {n : Nat} {Q : Option AV → List SC → Nat → Prop} {s : Nat} {lo : Option Nat} {W D F x : Int} {ow : Int → Bool} {gd : (Int → Bool) → Int}
theorem c130_e (hV : EV L sh s lo) (hB : SB c s W D) {e : Nat → Int → Int} (he : FW c e) {sz z i : Int} (hz : ¬ z < i3_shl 1 (W * D)) (hi : 0 ≤ i) (hx : tc_W 130 118 [rf 26, .inl x, .inl F, .inl (mk ow 25 : Nat), .inl sz, .inl z, .inl i] [] (hp L sh e) n Q) : tc_W 130 50 [rf 26, .inl x, .inl F, .inl (mk ow 25 : Nat), .inl sz, .inl z, .inl i] [] (hp L sh e) n Q := by
  obtain ⟨h26, h29, h38, h56, hE, hSh, hs⟩ := id hV
  have hL := hE.1
  have hL26 : 26 < L := by omega
  have hL29 : 29 < L := by omega
  have hc2 : e s 2 = W * D := by rw [he s (by omega) (by omega) (by omega)]; exact hB.2.1
  simp only [r130_50]
  repeat' (first | (simp (disch := first | omega | exact Nat.le_of_ble_eq_true rfl | exact rfl | assumption | (simp (disch := omega) only [fr_ne, fr_same]; first | assumption | omega)) only [r130_0, r130_1, r130_2, v130_2_10, r130_5, r130_9, r130_10, r130_11, r130_12, r130_13, r130_14, v130_14_10, r130_17, r130_18, r130_19, r130_20, r130_21, r130_22, r130_23i, r130_24, r130_28, r130_29, r130_30, r130_31i, r130_35, r130_39, r130_40, r130_42, r130_43, r130_44, r130_45i, r130_47, r130_48i, r130_52, r130_58, r130_60, r130_61, r130_62, r130_65, r130_68, r130_71, r130_75, r130_77, r130_78, r130_82, r130_84, r130_85, r130_86, r130_87, r130_91, r130_92, r130_94, r130_95, r130_96, v130_96_10, r130_102, r130_104, r130_105, r130_107, r130_110i, r130_112i, r130_115, r130_121, r130_124, r130_125, g10_34_10, g10_131_6, g10_95_8, o10_len, o10_g4, o6_len, o6_g0, o8_len, o8_g2, il_s, bl_s, bl_z, ll_s, is_s, bs_s, bs_z, ls_s, al_s, al_b, al_l, fr_ne, fr_same, fr_fr, Nat.reduceEqDiff, tc_gf3_s, tc_ql2_s, tc_ws_0, tc_ws_i, tc_ws_l, tc_ws_r, Nat.reduceLeDiff, Nat.reduceAdd, Nat.reduceLT, true_and, and_true, if_true, if_false, tc_K, Option.toList_some, Option.toList_none, List.nil_append, List.cons_append, ite_true, ite_false, Int.cast_ofNat_Int, reduceIte, i3_add_eq, i3_sub_eq, Int.add_sub_cancel, Int.add_neg_cancel_right, hO hL26 h26, hO hL29 h29, ShoS_g0 hSh, ShoS_s0 hSh, ShoS_g1 hSh, ShoS_s1 hSh, ShoS_g2 hSh, ShoS_s2 hSh, ShoS_g3 hSh, ShoS_s3 hSh, ShoS_g4 hSh, ShoS_s4 hSh, ShoS_g5 hSh, ShoS_s5 hSh, ShoS_g6 hSh, ShoS_s6 hSh, ShoS_g7 hSh, ShoS_s7 hSh, hc2]) | (simp only [r130_6, r130_25, r130_36, r130_55, r130_72, r130_79, r130_88, r130_99, i6_lt0, i6_0lt, i6_0le, i6_le0, i6_eq0, b10_0, ite_not, Int.reduceLT, Int.reduceLE, Int.reduceEq, Int.reduceNeg, if_true, if_false, ite_true, ite_false, reduceIte, eq_self, not_true, not_false_eq_true]; try refine tc_ite (fun _ => ?_) (fun _ => ?_) <;> try (exfalso; omega)))
  all_goals first
    | exact hx
    | omega
theorem c130_1 (hV : EV L sh s lo) (hW : 2 ≤ W ∧ W ≤ 5) (hD : 4 ≤ W * D ∧ W * D ≤ 25) (hB : SB c s W D) (hh : HT (W * D) (c 39)) (hF : 0 ≤ F ∧ F ≤ 60) (hx : 0 ≤ x) (hx2 : x < W * D) (hgd : gd = wdr W (W * D) (c 39) F x) (how : ∀ p : Int → Bool, (∀ y, 0 ≤ y → y < 25 → (p y && ow y) = false) → p x = false → gd p = 0)
    (hfound : ∀ e a, FW c e → 0 ≤ a → a < W * D → ¬ a = x → gd (s1 a) = 1 → (∀ p, 0 ≤ p → p < a → ¬ p = x → gd (s1 p) = 0) → Q (some (.inl (mk (s1 a) 25 : Nat))) (hp L sh e) n)
    (hend : ∀ e (a5 a6 : AV), FW c e → (∀ p, 0 ≤ p → p < W * D → ¬ p = x → gd (s1 p) = 0) → tc_W 130 118 [rf 26, .inl x, .inl F, .inl (mk ow 25 : Nat), .inl 1, a5, a6] [] (hp L sh e) n Q) : ∀ (m : Nat) (a : Int) (e : Nat → Int → Int), FW c e → 0 ≤ a → a ≤ W * D → True → 2300 - (a) < m → (∀ p, 0 ≤ p → p < a → ¬ p = x → gd (s1 p) = 0) → tc_W 130 50 [rf 26, .inl x, .inl F, .inl (mk ow 25 : Nat), .inl 1, .inl (t1 a), .inl (a)] [] (hp L sh e) n Q := by
  intro m
  induction m with
  | zero =>
    intro a e he c0 ha hfin hm hz
    by_cases hN : a = W * D
    · subst hN
      have htp := (tp_n ⟨(W * D).toNat, by omega⟩).1
      simp only [Int.toNat_of_nonneg (show 0 ≤ W * D by omega)] at htp
      refine c130_e hV hB he htp (by omega) (hend e _ _ he (fun p z0 z1 z2 => hz p z0 (by omega) z2))
    · exfalso
      omega
  | succ m ih =>
    intro a e he c0 ha hfin hm hz
    by_cases hN : a = W * D
    · subst hN
      have htp := (tp_n ⟨(W * D).toNat, by omega⟩).1
      simp only [Int.toNat_of_nonneg (show 0 ≤ W * D by omega)] at htp
      refine c130_e hV hB he htp (by omega) (hend e _ _ he (fun p z0 z1 z2 => hz p z0 (by omega) z2))
    · have hnx := nx1i (a := a) (by omega) (by omega)
      have hzm : t1 a = ((mk (s1 a) 25 : Nat) : Int) := mk_s1 (by omega) (by omega)
      have hzl : t1 a < i3_shl 1 (W * D) := by
        rw [hzm]
        exact mk_ltN (by omega) (by omega) fun j hj => decide_eq_false (by omega)
      have e39 : e 39 = c 39 := he 39 (by omega) (by omega) (by omega)
      have hsx := hV.2.2.2.2.2.2
      refine c130_s (c := e) (W := W) (D := D) (ow := ow) (p := s1 a) (d := a) hV hW (by omega) (by unfold SB; rw [he s (by omega) (by omega) (by omega), he (s + 7) (by omega) (by omega) (by omega)]; exact hB) (by rw [e39]; exact hh) hF hx hx2 (by rw [e39, ← hgd]; exact how) hzm hzl (by omega) hnx.2 (by omega) ?_ ?_
      · intro e2 k1 hpx hw1
        rw [e39, ← hgd] at hw1
        have he2 : FW c e2 := fun y y1 y2 y3 => (k1 y y1 y2 y3).trans (he y y1 y2 y3)
        have n0 : ¬ x = a := of_decide_eq_false hpx
        rw [hzm]
        exact hfound e2 a he2 c0 (by omega) (by omega) hw1 hz
      intro e2 k1 hno
      rw [e39, ← hgd] at hno
      have he2 : FW c e2 := fun y y1 y2 y3 => (k1 y y1 y2 y3).trans (he y y1 y2 y3)
      have hz2 : ∀ p, 0 ≤ p → p ≤ a → ¬ p = x → gd (s1 p) = 0 := by
        intro p z0 z1 z2
        by_cases heq : p = a
        · rcases hno with hpx | h0
          · exfalso
            have h : x = a := of_decide_eq_true hpx
            omega
          · rw [heq]
            exact h0
        · exact hz p z0 (by omega) z2
      have ih2 := ih (a + 1) e2 he2 (by omega) (by omega) trivial (by omega) (fun p z0 z1 z2 => hz2 p z0 (by omega) z2)
      rw [hnx.1]
      exact ih2
theorem c130_2 (hV : EV L sh s lo) (hW : 2 ≤ W ∧ W ≤ 5) (hD : 4 ≤ W * D ∧ W * D ≤ 25) (hB : SB c s W D) (hh : HT (W * D) (c 39)) (hF : 0 ≤ F ∧ F ≤ 60) (hx : 0 ≤ x) (hx2 : x < W * D) (hgd : gd = wdr W (W * D) (c 39) F x) (how : ∀ p : Int → Bool, (∀ y, 0 ≤ y → y < 25 → (p y && ow y) = false) → p x = false → gd p = 0)
    (hfound : ∀ e a b, FW c e → 0 ≤ b → b < a → a < W * D → ¬ a = x → ¬ b = x → gd (s2 a b) = 1 → (∀ p q, 0 ≤ q → q < p → (p < a ∨ p = a ∧ q < b) → ¬ p = x → ¬ q = x → gd (s2 p q) = 0) → Q (some (.inl (mk (s2 a b) 25 : Nat))) (hp L sh e) n)
    (hend : ∀ e (a5 a6 : AV), FW c e → (∀ p q, 0 ≤ q → q < p → p < W * D → ¬ p = x → ¬ q = x → gd (s2 p q) = 0) → tc_W 130 118 [rf 26, .inl x, .inl F, .inl (mk ow 25 : Nat), .inl 2, a5, a6] [] (hp L sh e) n Q) : ∀ (m : Nat) (a b : Int) (e : Nat → Int → Int), FW c e → 0 ≤ b → b < a → a ≤ W * D → (a = W * D → b = 0) → 2300 - (((r2 a.toNat : Nat) : Int) + b) < m → (∀ p q, 0 ≤ q → q < p → (p < a ∨ p = a ∧ q < b) → ¬ p = x → ¬ q = x → gd (s2 p q) = 0) → tc_W 130 50 [rf 26, .inl x, .inl F, .inl (mk ow 25 : Nat), .inl 2, .inl (t2 a b), .inl (((r2 a.toNat : Nat) : Int) + b)] [] (hp L sh e) n Q := by
  intro m
  induction m with
  | zero =>
    intro a b e he c0 c1 ha hfin hm hz
    by_cases hN : a = W * D
    · have hb0 := hfin hN
      subst hb0
      subst hN
      have htp := (tp_n ⟨(W * D).toNat, by omega⟩).2.1
      simp only [Int.toNat_of_nonneg (show 0 ≤ W * D by omega)] at htp
      refine c130_e hV hB he htp (by omega) (hend e _ _ he (fun p q z0 z1 z2 z3 z4 => hz p q z0 z1 (by omega) z3 z4))
    · exfalso
      have hb1 := (r_bnd ⟨a.toNat, by omega⟩).1
      simp only at hb1
      omega
  | succ m ih =>
    intro a b e he c0 c1 ha hfin hm hz
    by_cases hN : a = W * D
    · have hb0 := hfin hN
      subst hb0
      subst hN
      have htp := (tp_n ⟨(W * D).toNat, by omega⟩).2.1
      simp only [Int.toNat_of_nonneg (show 0 ≤ W * D by omega)] at htp
      refine c130_e hV hB he htp (by omega) (hend e _ _ he (fun p q z0 z1 z2 z3 z4 => hz p q z0 z1 (by omega) z3 z4))
    · have hb1 := (r_bnd ⟨a.toNat, by omega⟩).1
      simp only at hb1
      have hnx := nx2i (a := a) (b := b) (by omega) (by omega) (by omega)
      have hzm : t2 a b = ((mk (s2 a b) 25 : Nat) : Int) := mk_s2 (by omega) (by omega) (by omega) (by omega)
      have hzl : t2 a b < i3_shl 1 (W * D) := by
        rw [hzm]
        exact mk_ltN (by omega) (by omega) fun j hj => by
          show (decide (j = a) || decide (j = b)) = false
          rw [decide_eq_false (by omega), decide_eq_false (by omega)]
          rfl
      have e39 : e 39 = c 39 := he 39 (by omega) (by omega) (by omega)
      have hsx := hV.2.2.2.2.2.2
      refine c130_s (c := e) (W := W) (D := D) (ow := ow) (p := s2 a b) (d := b) hV hW (by omega) (by unfold SB; rw [he s (by omega) (by omega) (by omega), he (s + 7) (by omega) (by omega) (by omega)]; exact hB) (by rw [e39]; exact hh) hF hx hx2 (by rw [e39, ← hgd]; exact how) hzm hzl (by omega) hnx.2 (by omega) ?_ ?_
      · intro e2 k1 hpx hw1
        rw [e39, ← hgd] at hw1
        have he2 : FW c e2 := fun y y1 y2 y3 => (k1 y y1 y2 y3).trans (he y y1 y2 y3)
        have h : (decide (x = a) || decide (x = b)) = false := hpx
        rw [Bool.or_eq_false_iff] at h
        have n0 := of_decide_eq_false h.1
        have n1 := of_decide_eq_false h.2
        rw [hzm]
        exact hfound e2 a b he2 c0 c1 (by omega) (by omega) (by omega) hw1 hz
      intro e2 k1 hno
      rw [e39, ← hgd] at hno
      have he2 : FW c e2 := fun y y1 y2 y3 => (k1 y y1 y2 y3).trans (he y y1 y2 y3)
      have hz2 : ∀ p q, 0 ≤ q → q < p → (p < a ∨ p = a ∧ q ≤ b) → ¬ p = x → ¬ q = x → gd (s2 p q) = 0 := by
        intro p q z0 z1 z2 z3 z4
        by_cases heq : p = a ∧ q = b
        · rcases hno with hpx | h0
          · exfalso
            have h : (decide (x = a) || decide (x = b)) = true := hpx
            rw [Bool.or_eq_true, decide_eq_true_eq, decide_eq_true_eq] at h
            omega
          · rw [heq.1, heq.2]
            exact h0
        · exact hz p q z0 z1 (by omega) z3 z4
      rw [hnx.1]
      by_cases hb1 : b + 1 < a
      · rw [if_pos hb1]
        have ih2 := ih a (b + 1) e2 he2 (by omega) (by omega) (by omega) (fun h => absurd h hN) (by omega) (fun p q z0 z1 z2 z3 z4 => hz2 p q z0 z1 (by omega) z3 z4)
        rw [show ((r2 a.toNat : Nat) : Int) + (b + 1) = ((r2 a.toNat : Nat) : Int) + b + 1 by omega] at ih2
        exact ih2
      · rw [if_neg hb1]
        have hrs := r2_s (b := a) (by omega)
        have ih2 := ih (a + 1) 0 e2 he2 (by omega) (by omega) (by omega) (fun _ => rfl) (by omega) (fun p q z0 z1 z2 z3 z4 => hz2 p q z0 z1 (by omega) z3 z4)
        rw [show ((r2 (a + 1).toNat : Nat) : Int) + 0 = ((r2 a.toNat : Nat) : Int) + b + 1 by omega] at ih2
        exact ih2
theorem c130_3 (hV : EV L sh s lo) (hW : 2 ≤ W ∧ W ≤ 5) (hD : 4 ≤ W * D ∧ W * D ≤ 25) (hB : SB c s W D) (hh : HT (W * D) (c 39)) (hF : 0 ≤ F ∧ F ≤ 60) (hx : 0 ≤ x) (hx2 : x < W * D) (hgd : gd = wdr W (W * D) (c 39) F x) (how : ∀ p : Int → Bool, (∀ y, 0 ≤ y → y < 25 → (p y && ow y) = false) → p x = false → gd p = 0)
    (hfound : ∀ e a b d, FW c e → 0 ≤ d → d < b → b < a → a < W * D → ¬ a = x → ¬ b = x → ¬ d = x → gd (s3 a b d) = 1 → (∀ p q r, 0 ≤ r → r < q → q < p → (p < a ∨ p = a ∧ (q < b ∨ q = b ∧ r < d)) → ¬ p = x → ¬ q = x → ¬ r = x → gd (s3 p q r) = 0) → Q (some (.inl (mk (s3 a b d) 25 : Nat))) (hp L sh e) n)
    (hend : ∀ e (a5 a6 : AV), FW c e → (∀ p q r, 0 ≤ r → r < q → q < p → p < W * D → ¬ p = x → ¬ q = x → ¬ r = x → gd (s3 p q r) = 0) → tc_W 130 118 [rf 26, .inl x, .inl F, .inl (mk ow 25 : Nat), .inl 3, a5, a6] [] (hp L sh e) n Q) : ∀ (m : Nat) (a b d : Int) (e : Nat → Int → Int), FW c e → 0 ≤ d → d < b → b < a → a ≤ W * D → (a = W * D → b = 1 ∧ d = 0) → 2300 - (((r3 a.toNat : Nat) : Int) + ((r2 b.toNat : Nat) : Int) + d) < m → (∀ p q r, 0 ≤ r → r < q → q < p → (p < a ∨ p = a ∧ (q < b ∨ q = b ∧ r < d)) → ¬ p = x → ¬ q = x → ¬ r = x → gd (s3 p q r) = 0) → tc_W 130 50 [rf 26, .inl x, .inl F, .inl (mk ow 25 : Nat), .inl 3, .inl (t3 a b d), .inl (((r3 a.toNat : Nat) : Int) + ((r2 b.toNat : Nat) : Int) + d)] [] (hp L sh e) n Q := by
  intro m
  induction m with
  | zero =>
    intro a b d e he c0 c1 c2 ha hfin hm hz
    by_cases hN : a = W * D
    · obtain ⟨hb0, hd0⟩ := hfin hN
      subst hb0
      subst hd0
      subst hN
      have htp := (tp_n ⟨(W * D).toNat, by omega⟩).2.2
      simp only [Int.toNat_of_nonneg (show 0 ≤ W * D by omega)] at htp
      refine c130_e hV hB he htp (by omega) (hend e _ _ he (fun p q r z0 z1 z2 z3 z4 z5 z6 => hz p q r z0 z1 z2 (by omega) z4 z5 z6))
    · exfalso
      have hb1 := (r_bnd ⟨a.toNat, by omega⟩).2 ⟨b.toNat, by omega⟩ (by show b.toNat < a.toNat; omega)
      simp only at hb1
      omega
  | succ m ih =>
    intro a b d e he c0 c1 c2 ha hfin hm hz
    by_cases hN : a = W * D
    · obtain ⟨hb0, hd0⟩ := hfin hN
      subst hb0
      subst hd0
      subst hN
      have htp := (tp_n ⟨(W * D).toNat, by omega⟩).2.2
      simp only [Int.toNat_of_nonneg (show 0 ≤ W * D by omega)] at htp
      refine c130_e hV hB he htp (by omega) (hend e _ _ he (fun p q r z0 z1 z2 z3 z4 z5 z6 => hz p q r z0 z1 z2 (by omega) z4 z5 z6))
    · have hb1 := (r_bnd ⟨a.toNat, by omega⟩).2 ⟨b.toNat, by omega⟩ (by show b.toNat < a.toNat; omega)
      simp only at hb1
      have hnx := nx3i (a := a) (b := b) (d := d) (by omega) (by omega) (by omega) (by omega)
      have hzm : t3 a b d = ((mk (s3 a b d) 25 : Nat) : Int) := mk_s3 (by omega) (by omega) (by omega) (by omega) (by omega) (by omega)
      have hzl : t3 a b d < i3_shl 1 (W * D) := by
        rw [hzm]
        exact mk_ltN (by omega) (by omega) fun j hj => by
          show ((decide (j = a) || decide (j = b)) || decide (j = d)) = false
          rw [decide_eq_false (by omega), decide_eq_false (by omega), decide_eq_false (by omega)]
          rfl
      have e39 : e 39 = c 39 := he 39 (by omega) (by omega) (by omega)
      have hsx := hV.2.2.2.2.2.2
      refine c130_s (c := e) (W := W) (D := D) (ow := ow) (p := s3 a b d) (d := d) hV hW (by omega) (by unfold SB; rw [he s (by omega) (by omega) (by omega), he (s + 7) (by omega) (by omega) (by omega)]; exact hB) (by rw [e39]; exact hh) hF hx hx2 (by rw [e39, ← hgd]; exact how) hzm hzl (by omega) hnx.2 (by omega) ?_ ?_
      · intro e2 k1 hpx hw1
        rw [e39, ← hgd] at hw1
        have he2 : FW c e2 := fun y y1 y2 y3 => (k1 y y1 y2 y3).trans (he y y1 y2 y3)
        have h : ((decide (x = a) || decide (x = b)) || decide (x = d)) = false := hpx
        rw [Bool.or_eq_false_iff, Bool.or_eq_false_iff] at h
        have n0 := of_decide_eq_false h.1.1
        have n1 := of_decide_eq_false h.1.2
        have n2 := of_decide_eq_false h.2
        rw [hzm]
        exact hfound e2 a b d he2 c0 c1 c2 (by omega) (by omega) (by omega) (by omega) hw1 hz
      intro e2 k1 hno
      rw [e39, ← hgd] at hno
      have he2 : FW c e2 := fun y y1 y2 y3 => (k1 y y1 y2 y3).trans (he y y1 y2 y3)
      have hz2 : ∀ p q r, 0 ≤ r → r < q → q < p → (p < a ∨ p = a ∧ (q < b ∨ q = b ∧ r ≤ d)) → ¬ p = x → ¬ q = x → ¬ r = x → gd (s3 p q r) = 0 := by
        intro p q r z0 z1 z2 z3 z4 z5 z6
        by_cases heq : p = a ∧ q = b ∧ r = d
        · rcases hno with hpx | h0
          · exfalso
            have h : ((decide (x = a) || decide (x = b)) || decide (x = d)) = true := hpx
            rw [Bool.or_eq_true, Bool.or_eq_true, decide_eq_true_eq, decide_eq_true_eq, decide_eq_true_eq] at h
            omega
          · rw [heq.1, heq.2.1, heq.2.2]
            exact h0
        · exact hz p q r z0 z1 z2 (by omega) z4 z5 z6
      rw [hnx.1]
      by_cases hd1 : d + 1 < b
      · rw [if_pos hd1]
        have ih2 := ih a b (d + 1) e2 he2 (by omega) (by omega) (by omega) (by omega) (fun h => absurd h hN) (by omega) (fun p q r z0 z1 z2 z3 z4 z5 z6 => hz2 p q r z0 z1 z2 (by omega) z4 z5 z6)
        rw [show ((r3 a.toNat : Nat) : Int) + ((r2 b.toNat : Nat) : Int) + (d + 1) = ((r3 a.toNat : Nat) : Int) + ((r2 b.toNat : Nat) : Int) + d + 1 by omega] at ih2
        exact ih2
      · rw [if_neg hd1]
        have hrs := r2_s (b := b) (by omega)
        by_cases hb1 : b + 1 < a
        · rw [if_pos hb1]
          have ih2 := ih a (b + 1) 0 e2 he2 (by omega) (by omega) (by omega) (by omega) (fun h => absurd h hN) (by omega) (fun p q r z0 z1 z2 z3 z4 z5 z6 => hz2 p q r z0 z1 z2 (by omega) z4 z5 z6)
          rw [show ((r3 a.toNat : Nat) : Int) + ((r2 (b + 1).toNat : Nat) : Int) + 0 = ((r3 a.toNat : Nat) : Int) + ((r2 b.toNat : Nat) : Int) + d + 1 by omega] at ih2
          exact ih2
        · rw [if_neg hb1]
          have hba : b + 1 = a := by omega
          rw [hba] at hrs
          have hrt := r3_s (a := a) (by omega)
          have h10 : ((r2 (1 : Int).toNat : Nat) : Int) = 0 := rfl
          have ih2 := ih (a + 1) 1 0 e2 he2 (by omega) (by omega) (by omega) (by omega) (fun _ => ⟨rfl, rfl⟩) (by omega) (fun p q r z0 z1 z2 z3 z4 z5 z6 => hz2 p q r z0 z1 z2 (by omega) z4 z5 z6)
          rw [show ((r3 (a + 1).toNat : Nat) : Int) + ((r2 (1 : Int).toNat : Nat) : Int) + 0 = ((r3 a.toNat : Nat) : Int) + ((r2 b.toNat : Nat) : Int) + d + 1 by omega] at ih2
          exact ih2
/-- behind the strength of the cell to be kept -/
theorem c130_t (hV : EV L sh s lo) (hW : 2 ≤ W ∧ W ≤ 5) (hD : 4 ≤ W * D ∧ W * D ≤ 25) (hB : SB c s W D) (hh : HT (W * D) (c 39)) (hF : 0 ≤ F ∧ F ≤ 21) (hx : 0 ≤ x) (hx2 : x < W * D) (hgd : gd = wdr W (W * D) (c 39) F x) (h50 : ∀ y, 0 ≤ y → y < W * D → c 50 y = stg W (W * D) (c 39) F y)
    (hq : ∀ (R : Int) e, (∀ a, ¬ a = 50 → ¬ a = 51 → ¬ a = 53 → ¬ a = 57 → e a = c a) → WSP (W * D) x gd R → Q (some (.inl (if R = -2 then -1 else R))) (hp L sh e) n) : tc_W 130 5 [rf 26, .inl x, .inl F, tc_nil, tc_nil, tc_nil, tc_nil] [.inl (c 50 x)] (hp L sh c) n Q := by
  have hst := St_ex hW hh hF.1
  have hrg : ∀ y, 0 ≤ y → y < W * D → 0 ≤ stg W (W * D) (c 39) F y ∧ stg W (W * D) (c 39) F y ≤ F := fun y y1 y2 => stg_rng hW hh hF.1 y1 y2
  have hr := hrg x hx hx2
  have e50 := h50 x hx hx2
  have ew : wht s0 (c 39) = c 39 := by
    funext y
    rfl
  have hg0 : gd s0 = if stg W (W * D) (c 39) F x = 0 then 1 else 0 := by
    rw [hgd]
    unfold wdr
    rw [ew]
  by_cases hz : stg W (W * D) (c 39) F x = 0
  · rw [if_pos hz] at hg0
    rw [hz] at e50
    have hq' := hq 0 c (fun _ _ _ _ _ => rfl) (Or.inl ⟨rfl, hg0⟩)
    rw [if_neg (by omega)] at hq'
    rw [e50]
    repeat' (first | (simp (disch := first | omega | exact Nat.le_of_ble_eq_true rfl | exact rfl | assumption | (simp (disch := omega) only [fr_ne, fr_same]; first | assumption | omega)) only [r130_0, r130_1, r130_2, v130_2_10, r130_5, r130_9, r130_10, r130_11, r130_12, r130_13, r130_14, v130_14_10, r130_17, r130_18, r130_19, r130_20, r130_21, r130_22, r130_23i, r130_24, r130_28, r130_29, r130_30, r130_31i, r130_35, r130_39, r130_40, r130_42, r130_43, r130_44, r130_45i, r130_47, r130_48i, r130_52, r130_58, r130_60, r130_61, r130_62, r130_65, r130_68, r130_71, r130_75, r130_77, r130_78, r130_82, r130_84, r130_85, r130_86, r130_87, r130_91, r130_92, r130_94, r130_95, r130_96, v130_96_10, r130_102, r130_104, r130_105, r130_107, r130_110i, r130_112i, r130_115, r130_118i, r130_121, r130_124, r130_125, g10_34_10, g10_131_6, g10_95_8, o10_len, o10_g4, o6_len, o6_g0, o8_len, o8_g2, il_s, bl_s, bl_z, ll_s, is_s, bs_s, bs_z, ls_s, al_s, al_b, al_l, fr_ne, fr_same, fr_fr, Nat.reduceEqDiff, tc_gf3_s, tc_ql2_s, tc_ws_0, tc_ws_i, tc_ws_l, tc_ws_r, Nat.reduceLeDiff, Nat.reduceAdd, Nat.reduceLT, true_and, and_true, if_true, if_false, tc_K, Option.toList_some, Option.toList_none, List.nil_append, List.cons_append, ite_true, ite_false, Int.cast_ofNat_Int, reduceIte, i3_add_eq, i3_sub_eq, Int.add_sub_cancel, Int.add_neg_cancel_right]) | (simp only [r130_6, r130_25, r130_36, r130_55, r130_72, r130_79, r130_88, r130_99, i6_lt0, i6_0lt, i6_0le, i6_le0, i6_eq0, b10_0, ite_not, Int.reduceLT, Int.reduceLE, Int.reduceEq, Int.reduceNeg, if_true, if_false, ite_true, ite_false, reduceIte, eq_self, not_true, not_false_eq_true]; try refine tc_ite (fun _ => ?_) (fun _ => ?_) <;> try (exfalso; omega)))
    all_goals first
      | exact hq'
      | omega
  · rw [if_neg hz] at hg0
    rw [e50]
    have hwet : 1 ≤ stg W (W * D) (c 39) F x := by omega
    have hwa : tc_W 130 11 [rf 26, .inl x, .inl F, tc_nil, tc_nil, tc_nil, tc_nil] [] (hp L sh c) n Q := by
      have hL26 : 26 < L := by have := hV.2.2.2.2.1.1; omega
      repeat' (first | (simp (disch := first | omega | exact Nat.le_of_ble_eq_true rfl | exact rfl | assumption | (simp (disch := omega) only [fr_ne, fr_same]; first | assumption | omega)) only [r130_0, r130_1, r130_2, v130_2_10, r130_5, r130_9, r130_10, r130_11, r130_12, r130_13, r130_14, v130_14_10, r130_17, r130_18, r130_19, r130_20, r130_21, r130_22, r130_23i, r130_24, r130_28, r130_29, r130_30, r130_31i, r130_35, r130_39, r130_40, r130_42, r130_43, r130_44, r130_45i, r130_47, r130_48i, r130_52, r130_58, r130_60, r130_61, r130_62, r130_65, r130_68, r130_71, r130_75, r130_77, r130_78, r130_82, r130_84, r130_85, r130_86, r130_87, r130_91, r130_92, r130_94, r130_95, r130_96, v130_96_10, r130_102, r130_104, r130_105, r130_107, r130_110i, r130_112i, r130_115, r130_118i, r130_121, r130_124, r130_125, g10_34_10, g10_131_6, g10_95_8, o10_len, o10_g4, o6_len, o6_g0, o8_len, o8_g2, il_s, bl_s, bl_z, ll_s, is_s, bs_s, bs_z, ls_s, al_s, al_b, al_l, fr_ne, fr_same, fr_fr, Nat.reduceEqDiff, tc_gf3_s, tc_ql2_s, tc_ws_0, tc_ws_i, tc_ws_l, tc_ws_r, Nat.reduceLeDiff, Nat.reduceAdd, Nat.reduceLT, true_and, and_true, if_true, if_false, tc_K, Option.toList_some, Option.toList_none, List.nil_append, List.cons_append, ite_true, ite_false, Int.cast_ofNat_Int, reduceIte, i3_add_eq, i3_sub_eq, Int.add_sub_cancel, Int.add_neg_cancel_right, hO hL26 hV.1]) | (simp only [r130_6, r130_25, r130_36, r130_55, r130_72, r130_79, r130_88, r130_99, i6_lt0, i6_0lt, i6_0le, i6_le0, i6_eq0, b10_0, ite_not, Int.reduceLT, Int.reduceLE, Int.reduceEq, Int.reduceNeg, if_true, if_false, ite_true, ite_false, reduceIte, eq_self, not_true, not_false_eq_true]; try refine tc_ite (fun _ => ?_) (fun _ => ?_) <;> try (exfalso; omega)))
      refine c131 (c := c) (g := stg W (W * D) (c 39) F) hV hW (by omega) hB hh hF (fun y y1 y2 => ⟨h50 y y1 y2, hrg y y1 y2⟩) hx hx2 hwet ?_
      intro j e k1 k2
      have hway : ∀ p : Int → Bool, (∀ y, 0 ≤ y → y < 25 → (p y && (pws (pxs (whn W (W * D) (c 39) F (stg W (W * D) (c 39) F)) x) j y && !decide (y = x))) = false) → p x = false → gd p = 0 := by
        intro p h1 h2
        rw [hgd]
        refine way_wet hW hh hF.1 hst hx hx2 hwet k2 (fun i hi => ?_)
        have hri := pxs_rng (F := F) (ht := c 39) hW hx hx2 hwet i fun q hq => k2.1 q (by omega)
        by_cases hix : pxs (whn W (W * D) (c 39) F (stg W (W * D) (c 39) F)) x i = x
        · rw [hix]
          exact h2
        · have h3 := h1 (pxs (whn W (W * D) (c 39) F (stg W (W * D) (c 39) F)) x i) hri.1 (by omega)
          have h4 : pws (pxs (whn W (W * D) (c 39) F (stg W (W * D) (c 39) F)) x) j (pxs (whn W (W * D) (c 39) F (stg W (W * D) (c 39) F)) x i) = true := pws_t.mpr ⟨i, hi, rfl⟩
          rw [h4, decide_eq_false hix, Bool.not_false, Bool.and_true, Bool.and_true] at h3
          exact h3
      have hclr := mk_clear (p := pws (pxs (whn W (W * D) (c 39) F (stg W (W * D) (c 39) F)) x) j) (N := 25) (k := x) (by omega) hx (by omega)
      generalize pws (pxs (whn W (W * D) (c 39) F (stg W (W * D) (c 39) F)) x) j = pw at hway hclr
      have e39 : e 39 = c 39 := k1 39 (by omega)
      have hsx := hV.2.2.2.2.2.2
      have hBe : SB e s W D := by
        unfold SB
        rw [k1 s (by omega), k1 (s + 7) (by omega)]
        exact hB
      have hhe : HT (W * D) (e 39) := by rw [e39]; exact hh
      have hgde : gd = wdr W (W * D) (e 39) F x := by rw [e39]; exact hgd
      generalize how : (fun y => pw y && !decide (y = x)) = ow at hclr
      have hway2 : ∀ p : Int → Bool, (∀ y, 0 ≤ y → y < 25 → (p y && ow y) = false) → p x = false → gd p = 0 := fun p h1 h2 => hway p (fun y y1 y2 => by rw [← how] at h1; exact h1 y y1 y2) h2
      have hfr : ∀ e2, FW e e2 → ∀ a, ¬ a = 50 → ¬ a = 51 → ¬ a = 53 → ¬ a = 57 → e2 a = c a := fun e2 h a a1 a2 a3 a4 => (h a a1 a3 a4).trans (k1 a a2)
      by_cases hm0 : mk ow 25 = 0
      · have hz0 : i3_and ((mk pw 25 : Nat) : Int) (i3_xor (i3_shl 1 x) (-1)) = 0 := by rw [hclr, hm0]; rfl
        have hno : ∀ p : Int → Bool, p x = false → gd p = 0 := fun p h => hway2 p (fun y y1 y2 => by rw [mk_z.mp hm0 y y1 y2, Bool.and_false]) h
        have hq' := hq (-2) e (fun a _ a2 _ _ => k1 a a2) (Or.inr (Or.inr (Or.inr (Or.inr ⟨hg0, fun p p1 p2 p3 => hno _ (decide_eq_false (fun h => p3 h.symm)), fun p q q1 q2 p2 p3 q3 => hno _ (by
          show (decide (x = p) || decide (x = q)) = false
          rw [decide_eq_false (fun h => p3 h.symm), decide_eq_false (fun h => q3 h.symm)]
          rfl), fun p q r r1 r2 q2 p2 p3 q3 r3 => hno _ (by
          show ((decide (x = p) || decide (x = q)) || decide (x = r)) = false
          rw [decide_eq_false (fun h => p3 h.symm), decide_eq_false (fun h => q3 h.symm), decide_eq_false (fun h => r3 h.symm)]
          rfl), rfl⟩))))
        rw [if_pos rfl] at hq'
        repeat' (first | (simp (disch := first | omega | exact Nat.le_of_ble_eq_true rfl | exact rfl | assumption | (simp (disch := omega) only [fr_ne, fr_same]; first | assumption | omega)) only [r130_0, r130_1, r130_2, v130_2_10, r130_5, r130_9, r130_10, r130_11, r130_12, r130_13, r130_14, v130_14_10, r130_17, r130_18, r130_19, r130_20, r130_21, r130_22, r130_23i, r130_24, r130_28, r130_29, r130_30, r130_31i, r130_35, r130_39, r130_40, r130_42, r130_43, r130_44, r130_45i, r130_47, r130_48i, r130_52, r130_58, r130_60, r130_61, r130_62, r130_65, r130_68, r130_71, r130_75, r130_77, r130_78, r130_82, r130_84, r130_85, r130_86, r130_87, r130_91, r130_92, r130_94, r130_95, r130_96, v130_96_10, r130_102, r130_104, r130_105, r130_107, r130_110i, r130_112i, r130_115, r130_118i, r130_121, r130_124, r130_125, g10_34_10, g10_131_6, g10_95_8, o10_len, o10_g4, o6_len, o6_g0, o8_len, o8_g2, il_s, bl_s, bl_z, ll_s, is_s, bs_s, bs_z, ls_s, al_s, al_b, al_l, fr_ne, fr_same, fr_fr, Nat.reduceEqDiff, tc_gf3_s, tc_ql2_s, tc_ws_0, tc_ws_i, tc_ws_l, tc_ws_r, Nat.reduceLeDiff, Nat.reduceAdd, Nat.reduceLT, true_and, and_true, if_true, if_false, tc_K, Option.toList_some, Option.toList_none, List.nil_append, List.cons_append, ite_true, ite_false, Int.cast_ofNat_Int, reduceIte, i3_add_eq, i3_sub_eq, Int.add_sub_cancel, Int.add_neg_cancel_right, hz0]) | (simp only [r130_6, r130_25, r130_36, r130_55, r130_72, r130_79, r130_88, r130_99, i6_lt0, i6_0lt, i6_0le, i6_le0, i6_eq0, b10_0, ite_not, Int.reduceLT, Int.reduceLE, Int.reduceEq, Int.reduceNeg, if_true, if_false, ite_true, ite_false, reduceIte, eq_self, not_true, not_false_eq_true]; try refine tc_ite (fun _ => ?_) (fun _ => ?_) <;> try (exfalso; omega)))
        exact hq'
      · have hz0 : ¬ ((mk ow 25 : Nat) : Int) = 0 := by omega
        rw [show tc_K 130 17 [rf 26, .inl x, .inl F, tc_nil, tc_nil, tc_nil, tc_nil] [] Q (some (.inl ((mk pw 25 : Nat) : Int))) (hp L sh e) n = tc_W 130 17 [rf 26, .inl x, .inl F, tc_nil, tc_nil, tc_nil, tc_nil] [.inl ((mk pw 25 : Nat) : Int)] (hp L sh e) n Q from rfl]
        repeat' (first | (simp (disch := first | omega | exact Nat.le_of_ble_eq_true rfl | exact rfl | assumption | (simp (disch := omega) only [fr_ne, fr_same]; first | assumption | omega)) only [r130_0, r130_1, r130_2, v130_2_10, r130_5, r130_9, r130_10, r130_11, r130_12, r130_13, r130_14, v130_14_10, r130_17, r130_18, r130_19, r130_20, r130_21, r130_22, r130_23i, r130_24, r130_28, r130_29, r130_30, r130_31i, r130_35, r130_39, r130_40, r130_42, r130_43, r130_44, r130_45i, r130_47, r130_48i, r130_52, r130_58, r130_60, r130_61, r130_62, r130_65, r130_68, r130_71, r130_75, r130_77, r130_78, r130_82, r130_84, r130_85, r130_86, r130_87, r130_91, r130_92, r130_94, r130_95, r130_96, v130_96_10, r130_102, r130_104, r130_105, r130_107, r130_110i, r130_112i, r130_115, r130_118i, r130_121, r130_124, r130_125, g10_34_10, g10_131_6, g10_95_8, o10_len, o10_g4, o6_len, o6_g0, o8_len, o8_g2, il_s, bl_s, bl_z, ll_s, is_s, bs_s, bs_z, ls_s, al_s, al_b, al_l, fr_ne, fr_same, fr_fr, Nat.reduceEqDiff, tc_gf3_s, tc_ql2_s, tc_ws_0, tc_ws_i, tc_ws_l, tc_ws_r, Nat.reduceLeDiff, Nat.reduceAdd, Nat.reduceLT, true_and, and_true, if_true, if_false, tc_K, Option.toList_some, Option.toList_none, List.nil_append, List.cons_append, ite_true, ite_false, Int.cast_ofNat_Int, reduceIte, i3_add_eq, i3_sub_eq, Int.add_sub_cancel, Int.add_neg_cancel_right, hclr]) | (simp only [r130_6, r130_25, r130_36, r130_55, r130_72, r130_79, r130_88, r130_99, i6_lt0, i6_0lt, i6_0le, i6_le0, i6_eq0, b10_0, ite_not, Int.reduceLT, Int.reduceLE, Int.reduceEq, Int.reduceNeg, if_true, if_false, ite_true, ite_false, reduceIte, eq_self, not_true, not_false_eq_true]; try refine tc_ite (fun _ => ?_) (fun _ => ?_) <;> try (exfalso; omega)))
        all_goals try omega
        have hne : ∀ (p : Int → Bool), ¬ (((mk p 25 : Nat) : Int) = -2) := fun p => by omega
        -- sizes 1, 2, 3
        simp only [r130_33]
        repeat' (first | (simp (disch := first | omega | exact Nat.le_of_ble_eq_true rfl | exact rfl | assumption | (simp (disch := omega) only [fr_ne, fr_same]; first | assumption | omega)) only [r130_0, r130_1, r130_2, v130_2_10, r130_5, r130_9, r130_10, r130_11, r130_12, r130_13, r130_14, v130_14_10, r130_17, r130_18, r130_19, r130_20, r130_21, r130_22, r130_23i, r130_24, r130_28, r130_29, r130_30, r130_31i, r130_35, r130_39, r130_40, r130_42, r130_43, r130_44, r130_45i, r130_47, r130_48i, r130_52, r130_58, r130_60, r130_61, r130_62, r130_65, r130_68, r130_71, r130_75, r130_77, r130_78, r130_82, r130_84, r130_85, r130_86, r130_87, r130_91, r130_92, r130_94, r130_95, r130_96, v130_96_10, r130_102, r130_104, r130_105, r130_107, r130_110i, r130_112i, r130_115, r130_118i, r130_121, r130_124, r130_125, g10_34_10, g10_131_6, g10_95_8, o10_len, o10_g4, o6_len, o6_g0, o8_len, o8_g2, il_s, bl_s, bl_z, ll_s, is_s, bs_s, bs_z, ls_s, al_s, al_b, al_l, fr_ne, fr_same, fr_fr, Nat.reduceEqDiff, tc_gf3_s, tc_ql2_s, tc_ws_0, tc_ws_i, tc_ws_l, tc_ws_r, Nat.reduceLeDiff, Nat.reduceAdd, Nat.reduceLT, true_and, and_true, if_true, if_false, tc_K, Option.toList_some, Option.toList_none, List.nil_append, List.cons_append, ite_true, ite_false, Int.cast_ofNat_Int, reduceIte, i3_add_eq, i3_sub_eq, Int.add_sub_cancel, Int.add_neg_cancel_right, fi_1]) | (simp only [r130_6, r130_25, r130_36, r130_55, r130_72, r130_79, r130_88, r130_99, i6_lt0, i6_0lt, i6_0le, i6_le0, i6_eq0, b10_0, ite_not, Int.reduceLT, Int.reduceLE, Int.reduceEq, Int.reduceNeg, if_true, if_false, ite_true, ite_false, reduceIte, eq_self, not_true, not_false_eq_true]; try refine tc_ite (fun _ => ?_) (fun _ => ?_) <;> try (exfalso; omega)))
        have run := c130_1 (c := e) (n := n) (Q := Q) (ow := ow) (gd := gd) (x := x) hV hW hD hBe hhe (F := F) (by omega) hx hx2 hgde hway2 (fun e2 a he2 a0 a1 a2 a3 a4 => by
          have hq' := hq _ e2 (hfr e2 he2) (Or.inr (Or.inl ⟨hg0, a, a0, a1, a2, a3, rfl, fun p p1 p2 p3 => a4 p p1 p2 p3⟩))
          rw [if_neg (hne _)] at hq'
          exact hq') ?_ 2301 0 e (fun _ _ _ _ => rfl) (by omega) (by omega) trivial (by omega) (fun p p1 p2 => by omega)
        · exact run
        intro e1 a5 a6 he1 hz1
        repeat' (first | (simp (disch := first | omega | exact Nat.le_of_ble_eq_true rfl | exact rfl | assumption | (simp (disch := omega) only [fr_ne, fr_same]; first | assumption | omega)) only [r130_0, r130_1, r130_2, v130_2_10, r130_5, r130_9, r130_10, r130_11, r130_12, r130_13, r130_14, v130_14_10, r130_17, r130_18, r130_19, r130_20, r130_21, r130_22, r130_23i, r130_24, r130_28, r130_29, r130_30, r130_31i, r130_35, r130_39, r130_40, r130_42, r130_43, r130_44, r130_45i, r130_47, r130_48i, r130_52, r130_58, r130_60, r130_61, r130_62, r130_65, r130_68, r130_71, r130_75, r130_77, r130_78, r130_82, r130_84, r130_85, r130_86, r130_87, r130_91, r130_92, r130_94, r130_95, r130_96, v130_96_10, r130_102, r130_104, r130_105, r130_107, r130_110i, r130_112i, r130_115, r130_118i, r130_121, r130_124, r130_125, g10_34_10, g10_131_6, g10_95_8, o10_len, o10_g4, o6_len, o6_g0, o8_len, o8_g2, il_s, bl_s, bl_z, ll_s, is_s, bs_s, bs_z, ls_s, al_s, al_b, al_l, fr_ne, fr_same, fr_fr, Nat.reduceEqDiff, tc_gf3_s, tc_ql2_s, tc_ws_0, tc_ws_i, tc_ws_l, tc_ws_r, Nat.reduceLeDiff, Nat.reduceAdd, Nat.reduceLT, true_and, and_true, if_true, if_false, tc_K, Option.toList_some, Option.toList_none, List.nil_append, List.cons_append, ite_true, ite_false, Int.cast_ofNat_Int, reduceIte, i3_add_eq, i3_sub_eq, Int.add_sub_cancel, Int.add_neg_cancel_right, Int.reduceAdd]) | (simp only [r130_6, r130_25, r130_36, r130_55, r130_72, r130_79, r130_88, r130_99, i6_lt0, i6_0lt, i6_0le, i6_le0, i6_eq0, b10_0, ite_not, Int.reduceLT, Int.reduceLE, Int.reduceEq, Int.reduceNeg, if_true, if_false, ite_true, ite_false, reduceIte, eq_self, not_true, not_false_eq_true]; try refine tc_ite (fun _ => ?_) (fun _ => ?_) <;> try (exfalso; omega)))
        simp only [r130_33]
        repeat' (first | (simp (disch := first | omega | exact Nat.le_of_ble_eq_true rfl | exact rfl | assumption | (simp (disch := omega) only [fr_ne, fr_same]; first | assumption | omega)) only [r130_0, r130_1, r130_2, v130_2_10, r130_5, r130_9, r130_10, r130_11, r130_12, r130_13, r130_14, v130_14_10, r130_17, r130_18, r130_19, r130_20, r130_21, r130_22, r130_23i, r130_24, r130_28, r130_29, r130_30, r130_31i, r130_35, r130_39, r130_40, r130_42, r130_43, r130_44, r130_45i, r130_47, r130_48i, r130_52, r130_58, r130_60, r130_61, r130_62, r130_65, r130_68, r130_71, r130_75, r130_77, r130_78, r130_82, r130_84, r130_85, r130_86, r130_87, r130_91, r130_92, r130_94, r130_95, r130_96, v130_96_10, r130_102, r130_104, r130_105, r130_107, r130_110i, r130_112i, r130_115, r130_118i, r130_121, r130_124, r130_125, g10_34_10, g10_131_6, g10_95_8, o10_len, o10_g4, o6_len, o6_g0, o8_len, o8_g2, il_s, bl_s, bl_z, ll_s, is_s, bs_s, bs_z, ls_s, al_s, al_b, al_l, fr_ne, fr_same, fr_fr, Nat.reduceEqDiff, tc_gf3_s, tc_ql2_s, tc_ws_0, tc_ws_i, tc_ws_l, tc_ws_r, Nat.reduceLeDiff, Nat.reduceAdd, Nat.reduceLT, true_and, and_true, if_true, if_false, tc_K, Option.toList_some, Option.toList_none, List.nil_append, List.cons_append, ite_true, ite_false, Int.cast_ofNat_Int, reduceIte, i3_add_eq, i3_sub_eq, Int.add_sub_cancel, Int.add_neg_cancel_right, fi_2]) | (simp only [r130_6, r130_25, r130_36, r130_55, r130_72, r130_79, r130_88, r130_99, i6_lt0, i6_0lt, i6_0le, i6_le0, i6_eq0, b10_0, ite_not, Int.reduceLT, Int.reduceLE, Int.reduceEq, Int.reduceNeg, if_true, if_false, ite_true, ite_false, reduceIte, eq_self, not_true, not_false_eq_true]; try refine tc_ite (fun _ => ?_) (fun _ => ?_) <;> try (exfalso; omega)))
        have hs1 : SB e1 s W D := by
          unfold SB
          rw [he1 s (by omega) (by omega) (by omega), he1 (s + 7) (by omega) (by omega) (by omega)]
          exact hBe
        have r21 : ((r2 (1 : Int).toNat : Nat) : Int) + 0 = 0 := rfl
        have run := c130_2 (c := e) (n := n) (Q := Q) (ow := ow) (gd := gd) (x := x) hV hW hD hBe hhe (F := F) (by omega) hx hx2 hgde hway2 (fun e2 a b he2 b0 b1 a1 a2 b2 a3 a4 => by
          have hq' := hq _ e2 (hfr e2 he2) (Or.inr (Or.inr (Or.inl ⟨hg0, hz1, a, b, b0, b1, a1, a2, b2, a3, rfl, fun p q q1 q2 pq p3 q3 => a4 p q q1 q2 pq p3 q3⟩)))
          rw [if_neg (hne _)] at hq'
          exact hq') ?_ 2301 1 0 e1 he1 (by omega) (by omega) (by omega) (fun h => by omega) (by rw [r21]; omega) (fun p q q1 q2 pq => by omega)
        · rw [r21] at run
          exact run
        intro e2 a5 a6 he2 hz2
        repeat' (first | (simp (disch := first | omega | exact Nat.le_of_ble_eq_true rfl | exact rfl | assumption | (simp (disch := omega) only [fr_ne, fr_same]; first | assumption | omega)) only [r130_0, r130_1, r130_2, v130_2_10, r130_5, r130_9, r130_10, r130_11, r130_12, r130_13, r130_14, v130_14_10, r130_17, r130_18, r130_19, r130_20, r130_21, r130_22, r130_23i, r130_24, r130_28, r130_29, r130_30, r130_31i, r130_35, r130_39, r130_40, r130_42, r130_43, r130_44, r130_45i, r130_47, r130_48i, r130_52, r130_58, r130_60, r130_61, r130_62, r130_65, r130_68, r130_71, r130_75, r130_77, r130_78, r130_82, r130_84, r130_85, r130_86, r130_87, r130_91, r130_92, r130_94, r130_95, r130_96, v130_96_10, r130_102, r130_104, r130_105, r130_107, r130_110i, r130_112i, r130_115, r130_118i, r130_121, r130_124, r130_125, g10_34_10, g10_131_6, g10_95_8, o10_len, o10_g4, o6_len, o6_g0, o8_len, o8_g2, il_s, bl_s, bl_z, ll_s, is_s, bs_s, bs_z, ls_s, al_s, al_b, al_l, fr_ne, fr_same, fr_fr, Nat.reduceEqDiff, tc_gf3_s, tc_ql2_s, tc_ws_0, tc_ws_i, tc_ws_l, tc_ws_r, Nat.reduceLeDiff, Nat.reduceAdd, Nat.reduceLT, true_and, and_true, if_true, if_false, tc_K, Option.toList_some, Option.toList_none, List.nil_append, List.cons_append, ite_true, ite_false, Int.cast_ofNat_Int, reduceIte, i3_add_eq, i3_sub_eq, Int.add_sub_cancel, Int.add_neg_cancel_right, Int.reduceAdd]) | (simp only [r130_6, r130_25, r130_36, r130_55, r130_72, r130_79, r130_88, r130_99, i6_lt0, i6_0lt, i6_0le, i6_le0, i6_eq0, b10_0, ite_not, Int.reduceLT, Int.reduceLE, Int.reduceEq, Int.reduceNeg, if_true, if_false, ite_true, ite_false, reduceIte, eq_self, not_true, not_false_eq_true]; try refine tc_ite (fun _ => ?_) (fun _ => ?_) <;> try (exfalso; omega)))
        simp only [r130_33]
        repeat' (first | (simp (disch := first | omega | exact Nat.le_of_ble_eq_true rfl | exact rfl | assumption | (simp (disch := omega) only [fr_ne, fr_same]; first | assumption | omega)) only [r130_0, r130_1, r130_2, v130_2_10, r130_5, r130_9, r130_10, r130_11, r130_12, r130_13, r130_14, v130_14_10, r130_17, r130_18, r130_19, r130_20, r130_21, r130_22, r130_23i, r130_24, r130_28, r130_29, r130_30, r130_31i, r130_35, r130_39, r130_40, r130_42, r130_43, r130_44, r130_45i, r130_47, r130_48i, r130_52, r130_58, r130_60, r130_61, r130_62, r130_65, r130_68, r130_71, r130_75, r130_77, r130_78, r130_82, r130_84, r130_85, r130_86, r130_87, r130_91, r130_92, r130_94, r130_95, r130_96, v130_96_10, r130_102, r130_104, r130_105, r130_107, r130_110i, r130_112i, r130_115, r130_118i, r130_121, r130_124, r130_125, g10_34_10, g10_131_6, g10_95_8, o10_len, o10_g4, o6_len, o6_g0, o8_len, o8_g2, il_s, bl_s, bl_z, ll_s, is_s, bs_s, bs_z, ls_s, al_s, al_b, al_l, fr_ne, fr_same, fr_fr, Nat.reduceEqDiff, tc_gf3_s, tc_ql2_s, tc_ws_0, tc_ws_i, tc_ws_l, tc_ws_r, Nat.reduceLeDiff, Nat.reduceAdd, Nat.reduceLT, true_and, and_true, if_true, if_false, tc_K, Option.toList_some, Option.toList_none, List.nil_append, List.cons_append, ite_true, ite_false, Int.cast_ofNat_Int, reduceIte, i3_add_eq, i3_sub_eq, Int.add_sub_cancel, Int.add_neg_cancel_right, fi_3]) | (simp only [r130_6, r130_25, r130_36, r130_55, r130_72, r130_79, r130_88, r130_99, i6_lt0, i6_0lt, i6_0le, i6_le0, i6_eq0, b10_0, ite_not, Int.reduceLT, Int.reduceLE, Int.reduceEq, Int.reduceNeg, if_true, if_false, ite_true, ite_false, reduceIte, eq_self, not_true, not_false_eq_true]; try refine tc_ite (fun _ => ?_) (fun _ => ?_) <;> try (exfalso; omega)))
        have r31 : ((r3 (2 : Int).toNat : Nat) : Int) + ((r2 (1 : Int).toNat : Nat) : Int) + 0 = 0 := rfl
        have run := c130_3 (c := e) (n := n) (Q := Q) (ow := ow) (gd := gd) (x := x) hV hW hD hBe hhe (F := F) (by omega) hx hx2 hgde hway2 (fun e3 a b d he3 d0 d1 b1 a1 a2 b2 d2 a3 a4 => by
          have hq' := hq _ e3 (hfr e3 he3) (Or.inr (Or.inr (Or.inr (Or.inl ⟨hg0, hz1, hz2, a, b, d, d0, d1, b1, a1, a2, b2, d2, a3, rfl, fun p q r r1 r2 q2 pq p3 q3 r3 => a4 p q r r1 r2 q2 pq p3 q3 r3⟩))))
          rw [if_neg (hne _)] at hq'
          exact hq') ?_ 2301 2 1 0 e2 he2 (by omega) (by omega) (by omega) (by omega) (fun h => by omega) (by rw [r31]; omega) (fun p q r r1 r2 q2 pq => by omega)
        · rw [r31] at run
          exact run
        intro e3 a5 a6 he3 hz3
        have hq' := hq (-2) e3 (hfr e3 he3) (Or.inr (Or.inr (Or.inr (Or.inr ⟨hg0, hz1, hz2, hz3, rfl⟩))))
        rw [if_pos rfl] at hq'
        repeat' (first | (simp (disch := first | omega | exact Nat.le_of_ble_eq_true rfl | exact rfl | assumption | (simp (disch := omega) only [fr_ne, fr_same]; first | assumption | omega)) only [r130_0, r130_1, r130_2, v130_2_10, r130_5, r130_9, r130_10, r130_11, r130_12, r130_13, r130_14, v130_14_10, r130_17, r130_18, r130_19, r130_20, r130_21, r130_22, r130_23i, r130_24, r130_28, r130_29, r130_30, r130_31i, r130_35, r130_39, r130_40, r130_42, r130_43, r130_44, r130_45i, r130_47, r130_48i, r130_52, r130_58, r130_60, r130_61, r130_62, r130_65, r130_68, r130_71, r130_75, r130_77, r130_78, r130_82, r130_84, r130_85, r130_86, r130_87, r130_91, r130_92, r130_94, r130_95, r130_96, v130_96_10, r130_102, r130_104, r130_105, r130_107, r130_110i, r130_112i, r130_115, r130_118i, r130_121, r130_124, r130_125, g10_34_10, g10_131_6, g10_95_8, o10_len, o10_g4, o6_len, o6_g0, o8_len, o8_g2, il_s, bl_s, bl_z, ll_s, is_s, bs_s, bs_z, ls_s, al_s, al_b, al_l, fr_ne, fr_same, fr_fr, Nat.reduceEqDiff, tc_gf3_s, tc_ql2_s, tc_ws_0, tc_ws_i, tc_ws_l, tc_ws_r, Nat.reduceLeDiff, Nat.reduceAdd, Nat.reduceLT, true_and, and_true, if_true, if_false, tc_K, Option.toList_some, Option.toList_none, List.nil_append, List.cons_append, ite_true, ite_false, Int.cast_ofNat_Int, reduceIte, i3_add_eq, i3_sub_eq, Int.add_sub_cancel, Int.add_neg_cancel_right, Int.reduceAdd]) | (simp only [r130_6, r130_25, r130_36, r130_55, r130_72, r130_79, r130_88, r130_99, i6_lt0, i6_0lt, i6_0le, i6_le0, i6_eq0, b10_0, ite_not, Int.reduceLT, Int.reduceLE, Int.reduceEq, Int.reduceNeg, if_true, if_false, ite_true, ite_false, reduceIte, eq_self, not_true, not_false_eq_true]; try refine tc_ite (fun _ => ?_) (fun _ => ?_) <;> try (exfalso; omega)))
        simp only [r130_33]
        repeat' (first | (simp (disch := first | omega | exact Nat.le_of_ble_eq_true rfl | exact rfl | assumption | (simp (disch := omega) only [fr_ne, fr_same]; first | assumption | omega)) only [r130_0, r130_1, r130_2, v130_2_10, r130_5, r130_9, r130_10, r130_11, r130_12, r130_13, r130_14, v130_14_10, r130_17, r130_18, r130_19, r130_20, r130_21, r130_22, r130_23i, r130_24, r130_28, r130_29, r130_30, r130_31i, r130_35, r130_39, r130_40, r130_42, r130_43, r130_44, r130_45i, r130_47, r130_48i, r130_52, r130_58, r130_60, r130_61, r130_62, r130_65, r130_68, r130_71, r130_75, r130_77, r130_78, r130_82, r130_84, r130_85, r130_86, r130_87, r130_91, r130_92, r130_94, r130_95, r130_96, v130_96_10, r130_102, r130_104, r130_105, r130_107, r130_110i, r130_112i, r130_115, r130_118i, r130_121, r130_124, r130_125, g10_34_10, g10_131_6, g10_95_8, o10_len, o10_g4, o6_len, o6_g0, o8_len, o8_g2, il_s, bl_s, bl_z, ll_s, is_s, bs_s, bs_z, ls_s, al_s, al_b, al_l, fr_ne, fr_same, fr_fr, Nat.reduceEqDiff, tc_gf3_s, tc_ql2_s, tc_ws_0, tc_ws_i, tc_ws_l, tc_ws_r, Nat.reduceLeDiff, Nat.reduceAdd, Nat.reduceLT, true_and, and_true, if_true, if_false, tc_K, Option.toList_some, Option.toList_none, List.nil_append, List.cons_append, ite_true, ite_false, Int.cast_ofNat_Int, reduceIte, i3_add_eq, i3_sub_eq, Int.add_sub_cancel, Int.add_neg_cancel_right]) | (simp only [r130_6, r130_25, r130_36, r130_55, r130_72, r130_79, r130_88, r130_99, i6_lt0, i6_0lt, i6_0le, i6_le0, i6_eq0, b10_0, ite_not, Int.reduceLT, Int.reduceLE, Int.reduceEq, Int.reduceNeg, if_true, if_false, ite_true, ite_false, reduceIte, eq_self, not_true, not_false_eq_true]; try refine tc_ite (fun _ => ?_) (fun _ => ?_) <;> try (exfalso; omega)))
        exact hq'
    repeat' (first | (simp (disch := first | omega | exact Nat.le_of_ble_eq_true rfl | exact rfl | assumption | (simp (disch := omega) only [fr_ne, fr_same]; first | assumption | omega)) only [r130_0, r130_1, r130_2, v130_2_10, r130_5, r130_9, r130_10, r130_12, r130_13, r130_14, v130_14_10, r130_17, r130_18, r130_19, r130_20, r130_21, r130_22, r130_23i, r130_24, r130_28, r130_29, r130_30, r130_31i, r130_35, r130_39, r130_40, r130_42, r130_43, r130_44, r130_45i, r130_47, r130_48i, r130_52, r130_58, r130_60, r130_61, r130_62, r130_65, r130_68, r130_71, r130_75, r130_77, r130_78, r130_82, r130_84, r130_85, r130_86, r130_87, r130_91, r130_92, r130_94, r130_95, r130_96, v130_96_10, r130_102, r130_104, r130_105, r130_107, r130_110i, r130_112i, r130_115, r130_118i, r130_121, r130_124, r130_125, g10_34_10, g10_131_6, g10_95_8, o10_len, o10_g4, o6_len, o6_g0, o8_len, o8_g2, il_s, bl_s, bl_z, ll_s, is_s, bs_s, bs_z, ls_s, al_s, al_b, al_l, fr_ne, fr_same, fr_fr, Nat.reduceEqDiff, tc_gf3_s, tc_ql2_s, tc_ws_0, tc_ws_i, tc_ws_l, tc_ws_r, Nat.reduceLeDiff, Nat.reduceAdd, Nat.reduceLT, true_and, and_true, if_true, if_false, tc_K, Option.toList_some, Option.toList_none, List.nil_append, List.cons_append, ite_true, ite_false, Int.cast_ofNat_Int, reduceIte, i3_add_eq, i3_sub_eq, Int.add_sub_cancel, Int.add_neg_cancel_right]) | (simp only [r130_6, r130_25, r130_36, r130_55, r130_72, r130_79, r130_88, r130_99, i6_lt0, i6_0lt, i6_0le, i6_le0, i6_eq0, b10_0, ite_not, Int.reduceLT, Int.reduceLE, Int.reduceEq, Int.reduceNeg, if_true, if_false, ite_true, ite_false, reduceIte, eq_self, not_true, not_false_eq_true]; try refine tc_ite (fun _ => ?_) (fun _ => ?_) <;> try (exfalso; omega)))
    all_goals first
      | exact hwa
      | omega
end LEASTW

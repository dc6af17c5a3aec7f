/-! the class: a rival's SPADE -/
theorem lq_5 {α β γ δ ε : Type} {P I : Int → α → β → γ → δ → ε → Prop} {N : Int} (h1 : ∀ k a b d e f, 0 ≤ k → k < N → I k a b d e f → (∀ a b d e f, I (k + 1) a b d e f → P (k + 1) a b d e f) → P k a b d e f) (h2 : ∀ a b d e f, I N a b d e f → P N a b d e f) (k : Int) (a : α) (b : β) (d : γ) (e : δ) (f : ε) (hk : 0 ≤ k) (hk2 : k ≤ N) (hi : I k a b d e f) : P k a b d e f :=
  lq_4 (P := fun k a b d (q : δ × ε) => P k a b d q.1 q.2) (I := fun k a b d (q : δ × ε) => I k a b d q.1 q.2) (fun k a b d q hk hk2 hi ih => h1 k a b d q.1 q.2 hk hk2 hi fun a b d e f h => ih a b d (e, f) h) (fun a b d q h => h2 a b d q.1 q.2 h) k a b d (e, f) hk hk2 hi
theorem rvl_le {b t : Nat → Int → Int} {la : Option Law} {m : Nat} : ∀ K : Nat, rvl b la t m K ≤ gos b la t m 4 1 ∧ (∀ x : Int, 0 ≤ x → x < K → cdg b t x = 1 → rvl b la t m K ≤ gos b la (dgs b t x) m 4 1) ∧ (∀ z, z ≤ gos b la t m 4 1 → (∀ x : Int, 0 ≤ x → x < K → cdg b t x = 1 → z ≤ gos b la (dgs b t x) m 4 1) → z ≤ rvl b la t m K) := by
  intro K
  induction K with
  | zero => exact ⟨Int.le_refl _, fun x x1 x2 => by omega, fun z h _ => h⟩
  | succ K ih =>
    have e : rvl b la t m (K + 1) = if cdg b t K = 1 ∧ gos b la (dgs b t K) m 4 1 < rvl b la t m K then gos b la (dgs b t K) m 4 1 else rvl b la t m K := rfl
    rw [e]
    by_cases hc : cdg b t K = 1 ∧ gos b la (dgs b t K) m 4 1 < rvl b la t m K
    · rw [if_pos hc]
      refine ⟨by omega, fun x x1 x2 x3 => ?_, fun z h1 h2 => h2 K (by omega) (by omega) hc.1⟩
      by_cases hx : x = K
      · rw [hx]
        exact Int.le_refl _
      · have := ih.2.1 x x1 (by omega) x3
        omega
    · rw [if_neg hc]
      refine ⟨ih.1, fun x x1 x2 x3 => ?_, fun z h1 h2 => ih.2.2 z h1 fun x x1 x2 x3 => h2 x x1 (by omega) x3⟩
      by_cases hx : x = K
      · rw [hx] at x3 ⊢
        have : ¬ gos b la (dgs b t K) m 4 1 < rvl b la t m K := fun h => hc ⟨x3, h⟩
        omega
      · exact ih.2.1 x x1 (by omega) x3
theorem rvs_stop {b t : Nat → Int → Int} {la : Option Law} {m M : Nat} {T : Int} {a : Nat} (h1 : T ≤ (rvs b la t m M a).2) : ∀ k : Nat, (∀ x : Int, a ≤ x → x < (a + k : Nat) → cdg b t x = 1 → rvl b la (dgs b t x) m M ≤ T) → rvs b la t m M (a + k) = rvs b la t m M a := by
  intro k
  induction k with
  | zero => intro _; rfl
  | succ k ih =>
    intro h
    have e : rvs b la t m M (a + (k + 1)) = if cdg b t ((a + k : Nat) : Int) = 1 ∧ (rvs b la t m M (a + k)).2 < rvl b la (dgs b t ((a + k : Nat) : Int)) m M then (((a + k : Nat) : Int), rvl b la (dgs b t ((a + k : Nat) : Int)) m M) else rvs b la t m M (a + k) := rfl
    have e2 := ih fun x x1 x2 => h x x1 (by omega)
    rw [e, e2, if_neg]
    intro hc
    have := h ((a + k : Nat) : Int) (by omega) (by omega) hc.1
    omega
section RIVC
variable {L : Nat} {sh : Nat → SH} {c d e : Nat → Int → Int} {n : Nat} {Q : Option AV → List SC → Nat → Prop} {s : Nat} {lo : Option Nat} {b σ : Nat → Int → Int} {la : Option Law} {k : Prop}
/-- the last reply is a spade, or none -/
def LRp (b d : Nat → Int → Int) : Prop := d 60 6 = -1 ∨ (0 ≤ d 60 6 ∧ d 60 6 < 4 * (b 0 0 * b 0 1))
theorem c128 (hT : TR L sh c s lo b la) (hσ : SAN k b 61 c σ) (hw : WS b σ) {m fl : Int} (hm : 1 ≤ m ∧ m ≤ 60) (h4 : c 60 4 = m) (h9 : σ 4 0 + m ≤ 900) (hfl : -1 ≤ fl) (h6 : LRp b c) {B : B4} (hB : BN c B)
    (hq : ∀ e v, TE c e → LRp b e → BN e B → (v = rvl b la σ m.toNat (4 * (b 0 0 * b 0 1)).toNat ∨ (rvl b la σ m.toNat (4 * (b 0 0 * b 0 1)).toNat ≤ v ∧ v ≤ fl)) → Q (some (.inl v)) (hp L sh e) n) : tc_C 128 [rf 60, .inl fl] (hp L sh c) n Q := by
  obtain ⟨hE, hSh, hs, ⟨h61, h65, h60⟩, hb, hl, hal, hBs⟩ := id hT
  have hL := hE.1
  have hL60 : 60 < L := by omega
  have hN := hb.n25
  have hc2 := hBs.1.2.1
  have hrv := rvl_le (b := b) (t := σ) (la := la) (m := m.toNat) (4 * (b 0 0 * b 0 1)).toNat
  generalize rvl b la σ m.toNat (4 * (b 0 0 * b 0 1)).toNat = R at hq hrv
  have ht0 := gos_mk (la := la) (k := m.toNat) hb hw (by omega)
  show tc_W 128 0 [rf 60, .inl fl, tc_nil, tc_nil, tc_nil, tc_nil, tc_nil] [] _ _ Q
  repeat' (first | (simp (disch := first | omega | exact Nat.le_of_ble_eq_true rfl | exact rfl | assumption | (simp (disch := omega) only [fr_ne, fr_same]; first | assumption | omega)) only [r128_0, r128_1, r128_2, r128_4, v128_4_9, r128_7i, r128_8, r128_9i, r128_11, r128_12, r128_13, r128_16, r128_19, r128_23, r128_24, r128_28, r128_29, r128_33, r128_34, r128_37, r128_40, r128_41i, r128_43, r128_45, r128_49, r128_50, r128_53, r128_54, r128_57, r128_58, r128_61, r128_63, v128_63_5, r128_66i, r128_68, r128_70, r128_74, r128_75, r128_78, r128_80, r128_81, r128_82, r128_84, v128_84_5, r128_87, r128_88, r128_89, r128_90, v128_90_9, r128_93i, r128_95, r128_96, r128_99, r128_101, r128_103, r128_104, r128_105, v128_105_5, r128_108, r128_110, r128_114, r128_116i, r128_117, r128_118, r128_120, r128_123i, r128_126, r128_129, r128_130, g9_15_9, g9_74_8, g9_36_9, g9_22_9, p9_36_9, o9_len, o9_g1, o8_len, o8_g2, o9_g6, o9_g2, o9_s6, il_s, bl_s, bl_z, ll_s, is_s, bs_s, bs_z, ls_s, al_s, al_b, al_l, fr_ne, fr_same, fr_fr, Nat.reduceEqDiff, tc_gf3_s, tc_ql2_s, tc_ws_0, tc_ws_i, tc_ws_l, tc_ws_r, Nat.reduceLeDiff, Nat.reduceAdd, Nat.reduceLT, true_and, and_true, if_true, if_false, tc_K, Option.toList_some, Option.toList_none, List.nil_append, List.cons_append, ite_true, ite_false, Int.cast_ofNat_Int, reduceIte, i3_add_eq, i3_sub_eq, Int.add_sub_cancel, Int.add_neg_cancel_right, hO hL60 h60, hOs h60]) | (simp only [r128_20, r128_25, r128_30, r128_46, r128_71, r128_111, i6_lt0, i6_0lt, i6_0le, i6_le0, i6_eq0, b10_0, ite_not, Int.reduceLT, Int.reduceLE, Int.reduceEq, Int.reduceNeg, if_true, if_false, ite_true, ite_false, reduceIte, eq_self, not_true, not_false_eq_true]; try refine tc_ite (fun _ => ?_) (fun _ => ?_) <;> try (exfalso; omega)))
  refine c122 hT hσ hw hm h4 h9 ?_
  intro e v g1 g2
  have e60 : e 60 = c 60 := g1 60 (by omega)
  have te0 : TE c e := ⟨fun a ha => g1 a (by omega), by rw [e60], by rw [e60]⟩
  repeat' (first | (simp (disch := first | omega | exact Nat.le_of_ble_eq_true rfl | exact rfl | assumption | (simp (disch := omega) only [fr_ne, fr_same]; first | assumption | omega)) only [r128_0, r128_1, r128_2, r128_4, v128_4_9, r128_7i, r128_8, r128_9i, r128_11, r128_12, r128_13, r128_16, r128_19, r128_23, r128_24, r128_28, r128_29, r128_33, r128_34, r128_37, r128_40, r128_41i, r128_43, r128_45, r128_49, r128_50, r128_53, r128_54, r128_57, r128_58, r128_61, r128_63, v128_63_5, r128_66i, r128_68, r128_70, r128_74, r128_75, r128_78, r128_80, r128_81, r128_82, r128_84, v128_84_5, r128_87, r128_88, r128_89, r128_90, v128_90_9, r128_93i, r128_95, r128_96, r128_99, r128_101, r128_103, r128_104, r128_105, v128_105_5, r128_108, r128_110, r128_114, r128_116i, r128_117, r128_118, r128_120, r128_123i, r128_126, r128_129, r128_130, g9_15_9, g9_74_8, g9_36_9, g9_22_9, p9_36_9, o9_len, o9_g1, o8_len, o8_g2, o9_g6, o9_g2, o9_s6, il_s, bl_s, bl_z, ll_s, is_s, bs_s, bs_z, ls_s, al_s, al_b, al_l, fr_ne, fr_same, fr_fr, Nat.reduceEqDiff, tc_gf3_s, tc_ql2_s, tc_ws_0, tc_ws_i, tc_ws_l, tc_ws_r, Nat.reduceLeDiff, Nat.reduceAdd, Nat.reduceLT, true_and, and_true, if_true, if_false, tc_K, Option.toList_some, Option.toList_none, List.nil_append, List.cons_append, ite_true, ite_false, Int.cast_ofNat_Int, reduceIte, i3_add_eq, i3_sub_eq, Int.add_sub_cancel, Int.add_neg_cancel_right, hO hL60 h60, hOs h60]) | (simp only [r128_20, r128_25, r128_30, r128_46, r128_71, r128_111, i6_lt0, i6_0lt, i6_0le, i6_le0, i6_eq0, b10_0, ite_not, Int.reduceLT, Int.reduceLE, Int.reduceEq, Int.reduceNeg, if_true, if_false, ite_true, ite_false, reduceIte, eq_self, not_true, not_false_eq_true]; try refine tc_ite (fun _ => ?_) (fun _ => ?_) <;> try (exfalso; omega)))
  have hI0 : (v ≤ fl ∧ R ≤ v) ∨ (fl < v ∧ R ≤ v ∧ v ≤ gos b la σ m.toNat 4 1 ∧ ∀ x : Int, 0 ≤ x → x < (0 : Int) - 1 → cdg b σ x = 1 → v ≤ gos b la (dgs b σ x) m.toNat 4 1) := by
    unfold MA at g2
    have := hrv.1
    by_cases hv : v ≤ fl
    · exact Or.inl ⟨hv, by omega⟩
    · exact Or.inr ⟨by omega, by omega, by omega, fun x x1 x2 => by omega⟩
  refine lq_5 (N := 4 * (b 0 0 * b 0 1) + 1) (P := fun j (d : Nat → Int → Int) (le : Int) (a4 a5 a6 : AV) => tc_W 128 10 [rf 60, .inl fl, .inl le, .inl (j - 1), a4, a5, a6] [] (hp L sh d) n Q) (I := fun j d le _ _ _ => TE c d ∧ LRp b d ∧ BN d B ∧ ((le ≤ fl ∧ R ≤ le) ∨ (fl < le ∧ R ≤ le ∧ le ≤ gos b la σ m.toNat 4 1 ∧ ∀ x : Int, 0 ≤ x → x < j - 1 → cdg b σ x = 1 → le ≤ gos b la (dgs b σ x) m.toNat 4 1))) ?_ ?_ 0 e v _ _ _ (by omega) (by omega) ⟨te0, by unfold LRp; rw [e60]; exact h6, by unfold BN; rw [e60]; exact hB, hI0⟩
  · intro j d least a4 a5 a6 hj hj2 ⟨hte, h6d, hBd, hI⟩ ih
    have hTd := hT.te hte
    have hσd := hσ.te hte
    have dc2 : d s 2 = b 0 0 * b 0 1 := by rw [hte.1 s (by omega)]; exact hc2
    have d4 : d 60 4 = m := by rw [hte.2.1, h4]
    obtain ⟨_, _, _, _, _, _, _, hBsd⟩ := id hTd
    simp only [r128_10]
    by_cases hlt : fl < least
    · have hI2 : R ≤ least ∧ least ≤ gos b la σ m.toNat 4 1 ∧ ∀ x : Int, 0 ≤ x → x < j - 1 → cdg b σ x = 1 → least ≤ gos b la (dgs b σ x) m.toNat 4 1 := by
        rcases hI with h | h
        · omega
        · exact h.2
      -- the reply that is tried
      have try1 : ∀ (x : Int) (a5 a6 : AV), (0 ≤ x ∧ x < 4 * (b 0 0 * b 0 1)) → (∀ y : Int, 0 ≤ y → y < j → y < j - 1 ∨ y = x) → tc_W 128 53 [rf 60, .inl fl, .inl least, .inl (j - 1), .inl x, a5, a6] [] (hp L sh d) n Q := by
        intro x a5 a6 hx hcov
        have h105 := fun Q => c105 (c := d) (n := n) (Q := Q) h61 hSh hb hBsd hσd hw hx.1 hx.2
        rcases cdg_01 b σ x with hc | hc
        · simp only [hc, Int.reduceEq, if_false] at h105
          have ih2 := fun a4 a5 a6 => ih d least a4 a5 a6 ⟨hte, h6d, hBd, Or.inr ⟨hlt, hI2.1, hI2.2.1, fun y y1 y2 y3 => by
            rcases hcov y y1 (by omega) with q | q
            · exact hI2.2.2 y y1 q y3
            · rw [q] at y3
              omega⟩⟩
          simp only [show j + 1 - 1 = j by omega] at ih2
          repeat' (first | (simp (disch := first | omega | exact Nat.le_of_ble_eq_true rfl | exact rfl | assumption | (simp (disch := omega) only [fr_ne, fr_same]; first | assumption | omega)) only [r128_0, r128_1, r128_2, r128_4, v128_4_9, r128_7i, r128_8, r128_9i, r128_11, r128_12, r128_13, r128_16, r128_19, r128_23, r128_24, r128_28, r128_29, r128_33, r128_34, r128_37, r128_40, r128_41i, r128_43, r128_45, r128_49, r128_50, r128_53, r128_54, r128_57, r128_58, r128_61, r128_63, v128_63_5, r128_66i, r128_68, r128_70, r128_74, r128_75, r128_78, r128_80, r128_81, r128_82, r128_84, v128_84_5, r128_87, r128_88, r128_89, r128_90, v128_90_9, r128_93i, r128_95, r128_96, r128_99, r128_101, r128_103, r128_104, r128_105, v128_105_5, r128_108, r128_110, r128_114, r128_116i, r128_117, r128_118, r128_120, r128_123i, r128_126, r128_129, r128_130, g9_15_9, g9_74_8, g9_36_9, g9_22_9, p9_36_9, o9_len, o9_g1, o8_len, o8_g2, o9_g6, o9_g2, o9_s6, il_s, bl_s, bl_z, ll_s, is_s, bs_s, bs_z, ls_s, al_s, al_b, al_l, fr_ne, fr_same, fr_fr, Nat.reduceEqDiff, tc_gf3_s, tc_ql2_s, tc_ws_0, tc_ws_i, tc_ws_l, tc_ws_r, Nat.reduceLeDiff, Nat.reduceAdd, Nat.reduceLT, true_and, and_true, if_true, if_false, tc_K, Option.toList_some, Option.toList_none, List.nil_append, List.cons_append, ite_true, ite_false, Int.cast_ofNat_Int, reduceIte, i3_add_eq, i3_sub_eq, Int.add_sub_cancel, Int.add_neg_cancel_right, hO hL60 h60, hOs h60, SanS_g0 h61, SanS_s0 h61, SanS_g1 h61, SanS_s1 h61, SanS_g2 h61, SanS_s2 h61, SanS_g3 h61, SanS_s3 h61, ShoS_g0 hSh, ShoS_s0 hSh, ShoS_g1 hSh, ShoS_s1 hSh, ShoS_g2 hSh, ShoS_s2 hSh, ShoS_g3 hSh, ShoS_s3 hSh, ShoS_g4 hSh, ShoS_s4 hSh, ShoS_g5 hSh, ShoS_s5 hSh, ShoS_g6 hSh, ShoS_s6 hSh, ShoS_g7 hSh, ShoS_s7 hSh, h105, Int.sub_add_cancel]) | (simp only [r128_20, r128_25, r128_30, r128_46, r128_71, r128_111, i6_lt0, i6_0lt, i6_0le, i6_le0, i6_eq0, b10_0, ite_not, Int.reduceLT, Int.reduceLE, Int.reduceEq, Int.reduceNeg, if_true, if_false, ite_true, ite_false, reduceIte, eq_self, not_true, not_false_eq_true]; try refine tc_ite (fun _ => ?_) (fun _ => ?_) <;> try (exfalso; omega)))
          exact ih2 _ _ _
        · simp only [hc, if_true] at h105
          have hc1 := cdg_1 hc
          have h3 := spt_rng hb hx.1 hx.2
          have h106 := fun Q => c106d (n := n) (Q := Q) h61 hb hσd hw hx.1 hx.2 hc
          have hσ1 : SAN k b 61 (dgr b d x) (dgs b σ x) := san_dig hσd hb hx.1 hx.2 hc
          have hw1 := dgs_ws hb hw hx.1 hx.2 hc
          have hRx := hrv.2.1 x hx.1 (by omega) hc
          repeat' (first | (simp (disch := first | omega | exact Nat.le_of_ble_eq_true rfl | exact rfl | assumption | (simp (disch := omega) only [fr_ne, fr_same]; first | assumption | omega)) only [r128_0, r128_1, r128_2, r128_4, v128_4_9, r128_7i, r128_8, r128_9i, r128_11, r128_12, r128_13, r128_16, r128_19, r128_23, r128_24, r128_28, r128_29, r128_33, r128_34, r128_37, r128_40, r128_41i, r128_43, r128_45, r128_49, r128_50, r128_53, r128_54, r128_57, r128_58, r128_61, r128_63, v128_63_5, r128_66i, r128_68, r128_70, r128_74, r128_75, r128_78, r128_80, r128_81, r128_82, r128_84, v128_84_5, r128_87, r128_88, r128_89, r128_90, v128_90_9, r128_93i, r128_95, r128_96, r128_99, r128_101, r128_103, r128_104, r128_105, v128_105_5, r128_108, r128_110, r128_114, r128_116i, r128_117, r128_118, r128_120, r128_123i, r128_126, r128_129, r128_130, g9_15_9, g9_74_8, g9_36_9, g9_22_9, p9_36_9, o9_len, o9_g1, o8_len, o8_g2, o9_g6, o9_g2, o9_s6, il_s, bl_s, bl_z, ll_s, is_s, bs_s, bs_z, ls_s, al_s, al_b, al_l, fr_ne, fr_same, fr_fr, Nat.reduceEqDiff, tc_gf3_s, tc_ql2_s, tc_ws_0, tc_ws_i, tc_ws_l, tc_ws_r, Nat.reduceLeDiff, Nat.reduceAdd, Nat.reduceLT, true_and, and_true, if_true, if_false, tc_K, Option.toList_some, Option.toList_none, List.nil_append, List.cons_append, ite_true, ite_false, Int.cast_ofNat_Int, reduceIte, i3_add_eq, i3_sub_eq, Int.add_sub_cancel, Int.add_neg_cancel_right, hO hL60 h60, hOs h60, SanS_g0 h61, SanS_s0 h61, SanS_g1 h61, SanS_s1 h61, SanS_g2 h61, SanS_s2 h61, SanS_g3 h61, SanS_s3 h61, ShoS_g0 hSh, ShoS_s0 hSh, ShoS_g1 hSh, ShoS_s1 hSh, ShoS_g2 hSh, ShoS_s2 hSh, ShoS_g3 hSh, ShoS_s3 hSh, ShoS_g4 hSh, ShoS_s4 hSh, ShoS_g5 hSh, ShoS_s5 hSh, ShoS_g6 hSh, ShoS_s6 hSh, ShoS_g7 hSh, ShoS_s7 hSh, h105, h106, i3_div_nn]) | (simp only [r128_20, r128_25, r128_30, r128_46, r128_71, r128_111, i6_lt0, i6_0lt, i6_0le, i6_le0, i6_eq0, b10_0, ite_not, Int.reduceLT, Int.reduceLE, Int.reduceEq, Int.reduceNeg, if_true, if_false, ite_true, ite_false, reduceIte, eq_self, not_true, not_false_eq_true]; try refine tc_ite (fun _ => ?_) (fun _ => ?_) <;> try (exfalso; omega)))
          refine c122 (c := dgr b d x) (σ := dgs b σ x) hTd.dgr hσ1 hw1 hm (by rw [dgr_o 60 (by omega), d4]) h9 ?_
          intro e2 v2 q1 q2
          have e260 : e2 60 = d 60 := (q1 60 (by omega)).trans (dgr_o 60 (by omega))
          have te2 : TE (dgr b d x) e2 := ⟨fun a ha => q1 a (by omega), by rw [q1 60 (by omega)], by rw [q1 60 (by omega)]⟩
          have h106u := fun Q => c106u (e := e2) (n := n) (Q := Q) h61 hb hσd hw hx.1 hx.2 hc (q1 62 (by omega))
          have te3 := hte.back te2
          have f60 : fr e2 62 (d 62) 60 = d 60 := by rw [fr_ne (by omega), e260]
          unfold MA at q2
          by_cases hv : v2 < least
          · have ih2 := fun a4 a5 a6 => ih (fr (fr e2 62 (d 62)) 60 (fu (d 60) 6 x)) v2 a4 a5 a6 ⟨⟨fun a ha => by
              rw [fr_ne (by omega)]
              exact te3.1 a ha, by rw [fr_same, fu_ne (by omega)]; exact hte.2.1, by rw [fr_same, fu_ne (by omega)]; exact hte.2.2⟩, by
              unfold LRp
              rw [fr_same, fu_same]
              exact Or.inr hx, by
              unfold BN
              rw [fr_same, fu_ne (by omega), fu_ne (by omega), fu_ne (by omega), fu_ne (by omega)]
              exact hBd, by
              show (v2 ≤ fl ∧ R ≤ v2) ∨ (fl < v2 ∧ R ≤ v2 ∧ v2 ≤ gos b la σ m.toNat 4 1 ∧ ∀ y : Int, 0 ≤ y → y < j + 1 - 1 → cdg b σ y = 1 → v2 ≤ gos b la (dgs b σ y) m.toNat 4 1)
              by_cases hvf : v2 ≤ fl
              · exact Or.inl ⟨hvf, by omega⟩
              · refine Or.inr ⟨by omega, by omega, by omega, fun y y1 y2 y3 => ?_⟩
                rcases hcov y y1 (by omega) with q | q
                · have := hI2.2.2 y y1 q y3
                  omega
                · rw [q]
                  omega⟩
            simp only [show j + 1 - 1 = j by omega] at ih2
            repeat' (first | (simp (disch := first | omega | exact Nat.le_of_ble_eq_true rfl | exact rfl | assumption | (simp (disch := omega) only [fr_ne, fr_same]; first | assumption | omega)) only [r128_0, r128_1, r128_2, r128_4, v128_4_9, r128_7i, r128_8, r128_9i, r128_11, r128_12, r128_13, r128_16, r128_19, r128_23, r128_24, r128_28, r128_29, r128_33, r128_34, r128_37, r128_40, r128_41i, r128_43, r128_45, r128_49, r128_50, r128_53, r128_54, r128_57, r128_58, r128_61, r128_63, v128_63_5, r128_66i, r128_68, r128_70, r128_74, r128_75, r128_78, r128_80, r128_81, r128_82, r128_84, v128_84_5, r128_87, r128_88, r128_89, r128_90, v128_90_9, r128_93i, r128_95, r128_96, r128_99, r128_101, r128_103, r128_104, r128_105, v128_105_5, r128_108, r128_110, r128_114, r128_116i, r128_117, r128_118, r128_120, r128_123i, r128_126, r128_129, r128_130, g9_15_9, g9_74_8, g9_36_9, g9_22_9, p9_36_9, o9_len, o9_g1, o8_len, o8_g2, o9_g6, o9_g2, o9_s6, il_s, bl_s, bl_z, ll_s, is_s, bs_s, bs_z, ls_s, al_s, al_b, al_l, fr_ne, fr_same, fr_fr, Nat.reduceEqDiff, tc_gf3_s, tc_ql2_s, tc_ws_0, tc_ws_i, tc_ws_l, tc_ws_r, Nat.reduceLeDiff, Nat.reduceAdd, Nat.reduceLT, true_and, and_true, if_true, if_false, tc_K, Option.toList_some, Option.toList_none, List.nil_append, List.cons_append, ite_true, ite_false, Int.cast_ofNat_Int, reduceIte, i3_add_eq, i3_sub_eq, Int.add_sub_cancel, Int.add_neg_cancel_right, hO hL60 h60, hOs h60, SanS_g0 h61, SanS_s0 h61, SanS_g1 h61, SanS_s1 h61, SanS_g2 h61, SanS_s2 h61, SanS_g3 h61, SanS_s3 h61, h106u, i3_div_nn, f60, Int.sub_add_cancel]) | (simp only [r128_20, r128_25, r128_30, r128_46, r128_71, r128_111, i6_lt0, i6_0lt, i6_0le, i6_le0, i6_eq0, b10_0, ite_not, Int.reduceLT, Int.reduceLE, Int.reduceEq, Int.reduceNeg, if_true, if_false, ite_true, ite_false, reduceIte, eq_self, not_true, not_false_eq_true]; try refine tc_ite (fun _ => ?_) (fun _ => ?_) <;> try (exfalso; omega)))
            rw [e260]
            exact ih2 _ _ _
          · have ih2 := fun a4 a5 a6 => ih (fr e2 62 (d 62)) least a4 a5 a6 ⟨te3, by unfold LRp; rw [f60]; exact h6d, by unfold BN; rw [f60]; exact hBd, Or.inr ⟨hlt, hI2.1, hI2.2.1, fun y y1 y2 y3 => by
              rcases hcov y y1 (by omega) with q | q
              · exact hI2.2.2 y y1 q y3
              · rw [q]
                show least ≤ _
                omega⟩⟩
            simp only [show j + 1 - 1 = j by omega] at ih2
            repeat' (first | (simp (disch := first | omega | exact Nat.le_of_ble_eq_true rfl | exact rfl | assumption | (simp (disch := omega) only [fr_ne, fr_same]; first | assumption | omega)) only [r128_0, r128_1, r128_2, r128_4, v128_4_9, r128_7i, r128_8, r128_9i, r128_11, r128_12, r128_13, r128_16, r128_19, r128_23, r128_24, r128_28, r128_29, r128_33, r128_34, r128_37, r128_40, r128_41i, r128_43, r128_45, r128_49, r128_50, r128_53, r128_54, r128_57, r128_58, r128_61, r128_63, v128_63_5, r128_66i, r128_68, r128_70, r128_74, r128_75, r128_78, r128_80, r128_81, r128_82, r128_84, v128_84_5, r128_87, r128_88, r128_89, r128_90, v128_90_9, r128_93i, r128_95, r128_96, r128_99, r128_101, r128_103, r128_104, r128_105, v128_105_5, r128_108, r128_110, r128_114, r128_116i, r128_117, r128_118, r128_120, r128_123i, r128_126, r128_129, r128_130, g9_15_9, g9_74_8, g9_36_9, g9_22_9, p9_36_9, o9_len, o9_g1, o8_len, o8_g2, o9_g6, o9_g2, o9_s6, il_s, bl_s, bl_z, ll_s, is_s, bs_s, bs_z, ls_s, al_s, al_b, al_l, fr_ne, fr_same, fr_fr, Nat.reduceEqDiff, tc_gf3_s, tc_ql2_s, tc_ws_0, tc_ws_i, tc_ws_l, tc_ws_r, Nat.reduceLeDiff, Nat.reduceAdd, Nat.reduceLT, true_and, and_true, if_true, if_false, tc_K, Option.toList_some, Option.toList_none, List.nil_append, List.cons_append, ite_true, ite_false, Int.cast_ofNat_Int, reduceIte, i3_add_eq, i3_sub_eq, Int.add_sub_cancel, Int.add_neg_cancel_right, hO hL60 h60, hOs h60, SanS_g0 h61, SanS_s0 h61, SanS_g1 h61, SanS_s1 h61, SanS_g2 h61, SanS_s2 h61, SanS_g3 h61, SanS_s3 h61, h106u, i3_div_nn, Int.sub_add_cancel]) | (simp only [r128_20, r128_25, r128_30, r128_46, r128_71, r128_111, i6_lt0, i6_0lt, i6_0le, i6_le0, i6_eq0, b10_0, ite_not, Int.reduceLT, Int.reduceLE, Int.reduceEq, Int.reduceNeg, if_true, if_false, ite_true, ite_false, reduceIte, eq_self, not_true, not_false_eq_true]; try refine tc_ite (fun _ => ?_) (fun _ => ?_) <;> try (exfalso; omega)))
            exact ih2 _ _ _
      by_cases hj0 : j = 0
      · subst hj0
        by_cases hl6 : d 60 6 = -1
        · have ih2 := fun a4 a5 a6 => ih d least a4 a5 a6 ⟨hte, h6d, hBd, Or.inr ⟨hlt, hI2.1, hI2.2.1, fun y y1 y2 y3 => by omega⟩⟩
          simp only [Int.reduceAdd, Int.reduceSub] at ih2 ⊢
          repeat' (first | (simp (disch := first | omega | exact Nat.le_of_ble_eq_true rfl | exact rfl | assumption | (simp (disch := omega) only [fr_ne, fr_same]; first | assumption | omega)) only [r128_0, r128_1, r128_2, r128_4, v128_4_9, r128_7i, r128_8, r128_9i, r128_11, r128_12, r128_13, r128_16, r128_19, r128_23, r128_24, r128_28, r128_29, r128_33, r128_34, r128_37, r128_40, r128_41i, r128_43, r128_45, r128_49, r128_50, r128_54, r128_57, r128_58, r128_61, r128_63, v128_63_5, r128_66i, r128_68, r128_70, r128_74, r128_75, r128_78, r128_80, r128_81, r128_82, r128_84, v128_84_5, r128_87, r128_88, r128_89, r128_90, v128_90_9, r128_93i, r128_95, r128_96, r128_99, r128_101, r128_103, r128_104, r128_105, v128_105_5, r128_108, r128_110, r128_114, r128_116i, r128_117, r128_118, r128_120, r128_123i, r128_126, r128_129, r128_130, g9_15_9, g9_74_8, g9_36_9, g9_22_9, p9_36_9, o9_len, o9_g1, o8_len, o8_g2, o9_g6, o9_g2, o9_s6, il_s, bl_s, bl_z, ll_s, is_s, bs_s, bs_z, ls_s, al_s, al_b, al_l, fr_ne, fr_same, fr_fr, Nat.reduceEqDiff, tc_gf3_s, tc_ql2_s, tc_ws_0, tc_ws_i, tc_ws_l, tc_ws_r, Nat.reduceLeDiff, Nat.reduceAdd, Nat.reduceLT, true_and, and_true, if_true, if_false, tc_K, Option.toList_some, Option.toList_none, List.nil_append, List.cons_append, ite_true, ite_false, Int.cast_ofNat_Int, reduceIte, i3_add_eq, i3_sub_eq, Int.add_sub_cancel, Int.add_neg_cancel_right, hO hL60 h60, hOs h60, SanS_g0 h61, SanS_s0 h61, SanS_g1 h61, SanS_s1 h61, SanS_g2 h61, SanS_s2 h61, SanS_g3 h61, SanS_s3 h61, ShoS_g0 hSh, ShoS_s0 hSh, ShoS_g1 hSh, ShoS_s1 hSh, ShoS_g2 hSh, ShoS_s2 hSh, ShoS_g3 hSh, ShoS_s3 hSh, ShoS_g4 hSh, ShoS_s4 hSh, ShoS_g5 hSh, ShoS_s5 hSh, ShoS_g6 hSh, ShoS_s6 hSh, ShoS_g7 hSh, ShoS_s7 hSh, dc2, i3_mul_eq, hl6, Int.reduceAdd]) | (simp only [r128_20, r128_25, r128_30, r128_46, r128_71, r128_111, i6_lt0, i6_0lt, i6_0le, i6_le0, i6_eq0, b10_0, ite_not, Int.reduceLT, Int.reduceLE, Int.reduceEq, Int.reduceNeg, if_true, if_false, ite_true, ite_false, reduceIte, eq_self, not_true, not_false_eq_true]; try refine tc_ite (fun _ => ?_) (fun _ => ?_) <;> try (exfalso; omega)))
          exact ih2 _ _ _
        · have h6r : 0 ≤ d 60 6 ∧ d 60 6 < 4 * (b 0 0 * b 0 1) := by
            rcases h6d with h | h
            · exact absurd h hl6
            · exact h
          have tr := fun a5 a6 => try1 (d 60 6) a5 a6 h6r (fun y y1 y2 => by omega)
          simp only [Int.reduceSub] at tr ⊢
          repeat' (first | (simp (disch := first | omega | exact Nat.le_of_ble_eq_true rfl | exact rfl | assumption | (simp (disch := omega) only [fr_ne, fr_same]; first | assumption | omega)) only [r128_0, r128_1, r128_2, r128_4, v128_4_9, r128_7i, r128_8, r128_9i, r128_11, r128_12, r128_13, r128_16, r128_19, r128_23, r128_24, r128_28, r128_29, r128_33, r128_34, r128_37, r128_40, r128_41i, r128_43, r128_45, r128_49, r128_50, r128_54, r128_57, r128_58, r128_61, r128_63, v128_63_5, r128_66i, r128_68, r128_70, r128_74, r128_75, r128_78, r128_80, r128_81, r128_82, r128_84, v128_84_5, r128_87, r128_88, r128_89, r128_90, v128_90_9, r128_93i, r128_95, r128_96, r128_99, r128_101, r128_103, r128_104, r128_105, v128_105_5, r128_108, r128_110, r128_114, r128_116i, r128_117, r128_118, r128_120, r128_123i, r128_126, r128_129, r128_130, g9_15_9, g9_74_8, g9_36_9, g9_22_9, p9_36_9, o9_len, o9_g1, o8_len, o8_g2, o9_g6, o9_g2, o9_s6, il_s, bl_s, bl_z, ll_s, is_s, bs_s, bs_z, ls_s, al_s, al_b, al_l, fr_ne, fr_same, fr_fr, Nat.reduceEqDiff, tc_gf3_s, tc_ql2_s, tc_ws_0, tc_ws_i, tc_ws_l, tc_ws_r, Nat.reduceLeDiff, Nat.reduceAdd, Nat.reduceLT, true_and, and_true, if_true, if_false, tc_K, Option.toList_some, Option.toList_none, List.nil_append, List.cons_append, ite_true, ite_false, Int.cast_ofNat_Int, reduceIte, i3_add_eq, i3_sub_eq, Int.add_sub_cancel, Int.add_neg_cancel_right, hO hL60 h60, hOs h60, SanS_g0 h61, SanS_s0 h61, SanS_g1 h61, SanS_s1 h61, SanS_g2 h61, SanS_s2 h61, SanS_g3 h61, SanS_s3 h61, ShoS_g0 hSh, ShoS_s0 hSh, ShoS_g1 hSh, ShoS_s1 hSh, ShoS_g2 hSh, ShoS_s2 hSh, ShoS_g3 hSh, ShoS_s3 hSh, ShoS_g4 hSh, ShoS_s4 hSh, ShoS_g5 hSh, ShoS_s5 hSh, ShoS_g6 hSh, ShoS_s6 hSh, ShoS_g7 hSh, ShoS_s7 hSh, dc2, i3_mul_eq]) | (simp only [r128_20, r128_25, r128_30, r128_46, r128_71, r128_111, i6_lt0, i6_0lt, i6_0le, i6_le0, i6_eq0, b10_0, ite_not, Int.reduceLT, Int.reduceLE, Int.reduceEq, Int.reduceNeg, if_true, if_false, ite_true, ite_false, reduceIte, eq_self, not_true, not_false_eq_true]; try refine tc_ite (fun _ => ?_) (fun _ => ?_) <;> try (exfalso; omega)))
          exact tr _ _
      · have tr := fun a5 a6 => try1 (j - 1) a5 a6 (by omega) (fun y y1 y2 => by omega)
        repeat' (first | (simp (disch := first | omega | exact Nat.le_of_ble_eq_true rfl | exact rfl | assumption | (simp (disch := omega) only [fr_ne, fr_same]; first | assumption | omega)) only [r128_0, r128_1, r128_2, r128_4, v128_4_9, r128_7i, r128_8, r128_9i, r128_11, r128_12, r128_13, r128_16, r128_19, r128_23, r128_24, r128_28, r128_29, r128_33, r128_34, r128_37, r128_40, r128_41i, r128_43, r128_45, r128_49, r128_50, r128_54, r128_57, r128_58, r128_61, r128_63, v128_63_5, r128_66i, r128_68, r128_70, r128_74, r128_75, r128_78, r128_80, r128_81, r128_82, r128_84, v128_84_5, r128_87, r128_88, r128_89, r128_90, v128_90_9, r128_93i, r128_95, r128_96, r128_99, r128_101, r128_103, r128_104, r128_105, v128_105_5, r128_108, r128_110, r128_114, r128_116i, r128_117, r128_118, r128_120, r128_123i, r128_126, r128_129, r128_130, g9_15_9, g9_74_8, g9_36_9, g9_22_9, p9_36_9, o9_len, o9_g1, o8_len, o8_g2, o9_g6, o9_g2, o9_s6, il_s, bl_s, bl_z, ll_s, is_s, bs_s, bs_z, ls_s, al_s, al_b, al_l, fr_ne, fr_same, fr_fr, Nat.reduceEqDiff, tc_gf3_s, tc_ql2_s, tc_ws_0, tc_ws_i, tc_ws_l, tc_ws_r, Nat.reduceLeDiff, Nat.reduceAdd, Nat.reduceLT, true_and, and_true, if_true, if_false, tc_K, Option.toList_some, Option.toList_none, List.nil_append, List.cons_append, ite_true, ite_false, Int.cast_ofNat_Int, reduceIte, i3_add_eq, i3_sub_eq, Int.add_sub_cancel, Int.add_neg_cancel_right, hO hL60 h60, hOs h60, SanS_g0 h61, SanS_s0 h61, SanS_g1 h61, SanS_s1 h61, SanS_g2 h61, SanS_s2 h61, SanS_g3 h61, SanS_s3 h61, ShoS_g0 hSh, ShoS_s0 hSh, ShoS_g1 hSh, ShoS_s1 hSh, ShoS_g2 hSh, ShoS_s2 hSh, ShoS_g3 hSh, ShoS_s3 hSh, ShoS_g4 hSh, ShoS_s4 hSh, ShoS_g5 hSh, ShoS_s5 hSh, ShoS_g6 hSh, ShoS_s6 hSh, ShoS_g7 hSh, ShoS_s7 hSh, dc2, i3_mul_eq]) | (simp only [r128_20, r128_25, r128_30, r128_46, r128_71, r128_111, i6_lt0, i6_0lt, i6_0le, i6_le0, i6_eq0, b10_0, ite_not, Int.reduceLT, Int.reduceLE, Int.reduceEq, Int.reduceNeg, if_true, if_false, ite_true, ite_false, reduceIte, eq_self, not_true, not_false_eq_true]; try refine tc_ite (fun _ => ?_) (fun _ => ?_) <;> try (exfalso; omega)))
        all_goals first
          | exact tr _ _
          | omega
    · repeat' (first | (simp (disch := first | omega | exact Nat.le_of_ble_eq_true rfl | exact rfl | assumption | (simp (disch := omega) only [fr_ne, fr_same]; first | assumption | omega)) only [r128_0, r128_1, r128_2, r128_4, v128_4_9, r128_7i, r128_8, r128_9i, r128_11, r128_12, r128_13, r128_16, r128_19, r128_23, r128_24, r128_28, r128_29, r128_33, r128_34, r128_37, r128_40, r128_41i, r128_43, r128_45, r128_49, r128_50, r128_54, r128_57, r128_58, r128_61, r128_63, v128_63_5, r128_66i, r128_68, r128_70, r128_74, r128_75, r128_78, r128_80, r128_81, r128_82, r128_84, v128_84_5, r128_87, r128_88, r128_89, r128_90, v128_90_9, r128_93i, r128_95, r128_96, r128_99, r128_101, r128_103, r128_104, r128_105, v128_105_5, r128_108, r128_110, r128_114, r128_116i, r128_117, r128_118, r128_120, r128_123i, r128_126, r128_129, r128_130, g9_15_9, g9_74_8, g9_36_9, g9_22_9, p9_36_9, o9_len, o9_g1, o8_len, o8_g2, o9_g6, o9_g2, o9_s6, il_s, bl_s, bl_z, ll_s, is_s, bs_s, bs_z, ls_s, al_s, al_b, al_l, fr_ne, fr_same, fr_fr, Nat.reduceEqDiff, tc_gf3_s, tc_ql2_s, tc_ws_0, tc_ws_i, tc_ws_l, tc_ws_r, Nat.reduceLeDiff, Nat.reduceAdd, Nat.reduceLT, true_and, and_true, if_true, if_false, tc_K, Option.toList_some, Option.toList_none, List.nil_append, List.cons_append, ite_true, ite_false, Int.cast_ofNat_Int, reduceIte, i3_add_eq, i3_sub_eq, Int.add_sub_cancel, Int.add_neg_cancel_right, hO hL60 h60, hOs h60, SanS_g0 h61, SanS_s0 h61, SanS_g1 h61, SanS_s1 h61, SanS_g2 h61, SanS_s2 h61, SanS_g3 h61, SanS_s3 h61, ShoS_g0 hSh, ShoS_s0 hSh, ShoS_g1 hSh, ShoS_s1 hSh, ShoS_g2 hSh, ShoS_s2 hSh, ShoS_g3 hSh, ShoS_s3 hSh, ShoS_g4 hSh, ShoS_s4 hSh, ShoS_g5 hSh, ShoS_s5 hSh, ShoS_g6 hSh, ShoS_s6 hSh, ShoS_g7 hSh, ShoS_s7 hSh, dc2, i3_mul_eq]) | (simp only [r128_20, r128_25, r128_30, r128_46, r128_71, r128_111, i6_lt0, i6_0lt, i6_0le, i6_le0, i6_eq0, b10_0, ite_not, Int.reduceLT, Int.reduceLE, Int.reduceEq, Int.reduceNeg, if_true, if_false, ite_true, ite_false, reduceIte, eq_self, not_true, not_false_eq_true]; try refine tc_ite (fun _ => ?_) (fun _ => ?_) <;> try (exfalso; omega)))
      refine hq d least hte h6d hBd ?_
      rcases hI with h | h
      · exact Or.inr ⟨h.2, h.1⟩
      · omega
  · intro d least a4 a5 a6 ⟨hte, h6d, hBd, hI⟩
    have dc2 : d s 2 = b 0 0 * b 0 1 := by rw [hte.1 s (by omega)]; exact hc2
    simp only [r128_10, show 4 * (b 0 0 * b 0 1) + 1 - 1 = 4 * (b 0 0 * b 0 1) by omega] at hI ⊢
    repeat' (first | (simp (disch := first | omega | exact Nat.le_of_ble_eq_true rfl | exact rfl | assumption | (simp (disch := omega) only [fr_ne, fr_same]; first | assumption | omega)) only [r128_0, r128_1, r128_2, r128_4, v128_4_9, r128_7i, r128_8, r128_9i, r128_11, r128_12, r128_13, r128_16, r128_19, r128_23, r128_24, r128_28, r128_29, r128_33, r128_34, r128_37, r128_40, r128_41i, r128_43, r128_45, r128_49, r128_50, r128_54, r128_57, r128_58, r128_61, r128_63, v128_63_5, r128_66i, r128_68, r128_70, r128_74, r128_75, r128_78, r128_80, r128_81, r128_82, r128_84, v128_84_5, r128_87, r128_88, r128_89, r128_90, v128_90_9, r128_93i, r128_95, r128_96, r128_99, r128_101, r128_103, r128_104, r128_105, v128_105_5, r128_108, r128_110, r128_114, r128_116i, r128_117, r128_118, r128_120, r128_123i, r128_126, r128_129, r128_130, g9_15_9, g9_74_8, g9_36_9, g9_22_9, p9_36_9, o9_len, o9_g1, o8_len, o8_g2, o9_g6, o9_g2, o9_s6, il_s, bl_s, bl_z, ll_s, is_s, bs_s, bs_z, ls_s, al_s, al_b, al_l, fr_ne, fr_same, fr_fr, Nat.reduceEqDiff, tc_gf3_s, tc_ql2_s, tc_ws_0, tc_ws_i, tc_ws_l, tc_ws_r, Nat.reduceLeDiff, Nat.reduceAdd, Nat.reduceLT, true_and, and_true, if_true, if_false, tc_K, Option.toList_some, Option.toList_none, List.nil_append, List.cons_append, ite_true, ite_false, Int.cast_ofNat_Int, reduceIte, i3_add_eq, i3_sub_eq, Int.add_sub_cancel, Int.add_neg_cancel_right, hO hL60 h60, hOs h60, SanS_g0 h61, SanS_s0 h61, SanS_g1 h61, SanS_s1 h61, SanS_g2 h61, SanS_s2 h61, SanS_g3 h61, SanS_s3 h61, ShoS_g0 hSh, ShoS_s0 hSh, ShoS_g1 hSh, ShoS_s1 hSh, ShoS_g2 hSh, ShoS_s2 hSh, ShoS_g3 hSh, ShoS_s3 hSh, ShoS_g4 hSh, ShoS_s4 hSh, ShoS_g5 hSh, ShoS_s5 hSh, ShoS_g6 hSh, ShoS_s6 hSh, ShoS_g7 hSh, ShoS_s7 hSh, dc2, i3_mul_eq]) | (simp only [r128_20, r128_25, r128_30, r128_46, r128_71, r128_111, i6_lt0, i6_0lt, i6_0le, i6_le0, i6_eq0, b10_0, ite_not, Int.reduceLT, Int.reduceLE, Int.reduceEq, Int.reduceNeg, if_true, if_false, ite_true, ite_false, reduceIte, eq_self, not_true, not_false_eq_true]; try refine tc_ite (fun _ => ?_) (fun _ => ?_) <;> try (exfalso; omega)))
    refine hq d least hte h6d hBd ?_
    rcases hI with h | h
    · exact Or.inr ⟨h.2, h.1⟩
    · refine Or.inl ?_
      have := hrv.2.2 least h.2.2.1 fun x x1 x2 x3 => h.2.2.2 x x1 (by omega) x3
      omega
theorem c127 (hT : TR L sh c s lo b la) (hσ : SAN k b 61 c σ) (hw : WS b σ) {m : Int} (hm : 1 ≤ m ∧ m ≤ 60) (h4 : c 60 4 = m) (h5 : c 60 5 = σ 4 1 + m * mrk b σ) (h9 : σ 4 0 + m ≤ 900) (h6 : LRp b c) (h90 : c 60 9 = -1)
    (hq : ∀ e, TE c e → e 60 7 = (rvs b la σ m.toNat (4 * (b 0 0 * b 0 1)).toNat (4 * (b 0 0 * b 0 1)).toNat).2 → e 60 9 = (rvs b la σ m.toNat (4 * (b 0 0 * b 0 1)).toNat (4 * (b 0 0 * b 0 1)).toNat).1 → Q none (hp L sh e) n) : tc_C 127 [rf 60] (hp L sh c) n Q := by
  obtain ⟨hE, hSh, hs, ⟨h61, h65, h60⟩, hb, hl, hal, hBs⟩ := id hT
  have hL := hE.1
  have hL60 : 60 < L := by omega
  have hN := hb.n25
  have hc2 := hBs.1.2.1
  have hrk := mrk_rng (s := σ) hb
  have hpn : 0 ≤ m * mrk b σ := Int.mul_nonneg (by omega) hrk.1
  have hpl : m * mrk b σ ≤ 60 * 300 := Int.mul_le_mul (by omega) hrk.2 hrk.1 (by omega)
  have hmk0 := hw.2.2.2
  have rnn : ∀ t, WS b t → t 4 0 = σ 4 0 → 0 ≤ rvl b la t m.toNat (4 * (b 0 0 * b 0 1)).toNat := fun t ht h0 => by
    refine (rvl_le (4 * (b 0 0 * b 0 1)).toNat).2.2 0 (gos_mk hb ht (by omega)).1 fun x x1 x2 x3 => ?_
    exact (gos_mk hb (dgs_ws hb ht x1 (by omega) x3) (by show t 4 0 + _ ≤ _; omega)).1
  show tc_W 127 0 [rf 60, tc_nil, tc_nil, tc_nil] [] _ _ Q
  repeat' (first | (simp (disch := first | omega | exact Nat.le_of_ble_eq_true rfl | exact rfl | assumption | (simp (disch := omega) only [fr_ne, fr_same]; first | assumption | omega)) only [r127_0, r127_1, r127_2, r127_3, v127_3_9, r127_6, r127_9, r127_10r, r127_12, r127_13, r127_14, r127_17, r127_20, r127_24, r127_25, r127_28, r127_29, r127_35, r127_36, r127_39, r127_40, r127_43, r127_44, v127_44_5, r127_47i, r127_48, r127_49, r127_53, r127_54, r127_57, r127_58, r127_59, r127_60, r127_61, v127_61_5, r127_64, r127_65, r127_66, r127_69, v127_69_9, r127_72i, r127_73, r127_74, r127_77, r127_78, r127_79, r127_80, r127_81, v127_81_5, r127_84, r127_85, r127_86, r127_92, r127_93, r127_94, r127_97, r127_98, r127_99, r127_102r, r127_105, r127_108, p9_39_9, g9_15_9, g9_74_8, g9_39_9, g9_33_9, g9_22_9, p9_45_9, o9_len, o9_s7, o9_g1, o8_len, o8_g2, o9_g7, o9_g5, o9_g2, o9_s9, il_s, bl_s, bl_z, ll_s, is_s, bs_s, bs_z, ls_s, al_s, al_b, al_l, fr_ne, fr_same, fr_fr, Nat.reduceEqDiff, tc_gf3_s, tc_ql2_s, tc_ws_0, tc_ws_i, tc_ws_l, tc_ws_r, Nat.reduceLeDiff, Nat.reduceAdd, Nat.reduceLT, true_and, and_true, if_true, if_false, tc_K, Option.toList_some, Option.toList_none, List.nil_append, List.cons_append, ite_true, ite_false, Int.cast_ofNat_Int, reduceIte, i3_add_eq, i3_sub_eq, Int.add_sub_cancel, Int.add_neg_cancel_right, hO hL60 h60, hOs h60]) | (simp only [r127_21, r127_32, r127_50, r127_89, i6_lt0, i6_0lt, i6_0le, i6_le0, i6_eq0, b10_0, ite_not, Int.reduceLT, Int.reduceLE, Int.reduceEq, Int.reduceNeg, if_true, if_false, ite_true, ite_false, reduceIte, eq_self, not_true, not_false_eq_true]; try refine tc_ite (fun _ => ?_) (fun _ => ?_) <;> try (exfalso; omega)))
  refine c128 (B := (c 60 7, c 60 8, c 60 9, c 60 10)) hT hσ hw hm h4 h9 (by omega) h6 ⟨rfl, rfl, rfl, rfl⟩ ?_
  intro e v te0 h6e hBe hv
  have hv1 : v = rvl b la σ m.toNat (4 * (b 0 0 * b 0 1)).toNat := by
    have := rnn σ hw rfl
    omega
  have ers : rvl b la σ m.toNat (4 * (b 0 0 * b 0 1)).toNat = (rvs b la σ m.toNat (4 * (b 0 0 * b 0 1)).toNat 0).2 := rfl
  rw [hv1, ers]
  repeat' (first | (simp (disch := first | omega | exact Nat.le_of_ble_eq_true rfl | exact rfl | assumption | (simp (disch := omega) only [fr_ne, fr_same]; first | assumption | omega)) only [r127_0, r127_1, r127_2, r127_3, v127_3_9, r127_6, r127_9, r127_10r, r127_12, r127_13, r127_14, r127_17, r127_20, r127_24, r127_25, r127_28, r127_29, r127_35, r127_36, r127_39, r127_40, r127_43, r127_44, v127_44_5, r127_47i, r127_48, r127_49, r127_53, r127_54, r127_57, r127_58, r127_59, r127_60, r127_61, v127_61_5, r127_64, r127_65, r127_66, r127_69, v127_69_9, r127_72i, r127_73, r127_74, r127_77, r127_78, r127_79, r127_80, r127_81, v127_81_5, r127_84, r127_85, r127_86, r127_92, r127_93, r127_94, r127_97, r127_98, r127_99, r127_102r, r127_105, r127_108, p9_39_9, g9_15_9, g9_74_8, g9_39_9, g9_33_9, g9_22_9, p9_45_9, o9_len, o9_s7, o9_g1, o8_len, o8_g2, o9_g7, o9_g5, o9_g2, o9_s9, il_s, bl_s, bl_z, ll_s, is_s, bs_s, bs_z, ls_s, al_s, al_b, al_l, fr_ne, fr_same, fr_fr, Nat.reduceEqDiff, tc_gf3_s, tc_ql2_s, tc_ws_0, tc_ws_i, tc_ws_l, tc_ws_r, Nat.reduceLeDiff, Nat.reduceAdd, Nat.reduceLT, true_and, and_true, if_true, if_false, tc_K, Option.toList_some, Option.toList_none, List.nil_append, List.cons_append, ite_true, ite_false, Int.cast_ofNat_Int, reduceIte, i3_add_eq, i3_sub_eq, Int.add_sub_cancel, Int.add_neg_cancel_right, hO hL60 h60, hOs h60]) | (simp only [r127_21, r127_32, r127_50, r127_89, i6_lt0, i6_0lt, i6_0le, i6_le0, i6_eq0, b10_0, ite_not, Int.reduceLT, Int.reduceLE, Int.reduceEq, Int.reduceNeg, if_true, if_false, ite_true, ite_false, reduceIte, eq_self, not_true, not_false_eq_true]; try refine tc_ite (fun _ => ?_) (fun _ => ?_) <;> try (exfalso; omega)))
  refine lq_3 (N := 4 * (b 0 0 * b 0 1)) (P := fun a (d : Nat → Int → Int) (a2 a3 : AV) => tc_W 127 11 [rf 60, .inl a, a2, a3] [] (hp L sh d) n Q) (I := fun a d _ _ => TE c d ∧ LRp b d ∧ d 60 7 = (rvs b la σ m.toNat (4 * (b 0 0 * b 0 1)).toNat a.toNat).2 ∧ d 60 9 = (rvs b la σ m.toNat (4 * (b 0 0 * b 0 1)).toNat a.toNat).1 ∧ 0 ≤ (rvs b la σ m.toNat (4 * (b 0 0 * b 0 1)).toNat a.toNat).2) ?_ ?_ 0 _ _ _ (by omega) (by omega) ⟨⟨fun a ha => by
    rw [fr_ne (by omega)]
    exact te0.1 a ha, by rw [fr_same, fu_ne (by omega)]; exact te0.2.1, by rw [fr_same, fu_ne (by omega)]; exact te0.2.2⟩, by
    unfold LRp
    rw [fr_same, fu_ne (by omega)]
    exact h6e, by rw [fr_same, fu_same]; rfl, by
    rw [fr_same, fu_ne (by omega), hBe.2.2.1]
    exact h90, rnn σ hw rfl⟩
  · intro a d a2 a3 ha ha2 ⟨hte, h6d, d7, d9, hnn⟩ ih
    have hTd := hT.te hte
    have hσd := hσ.te hte
    have dc2 : d s 2 = b 0 0 * b 0 1 := by rw [hte.1 s (by omega)]; exact hc2
    have d5 : d 60 5 = σ 4 1 + m * mrk b σ := by rw [hte.2.2, h5]
    have d4 : d 60 4 = m := by rw [hte.2.1, h4]
    obtain ⟨_, _, _, _, _, _, _, hBd⟩ := id hTd
    have h105 := fun Q => c105 (c := d) (n := n) (Q := Q) h61 hSh hb hBd hσd hw ha ha2
    have h3 := spt_rng hb ha ha2
    have e1 : rvs b la σ m.toNat (4 * (b 0 0 * b 0 1)).toNat (a + 1).toNat = if cdg b σ a = 1 ∧ (rvs b la σ m.toNat (4 * (b 0 0 * b 0 1)).toNat a.toNat).2 < rvl b la (dgs b σ a) m.toNat (4 * (b 0 0 * b 0 1)).toNat then (a, rvl b la (dgs b σ a) m.toNat (4 * (b 0 0 * b 0 1)).toNat) else rvs b la σ m.toNat (4 * (b 0 0 * b 0 1)).toNat a.toNat := by
      rw [show (a + 1).toNat = a.toNat + 1 by omega]
      show (if cdg b σ (a.toNat : Int) = 1 ∧ (rvs b la σ m.toNat (4 * (b 0 0 * b 0 1)).toNat a.toNat).2 < rvl b la (dgs b σ (a.toNat : Int)) m.toNat (4 * (b 0 0 * b 0 1)).toNat then ((a.toNat : Int), rvl b la (dgs b σ (a.toNat : Int)) m.toNat (4 * (b 0 0 * b 0 1)).toNat) else rvs b la σ m.toNat (4 * (b 0 0 * b 0 1)).toNat a.toNat) = _
      rw [Int.toNat_of_nonneg ha]
    rw [e1] at ih
    simp only [r127_11]
    by_cases hbr : (rvs b la σ m.toNat (4 * (b 0 0 * b 0 1)).toNat a.toNat).2 < σ 4 1 + m * mrk b σ
    · generalize rvs b la σ m.toNat (4 * (b 0 0 * b 0 1)).toNat a.toNat = R at ih d7 d9 hnn hbr
      rcases cdg_01 b σ a with hc | hc
      · rw [if_neg (by omega)] at ih
        simp only [hc, Int.reduceEq, if_false] at h105
        repeat' (first | (simp (disch := first | omega | exact Nat.le_of_ble_eq_true rfl | exact rfl | assumption | (simp (disch := omega) only [fr_ne, fr_same]; first | assumption | omega)) only [r127_0, r127_1, r127_2, r127_3, v127_3_9, r127_6, r127_9, r127_10r, r127_12, r127_13, r127_14, r127_17, r127_20, r127_24, r127_25, r127_28, r127_29, r127_35, r127_36, r127_39, r127_40, r127_43, r127_44, v127_44_5, r127_47i, r127_48, r127_49, r127_53, r127_54, r127_57, r127_58, r127_59, r127_60, r127_61, v127_61_5, r127_64, r127_65, r127_66, r127_69, v127_69_9, r127_72i, r127_73, r127_74, r127_77, r127_78, r127_79, r127_80, r127_81, v127_81_5, r127_84, r127_85, r127_86, r127_92, r127_93, r127_94, r127_97, r127_98, r127_99, r127_102r, r127_105, r127_108, p9_39_9, g9_15_9, g9_74_8, g9_39_9, g9_33_9, g9_22_9, p9_45_9, o9_len, o9_s7, o9_g1, o8_len, o8_g2, o9_g7, o9_g5, o9_g2, o9_s9, il_s, bl_s, bl_z, ll_s, is_s, bs_s, bs_z, ls_s, al_s, al_b, al_l, fr_ne, fr_same, fr_fr, Nat.reduceEqDiff, tc_gf3_s, tc_ql2_s, tc_ws_0, tc_ws_i, tc_ws_l, tc_ws_r, Nat.reduceLeDiff, Nat.reduceAdd, Nat.reduceLT, true_and, and_true, if_true, if_false, tc_K, Option.toList_some, Option.toList_none, List.nil_append, List.cons_append, ite_true, ite_false, Int.cast_ofNat_Int, reduceIte, i3_add_eq, i3_sub_eq, Int.add_sub_cancel, Int.add_neg_cancel_right, hO hL60 h60, hOs h60, SanS_g0 h61, SanS_s0 h61, SanS_g1 h61, SanS_s1 h61, SanS_g2 h61, SanS_s2 h61, SanS_g3 h61, SanS_s3 h61, ShoS_g0 hSh, ShoS_s0 hSh, ShoS_g1 hSh, ShoS_s1 hSh, ShoS_g2 hSh, ShoS_s2 hSh, ShoS_g3 hSh, ShoS_s3 hSh, ShoS_g4 hSh, ShoS_s4 hSh, ShoS_g5 hSh, ShoS_s5 hSh, ShoS_g6 hSh, ShoS_s6 hSh, ShoS_g7 hSh, ShoS_s7 hSh, dc2, d5, d7, h105, i3_mul_eq]) | (simp only [r127_21, r127_32, r127_50, r127_89, i6_lt0, i6_0lt, i6_0le, i6_le0, i6_eq0, b10_0, ite_not, Int.reduceLT, Int.reduceLE, Int.reduceEq, Int.reduceNeg, if_true, if_false, ite_true, ite_false, reduceIte, eq_self, not_true, not_false_eq_true]; try refine tc_ite (fun _ => ?_) (fun _ => ?_) <;> try (exfalso; omega)))
        exact ih d _ _ ⟨hte, h6d, d7, d9, hnn⟩
      · have hc1 := cdg_1 hc
        simp only [hc, if_true] at h105
        have h106 := fun Q => c106d (n := n) (Q := Q) h61 hb hσd hw ha ha2 hc
        have hσ1 : SAN k b 61 (dgr b d a) (dgs b σ a) := san_dig hσd hb ha ha2 hc
        have hw1 := dgs_ws hb hw ha ha2 hc
        have g7 : dgr b d a 60 7 = R.2 := by rw [dgr_o 60 (by omega), d7]
        repeat' (first | (simp (disch := first | omega | exact Nat.le_of_ble_eq_true rfl | exact rfl | assumption | (simp (disch := omega) only [fr_ne, fr_same]; first | assumption | omega)) only [r127_0, r127_1, r127_2, r127_3, v127_3_9, r127_6, r127_9, r127_10r, r127_12, r127_13, r127_14, r127_17, r127_20, r127_24, r127_25, r127_28, r127_29, r127_35, r127_36, r127_39, r127_40, r127_43, r127_44, v127_44_5, r127_47i, r127_48, r127_49, r127_53, r127_54, r127_57, r127_58, r127_59, r127_60, r127_61, v127_61_5, r127_64, r127_65, r127_66, r127_69, v127_69_9, r127_72i, r127_73, r127_74, r127_77, r127_78, r127_79, r127_80, r127_81, v127_81_5, r127_84, r127_85, r127_86, r127_92, r127_93, r127_94, r127_97, r127_98, r127_99, r127_102r, r127_105, r127_108, p9_39_9, g9_15_9, g9_74_8, g9_39_9, g9_33_9, g9_22_9, p9_45_9, o9_len, o9_s7, o9_g1, o8_len, o8_g2, o9_g7, o9_g5, o9_g2, o9_s9, il_s, bl_s, bl_z, ll_s, is_s, bs_s, bs_z, ls_s, al_s, al_b, al_l, fr_ne, fr_same, fr_fr, Nat.reduceEqDiff, tc_gf3_s, tc_ql2_s, tc_ws_0, tc_ws_i, tc_ws_l, tc_ws_r, Nat.reduceLeDiff, Nat.reduceAdd, Nat.reduceLT, true_and, and_true, if_true, if_false, tc_K, Option.toList_some, Option.toList_none, List.nil_append, List.cons_append, ite_true, ite_false, Int.cast_ofNat_Int, reduceIte, i3_add_eq, i3_sub_eq, Int.add_sub_cancel, Int.add_neg_cancel_right, hO hL60 h60, hOs h60, SanS_g0 h61, SanS_s0 h61, SanS_g1 h61, SanS_s1 h61, SanS_g2 h61, SanS_s2 h61, SanS_g3 h61, SanS_s3 h61, ShoS_g0 hSh, ShoS_s0 hSh, ShoS_g1 hSh, ShoS_s1 hSh, ShoS_g2 hSh, ShoS_s2 hSh, ShoS_g3 hSh, ShoS_s3 hSh, ShoS_g4 hSh, ShoS_s4 hSh, ShoS_g5 hSh, ShoS_s5 hSh, ShoS_g6 hSh, ShoS_s6 hSh, ShoS_g7 hSh, ShoS_s7 hSh, dc2, d5, d7, g7, h105, h106, i3_mul_eq, i3_div_nn]) | (simp only [r127_21, r127_32, r127_50, r127_89, i6_lt0, i6_0lt, i6_0le, i6_le0, i6_eq0, b10_0, ite_not, Int.reduceLT, Int.reduceLE, Int.reduceEq, Int.reduceNeg, if_true, if_false, ite_true, ite_false, reduceIte, eq_self, not_true, not_false_eq_true]; try refine tc_ite (fun _ => ?_) (fun _ => ?_) <;> try (exfalso; omega)))
        refine c128 (c := dgr b d a) (σ := dgs b σ a) (fl := R.2) (B := (d 60 7, d 60 8, d 60 9, d 60 10)) hTd.dgr hσ1 hw1 hm (by rw [dgr_o 60 (by omega), d4]) h9 (by omega) h6d ⟨rfl, rfl, rfl, rfl⟩ ?_
        intro e2 v2 te2 h6e2 hBe2 hv2
        have h106u := fun Q => c106u (e := e2) (n := n) (Q := Q) h61 hb hσd hw ha ha2 hc (te2.1 62 (by omega))
        have te3 := hte.back te2
        have f7 : e2 60 7 = R.2 := by rw [hBe2.1]; exact d7
        have f9 : e2 60 9 = R.1 := by rw [hBe2.2.2.1]; exact d9
        generalize rvl b la (dgs b σ a) m.toNat (4 * (b 0 0 * b 0 1)).toNat = V at ih hv2
        by_cases hlt : R.2 < V
        · have hvV : v2 = V := by omega
          rw [if_pos ⟨hc, hlt⟩] at ih
          rw [hvV]
          repeat' (first | (simp (disch := first | omega | exact Nat.le_of_ble_eq_true rfl | exact rfl | assumption | (simp (disch := omega) only [fr_ne, fr_same]; first | assumption | omega)) only [r127_0, r127_1, r127_2, r127_3, v127_3_9, r127_6, r127_9, r127_10r, r127_12, r127_13, r127_14, r127_17, r127_20, r127_24, r127_25, r127_28, r127_29, r127_35, r127_36, r127_39, r127_40, r127_43, r127_44, v127_44_5, r127_47i, r127_48, r127_49, r127_53, r127_54, r127_57, r127_58, r127_59, r127_60, r127_61, v127_61_5, r127_64, r127_65, r127_66, r127_69, v127_69_9, r127_72i, r127_73, r127_74, r127_77, r127_78, r127_79, r127_80, r127_81, v127_81_5, r127_84, r127_85, r127_86, r127_92, r127_93, r127_94, r127_97, r127_98, r127_99, r127_102r, r127_105, r127_108, p9_39_9, g9_15_9, g9_74_8, g9_39_9, g9_33_9, g9_22_9, p9_45_9, o9_len, o9_s7, o9_g1, o8_len, o8_g2, o9_g7, o9_g5, o9_g2, o9_s9, il_s, bl_s, bl_z, ll_s, is_s, bs_s, bs_z, ls_s, al_s, al_b, al_l, fr_ne, fr_same, fr_fr, Nat.reduceEqDiff, tc_gf3_s, tc_ql2_s, tc_ws_0, tc_ws_i, tc_ws_l, tc_ws_r, Nat.reduceLeDiff, Nat.reduceAdd, Nat.reduceLT, true_and, and_true, if_true, if_false, tc_K, Option.toList_some, Option.toList_none, List.nil_append, List.cons_append, ite_true, ite_false, Int.cast_ofNat_Int, reduceIte, i3_add_eq, i3_sub_eq, Int.add_sub_cancel, Int.add_neg_cancel_right, hO hL60 h60, hOs h60, SanS_g0 h61, SanS_s0 h61, SanS_g1 h61, SanS_s1 h61, SanS_g2 h61, SanS_s2 h61, SanS_g3 h61, SanS_s3 h61, h106u, f7, i3_div_nn]) | (simp only [r127_21, r127_32, r127_50, r127_89, i6_lt0, i6_0lt, i6_0le, i6_le0, i6_eq0, b10_0, ite_not, Int.reduceLT, Int.reduceLE, Int.reduceEq, Int.reduceNeg, if_true, if_false, ite_true, ite_false, reduceIte, eq_self, not_true, not_false_eq_true]; try refine tc_ite (fun _ => ?_) (fun _ => ?_) <;> try (exfalso; omega)))
          refine ih _ _ _ ⟨⟨fun y y1 => ?_, ?_, ?_⟩, ?_, ?_, ?_, ?_⟩
          · rw [fr_ne (by omega)]
            exact te3.1 y y1
          · rw [fr_same, fu_ne (by omega), fu_ne (by omega)]
            exact te3.2.1
          · rw [fr_same, fu_ne (by omega), fu_ne (by omega)]
            exact te3.2.2
          · unfold LRp
            rw [fr_same, fu_ne (by omega), fu_ne (by omega)]
            exact h6e2
          · rw [fr_same, fu_ne (by omega), fu_same]
          · rw [fr_same, fu_same]
          · show 0 ≤ V
            omega
        · rw [if_neg (fun h => hlt h.2)] at ih
          have hv3 : v2 ≤ R.2 := by omega
          repeat' (first | (simp (disch := first | omega | exact Nat.le_of_ble_eq_true rfl | exact rfl | assumption | (simp (disch := omega) only [fr_ne, fr_same]; first | assumption | omega)) only [r127_0, r127_1, r127_2, r127_3, v127_3_9, r127_6, r127_9, r127_10r, r127_12, r127_13, r127_14, r127_17, r127_20, r127_24, r127_25, r127_28, r127_29, r127_35, r127_36, r127_39, r127_40, r127_43, r127_44, v127_44_5, r127_47i, r127_48, r127_49, r127_53, r127_54, r127_57, r127_58, r127_59, r127_60, r127_61, v127_61_5, r127_64, r127_65, r127_66, r127_69, v127_69_9, r127_72i, r127_73, r127_74, r127_77, r127_78, r127_79, r127_80, r127_81, v127_81_5, r127_84, r127_85, r127_86, r127_92, r127_93, r127_94, r127_97, r127_98, r127_99, r127_102r, r127_105, r127_108, p9_39_9, g9_15_9, g9_74_8, g9_39_9, g9_33_9, g9_22_9, p9_45_9, o9_len, o9_s7, o9_g1, o8_len, o8_g2, o9_g7, o9_g5, o9_g2, o9_s9, il_s, bl_s, bl_z, ll_s, is_s, bs_s, bs_z, ls_s, al_s, al_b, al_l, fr_ne, fr_same, fr_fr, Nat.reduceEqDiff, tc_gf3_s, tc_ql2_s, tc_ws_0, tc_ws_i, tc_ws_l, tc_ws_r, Nat.reduceLeDiff, Nat.reduceAdd, Nat.reduceLT, true_and, and_true, if_true, if_false, tc_K, Option.toList_some, Option.toList_none, List.nil_append, List.cons_append, ite_true, ite_false, Int.cast_ofNat_Int, reduceIte, i3_add_eq, i3_sub_eq, Int.add_sub_cancel, Int.add_neg_cancel_right, hO hL60 h60, hOs h60, SanS_g0 h61, SanS_s0 h61, SanS_g1 h61, SanS_s1 h61, SanS_g2 h61, SanS_s2 h61, SanS_g3 h61, SanS_s3 h61, h106u, f7, i3_div_nn]) | (simp only [r127_21, r127_32, r127_50, r127_89, i6_lt0, i6_0lt, i6_0le, i6_le0, i6_eq0, b10_0, ite_not, Int.reduceLT, Int.reduceLE, Int.reduceEq, Int.reduceNeg, if_true, if_false, ite_true, ite_false, reduceIte, eq_self, not_true, not_false_eq_true]; try refine tc_ite (fun _ => ?_) (fun _ => ?_) <;> try (exfalso; omega)))
          exact ih _ _ _ ⟨te3, h6e2, f7, f9, hnn⟩
    · have hst := rvs_stop (b := b) (t := σ) (la := la) (m := m.toNat) (M := (4 * (b 0 0 * b 0 1)).toNat) (T := σ 4 1 + m * mrk b σ) (a := a.toNat) (by omega) ((4 * (b 0 0 * b 0 1)).toNat - a.toNat) (fun x x1 x2 x3 => by
        have hx0 : 0 ≤ x := by omega
        have hx1 : x < 4 * (b 0 0 * b 0 1) := by omega
        have h1 := (rvl_le (b := b) (t := dgs b σ x) (la := la) (m := m.toNat) (4 * (b 0 0 * b 0 1)).toNat).1
        have h2 : gos b la (dgs b σ x) m.toNat 4 1 ≤ σ 4 1 + m * mrk b σ := gos_top (la := la) (m := m) hb (dgs_ws hb hw hx0 hx1 x3) (by omega) h9
        omega)
      rw [show a.toNat + ((4 * (b 0 0 * b 0 1)).toNat - a.toNat) = (4 * (b 0 0 * b 0 1)).toNat by omega] at hst
      rw [hst] at hq
      repeat' (first | (simp (disch := first | omega | exact Nat.le_of_ble_eq_true rfl | exact rfl | assumption | (simp (disch := omega) only [fr_ne, fr_same]; first | assumption | omega)) only [r127_0, r127_1, r127_2, r127_3, v127_3_9, r127_6, r127_9, r127_10r, r127_12, r127_13, r127_14, r127_17, r127_20, r127_24, r127_25, r127_28, r127_29, r127_35, r127_36, r127_39, r127_40, r127_43, r127_44, v127_44_5, r127_47i, r127_48, r127_49, r127_53, r127_54, r127_57, r127_58, r127_59, r127_60, r127_61, v127_61_5, r127_64, r127_65, r127_66, r127_69, v127_69_9, r127_72i, r127_73, r127_74, r127_77, r127_78, r127_79, r127_80, r127_81, v127_81_5, r127_84, r127_85, r127_86, r127_92, r127_93, r127_94, r127_97, r127_98, r127_99, r127_102r, r127_105, r127_108, p9_39_9, g9_15_9, g9_74_8, g9_39_9, g9_33_9, g9_22_9, p9_45_9, o9_len, o9_s7, o9_g1, o8_len, o8_g2, o9_g7, o9_g5, o9_g2, o9_s9, il_s, bl_s, bl_z, ll_s, is_s, bs_s, bs_z, ls_s, al_s, al_b, al_l, fr_ne, fr_same, fr_fr, Nat.reduceEqDiff, tc_gf3_s, tc_ql2_s, tc_ws_0, tc_ws_i, tc_ws_l, tc_ws_r, Nat.reduceLeDiff, Nat.reduceAdd, Nat.reduceLT, true_and, and_true, if_true, if_false, tc_K, Option.toList_some, Option.toList_none, List.nil_append, List.cons_append, ite_true, ite_false, Int.cast_ofNat_Int, reduceIte, i3_add_eq, i3_sub_eq, Int.add_sub_cancel, Int.add_neg_cancel_right, hO hL60 h60, hOs h60, SanS_g0 h61, SanS_s0 h61, SanS_g1 h61, SanS_s1 h61, SanS_g2 h61, SanS_s2 h61, SanS_g3 h61, SanS_s3 h61, ShoS_g0 hSh, ShoS_s0 hSh, ShoS_g1 hSh, ShoS_s1 hSh, ShoS_g2 hSh, ShoS_s2 hSh, ShoS_g3 hSh, ShoS_s3 hSh, ShoS_g4 hSh, ShoS_s4 hSh, ShoS_g5 hSh, ShoS_s5 hSh, ShoS_g6 hSh, ShoS_s6 hSh, ShoS_g7 hSh, ShoS_s7 hSh, dc2, d5, d7, i3_mul_eq]) | (simp only [r127_21, r127_32, r127_50, r127_89, i6_lt0, i6_0lt, i6_0le, i6_le0, i6_eq0, b10_0, ite_not, Int.reduceLT, Int.reduceLE, Int.reduceEq, Int.reduceNeg, if_true, if_false, ite_true, ite_false, reduceIte, eq_self, not_true, not_false_eq_true]; try refine tc_ite (fun _ => ?_) (fun _ => ?_) <;> try (exfalso; omega)))
      exact hq d hte d7 d9
  · intro d a2 a3 ⟨hte, h6d, d7, d9, hnn⟩
    have dc2 : d s 2 = b 0 0 * b 0 1 := by rw [hte.1 s (by omega)]; exact hc2
    simp only [r127_11]
    repeat' (first | (simp (disch := first | omega | exact Nat.le_of_ble_eq_true rfl | exact rfl | assumption | (simp (disch := omega) only [fr_ne, fr_same]; first | assumption | omega)) only [r127_0, r127_1, r127_2, r127_3, v127_3_9, r127_6, r127_9, r127_10r, r127_12, r127_13, r127_14, r127_17, r127_20, r127_24, r127_25, r127_28, r127_29, r127_35, r127_36, r127_39, r127_40, r127_43, r127_44, v127_44_5, r127_47i, r127_48, r127_49, r127_53, r127_54, r127_57, r127_58, r127_59, r127_60, r127_61, v127_61_5, r127_64, r127_65, r127_66, r127_69, v127_69_9, r127_72i, r127_73, r127_74, r127_77, r127_78, r127_79, r127_80, r127_81, v127_81_5, r127_84, r127_85, r127_86, r127_92, r127_93, r127_94, r127_97, r127_98, r127_99, r127_102r, r127_105, r127_108, p9_39_9, g9_15_9, g9_74_8, g9_39_9, g9_33_9, g9_22_9, p9_45_9, o9_len, o9_s7, o9_g1, o8_len, o8_g2, o9_g7, o9_g5, o9_g2, o9_s9, il_s, bl_s, bl_z, ll_s, is_s, bs_s, bs_z, ls_s, al_s, al_b, al_l, fr_ne, fr_same, fr_fr, Nat.reduceEqDiff, tc_gf3_s, tc_ql2_s, tc_ws_0, tc_ws_i, tc_ws_l, tc_ws_r, Nat.reduceLeDiff, Nat.reduceAdd, Nat.reduceLT, true_and, and_true, if_true, if_false, tc_K, Option.toList_some, Option.toList_none, List.nil_append, List.cons_append, ite_true, ite_false, Int.cast_ofNat_Int, reduceIte, i3_add_eq, i3_sub_eq, Int.add_sub_cancel, Int.add_neg_cancel_right, hO hL60 h60, hOs h60, ShoS_g0 hSh, ShoS_s0 hSh, ShoS_g1 hSh, ShoS_s1 hSh, ShoS_g2 hSh, ShoS_s2 hSh, ShoS_g3 hSh, ShoS_s3 hSh, ShoS_g4 hSh, ShoS_s4 hSh, ShoS_g5 hSh, ShoS_s5 hSh, ShoS_g6 hSh, ShoS_s6 hSh, ShoS_g7 hSh, ShoS_s7 hSh, dc2, i3_mul_eq]) | (simp only [r127_21, r127_32, r127_50, r127_89, i6_lt0, i6_0lt, i6_0le, i6_le0, i6_eq0, b10_0, ite_not, Int.reduceLT, Int.reduceLE, Int.reduceEq, Int.reduceNeg, if_true, if_false, ite_true, ite_false, reduceIte, eq_self, not_true, not_false_eq_true]; try refine tc_ite (fun _ => ?_) (fun _ => ?_) <;> try (exfalso; omega)))
    exact hq d hte d7 d9
end RIVC

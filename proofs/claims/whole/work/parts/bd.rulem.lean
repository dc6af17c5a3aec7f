/-! the reference: rule -/
def mlr (c : Nat → Int → Int) (s : Int) : Law → Int → Int → Prop
  | [], _, _ => True
  | q :: l, x, z => c 99 (12 * s + x) = z ∧ c 100 (12 * s + x) = z + q.1.length ∧ c 101 (12 * s + x) = z + q.1.length + q.2.length ∧ sg (c 96) (c 97) (300 * s + z) q.1.length = q.1 ∧ sg (c 96) (c 97) (300 * s + (z + q.1.length)) q.2.length = q.2 ∧ mlr c s l (x + 1) (z + q.1.length + q.2.length)
theorem mlr_ex {c d : Nat → Int → Int} {s : Int} : ∀ (l : Law) (x z : Int), 0 ≤ x → 0 ≤ z → (∀ i, 300 * s ≤ i → i < 300 * s + (z + tz l) → d 96 i = c 96 i ∧ d 97 i = c 97 i) → (∀ i, 12 * s ≤ i → i < 12 * s + (x + l.length) → d 99 i = c 99 i ∧ d 100 i = c 100 i ∧ d 101 i = c 101 i) → mlr c s l x z → mlr d s l x z := by
  intro l
  induction l with
  | nil => intro x z _ _ _ _ _; trivial
  | cons q l ih =>
    intro x z hx hz h1 h2 ⟨c1, c2, c3, c4, c5, c6⟩
    have hl : (((q :: l).length : Nat) : Int) = l.length + 1 := by
      show ((l.length + 1 : Nat) : Int) = _
      omega
    have ht : tz (q :: l) = q.1.length + q.2.length + tz l := rfl
    have hn := tz_nn l
    have h3 := h2 (12 * s + x) (by omega) (by omega)
    refine ⟨by rw [h3.1]; exact c1, by rw [h3.2.1]; exact c2, by rw [h3.2.2]; exact c3, ?_, ?_, ih (x + 1) _ (by omega) (by omega) (fun i i1 i2 => h1 i i1 (by omega)) (fun i i1 i2 => h2 i i1 (by omega)) c6⟩
    · rw [sg_ex _ _ fun j j1 j2 => h1 j (by omega) (by omega)]
      exact c4
    · rw [sg_ex _ _ fun j j1 j2 => h1 j (by omega) (by omega)]
      exact c5
theorem mlr_app {c : Nat → Int → Int} {s : Int} {q : List Tk × List Tk} : ∀ (l : Law) (x z : Int), mlr c s l x z → c 99 (12 * s + (x + l.length)) = z + tz l → c 100 (12 * s + (x + l.length)) = z + tz l + q.1.length → c 101 (12 * s + (x + l.length)) = z + tz l + q.1.length + q.2.length → sg (c 96) (c 97) (300 * s + (z + tz l)) q.1.length = q.1 → sg (c 96) (c 97) (300 * s + (z + tz l + q.1.length)) q.2.length = q.2 → mlr c s (l ++ [q]) x z := by
  intro l
  induction l with
  | nil =>
    intro x z _ h1 h2 h3 h4 h5
    have e0 : tz [] = 0 := rfl
    have e1 : (([] : Law).length : Int) = 0 := rfl
    rw [e0, Int.add_zero] at h1 h2 h3 h4 h5
    rw [e1, Int.add_zero] at h1 h2 h3
    exact ⟨h1, h2, h3, h4, h5, trivial⟩
  | cons y l ih =>
    intro x z ⟨c1, c2, c3, c4, c5, c6⟩ h1 h2 h3 h4 h5
    have hl : (((y :: l).length : Nat) : Int) = l.length + 1 := by
      show ((l.length + 1 : Nat) : Int) = _
      omega
    have ht : tz (y :: l) = y.1.length + y.2.length + tz l := rfl
    rw [hl] at h1 h2 h3
    rw [ht] at h1 h2 h3 h4 h5
    have ez : z + (↑y.1.length + ↑y.2.length + tz l) = z + y.1.length + y.2.length + tz l := by omega
    rw [ez] at h1 h2 h3 h4 h5
    have ex : x + ((l.length : Int) + 1) = x + 1 + l.length := by omega
    rw [ex] at h1 h2 h3
    exact ⟨c1, c2, c3, c4, c5, ih (x + 1) _ c6 h1 h2 h3 h4 h5⟩
theorem mlr_mla {c : Nat → Int → Int} {s : Int} : ∀ (l : Law) (x z : Int), mlr c s l x z → mla c s (12 * s + x) l.length = l := by
  intro l
  induction l with
  | nil => intro x z _; rfl
  | cons q l ih =>
    intro x z ⟨c1, c2, c3, c4, c5, c6⟩
    show (sg (c 96) (c 97) (300 * s + c 99 (12 * s + x)) (c 100 (12 * s + x) - c 99 (12 * s + x)).toNat, sg (c 96) (c 97) (300 * s + c 100 (12 * s + x)) (c 101 (12 * s + x) - c 100 (12 * s + x)).toNat) :: mla c s (12 * s + x + 1) l.length = q :: l
    rw [show 12 * s + x + 1 = 12 * s + (x + 1) by omega, ih (x + 1) _ c6, c1, c2, c3, show (z + (q.1.length : Int) - z).toNat = q.1.length by omega, show (z + (q.1.length : Int) + q.2.length - (z + q.1.length)).toNat = q.2.length by omega, c4, c5]
theorem mlr_lw {c : Nat → Int → Int} {s : Int} : ∀ (l : Law) (x z : Int), 0 ≤ z → mlr c s l x z → z + tz l ≤ 300 → LOk l → ∀ y, 12 * s + x ≤ y → y < 12 * s + (x + l.length) → 0 ≤ c 99 y ∧ c 99 y ≤ c 100 y ∧ c 100 y ≤ c 101 y ∧ c 101 y ≤ 300 ∧ Kds (sg (c 96) (c 97) (300 * s + c 99 y) (c 100 y - c 99 y).toNat) [] [false] ∧ (c 100 y = c 101 y ∨ Kds (sg (c 96) (c 97) (300 * s + c 100 y) (c 101 y - c 100 y).toNat) [] [true]) := by
  intro l
  induction l with
  | nil =>
    intro x z _ _ _ _ y h1 h2
    have e1 : (([] : Law).length : Int) = 0 := rfl
    omega
  | cons q l ih =>
    intro x z hz ⟨c1, c2, c3, c4, c5, c6⟩ ht hok y h1 h2
    have hl : (((q :: l).length : Nat) : Int) = l.length + 1 := by
      show ((l.length + 1 : Nat) : Int) = _
      omega
    have htz : tz (q :: l) = q.1.length + q.2.length + tz l := rfl
    have hn := tz_nn l
    by_cases hy : y = 12 * s + x
    · subst hy
      have hq := hok q (List.mem_cons_self ..)
      rw [c1, c2, c3, show (z + (q.1.length : Int) - z).toNat = q.1.length by omega, show (z + (q.1.length : Int) + q.2.length - (z + q.1.length)).toNat = q.2.length by omega, c4, c5]
      refine ⟨hz, by omega, by omega, by omega, hq.1, ?_⟩
      rcases hq.2 with x | x
      · left
        rw [x]
        show _ = _ + (0 : Int)
        omega
      · exact Or.inr x
    · exact ih (x + 1) _ (by omega) c6 (by omega) (fun q hq => hok q (List.mem_cons_of_mem _ hq)) y (by omega) (by omega)
def MDL (c : Nat → Int → Int) (g : Int → Int) (N p m s : Int) (l : Law) : Prop := ME c g N p m s (tz l) [] ∧ c 75 23 = 0 ∧ c 75 27 = 0 ∧ mlr c s l 0 0
/-- what reading a rule leaves as it was -/
def MLL (c e : Nat → Int → Int) (s : Int) : Prop := (∀ a, ¬ a = 75 → ¬ a = 96 → ¬ a = 97 → ¬ a = 99 → ¬ a = 100 → ¬ a = 101 → ¬ a = 102 → e a = c a) ∧ (∀ i, i < 300 * s → e 96 i = c 96 i ∧ e 97 i = c 97 i) ∧ (∀ i, i < 12 * s → e 99 i = c 99 i ∧ e 100 i = c 100 i ∧ e 101 i = c 101 i) ∧ ∀ i, ¬ i = 22 → ¬ i = 23 → ¬ i = 26 → ¬ i = 27 → ¬ i = 28 → ¬ i = 29 → e 75 i = c 75 i
section RULEM
variable {L : Nat} {sh : Nat → SH} {c : Nat → Int → Int} {n : Nat} {Q : Option AV → List SC → Nat → Prop} {g : Int → Int} {N p m s z f p' m' k : Int} {X Y : List Tk} {l l' : Law}
theorem MLL.refl : MLL c c s := ⟨fun _ _ _ _ _ _ _ _ => rfl, fun _ _ => ⟨rfl, rfl⟩, fun _ _ => ⟨rfl, rfl, rfl⟩, fun _ _ _ _ _ _ _ => rfl⟩
theorem MLL.trans {d e : Nat → Int → Int} (h : MLL c d s) (k : MLL d e s) : MLL c e s := ⟨fun a a1 a2 a3 a4 a5 a6 a7 => (k.1 a a1 a2 a3 a4 a5 a6 a7).trans (h.1 a a1 a2 a3 a4 a5 a6 a7), fun i hi => ⟨(k.2.1 i hi).1.trans (h.2.1 i hi).1, (k.2.1 i hi).2.trans (h.2.1 i hi).2⟩, fun i hi => ⟨(k.2.2.1 i hi).1.trans (h.2.2.1 i hi).1, (k.2.2.1 i hi).2.1.trans (h.2.2.1 i hi).2.1, (k.2.2.1 i hi).2.2.trans (h.2.2.1 i hi).2.2⟩, fun i i1 i2 i3 i4 i5 i6 => (k.2.2.2 i i1 i2 i3 i4 i5 i6).trans (h.2.2.2 i i1 i2 i3 i4 i5 i6)⟩
theorem MTQ.ll {e : Nat → Int → Int} {Z : Int} (h : MTQ c e Z) (hZ : 300 * s ≤ Z) : MLL c e s := ⟨fun a a1 a2 a3 _ _ _ a7 => h.1 a a1 a2 a3 a7, fun i hi => h.2.1 i (by omega), fun i _ => ⟨by rw [h.1 99 (by omega) (by omega) (by omega) (by omega)], by rw [h.1 100 (by omega) (by omega) (by omega) (by omega)], by rw [h.1 101 (by omega) (by omega) (by omega) (by omega)]⟩, h.2.2⟩
theorem STRS.ml (hST : STRS sh c) {d : Nat → Int → Int} (h : MLL c d s) : STRS sh d := fun a ha => ⟨(hST a ha).1, by rw [h.1 a (by omega) (by omega) (by omega) (by omega) (by omega) (by omega) (by omega)]; exact (hST a ha).2⟩
/-- a row among 99, 100, 101 is told something of this clause -/
theorem MLL.of {a : Nat} (ha : a = 99 ∨ a = 100 ∨ a = 101) {i v : Int} (hi : 12 * s ≤ i) : MLL c (fr c a (fu (c a) i v)) s := by
  refine ⟨fun b b1 _ _ b4 b5 b6 _ => fr_ne (by omega), fun j _ => ⟨by rw [fr_ne (by omega)], by rw [fr_ne (by omega)]⟩, fun j hj => ?_, fun j _ _ _ _ _ _ => by rw [fr_ne (by omega)]⟩
  have q : ∀ b : Nat, fr c a (fu (c a) i v) b j = c b j := fun b => by
    by_cases hb : b = a
    · subst hb
      rw [fr_same, fu_ne (by omega)]
    · rw [fr_ne hb]
  exact ⟨q 99, q 100, q 101⟩
theorem ME.row {a : Nat} (ha : a = 99 ∨ a = 100 ∨ a = 101) {T : List Tk} {F : Int → Int} (h : ME c g N p m s z T) : ME (fr c a F) g N p m s z T := by
  obtain ⟨h1, h2, h3, h4, h5, h6, h7, h8⟩ := h
  exact ⟨by rw [fr_ne (by omega)]; exact h1, by rw [fr_ne (by omega)]; exact h2, by rw [fr_ne (by omega)]; exact h3, by rw [fr_ne (by omega)]; exact h4, by rw [fr_ne (by omega)]; exact h5, by rw [fr_ne (by omega)]; exact h6, by rw [fr_ne (by omega)]; exact h7, by rw [fr_ne (show ¬ 96 = a by omega), fr_ne (show ¬ 97 = a by omega)]; exact h8⟩
theorem m189 (hS : MS L sh) (hST : STRS sh c) (hTP : TP g N) (hD : MDL c g N p m s l) (hp0 : 0 ≤ p ∧ p ≤ N) (hm : 0 ≤ m ∧ m ≤ 60) (hs : 0 ≤ s ∧ s ≤ 5) (hz : 3 * tz l ≤ 7 * m + p) (hk : k = l.length) (hk12 : k ≤ 12) {K : Nat} (hK : N ≤ K) (hb : rcl g N K k p m = (f, p', m', X, Y))
    (hq : ∀ e, MLL c e s → RN2 e N → e 75 23 = f → (f = 0 → MDL e g N p' m' s (l ++ [(X, Y)])) → Q none (hp L sh e) n) : tc_C 189 [rf 75, .inl k] (hp L sh c) n Q := by
  have hN := hTP.1
  have hL := hS.1
  have hsr := nm_rng (g := g) hp0
  have hkr := sk_rng (g := g) (n := N) (p := p)
  have htz := tz_nn l
  have hl0 : (([] : List Tk).length : Int) = 0 := rfl
  obtain ⟨hE, h23, h27, hml⟩ := id hD
  obtain ⟨h95, h21, h22, h24, h26, h28, h30, _⟩ := id hE
  have h171 := fun Q => c171q (c := c) (n := n) (Q := Q) (N := N) (p := p) hS (by rw [h95]; exact hTP) h21 h22 (by omega)
  rw [h95] at h171
  have hat := hE.at (sk g N p)
  unfold rcl at hb
  generalize hq0 : sk g N p = q at hb hsr h171 hkr hat
  have hsq : sk g N q = q := by rw [← hq0]; exact sk_2 g N p
  generalize hc1 : fr c 75 (fu (c 75) 22 q) = c1 at h171 hat
  have x75 : ∀ i, ¬ i = 22 → c1 75 i = c 75 i := fun i hi => by rw [← hc1, fr_same, fu_ne hi]
  have xo : ∀ a, ¬ a = 75 → c1 a = c a := fun a ha => by rw [← hc1, fr_ne ha]
  have e22 : c1 75 22 = q := hat.1.2.2.1
  have h231 : c1 75 23 = 0 := by rw [x75 23 (by omega)]; exact h23
  have hM1 : MLL c c1 s := (hat.2 (300 * s)).t.ll (Int.le_refl _)
  have hST1 : STRS sh c1 := hST.ml hM1
  have h174 : ∀ n Q, tc_C 174 [rf 75, rf 12] (hp L sh c1) n Q = Q (some (.inl (stq g N q (chs 12) 4))) (hp L sh c1) n := fun n Q => by
    have hst := hST1 12 (by omega)
    rw [c174 (l := 4) hS (by rw [hat.1.1]; exact hTP) hat.1.2.1 e22 (by omega) (by omega) hst.1 (by omega), hat.1.1, hst.2]
  have h175 := fun kk n Q => c175 (c := c1) (n := n) (Q := Q) (k := kk) (p := q) hS
  show tc_W 189 0 [rf 75, .inl k, tc_nil, tc_nil] [] _ _ Q
  by_cases ht : stq g N q (chs 12) 4 = 1
  · rw [if_neg (fun x => x ht)] at hb
    rw [ht] at h174
    have hrn := stq_rn ht
    have hr2 := rn_rng (g := g) (n := N) (p := q)
    by_cases h12 : 12 ≤ k
    · rw [if_pos h12] at hb
      obtain ⟨e1, _⟩ := prP hb
      have hf : ¬ f = 0 := by omega
      have h175' := fun n Q => h175 4 n Q (by omega) (by omega)
      rw [if_pos h231, e1] at h175'
      have hq' := hq (fr c1 75 (fu (c1 75) 23 f)) (hM1.trans ⟨fun a a1 _ _ _ _ _ _ => fr_ne a1, fun i _ => ⟨rfl, rfl⟩, fun i _ => ⟨rfl, rfl, rfl⟩, fun i i1 i2 i3 i4 i5 i6 => by rw [fr_same, fu_ne i2]⟩) ⟨by rw [fr_same, fu_ne (by omega), e22]; omega, by rw [fr_same, fu_ne (by omega), x75 28 (by omega), h28]; omega⟩ (by rw [fr_same, fu_same]) (fun x => absurd x hf)
      repeat' (first | (simp (disch := first | omega | exact Nat.le_of_ble_eq_true rfl | exact rfl | assumption | (simp only [fr_at, Nat.reduceEqDiff, if_false, if_true, reduceIte]; first | assumption | omega)) only [r189_0, r189_1, v189_1_11, r189_4, r189_5, r189_8i, r189_9, r189_10, r189_13, v189_13_11, r189_19, r189_20, r189_21, r189_22, v189_22_11, r189_25, r189_26, r189_27, r189_32, r189_33, r189_34, r189_35, v189_35_11, r189_38, r189_39, r189_40, r189_40A, r189_41, r189_44, r189_45, r189_46, r189_49, r189_51, r189_52, r189_55, r189_56, r189_57, r189_58i, r189_59, r189_60, r189_63, r189_64, r189_65, r189_68, r189_69, r189_70, v189_70_11, r189_73, r189_74, r189_77, r189_78, r189_79, r189_82, r189_83, r189_84, r189_90, r189_91, r189_94, v189_94_11, r189_100, r189_101, v189_101_11, r189_104, r189_105, r189_108, r189_109, r189_110, r189_113, r189_114, g11_174_11, p11_174_11, g11_200_11, g11_84_11, g11_203_11, g11_87_11, g11_171_11, g11_90_11, mo_len, ms75 hS, mt75 hS, mo_g22, mo_s22, mo_g24, mo_g35, ms99 hS, mt99 hS, mo_g26, mo_g36, ms100 hS, mt100 hS, mo_g23, mo_g37, ms101 hS, mt101 hS, il_s, bl_s, bl_z, ll_s, is_s, bs_s, bs_z, ls_s, al_s, al_b, al_l, fr_at, fr_fr, Nat.reduceEqDiff, tc_gf3_s, tc_ql2_s, tc_ws_0, tc_ws_i, tc_ws_l, tc_ws_r, Nat.reduceLeDiff, Nat.reduceAdd, Nat.reduceLT, true_and, and_true, if_true, if_false, tc_K, Option.toList_some, Option.toList_none, List.nil_append, List.cons_append, ite_true, ite_false, Int.cast_ofNat_Int, reduceIte, i3_add_eq, i3_sub_eq, Int.add_sub_cancel, Int.add_neg_cancel_right, h171, e22, h174, h175']) | (simp only [r189_16, r189_29, r189_87, r189_97, i6_lt0, i6_0lt, i6_0le, i6_le0, i6_eq0, b10_0, ite_not, Int.reduceLT, Int.reduceLE, Int.reduceEq, Int.reduceNeg, if_true, if_false, ite_true, ite_false, reduceIte, eq_self, not_true, not_false_eq_true]; try refine tc_ite (fun _ => ?_) (fun _ => ?_) <;> try (exfalso; omega)))
      all_goals first
        | exact hq'
        | omega
    · rw [if_neg h12] at hb
      rcases hs1 : smf g N K (q + 4) m [] with ⟨f1, p1, m1, T1⟩
      rw [hs1] at hb
      dsimp only at hb
      have hat2 := hat.1.at (q + 4)
      generalize hc2 : fr c1 75 (fu (c1 75) 22 (q + 4)) = c2 at hat2
      have y24 : c2 75 24 = s := hat2.1.2.2.2.1
      have y26 : c2 75 26 = tz l := by rw [hat2.1.2.2.2.2.1, hl0]; omega
      have hM2 : MLL c c2 s := hM1.trans ((hat2.2 (300 * s)).t.ll (Int.le_refl _))
      have y23 : c2 75 23 = 0 := by rw [← hc2, fr_same, fu_ne (by omega)]; exact h231
      have y27 : c2 75 27 = 0 := by rw [← hc2, fr_same, fu_ne (by omega), x75 27 (by omega)]; exact h27
      have yo : ∀ a, ¬ a = 75 → c2 a = c a := fun a ha => by rw [← hc2, fr_ne ha, xo a ha]
      generalize hc3 : fr c2 99 (fu (c2 99) (12 * s + k) (tz l)) = c3
      have hM3 : MLL c c3 s := hM2.trans (by rw [← hc3]; exact MLL.of (Or.inl rfl) (by omega))
      have hE3 : ME c3 g N (q + 4) m s (tz l) [] := by rw [← hc3]; exact hat2.1.row (Or.inl rfl)
      have z23 : c3 75 23 = 0 := by rw [← hc3, fr_ne (by omega)]; exact y23
      repeat' (first | (simp (disch := first | omega | exact Nat.le_of_ble_eq_true rfl | exact rfl | assumption | (simp only [fr_at, Nat.reduceEqDiff, if_false, if_true, reduceIte]; first | assumption | omega)) only [r189_0, r189_1, v189_1_11, r189_4, r189_5, r189_8i, r189_9, r189_10, r189_13, v189_13_11, r189_19, r189_20, r189_21, r189_22, v189_22_11, r189_25, r189_26, r189_27, r189_32, r189_33, r189_34, r189_35, v189_35_11, r189_38, r189_39, r189_40, r189_40A, r189_41, r189_44, r189_45, r189_46, r189_49, r189_51, r189_52, r189_55, r189_56, r189_57, r189_58i, r189_59, r189_60, r189_63, r189_64, r189_65, r189_68, r189_69, r189_70, v189_70_11, r189_73, r189_74, r189_77, r189_78, r189_79, r189_82, r189_83, r189_84, r189_90, r189_91, r189_94, v189_94_11, r189_100, r189_101, v189_101_11, r189_104, r189_105, r189_108, r189_109, r189_110, r189_113, r189_114, g11_174_11, p11_174_11, g11_200_11, g11_84_11, g11_203_11, g11_87_11, g11_171_11, g11_90_11, mo_len, ms75 hS, mt75 hS, mo_g22, mo_s22, mo_g24, mo_g35, ms99 hS, mt99 hS, mo_g26, mo_g36, ms100 hS, mt100 hS, mo_g23, mo_g37, ms101 hS, mt101 hS, il_s, bl_s, bl_z, ll_s, is_s, bs_s, bs_z, ls_s, al_s, al_b, al_l, fr_at, fr_fr, Nat.reduceEqDiff, tc_gf3_s, tc_ql2_s, tc_ws_0, tc_ws_i, tc_ws_l, tc_ws_r, Nat.reduceLeDiff, Nat.reduceAdd, Nat.reduceLT, true_and, and_true, if_true, if_false, tc_K, Option.toList_some, Option.toList_none, List.nil_append, List.cons_append, ite_true, ite_false, Int.cast_ofNat_Int, reduceIte, i3_add_eq, i3_sub_eq, Int.add_sub_cancel, Int.add_neg_cancel_right, h171, e22, h174, hc2, y24, i3_mul_eq, y26, hc3]) | (simp only [r189_16, r189_29, r189_87, r189_97, i6_lt0, i6_0lt, i6_0le, i6_le0, i6_eq0, b10_0, ite_not, Int.reduceLT, Int.reduceLE, Int.reduceEq, Int.reduceNeg, if_true, if_false, ite_true, ite_false, reduceIte, eq_self, not_true, not_false_eq_true]; try refine tc_ite (fun _ => ?_) (fun _ => ?_) <;> try (exfalso; omega)))
      all_goals try omega
      refine m190 (c := c3) (F := 0) (k := K) hS (hST.ml hM3) hTP hE3 (by omega) z23 (by omega) (fun _ => hm.2) hs ⟨htz, by rw [hl0]; omega, fun _ => by rw [hl0]; omega⟩ (by omega) hs1 ?_
      intro e1 b1 b2 b3 b4
      rw [if_pos rfl] at b2
      rw [fl_0] at b3 b4
      rw [hl0, Int.add_zero] at b1
      have hMe1 : MLL c e1 s := hM3.trans (b1.t.ll (by omega))
      have e99 : ∀ a, a = 99 ∨ a = 100 ∨ a = 101 → e1 a = c3 a := fun a ha => b1.1 a (by omega) (by omega) (by omega)
      have e27 : e1 75 27 = 0 := by rw [b1.2.2 27 (by omega) (by omega) (by omega) (by omega), ← hc3, fr_ne (by omega)]; exact y27
      generalize hV : e1 75 26 = V
      generalize hc4 : fr e1 100 (fu (e1 100) (12 * s + k) V) = c4
      have hM4 : MLL c c4 s := hMe1.trans (by rw [← hc4]; exact MLL.of (Or.inr (Or.inl rfl)) (by omega))
      have v23 : c4 75 23 = f1 := by rw [← hc4, fr_ne (by omega)]; exact b3
      have v26 : c4 75 26 = V := by rw [← hc4, fr_ne (by omega)]; exact hV
      by_cases hf1 : f1 = 0
      · subst hf1
        rw [if_neg (fun x => x rfl)] at hb
        obtain ⟨⟨g1, g2, g3, g4, g5, g7⟩, g6⟩ := smf_g hs1 (by omega) [] []
        rw [hl0] at g3
        have hEe := b4 rfl
        have hV2 : V = tz l + T1.length := by rw [← hV]; exact hEe.2.2.2.2.1
        have hE4 : ME c4 g N p1 m1 s (tz l) T1 := by rw [← hc4]; exact hEe.row (Or.inr (Or.inl rfl))
        unfold rc2 at hb
        rw [g6] at hb
        -- the clause's place among all
        have hfin : ∀ (e : Nat → Int → Int) (Y : List Tk) (pp mm : Int), MTQ c4 e (300 * s + (tz l + T1.length)) → ME e g N pp mm s (tz l + T1.length) Y → e 75 23 = 0 → e 75 27 = 0 → MDL (fr e 101 (fu (e 101) (12 * s + k) (e 75 26))) g N pp mm s (l ++ [(T1, Y)]) := fun e Y pp mm w1 w2 w3 w4 => by
          have ht2 : tz (l ++ [(T1, Y)]) = tz l + T1.length + Y.length := by
            rw [tz_app]
            show tz l + ((T1.length : Int) + Y.length) = _
            omega
          have w26 : e 75 26 = tz l + T1.length + Y.length := w2.2.2.2.2.1
          have r96 : ∀ i, i < 300 * s + (tz l + T1.length) → e 96 i = e1 96 i ∧ e 97 i = e1 97 i := fun i hi => by
            have := w1.2.1 i hi
            rw [← hc4, fr_ne (show ¬ 96 = 100 by omega), fr_ne (show ¬ 97 = 100 by omega)] at this
            exact this
          have rr : ∀ i, i < 300 * s + tz l → e 96 i = c 96 i ∧ e 97 i = c 97 i := fun i hi => by
            have h1 := r96 i (by omega)
            have h2 := b1.2.1 i hi
            rw [h1.1, h1.2, h2.1, h2.2, ← hc3, fr_ne (show ¬ 96 = 99 by omega), fr_ne (show ¬ 97 = 99 by omega), yo 96 (by omega), yo 97 (by omega)]
            exact ⟨rfl, rfl⟩
          have q99 : e 99 = fu (c 99) (12 * s + k) (tz l) := by rw [w1.1 99 (by omega) (by omega) (by omega) (by omega), ← hc4, fr_ne (by omega), e99 99 (by omega), ← hc3, fr_same, yo 99 (by omega)]
          have q100 : e 100 = fu (c 100) (12 * s + k) (tz l + T1.length) := by rw [w1.1 100 (by omega) (by omega) (by omega) (by omega), ← hc4, fr_same, e99 100 (by omega), ← hc3, fr_ne (by omega), yo 100 (by omega), hV2]
          have q101 : e 101 = c 101 := by rw [w1.1 101 (by omega) (by omega) (by omega) (by omega), ← hc4, fr_ne (by omega), e99 101 (by omega), ← hc3, fr_ne (by omega), yo 101 (by omega)]
          obtain ⟨u1, u2, u3, u4, u5, u6, u7, u8⟩ := w2
          refine ⟨⟨by rw [fr_ne (by omega)]; exact u1, by rw [fr_ne (by omega)]; exact u2, by rw [fr_ne (by omega)]; exact u3, by rw [fr_ne (by omega)]; exact u4, by rw [fr_ne (by omega), ht2, hl0, w26]; omega, by rw [fr_ne (by omega)]; exact u6, by rw [fr_ne (by omega)]; exact u7, rfl⟩, by rw [fr_ne (by omega)]; exact w3, by rw [fr_ne (by omega)]; exact w4, ?_⟩
          refine mlr_app l 0 0 (mlr_ex l 0 0 (by omega) (by omega) (fun i i1 i2 => ?_) (fun i i1 i2 => ?_) hml) ?_ ?_ ?_ ?_ ?_
          · rw [fr_ne (show ¬ 96 = 101 by omega), fr_ne (show ¬ 97 = 101 by omega)]
            exact rr i (by omega)
          · rw [fr_ne (show ¬ 99 = 101 by omega), fr_ne (show ¬ 100 = 101 by omega), fr_same, q99, q100, q101, fu_ne (by omega), fu_ne (by omega), fu_ne (by omega)]
            exact ⟨rfl, rfl, rfl⟩
          · rw [fr_ne (by omega), q99, show 12 * s + (0 + (l.length : Int)) = 12 * s + k by omega, fu_same]
            omega
          · rw [fr_ne (by omega), q100, show 12 * s + (0 + (l.length : Int)) = 12 * s + k by omega, fu_same]
            show _ = 0 + tz l + (T1.length : Int)
            omega
          · rw [fr_same, show 12 * s + (0 + (l.length : Int)) = 12 * s + k by omega, fu_same, w26]
            show _ = 0 + tz l + (T1.length : Int) + (Y.length : Int)
            omega
          · rw [fr_ne (show ¬ 96 = 101 by omega), fr_ne (show ¬ 97 = 101 by omega)]
            show sg (e 96) (e 97) (300 * s + (0 + tz l)) T1.length = T1
            rw [show 0 + tz l = tz l by omega, sg_ex (u' := e1 96) (v' := e1 97) _ _ fun j j1 j2 => r96 j (by omega)]
            exact hEe.2.2.2.2.2.2.2
          · rw [fr_ne (show ¬ 96 = 101 by omega), fr_ne (show ¬ 97 = 101 by omega)]
            show sg (e 96) (e 97) (300 * s + (0 + tz l + (T1.length : Int))) Y.length = Y
            rw [show 0 + tz l + (T1.length : Int) = tz l + T1.length by omega]
            exact u8
        have h196 := fun n Q => c196 (c := c4) (n := n) (Q := Q) (N := N) (p := p1) (a := 21) (l := 2) hS (by rw [hE4.1]; exact hTP) hE4.2.1 hE4.2.2.1 (by omega) (by omega) ((hST.ml hM4) 21 (by omega)).1 (by omega)
        rw [hE4.1, g6, ((hST.ml hM4) 21 (by omega)).2] at h196
        by_cases hi : stq g N p1 (chs 21) 2 = 1
        · rw [if_neg (fun x => x hi)] at hb
          rw [hi, if_pos rfl] at h196
          have hrn3 := stq_rn hi
          have hr3 := rn_rng (g := g) (n := N) (p := p1)
          have hat5 := hE4.at (p1 + ((2 : Nat) : Int))
          generalize hc5 : fr c4 75 (fu (c4 75) 22 (p1 + ((2 : Nat) : Int))) = c5 at h196 hat5
          have t23 : c5 75 23 = 0 := by rw [← hc5, fr_same, fu_ne (by omega)]; exact v23
          have t27 : c5 75 27 = 0 := by rw [← hc5, fr_same, fu_ne (by omega), ← hc4, fr_ne (by omega)]; exact e27
          have hM5 : MLL c c5 s := hM4.trans ((hat5.2 (300 * s)).t.ll (Int.le_refl _))
          have hE5 : ME c5 g N (p1 + 2) m1 s (tz l + T1.length) [] := by
            obtain ⟨u1, u2, u3, u4, u5, u6, u7, u8⟩ := hat5.1
            exact ⟨u1, u2, u3, u4, by rw [u5, hl0]; omega, u6, u7, rfl⟩
          rcases hw3 : tst g N K (K + 1) (p1 + 2) m1 [] [] 0 with ⟨f2, p2, m2, T2⟩
          rw [hw3] at hb
          dsimp only at hb
          repeat' (first | (simp (disch := first | omega | exact Nat.le_of_ble_eq_true rfl | exact rfl | assumption | (simp only [fr_at, Nat.reduceEqDiff, if_false, if_true, reduceIte]; first | assumption | omega)) only [r189_0, r189_1, v189_1_11, r189_4, r189_5, r189_8i, r189_9, r189_10, r189_13, v189_13_11, r189_19, r189_20, r189_21, r189_22, v189_22_11, r189_25, r189_26, r189_27, r189_32, r189_33, r189_34, r189_35, v189_35_11, r189_38, r189_39, r189_40, r189_40A, r189_41, r189_44, r189_45, r189_46, r189_49, r189_51, r189_52, r189_55, r189_56, r189_57, r189_58i, r189_59, r189_60, r189_63, r189_64, r189_65, r189_68, r189_69, r189_70, v189_70_11, r189_73, r189_74, r189_77, r189_78, r189_79, r189_82, r189_83, r189_84, r189_90, r189_91, r189_94, v189_94_11, r189_100, r189_101, v189_101_11, r189_104, r189_105, r189_108, r189_109, r189_110, r189_113, r189_114, g11_174_11, p11_174_11, g11_200_11, g11_84_11, g11_203_11, g11_87_11, g11_171_11, g11_90_11, mo_len, ms75 hS, mt75 hS, mo_g22, mo_s22, mo_g24, mo_g35, ms99 hS, mt99 hS, mo_g26, mo_g36, ms100 hS, mt100 hS, mo_g23, mo_g37, ms101 hS, mt101 hS, il_s, bl_s, bl_z, ll_s, is_s, bs_s, bs_z, ls_s, al_s, al_b, al_l, fr_at, fr_fr, Nat.reduceEqDiff, tc_gf3_s, tc_ql2_s, tc_ws_0, tc_ws_i, tc_ws_l, tc_ws_r, Nat.reduceLeDiff, Nat.reduceAdd, Nat.reduceLT, true_and, and_true, if_true, if_false, tc_K, Option.toList_some, Option.toList_none, List.nil_append, List.cons_append, ite_true, ite_false, Int.cast_ofNat_Int, reduceIte, i3_add_eq, i3_sub_eq, Int.add_sub_cancel, Int.add_neg_cancel_right, hV, hc4, v23, h196]) | (simp only [r189_16, r189_29, r189_87, r189_97, i6_lt0, i6_0lt, i6_0le, i6_le0, i6_eq0, b10_0, ite_not, Int.reduceLT, Int.reduceLE, Int.reduceEq, Int.reduceNeg, if_true, if_false, ite_true, ite_false, reduceIte, eq_self, not_true, not_false_eq_true]; try refine tc_ite (fun _ => ?_) (fun _ => ?_) <;> try (exfalso; omega)))
          all_goals try omega
          refine m197 (c := c5) (K := K) hS (hST.ml hM5) hTP hE5 t23 t27 (by omega) (by omega) hs ⟨by omega, by omega⟩ hK hw3 ?_ ?_
          · intro hf2 e w1 w2 w3
            rw [if_pos hf2] at hb
            have hff := (prP hb).1
            have hM6 : MLL c (fr e 101 (fu (e 101) (12 * s + k) (e 75 26))) s := (hM5.trans (w1.ll (by omega))).trans (MLL.of (Or.inr (Or.inr rfl)) (by omega))
            have hq' := hq (fr e 101 (fu (e 101) (12 * s + k) (e 75 26))) hM6 ⟨by rw [fr_ne (by omega)]; exact w2.1, by rw [fr_ne (by omega)]; exact w2.2⟩ (by rw [fr_ne (by omega), w3]; exact hff) (fun x => absurd (hff.trans x) hf2)
            repeat' (first | (simp (disch := first | omega | exact Nat.le_of_ble_eq_true rfl | exact rfl | assumption | (simp only [fr_at, Nat.reduceEqDiff, if_false, if_true, reduceIte]; first | assumption | omega)) only [r189_0, r189_1, v189_1_11, r189_4, r189_5, r189_8i, r189_9, r189_10, r189_13, v189_13_11, r189_19, r189_20, r189_21, r189_22, v189_22_11, r189_25, r189_26, r189_27, r189_32, r189_33, r189_34, r189_35, v189_35_11, r189_38, r189_39, r189_40, r189_40A, r189_41, r189_44, r189_45, r189_46, r189_49, r189_51, r189_52, r189_55, r189_56, r189_57, r189_58i, r189_59, r189_60, r189_63, r189_64, r189_65, r189_68, r189_69, r189_70, v189_70_11, r189_73, r189_74, r189_77, r189_78, r189_79, r189_82, r189_83, r189_84, r189_90, r189_91, r189_94, v189_94_11, r189_100, r189_101, v189_101_11, r189_104, r189_105, r189_108, r189_109, r189_110, r189_113, r189_114, g11_174_11, p11_174_11, g11_200_11, g11_84_11, g11_203_11, g11_87_11, g11_171_11, g11_90_11, mo_len, ms75 hS, mt75 hS, mo_g22, mo_s22, mo_g24, mo_g35, ms99 hS, mt99 hS, mo_g26, mo_g36, ms100 hS, mt100 hS, mo_g23, mo_g37, ms101 hS, mt101 hS, il_s, bl_s, bl_z, ll_s, is_s, bs_s, bs_z, ls_s, al_s, al_b, al_l, fr_at, fr_fr, Nat.reduceEqDiff, tc_gf3_s, tc_ql2_s, tc_ws_0, tc_ws_i, tc_ws_l, tc_ws_r, Nat.reduceLeDiff, Nat.reduceAdd, Nat.reduceLT, true_and, and_true, if_true, if_false, tc_K, Option.toList_some, Option.toList_none, List.nil_append, List.cons_append, ite_true, ite_false, Int.cast_ofNat_Int, reduceIte, i3_add_eq, i3_sub_eq, Int.add_sub_cancel, Int.add_neg_cancel_right]) | (simp only [r189_16, r189_29, r189_87, r189_97, i6_lt0, i6_0lt, i6_0le, i6_le0, i6_eq0, b10_0, ite_not, Int.reduceLT, Int.reduceLE, Int.reduceEq, Int.reduceNeg, if_true, if_false, ite_true, ite_false, reduceIte, eq_self, not_true, not_false_eq_true]; try refine tc_ite (fun _ => ?_) (fun _ => ?_) <;> try (exfalso; omega)))
            all_goals first
              | exact hq'
              | omega
          · intro hf2 e w1 w2 w3 w4
            rw [if_neg (fun x => x hf2)] at hb
            obtain ⟨k1, k2, k3, k4, k5⟩ := prP hb
            have hM6 : MLL c (fr e 101 (fu (e 101) (12 * s + k) (e 75 26))) s := (hM5.trans (w1.ll (by omega))).trans (MLL.of (Or.inr (Or.inr rfl)) (by omega))
            have hmt : MTQ c4 e (300 * s + (tz l + T1.length)) := ((hat5.2 (300 * s + (tz l + T1.length))).t).trans w1 (by omega)
            have hD6 := hfin e T2 p2 m2 hmt w2 w3 w4
            have hq' := hq (fr e 101 (fu (e 101) (12 * s + k) (e 75 26))) hM6 ⟨by rw [fr_ne (by omega), w2.2.2.1]; have := (tst_g (z := tz l + T1.length) (K + 1) (p1 + 2) m1 p2 m2 0 [] T2 [] (by rw [hw3, hf2]) trivial (by omega) (by omega) (by show (0 : Nat) ≤ 10; omega) (by omega) (by omega) (by omega) (by omega) (by rw [show wn 0 = 0 by decide, show pnb [] = 0 from rfl, show nnt [] = 0 from rfl, hl0]; omega)).1; omega, by rw [fr_ne (by omega), w2.2.2.2.2.2.1]; have := (tst_g (z := tz l + T1.length) (K + 1) (p1 + 2) m1 p2 m2 0 [] T2 [] (by rw [hw3, hf2]) trivial (by omega) (by omega) (by show (0 : Nat) ≤ 10; omega) (by omega) (by omega) (by omega) (by omega) (by rw [show wn 0 = 0 by decide, show pnb [] = 0 from rfl, show nnt [] = 0 from rfl, hl0]; omega)).2.1; omega⟩ (by rw [fr_ne (by omega), w3]; exact k1) (fun _ => by
              rw [← k2, ← k3, ← k4, ← k5]
              exact hD6)
            repeat' (first | (simp (disch := first | omega | exact Nat.le_of_ble_eq_true rfl | exact rfl | assumption | (simp only [fr_at, Nat.reduceEqDiff, if_false, if_true, reduceIte]; first | assumption | omega)) only [r189_0, r189_1, v189_1_11, r189_4, r189_5, r189_8i, r189_9, r189_10, r189_13, v189_13_11, r189_19, r189_20, r189_21, r189_22, v189_22_11, r189_25, r189_26, r189_27, r189_32, r189_33, r189_34, r189_35, v189_35_11, r189_38, r189_39, r189_40, r189_40A, r189_41, r189_44, r189_45, r189_46, r189_49, r189_51, r189_52, r189_55, r189_56, r189_57, r189_58i, r189_59, r189_60, r189_63, r189_64, r189_65, r189_68, r189_69, r189_70, v189_70_11, r189_73, r189_74, r189_77, r189_78, r189_79, r189_82, r189_83, r189_84, r189_90, r189_91, r189_94, v189_94_11, r189_100, r189_101, v189_101_11, r189_104, r189_105, r189_108, r189_109, r189_110, r189_113, r189_114, g11_174_11, p11_174_11, g11_200_11, g11_84_11, g11_203_11, g11_87_11, g11_171_11, g11_90_11, mo_len, ms75 hS, mt75 hS, mo_g22, mo_s22, mo_g24, mo_g35, ms99 hS, mt99 hS, mo_g26, mo_g36, ms100 hS, mt100 hS, mo_g23, mo_g37, ms101 hS, mt101 hS, il_s, bl_s, bl_z, ll_s, is_s, bs_s, bs_z, ls_s, al_s, al_b, al_l, fr_at, fr_fr, Nat.reduceEqDiff, tc_gf3_s, tc_ql2_s, tc_ws_0, tc_ws_i, tc_ws_l, tc_ws_r, Nat.reduceLeDiff, Nat.reduceAdd, Nat.reduceLT, true_and, and_true, if_true, if_false, tc_K, Option.toList_some, Option.toList_none, List.nil_append, List.cons_append, ite_true, ite_false, Int.cast_ofNat_Int, reduceIte, i3_add_eq, i3_sub_eq, Int.add_sub_cancel, Int.add_neg_cancel_right]) | (simp only [r189_16, r189_29, r189_87, r189_97, i6_lt0, i6_0lt, i6_0le, i6_le0, i6_eq0, b10_0, ite_not, Int.reduceLT, Int.reduceLE, Int.reduceEq, Int.reduceNeg, if_true, if_false, ite_true, ite_false, reduceIte, eq_self, not_true, not_false_eq_true]; try refine tc_ite (fun _ => ?_) (fun _ => ?_) <;> try (exfalso; omega)))
            all_goals first
              | exact hq'
              | omega
        · rw [if_pos hi] at hb
          have hi0 : stq g N p1 (chs 21) 2 = 0 := by
            rcases stq_01 g N p1 (chs 21) 2 with x | x
            · exact x
            · exact absurd x hi
          rw [hi0, if_neg (by omega), show fr c4 75 (fu (c4 75) 22 p1) = c4 by rw [show p1 = c4 75 22 from hE4.2.2.1.symm, fu_id, fr_id]] at h196
          obtain ⟨k1, k2, k3, k4, k5⟩ := prP hb
          have hE4' : ME c4 g N p1 m1 s (tz l + T1.length) [] := by
            obtain ⟨u1, u2, u3, u4, u5, u6, u7, u8⟩ := hE4
            exact ⟨u1, u2, u3, u4, by rw [u5, hl0]; omega, u6, u7, rfl⟩
          have hD6 := hfin c4 [] p1 m1 MTQ.refl hE4' v23 (by rw [← hc4, fr_ne (by omega)]; exact e27)
          rw [v26] at hD6
          have hM6 : MLL c (fr c4 101 (fu (c4 101) (12 * s + k) V)) s := hM4.trans (MLL.of (Or.inr (Or.inr rfl)) (by omega))
          have hq' := hq (fr c4 101 (fu (c4 101) (12 * s + k) V)) hM6 ⟨by rw [fr_ne (by omega), hE4.2.2.1]; omega, by rw [fr_ne (by omega), hE4.2.2.2.2.2.1]; omega⟩ (by rw [fr_ne (by omega), v23]; exact k1) (fun _ => by
            rw [← k2, ← k3, ← k4, ← k5]
            exact hD6)
          repeat' (first | (simp (disch := first | omega | exact Nat.le_of_ble_eq_true rfl | exact rfl | assumption | (simp only [fr_at, Nat.reduceEqDiff, if_false, if_true, reduceIte]; first | assumption | omega)) only [r189_0, r189_1, v189_1_11, r189_4, r189_5, r189_8i, r189_9, r189_10, r189_13, v189_13_11, r189_19, r189_20, r189_21, r189_22, v189_22_11, r189_25, r189_26, r189_27, r189_32, r189_33, r189_34, r189_35, v189_35_11, r189_38, r189_39, r189_40, r189_40A, r189_41, r189_44, r189_45, r189_46, r189_49, r189_51, r189_52, r189_55, r189_56, r189_57, r189_58i, r189_59, r189_60, r189_63, r189_64, r189_65, r189_68, r189_69, r189_70, v189_70_11, r189_73, r189_74, r189_77, r189_78, r189_79, r189_82, r189_83, r189_84, r189_90, r189_91, r189_94, v189_94_11, r189_100, r189_101, v189_101_11, r189_104, r189_105, r189_108, r189_109, r189_110, r189_113, r189_114, g11_174_11, p11_174_11, g11_200_11, g11_84_11, g11_203_11, g11_87_11, g11_171_11, g11_90_11, mo_len, ms75 hS, mt75 hS, mo_g22, mo_s22, mo_g24, mo_g35, ms99 hS, mt99 hS, mo_g26, mo_g36, ms100 hS, mt100 hS, mo_g23, mo_g37, ms101 hS, mt101 hS, il_s, bl_s, bl_z, ll_s, is_s, bs_s, bs_z, ls_s, al_s, al_b, al_l, fr_at, fr_fr, Nat.reduceEqDiff, tc_gf3_s, tc_ql2_s, tc_ws_0, tc_ws_i, tc_ws_l, tc_ws_r, Nat.reduceLeDiff, Nat.reduceAdd, Nat.reduceLT, true_and, and_true, if_true, if_false, tc_K, Option.toList_some, Option.toList_none, List.nil_append, List.cons_append, ite_true, ite_false, Int.cast_ofNat_Int, reduceIte, i3_add_eq, i3_sub_eq, Int.add_sub_cancel, Int.add_neg_cancel_right, hV, hc4, v23, h196, v26]) | (simp only [r189_16, r189_29, r189_87, r189_97, i6_lt0, i6_0lt, i6_0le, i6_le0, i6_eq0, b10_0, ite_not, Int.reduceLT, Int.reduceLE, Int.reduceEq, Int.reduceNeg, if_true, if_false, ite_true, ite_false, reduceIte, eq_self, not_true, not_false_eq_true]; try refine tc_ite (fun _ => ?_) (fun _ => ?_) <;> try (exfalso; omega)))
          all_goals first
            | exact hq'
            | omega
      · rw [if_pos hf1] at hb
        have hff := (prP hb).1
        have hM6 : MLL c (fr c4 101 (fu (c4 101) (12 * s + k) V)) s := hM4.trans (MLL.of (Or.inr (Or.inr rfl)) (by omega))
        have hq' := hq (fr c4 101 (fu (c4 101) (12 * s + k) V)) hM6 ⟨by rw [fr_ne (by omega), ← hc4, fr_ne (by omega)]; have := b2.1; omega, by rw [fr_ne (by omega), ← hc4, fr_ne (by omega)]; have := b2.2; omega⟩ (by rw [fr_ne (by omega), v23]; exact hff) (fun x => absurd (hff.trans x) hf1)
        repeat' (first | (simp (disch := first | omega | exact Nat.le_of_ble_eq_true rfl | exact rfl | assumption | (simp only [fr_at, Nat.reduceEqDiff, if_false, if_true, reduceIte]; first | assumption | omega)) only [r189_0, r189_1, v189_1_11, r189_4, r189_5, r189_8i, r189_9, r189_10, r189_13, v189_13_11, r189_19, r189_20, r189_21, r189_22, v189_22_11, r189_25, r189_26, r189_27, r189_32, r189_33, r189_34, r189_35, v189_35_11, r189_38, r189_39, r189_40, r189_40A, r189_41, r189_44, r189_45, r189_46, r189_49, r189_51, r189_52, r189_55, r189_56, r189_57, r189_58i, r189_59, r189_60, r189_63, r189_64, r189_65, r189_68, r189_69, r189_70, v189_70_11, r189_73, r189_74, r189_77, r189_78, r189_79, r189_82, r189_83, r189_84, r189_90, r189_91, r189_94, v189_94_11, r189_100, r189_101, v189_101_11, r189_104, r189_105, r189_108, r189_109, r189_110, r189_113, r189_114, g11_174_11, p11_174_11, g11_200_11, g11_84_11, g11_203_11, g11_87_11, g11_171_11, g11_90_11, mo_len, ms75 hS, mt75 hS, mo_g22, mo_s22, mo_g24, mo_g35, ms99 hS, mt99 hS, mo_g26, mo_g36, ms100 hS, mt100 hS, mo_g23, mo_g37, ms101 hS, mt101 hS, il_s, bl_s, bl_z, ll_s, is_s, bs_s, bs_z, ls_s, al_s, al_b, al_l, fr_at, fr_fr, Nat.reduceEqDiff, tc_gf3_s, tc_ql2_s, tc_ws_0, tc_ws_i, tc_ws_l, tc_ws_r, Nat.reduceLeDiff, Nat.reduceAdd, Nat.reduceLT, true_and, and_true, if_true, if_false, tc_K, Option.toList_some, Option.toList_none, List.nil_append, List.cons_append, ite_true, ite_false, Int.cast_ofNat_Int, reduceIte, i3_add_eq, i3_sub_eq, Int.add_sub_cancel, Int.add_neg_cancel_right, hV, hc4, v23, v26]) | (simp only [r189_16, r189_29, r189_87, r189_97, i6_lt0, i6_0lt, i6_0le, i6_le0, i6_eq0, b10_0, ite_not, Int.reduceLT, Int.reduceLE, Int.reduceEq, Int.reduceNeg, if_true, if_false, ite_true, ite_false, reduceIte, eq_self, not_true, not_false_eq_true]; try refine tc_ite (fun _ => ?_) (fun _ => ?_) <;> try (exfalso; omega)))
        all_goals first
          | exact hq'
          | omega
  · rw [if_pos ht] at hb
    obtain ⟨e1, _⟩ := prP hb
    have hf : ¬ f = 0 := by omega
    have ht0 : stq g N q (chs 12) 4 = 0 := by
      rcases stq_01 g N q (chs 12) 4 with x | x
      · exact x
      · exact absurd x ht
    rw [ht0] at h174
    have h175' := fun n Q => h175 0 n Q (by omega) (by omega)
    rw [if_pos h231, show 1 + 8 * q + 0 = f by omega] at h175'
    have hq' := hq (fr c1 75 (fu (c1 75) 23 f)) (hM1.trans ⟨fun a a1 _ _ _ _ _ _ => fr_ne a1, fun i _ => ⟨rfl, rfl⟩, fun i _ => ⟨rfl, rfl, rfl⟩, fun i i1 i2 i3 i4 i5 i6 => by rw [fr_same, fu_ne i2]⟩) ⟨by rw [fr_same, fu_ne (by omega), e22]; omega, by rw [fr_same, fu_ne (by omega), x75 28 (by omega), h28]; omega⟩ (by rw [fr_same, fu_same]) (fun x => absurd x hf)
    repeat' (first | (simp (disch := first | omega | exact Nat.le_of_ble_eq_true rfl | exact rfl | assumption | (simp only [fr_at, Nat.reduceEqDiff, if_false, if_true, reduceIte]; first | assumption | omega)) only [r189_0, r189_1, v189_1_11, r189_4, r189_5, r189_8i, r189_9, r189_10, r189_13, v189_13_11, r189_19, r189_20, r189_21, r189_22, v189_22_11, r189_25, r189_26, r189_27, r189_32, r189_33, r189_34, r189_35, v189_35_11, r189_38, r189_39, r189_40, r189_40A, r189_41, r189_44, r189_45, r189_46, r189_49, r189_51, r189_52, r189_55, r189_56, r189_57, r189_58i, r189_59, r189_60, r189_63, r189_64, r189_65, r189_68, r189_69, r189_70, v189_70_11, r189_73, r189_74, r189_77, r189_78, r189_79, r189_82, r189_83, r189_84, r189_90, r189_91, r189_94, v189_94_11, r189_100, r189_101, v189_101_11, r189_104, r189_105, r189_108, r189_109, r189_110, r189_113, r189_114, g11_174_11, p11_174_11, g11_200_11, g11_84_11, g11_203_11, g11_87_11, g11_171_11, g11_90_11, mo_len, ms75 hS, mt75 hS, mo_g22, mo_s22, mo_g24, mo_g35, ms99 hS, mt99 hS, mo_g26, mo_g36, ms100 hS, mt100 hS, mo_g23, mo_g37, ms101 hS, mt101 hS, il_s, bl_s, bl_z, ll_s, is_s, bs_s, bs_z, ls_s, al_s, al_b, al_l, fr_at, fr_fr, Nat.reduceEqDiff, tc_gf3_s, tc_ql2_s, tc_ws_0, tc_ws_i, tc_ws_l, tc_ws_r, Nat.reduceLeDiff, Nat.reduceAdd, Nat.reduceLT, true_and, and_true, if_true, if_false, tc_K, Option.toList_some, Option.toList_none, List.nil_append, List.cons_append, ite_true, ite_false, Int.cast_ofNat_Int, reduceIte, i3_add_eq, i3_sub_eq, Int.add_sub_cancel, Int.add_neg_cancel_right, h171, e22, h174, h175']) | (simp only [r189_16, r189_29, r189_87, r189_97, i6_lt0, i6_0lt, i6_0le, i6_le0, i6_eq0, b10_0, ite_not, Int.reduceLT, Int.reduceLE, Int.reduceEq, Int.reduceNeg, if_true, if_false, ite_true, ite_false, reduceIte, eq_self, not_true, not_false_eq_true]; try refine tc_ite (fun _ => ?_) (fun _ => ?_) <;> try (exfalso; omega)))
    all_goals first
      | exact hq'
      | omega
end RULEM

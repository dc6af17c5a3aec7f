/-! the class: the past, images -/
section ALLO
variable {L m ci a : Nat} {sh : Nat → SH} {c : Nat → Int → Int} {f : Int → Int} {q rs : List (Option Nat)}
theorem px_o : px (6, ci, rs) f = .inr (.inr (.inr (ci, ob ci rs f))) := rfl
theorem px_i : px (0, m, q) f = .inl (0, al m f) := rfl
theorem px_q : px (4, ci, q) f = .inr (.inr (.inl (ci, q))) := rfl
theorem nap_i : hp L sh c ++ [.inl (0, List.replicate m 0)] = hp (L + 1) (fs sh L (0, m, [])) (fr c L (fun _ => 0)) := by
  rw [al_rep]
  exact hp_app (s := (0, m, []))
theorem nap_q : hp L sh c ++ [.inr (.inr (.inl (ci, q)))] = hp (L + 1) (fs sh L (4, ci, q)) (fr c L (fun _ => 0)) := hp_app (s := (4, ci, q))
theorem nap_o : hp L sh c ++ [.inr (.inr (.inr (ci, ob ci rs f)))] = hp (L + 1) (fs sh L (6, ci, rs)) (fr c L f) := hp_app (s := (6, ci, rs))
end ALLO
def rol (D : Nat → Option Nat) : List (Option Nat) := (List.range 20).map D
theorem rol_len (D : Nat → Option Nat) : (rol D).length = 20 := by unfold rol; rw [List.length_map, List.length_range]
theorem rol_get {D : Nat → Option Nat} {i : Nat} (h : i < 20) : (rol D)[i]? = some (D i) := by unfold rol; rw [List.getElem?_map, List.getElem?_range h]; rfl
theorem rol_set {D : Nat → Option Nat} {i : Nat} {v : Option Nat} : (rol D).set i v = rol (fun j => if j = i then v else D j) := by
  apply List.ext_getElem?
  intro j
  by_cases hj : j < 20
  · rw [rol_get hj]
    by_cases hk : j = i
    · subst hk
      rw [List.getElem?_set_self (by rw [rol_len]; exact hj), if_pos rfl]
    · rw [List.getElem?_set_ne (Ne.symm hk), rol_get hj, if_neg hk]
  · rw [List.getElem?_eq_none (by rw [List.length_set, rol_len]; omega), List.getElem?_eq_none (by rw [rol_len]; omega)]
theorem rol_ext {D E : Nat → Option Nat} (h : ∀ j, j < 20 → D j = E j) : rol D = rol E := List.map_congr_left fun j hj => h j (List.mem_range.mp hj)
section RLR
variable {K pc n k a v : Nat} {ls st : List AV} {h : List SC} {Q : Option AV → List SC → Nat → Prop} {z : Int} {D : Nat → Option Nat} {fs : List AV}
theorem ql_r (h0 : 0 ≤ z) (h1 : z < 20) : tc_ql K pc ls st h n Q z (some (.inr (.inr (.inl (k, rol D))))) = tc_W K pc ls (.inr (.inr (.inl (D z.toNat))) :: st) h n Q := by
  rw [tc_ql_s h0, rol_get (by omega)]
  rfl
theorem qs_r (h0 : 0 ≤ z) (h1 : z < 20) : tc_qst K pc ls st h n Q a v z (some (.inr (.inr (.inl (k, rol D))))) (some (.inr (.inr (.inr (k, fs))))) = tc_W K pc ls st (h.set a (.inr (.inr (.inl (k, rol (fun j => if j = z.toNat then some v else D j)))))) n Q := by
  rw [← rol_set]
  exact if_pos ⟨rfl, h0, by rw [rol_len]; omega⟩
end RLR
theorem SanS_off {L y a : Nat} {sh : Nat → SH} (h : SanS L sh y) (ha : ∀ ci q, ¬ (ci = 5 ∧ sh a = (6, ci, q)) ∧ ¬ sh a = (0, ci, q)) : a < y ∨ y + 3 < a := by
  obtain ⟨h1, h2, h3, h4, h5⟩ := h
  by_cases q0 : a = y
  · exact absurd ⟨rfl, q0 ▸ h2⟩ (ha 5 _).1
  by_cases q1 : a = y + 1
  · exact absurd (q1 ▸ h3) (ha 25 _).2
  by_cases q2 : a = y + 2
  · exact absurd (q2 ▸ h4) (ha 6 _).2
  by_cases q3 : a = y + 3
  · exact absurd (q3 ▸ h5) (ha 6 _).2
  omega
theorem SanS_off4 {L y a ci : Nat} {q : List (Option Nat)} {sh : Nat → SH} (h : SanS L sh y) (ha : sh a = (4, ci, q)) : a < y ∨ y + 3 < a :=
  SanS_off h fun ci q => ⟨fun k => by rw [ha] at k; exact absurd (congrArg Prod.fst k.2) (show ¬ (4 : Nat) = 6 by decide), fun k => by rw [ha] at k; exact absurd (congrArg Prod.fst k) (show ¬ (4 : Nat) = 0 by decide)⟩
theorem SanS_off6 {L y a ci : Nat} {q : List (Option Nat)} {sh : Nat → SH} (h : SanS L sh y) (ha : sh a = (6, ci, q)) (hc : ¬ ci = 5) : a < y ∨ y + 3 < a :=
  SanS_off h fun ci' q' => ⟨fun k => by
    obtain ⟨k1, k2⟩ := k
    rw [ha] at k2
    have : ci = ci' := congrArg (fun x : SH => x.2.1) k2
    omega, fun k => by rw [ha] at k; exact absurd (congrArg Prod.fst k) (show ¬ (6 : Nat) = 0 by decide)⟩
theorem SanS_sep {L y z : Nat} {sh : Nat → SH} (h : SanS L sh y) (k : SanS L sh z) (hn : ¬ y = z) : y + 3 < z ∨ z + 3 < y := by
  have k60 : ∀ a, sh a = (6, 5, [some (a + 1), some (a + 2), some (a + 3)]) → ∀ m, ¬ sh a = (0, m, []) := fun a ha m hm => by
    rw [ha] at hm
    exact absurd (congrArg Prod.fst hm) (show ¬ (6 : Nat) = 0 by decide)
  obtain ⟨h1, h2, h3, h4, h5⟩ := h
  obtain ⟨k1, k2, k3, k4, k5⟩ := k
  by_cases q1 : z = y + 1
  · exact absurd (q1 ▸ h3) (k60 z k2 25)
  by_cases q2 : z = y + 2
  · exact absurd (q2 ▸ h4) (k60 z k2 6)
  by_cases q3 : z = y + 3
  · exact absurd (q3 ▸ h5) (k60 z k2 6)
  by_cases p1 : y = z + 1
  · exact absurd (p1 ▸ k3) (k60 y h2 25)
  by_cases p2 : y = z + 2
  · exact absurd (p2 ▸ k4) (k60 y h2 6)
  by_cases p3 : y = z + 3
  · exact absurd (p3 ▸ k5) (k60 y h2 6)
  omega
/-- a past's rows -/
def PasS (L : Nat) (sh : Nat → SH) (pa : Nat) (D : Nat → Option Nat) : Prop := 115 ≤ L ∧ pa + 1 < L ∧ sh pa = (6, 4, [some (pa + 1)]) ∧ sh (pa + 1) = (4, 5, rol D) ∧ ∀ i y, i < 20 → D i = some y → 115 ≤ y ∧ SanS L sh y
def INJ (D : Nat → Option Nat) : Prop := ∀ i j y, i < 20 → j < 20 → D i = some y → D j = some y → i = j
section PASTC
variable {L : Nat} {sh : Nat → SH} {c : Nat → Int → Int} {n : Nat} {Q : Option AV → List SC → Nat → Prop} {pa x r : Nat} {D : Nat → Option Nat}
theorem c4 (h5 : sh r = (6, 5, [none, none, none])) (hq : ∀ sh' c', (∀ a, a < r → sh' a = sh a ∧ c' a = c a) → SanS (r + 4) sh' r → (c' r 3 = 0 ∧ c' r 4 = 0 ∧ c' r 5 = 0 ∧ c' r 6 = 0) → Q none (hp (r + 4) sh' c') (n + 37)) : tc_C 4 [rf r] (hp (r + 1) sh c) n Q := by
  show tc_W 4 0 [rf r] [] _ _ Q
  repeat' (simp (disch := first | omega | exact Nat.le_of_ble_eq_true rfl | exact rfl | assumption | (simp (disch := omega) only [fr_ne, fr_same]; first | assumption | omega)) only [r4_0, r4_1, r4_4, r4_5, r4_7, r4_9, r4_12, r4_13, r4_15, r4_17, r4_20, r4_21, r4_23, r4_25, r4_28, r4_29, r4_30, r4_33, r4_34, r4_35, r4_38, r4_39, r4_40, r4_43, r4_44, r4_45, r4_48, p5_9_5, p5_15_5, p5_18_5, p5_21_5, p5_25_5, p5_28_5, p5_31_5, o5_len, o5_s0, o5_s1, o5_s2, o5_s3, o5_s4, o5_s5, o5_s6, il_s, bl_s, bl_z, ll_s, is_s, bs_s, bs_z, ls_s, al_s, al_b, al_l, fr_ne, fr_same, fr_fr, Nat.reduceEqDiff, tc_gf3_s, tc_ql2_s, tc_ws_0, tc_ws_i, tc_ws_l, tc_ws_r, Nat.reduceLeDiff, Nat.reduceAdd, Nat.reduceLT, true_and, and_true, if_true, if_false, tc_K, Option.toList_some, Option.toList_none, List.nil_append, List.cons_append, ite_true, ite_false, Int.cast_ofNat_Int, reduceIte, i3_add_eq, i3_sub_eq, Int.add_sub_cancel, Int.add_neg_cancel_right, hp_get, hp_len, h5, fs_same, fs_ne, px_o, px_i, hOr, nap_i, Int.reduceToNat])
  refine hq _ _ (fun a ha => ⟨?_, ?_⟩) ⟨by omega, ?_, ?_, ?_, ?_⟩ ⟨?_, ?_, ?_, ?_⟩
  all_goals simp (disch := omega) only [fs_same, fs_ne, fr_same, fr_ne, fu_same, fu_ne]
theorem c87 {i : Int} (hP : PasS L sh pa D) (hx : SanS L sh x) (hi : 0 ≤ i ∧ i < 20) (hxa : ∀ y, D i.toNat = some y → y + 3 < x ∨ x + 3 < y)
    (hq : ∀ L' sh' c' n' y, L ≤ L' → L' ≤ L + 4 → n ≤ n' → n' ≤ n + 44 → (D i.toNat = some y ∧ L' = L ∨ D i.toNat = none ∧ y = L ∧ L' = L + 4) → (∀ a, a < L → ¬ a = pa + 1 → sh' a = sh a) → PasS L' sh' pa (fun j => if j = i.toNat then some y else D j) → (∀ a, a < L → (a < y ∨ y + 3 < a) → c' a = c a) → (∀ k b σ, SAN k b x c σ → SAN k b y c' σ) → Q none (hp L' sh' c') n') : tc_C 87 [rf pa, .inl i, rf x] (hp L sh c) n Q := by
  obtain ⟨hL, hpL, h1, h2, h3⟩ := id hP
  have hpL0 : pa < L := by omega
  show tc_W 87 0 [rf pa, .inl i, rf x] [] _ _ Q
  cases hD : D i.toNat with
  | some y =>
    have hy := (h3 i.toNat y (by omega) hD).2
    have hxy := hxa y hD
    repeat' (simp (disch := first | omega | exact Nat.le_of_ble_eq_true rfl | exact rfl | assumption | (simp (disch := omega) only [fr_ne, fr_same]; first | assumption | omega)) only [r87_0, r87_1, r87_4, r87_5, r87_6, r87_6A, r87_9, r87_10, r87_13, r87_14, r87_17, r87_17A, r87_18, r87_21, r87_22, r87_23, r87_23A, r87_26, r87_27, r87_30, r87_31, r87_32, r87_33, v87_33_5, r87_36, g4_11_4, o4_len, o4_g0, il_s, bl_s, bl_z, ll_s, is_s, bs_s, bs_z, ls_s, al_s, al_b, al_l, fr_ne, fr_same, fr_fr, Nat.reduceEqDiff, tc_gf3_s, tc_ql2_s, tc_ws_0, tc_ws_i, tc_ws_l, tc_ws_r, Nat.reduceLeDiff, Nat.reduceAdd, Nat.reduceLT, true_and, and_true, if_true, if_false, tc_K, Option.toList_some, Option.toList_none, List.nil_append, List.cons_append, ite_true, ite_false, Int.cast_ofNat_Int, reduceIte, i3_add_eq, i3_sub_eq, Int.add_sub_cancel, Int.add_neg_cancel_right, hO hpL0 h1, hQ hpL h2, ql_r, hD, SanS_g0 hy, SanS_s0 hy, SanS_g1 hy, SanS_s1 hy, SanS_g2 hy, SanS_s2 hy, SanS_g3 hy, SanS_s3 hy])
    refine c88 hy hx (by omega) ?_
    intro e g1 g2 g3 g4 g5
    repeat' (simp (disch := first | omega | exact Nat.le_of_ble_eq_true rfl | exact rfl | assumption | (simp (disch := omega) only [fr_ne, fr_same]; first | assumption | omega)) only [r87_0, r87_1, r87_4, r87_5, r87_6, r87_6A, r87_9, r87_10, r87_13, r87_14, r87_17, r87_17A, r87_18, r87_21, r87_22, r87_23, r87_23A, r87_26, r87_27, r87_30, r87_31, r87_32, r87_33, v87_33_5, r87_36, g4_11_4, o4_len, o4_g0, il_s, bl_s, bl_z, ll_s, is_s, bs_s, bs_z, ls_s, al_s, al_b, al_l, fr_ne, fr_same, fr_fr, Nat.reduceEqDiff, tc_gf3_s, tc_ql2_s, tc_ws_0, tc_ws_i, tc_ws_l, tc_ws_r, Nat.reduceLeDiff, Nat.reduceAdd, Nat.reduceLT, true_and, and_true, if_true, if_false, tc_K, Option.toList_some, Option.toList_none, List.nil_append, List.cons_append, ite_true, ite_false, Int.cast_ofNat_Int, reduceIte, i3_add_eq, i3_sub_eq, Int.add_sub_cancel, Int.add_neg_cancel_right])
    have hDD : rol (fun j => if j = i.toNat then some y else D j) = rol D := rol_ext fun j _ => by
      by_cases hj : j = i.toNat
      · rw [if_pos hj, hj, hD]
      · rw [if_neg hj]
    refine hq L sh e n y (Nat.le_refl _) (by omega) (Nat.le_refl _) (by omega) (Or.inl ⟨hD, rfl⟩) (fun _ _ _ => rfl) ⟨hL, hpL, h1, by rw [hDD]; exact h2, fun j z hj hz => ?_⟩ (fun a _ ha => g1 a ha) fun k b σ hσ => hσ.cp g2 g3 g4 g5
    have hz : (if j = i.toNat then some y else D j) = some z := hz
    by_cases hj2 : j = i.toNat
    · rw [if_pos hj2] at hz
      injection hz with hz
      rw [← hz]
      exact h3 i.toNat y (by omega) hD
    · rw [if_neg hj2] at hz
      exact h3 j z hj hz
  | none =>
    repeat' (simp (disch := first | omega | exact Nat.le_of_ble_eq_true rfl | exact rfl | assumption | (simp (disch := omega) only [fr_ne, fr_same]; first | assumption | omega)) only [r87_0, r87_1, r87_4, r87_5, r87_6, r87_6A, r87_9, r87_10, r87_13, r87_14, r87_17, r87_17A, r87_18, r87_21, r87_22, r87_23, r87_23A, r87_26, r87_27, r87_30, r87_31, r87_32, r87_33, v87_33_5, r87_36, g4_11_4, o4_len, o4_g0, il_s, bl_s, bl_z, ll_s, is_s, bs_s, bs_z, ls_s, al_s, al_b, al_l, fr_ne, fr_same, fr_fr, Nat.reduceEqDiff, tc_gf3_s, tc_ql2_s, tc_ws_0, tc_ws_i, tc_ws_l, tc_ws_r, Nat.reduceLeDiff, Nat.reduceAdd, Nat.reduceLT, true_and, and_true, if_true, if_false, tc_K, Option.toList_some, Option.toList_none, List.nil_append, List.cons_append, ite_true, ite_false, Int.cast_ofNat_Int, reduceIte, i3_add_eq, i3_sub_eq, Int.add_sub_cancel, Int.add_neg_cancel_right, hO hpL0 h1, hQ hpL h2, ql_r, hD, o5_new, nap_o, hp_len])
    refine c4 (r := L) (fs_same _ _ _) ?_
    intro sh' c' k1 k2 k3
    have e1 : sh' pa = (6, 4, [some (pa + 1)]) := by rw [(k1 pa hpL0).1, fs_ne (by omega)]; exact h1
    have e2 : sh' (pa + 1) = (4, 5, rol D) := by rw [(k1 (pa + 1) hpL).1, fs_ne (by omega)]; exact h2
    have hpL4 : pa < L + 4 := by omega
    have hpL5 : pa + 1 < L + 4 := by omega
    repeat' (simp (disch := first | omega | exact Nat.le_of_ble_eq_true rfl | exact rfl | assumption | (simp (disch := omega) only [fr_ne, fr_same]; first | assumption | omega)) only [r87_0, r87_1, r87_4, r87_5, r87_6, r87_6A, r87_9, r87_10, r87_13, r87_14, r87_17, r87_17A, r87_18, r87_21, r87_22, r87_23, r87_23A, r87_26, r87_27, r87_30, r87_31, r87_32, r87_33, v87_33_5, r87_36, g4_11_4, o4_len, o4_g0, il_s, bl_s, bl_z, ll_s, is_s, bs_s, bs_z, ls_s, al_s, al_b, al_l, fr_ne, fr_same, fr_fr, Nat.reduceEqDiff, tc_gf3_s, tc_ql2_s, tc_ws_0, tc_ws_i, tc_ws_l, tc_ws_r, Nat.reduceLeDiff, Nat.reduceAdd, Nat.reduceLT, true_and, and_true, if_true, if_false, tc_K, Option.toList_some, Option.toList_none, List.nil_append, List.cons_append, ite_true, ite_false, Int.cast_ofNat_Int, reduceIte, i3_add_eq, i3_sub_eq, Int.add_sub_cancel, Int.add_neg_cancel_right, hO hpL4 e1, hQ hpL5 e2, SanS_g0 k2, SanS_s0 k2, SanS_g1 k2, SanS_s1 k2, SanS_g2 k2, SanS_s2 k2, SanS_g3 k2, SanS_s3 k2, qs_r, hQr, fr_id])
    have k2' : SanS (L + 4) (fs sh' (pa + 1) (4, 5, rol (fun j => if j = i.toNat then some L else D j))) L := SanS_fs k2 (by omega)
    have hof := SanS_off4 hx h2
    have hxs : SanS (L + 4) sh' x := SanS_of hx (by omega) fun a ha => by rw [(k1 a ha).1, fs_ne (by omega)]
    have hx' : SanS (L + 4) (fs sh' (pa + 1) (4, 5, rol (fun j => if j = i.toNat then some L else D j))) x := SanS_fs hxs (by omega)
    have e1' : fs sh' (pa + 1) (4, 5, rol (fun j => if j = i.toNat then some L else D j)) pa = (6, 4, [some (pa + 1)]) := by rw [fs_ne (by omega)]; exact e1
    have e2' : fs sh' (pa + 1) (4, 5, rol (fun j => if j = i.toNat then some L else D j)) (pa + 1) = (4, 5, rol (fun j => if j = i.toNat then some L else D j)) := fs_same _ _ _
    have hS : ∀ a, a < L → ¬ a = pa + 1 → fs sh' (pa + 1) (4, 5, rol (fun j => if j = i.toNat then some L else D j)) a = sh a := fun a ha hn => by rw [fs_ne hn, (k1 a ha).1, fs_ne (by omega)]
    have hP3 : ∀ j z, j < 20 → (if j = i.toNat then some L else D j) = some z → 115 ≤ z ∧ SanS (L + 4) (fs sh' (pa + 1) (4, 5, rol (fun j => if j = i.toNat then some L else D j))) z := fun j z hj hz => by
      by_cases hj2 : j = i.toNat
      · rw [if_pos hj2] at hz
        injection hz with hz
        rw [← hz]
        exact ⟨hL, k2'⟩
      · rw [if_neg hj2] at hz
        have hz3 := h3 j z hj hz
        refine ⟨hz3.1, SanS_fs (SanS_of hz3.2 (by omega) fun a ha => by rw [(k1 a ha).1, fs_ne (by omega)]) ?_⟩
        have := SanS_off4 hz3.2 h2
        omega
    generalize fs sh' (pa + 1) (4, 5, rol (fun j => if j = i.toNat then some L else D j)) = S2 at hx' e1' e2' hS hP3 k2'
    repeat' (simp (disch := first | omega | exact Nat.le_of_ble_eq_true rfl | exact rfl | assumption | (simp (disch := omega) only [fr_ne, fr_same]; first | assumption | omega)) only [r87_0, r87_1, r87_4, r87_5, r87_6, r87_6A, r87_9, r87_10, r87_13, r87_14, r87_17, r87_17A, r87_18, r87_21, r87_22, r87_23, r87_23A, r87_26, r87_27, r87_30, r87_31, r87_32, r87_33, v87_33_5, r87_36, g4_11_4, o4_len, o4_g0, il_s, bl_s, bl_z, ll_s, is_s, bs_s, bs_z, ls_s, al_s, al_b, al_l, fr_ne, fr_same, fr_fr, Nat.reduceEqDiff, tc_gf3_s, tc_ql2_s, tc_ws_0, tc_ws_i, tc_ws_l, tc_ws_r, Nat.reduceLeDiff, Nat.reduceAdd, Nat.reduceLT, true_and, and_true, if_true, if_false, tc_K, Option.toList_some, Option.toList_none, List.nil_append, List.cons_append, ite_true, ite_false, Int.cast_ofNat_Int, reduceIte, i3_add_eq, i3_sub_eq, Int.add_sub_cancel, Int.add_neg_cancel_right, hO hpL4 e1', hQ hpL5 e2', ql_r, eq_self, SanS_g0 k2', SanS_s0 k2', SanS_g1 k2', SanS_s1 k2', SanS_g2 k2', SanS_s2 k2', SanS_g3 k2', SanS_s3 k2'])
    have hxL := hx.1
    refine c88 k2' hx' (by omega) ?_
    intro e g1 g2 g3 g4 g5
    repeat' (simp (disch := first | omega | exact Nat.le_of_ble_eq_true rfl | exact rfl | assumption | (simp (disch := omega) only [fr_ne, fr_same]; first | assumption | omega)) only [r87_0, r87_1, r87_4, r87_5, r87_6, r87_6A, r87_9, r87_10, r87_13, r87_14, r87_17, r87_17A, r87_18, r87_21, r87_22, r87_23, r87_23A, r87_26, r87_27, r87_30, r87_31, r87_32, r87_33, v87_33_5, r87_36, g4_11_4, o4_len, o4_g0, il_s, bl_s, bl_z, ll_s, is_s, bs_s, bs_z, ls_s, al_s, al_b, al_l, fr_ne, fr_same, fr_fr, Nat.reduceEqDiff, tc_gf3_s, tc_ql2_s, tc_ws_0, tc_ws_i, tc_ws_l, tc_ws_r, Nat.reduceLeDiff, Nat.reduceAdd, Nat.reduceLT, true_and, and_true, if_true, if_false, tc_K, Option.toList_some, Option.toList_none, List.nil_append, List.cons_append, ite_true, ite_false, Int.cast_ofNat_Int, reduceIte, i3_add_eq, i3_sub_eq, Int.add_sub_cancel, Int.add_neg_cancel_right])
    have hcx : ∀ a, a < L → c' a = c a := fun a ha => by rw [(k1 a ha).2, fr_ne (by omega)]
    refine hq (L + 4) S2 e _ L (by omega) (Nat.le_refl _) (by omega) (by omega) (Or.inr ⟨hD, rfl, rfl⟩) hS ⟨by omega, hpL5, e1', e2', hP3⟩ (fun a h1 ha => (g1 a ha).trans (hcx a h1)) fun k b σ hσ => ?_
    exact (hσ.fr (hcx x (by omega)) (hcx (x + 1) (by omega)) (hcx (x + 2) (by omega)) (hcx (x + 3) (by omega))).cp g2 g3 g4 g5
theorem c86 (hP : PasS L sh pa D) (h20 : c pa 1 = 20) (hD : ∀ i, i < 20 → ∃ y, D i = some y) {sh' : Nat → SH} (hsh : sh' = fs sh (pa + 1) (4, 5, rol (fun j => if j < 19 then D (j + 1) else D 0)))
    (hq : Q none (hp L sh' (fr c pa (fu (c pa) 1 19))) n) : tc_C 86 [rf pa] (hp L sh c) n Q := by
  subst hsh
  obtain ⟨hL, hpL, h1, h2, h3⟩ := id hP
  have hpL0 : pa < L := by omega
  obtain ⟨y0, hy0⟩ := hD 0 (by omega)
  have e0 : D (0 : Int).toNat = some y0 := hy0
  show tc_W 86 0 [rf pa, tc_nil, tc_nil] [] _ _ Q
  repeat' (first | (simp (disch := first | omega | exact Nat.le_of_ble_eq_true rfl | exact rfl | assumption | (simp (disch := omega) only [fr_ne, fr_same]; first | assumption | omega)) only [r86_0, r86_1, r86_4, r86_5, r86_6r, r86_7, r86_8r, r86_10, r86_11, r86_17, r86_18, r86_21, r86_22, r86_23, r86_24, r86_25, r86_28, r86_29, r86_30, r86_31r, r86_34, r86_37, r86_38, r86_38A, r86_39, r86_42, r86_43, r86_44, r86_47, r86_48, r86_51, r86_52, r86_55, r86_56, r86_57, g4_11_4, g4_17_4, p4_17_4, o4_len, o4_g0, o4_g1, o4_s1, il_s, bl_s, bl_z, ll_s, is_s, bs_s, bs_z, ls_s, al_s, al_b, al_l, fr_ne, fr_same, fr_fr, Nat.reduceEqDiff, tc_gf3_s, tc_ql2_s, tc_ws_0, tc_ws_i, tc_ws_l, tc_ws_r, Nat.reduceLeDiff, Nat.reduceAdd, Nat.reduceLT, true_and, and_true, if_true, if_false, tc_K, Option.toList_some, Option.toList_none, List.nil_append, List.cons_append, ite_true, ite_false, Int.cast_ofNat_Int, reduceIte, i3_add_eq, i3_sub_eq, Int.add_sub_cancel, Int.add_neg_cancel_right, hO hpL0 h1, hQ hpL h2, ql_r, e0]) | (simp only [r86_14, i6_lt0, i6_0lt, i6_0le, i6_le0, i6_eq0, b10_0, ite_not, Int.reduceLT, Int.reduceLE, Int.reduceEq, Int.reduceNeg, if_true, if_false, ite_true, ite_false, reduceIte, eq_self, not_true, not_false_eq_true]; try refine tc_ite (fun _ => ?_) (fun _ => ?_) <;> try (exfalso; omega)))
  have hlp := lq_1 (N := 19) (P := fun k (_ : Unit) => tc_W 86 9 [rf pa, rf y0, .inl (k + 1)] [] (hp L (fs sh (pa + 1) (4, 5, rol (fun j => if (j : Int) < k then D (j + 1) else D j))) c) n Q) (I := fun _ _ => True) ?_ ?_ 0 () (by omega) (by omega) trivial
  · have e3 : fs sh (pa + 1) (4, 5, rol (fun j => if (j : Int) < 0 then D (j + 1) else D j)) = sh := by
      rw [show rol (fun j => if (j : Int) < 0 then D (j + 1) else D j) = rol D from rol_ext fun j _ => if_neg (by omega), ← h2, fs_id]
    rw [e3] at hlp
    exact hlp
  · intro k _ hk hk2 _ ih
    obtain ⟨y, hy⟩ := hD (k + 1).toNat (by omega)
    have hSy := (h3 _ y (by omega) hy).2
    have hof := SanS_off4 hSy h2
    have e4 : (if (((k + 1).toNat : Nat) : Int) < k then D ((k + 1).toNat + 1) else D (k + 1).toNat) = some y := by
      rw [if_neg (by omega)]
      exact hy
    have e5 : rol (fun j => if j = k.toNat then some y else if (j : Int) < k then D (j + 1) else D j) = rol (fun j => if (j : Int) < k + 1 then D (j + 1) else D j) := rol_ext fun j _ => by
      by_cases hj : j = k.toNat
      · rw [if_pos hj, if_pos (by omega), show j + 1 = (k + 1).toNat by omega]
        exact hy.symm
      · rw [if_neg hj]
        by_cases hj2 : (j : Int) < k
        · rw [if_pos hj2, if_pos (by omega)]
        · rw [if_neg hj2, if_neg (by omega)]
    have ih2 := ih () trivial
    rw [← e5] at ih2
    generalize hS1 : fs sh (pa + 1) (4, 5, rol (fun j => if (j : Int) < k then D (j + 1) else D j)) = S1
    have f1 : S1 pa = (6, 4, [some (pa + 1)]) := by rw [← hS1, fs_ne (by omega)]; exact h1
    have f2 : S1 (pa + 1) = (4, 5, rol (fun j => if (j : Int) < k then D (j + 1) else D j)) := by rw [← hS1, fs_same]
    have f3 : SanS L S1 y := by rw [← hS1]; exact SanS_fs hSy (by omega)
    have f4 : ∀ q, fs S1 (pa + 1) q = fs sh (pa + 1) q := fun q => by rw [← hS1, fs_fs]
    simp only [r86_9]
    repeat' (first | (simp (disch := first | omega | exact Nat.le_of_ble_eq_true rfl | exact rfl | assumption | (simp (disch := omega) only [fr_ne, fr_same]; first | assumption | omega)) only [r86_0, r86_1, r86_4, r86_5, r86_6r, r86_7, r86_8r, r86_10, r86_11, r86_17, r86_18, r86_21, r86_22, r86_23, r86_24, r86_25, r86_28, r86_29, r86_30, r86_31r, r86_34, r86_37, r86_38, r86_38A, r86_39, r86_42, r86_43, r86_44, r86_47, r86_48, r86_51, r86_52, r86_55, r86_56, r86_57, g4_11_4, g4_17_4, p4_17_4, o4_len, o4_g0, o4_g1, o4_s1, il_s, bl_s, bl_z, ll_s, is_s, bs_s, bs_z, ls_s, al_s, al_b, al_l, fr_ne, fr_same, fr_fr, Nat.reduceEqDiff, tc_gf3_s, tc_ql2_s, tc_ws_0, tc_ws_i, tc_ws_l, tc_ws_r, Nat.reduceLeDiff, Nat.reduceAdd, Nat.reduceLT, true_and, and_true, if_true, if_false, tc_K, Option.toList_some, Option.toList_none, List.nil_append, List.cons_append, ite_true, ite_false, Int.cast_ofNat_Int, reduceIte, i3_add_eq, i3_sub_eq, Int.add_sub_cancel, Int.add_neg_cancel_right, hO hpL0 f1, hQ hpL f2, ql_r, qs_r, e4, h20, SanS_g0 f3, SanS_s0 f3, SanS_g1 f3, SanS_s1 f3, SanS_g2 f3, SanS_s2 f3, SanS_g3 f3, SanS_s3 f3, hQr, fr_id, f4]) | (simp only [r86_14, i6_lt0, i6_0lt, i6_0le, i6_le0, i6_eq0, b10_0, ite_not, Int.reduceLT, Int.reduceLE, Int.reduceEq, Int.reduceNeg, if_true, if_false, ite_true, ite_false, reduceIte, eq_self, not_true, not_false_eq_true]; try refine tc_ite (fun _ => ?_) (fun _ => ?_) <;> try (exfalso; omega)))
    exact ih2
  · intro _ _
    have hSy := (h3 _ y0 (by omega) hy0).2
    have hof := SanS_off4 hSy h2
    generalize hS1 : fs sh (pa + 1) (4, 5, rol (fun j => if (j : Int) < 19 then D (j + 1) else D j)) = S1
    have f1 : S1 pa = (6, 4, [some (pa + 1)]) := by rw [← hS1, fs_ne (by omega)]; exact h1
    have f2 : S1 (pa + 1) = (4, 5, rol (fun j => if (j : Int) < 19 then D (j + 1) else D j)) := by rw [← hS1, fs_same]
    have f3 : SanS L S1 y0 := by rw [← hS1]; exact SanS_fs hSy (by omega)
    have f4 : ∀ q, fs S1 (pa + 1) q = fs sh (pa + 1) q := fun q => by rw [← hS1, fs_fs]
    have e5 : rol (fun j => if j = (19 : Int).toNat then some y0 else if (j : Int) < 19 then D (j + 1) else D j) = rol (fun j => if j < 19 then D (j + 1) else D 0) := rol_ext fun j hj => by
      by_cases hj : j = (19 : Int).toNat
      · have : j = 19 := hj
        rw [if_pos hj, if_neg (by omega), hy0]
      · have : ¬ j = 19 := hj
        rw [if_neg hj, if_pos (by omega), if_pos (by omega)]
    rw [← e5] at hq
    simp only [r86_9]
    repeat' (first | (simp (disch := first | omega | exact Nat.le_of_ble_eq_true rfl | exact rfl | assumption | (simp (disch := omega) only [fr_ne, fr_same]; first | assumption | omega)) only [r86_0, r86_1, r86_4, r86_5, r86_6r, r86_7, r86_8r, r86_10, r86_11, r86_17, r86_18, r86_21, r86_22, r86_23, r86_24, r86_25, r86_28, r86_29, r86_30, r86_31r, r86_34, r86_37, r86_38, r86_38A, r86_39, r86_42, r86_43, r86_44, r86_47, r86_48, r86_51, r86_52, r86_55, r86_56, r86_57, g4_11_4, g4_17_4, p4_17_4, o4_len, o4_g0, o4_g1, o4_s1, il_s, bl_s, bl_z, ll_s, is_s, bs_s, bs_z, ls_s, al_s, al_b, al_l, fr_ne, fr_same, fr_fr, Nat.reduceEqDiff, tc_gf3_s, tc_ql2_s, tc_ws_0, tc_ws_i, tc_ws_l, tc_ws_r, Nat.reduceLeDiff, Nat.reduceAdd, Nat.reduceLT, true_and, and_true, if_true, if_false, tc_K, Option.toList_some, Option.toList_none, List.nil_append, List.cons_append, ite_true, ite_false, Int.cast_ofNat_Int, reduceIte, i3_add_eq, i3_sub_eq, Int.add_sub_cancel, Int.add_neg_cancel_right, hO hpL0 f1, hOs f1, hQ hpL f2, ql_r, qs_r, h20, fu_same, SanS_g0 f3, SanS_s0 f3, SanS_g1 f3, SanS_s1 f3, SanS_g2 f3, SanS_s2 f3, SanS_g3 f3, SanS_s3 f3, hQr, fr_id, f4]) | (simp only [r86_14, i6_lt0, i6_0lt, i6_0le, i6_le0, i6_eq0, b10_0, ite_not, Int.reduceLT, Int.reduceLE, Int.reduceEq, Int.reduceNeg, if_true, if_false, ite_true, ite_false, reduceIte, eq_self, not_true, not_false_eq_true]; try refine tc_ite (fun _ => ?_) (fun _ => ?_) <;> try (exfalso; omega)))
    have e6 := fr_id (fr c pa (fu (c pa) 1 19)) (pa + 1)
    rw [fr_ne (by omega)] at e6
    rw [← e6] at hq
    exact hq
theorem PasS.off (hP : PasS L sh pa D) {i y : Nat} (hi : i < 20) (hy : D i = some y) : pa + 1 < y ∨ y + 3 < pa := by
  obtain ⟨_, _, h1, h2, h3⟩ := hP
  have hS := (h3 i y hi hy).2
  have q1 := SanS_off4 hS h2
  have q2 := SanS_off6 hS h1 (by decide)
  omega
theorem c85_t {ps : Int} (hP : PasS L sh pa D) (hx : SanS L sh x) (hps : c pa 1 = ps) (hp0 : 0 ≤ ps ∧ ps < 20) (hxa : ∀ i y, i < 20 → D i = some y → ¬ y = x)
    (hq : ∀ L' sh' c' n' y, L ≤ L' → L' ≤ L + 4 → n ≤ n' → n' ≤ n + 44 → (D ps.toNat = some y ∧ L' = L ∨ D ps.toNat = none ∧ y = L ∧ L' = L + 4) → (∀ a, a < L → ¬ a = pa + 1 → sh' a = sh a) → PasS L' sh' pa (fun j => if j = ps.toNat then some y else D j) → c' pa 1 = ps + 1 → (∀ a, a < L → ¬ a = pa → (a < y ∨ y + 3 < a) → c' a = c a) → (∀ k b σ, SAN k b x c σ → SAN k b y c' σ) → Q none (hp L' sh' c') n') : tc_W 85 13 [rf pa, rf x] [] (hp L sh c) n Q := by
  obtain ⟨hL, hpL, h1, h2, h3⟩ := id hP
  have hpL0 : pa < L := by omega
  repeat' (first | (simp (disch := first | omega | exact Nat.le_of_ble_eq_true rfl | exact rfl | assumption | (simp (disch := omega) only [fr_ne, fr_same]; first | assumption | omega)) only [r85_0, r85_1, r85_4, r85_9, r85_10, v85_10_4, r85_13, r85_14, r85_15, r85_18, r85_19, v85_19_4, r85_22, r85_23, r85_23A, r85_24, r85_27, r85_28, r85_29, r85_32, g4_17_4, p4_17_4, o4_len, o4_g1, o4_s1, il_s, bl_s, bl_z, ll_s, is_s, bs_s, bs_z, ls_s, al_s, al_b, al_l, fr_ne, fr_same, fr_fr, Nat.reduceEqDiff, tc_gf3_s, tc_ql2_s, tc_ws_0, tc_ws_i, tc_ws_l, tc_ws_r, Nat.reduceLeDiff, Nat.reduceAdd, Nat.reduceLT, true_and, and_true, if_true, if_false, tc_K, Option.toList_some, Option.toList_none, List.nil_append, List.cons_append, ite_true, ite_false, Int.cast_ofNat_Int, reduceIte, i3_add_eq, i3_sub_eq, Int.add_sub_cancel, Int.add_neg_cancel_right, hO hpL0 h1, hps]) | (simp only [r85_6, i6_lt0, i6_0lt, i6_0le, i6_le0, i6_eq0, b10_0, ite_not, Int.reduceLT, Int.reduceLE, Int.reduceEq, Int.reduceNeg, if_true, if_false, ite_true, ite_false, reduceIte, eq_self, not_true, not_false_eq_true]; try refine tc_ite (fun _ => ?_) (fun _ => ?_) <;> try (exfalso; omega)))
  refine c87 (i := ps) hP hx hp0 (fun y hy => SanS_sep (h3 _ y (by omega) hy).2 hx (hxa _ y (by omega) hy)) ?_
  intro L' sh' c' n' y k1 k2 k3 k4 k5 k6 k7 k8 k9
  have hoff : pa + 1 < y ∨ y + 3 < pa := by
    rcases k5 with ⟨q, _⟩ | ⟨_, q, _⟩
    · exact hP.off (by omega) q
    · omega
  have e1 : sh' pa = (6, 4, [some (pa + 1)]) := by rw [k6 pa hpL0 (by omega)]; exact h1
  have e2 : c' pa 1 = ps := by rw [k8 pa hpL0 (by omega)]; exact hps
  have hpL2 : pa < L' := by omega
  repeat' (first | (simp (disch := first | omega | exact Nat.le_of_ble_eq_true rfl | exact rfl | assumption | (simp (disch := omega) only [fr_ne, fr_same]; first | assumption | omega)) only [r85_0, r85_1, r85_4, r85_9, r85_10, v85_10_4, r85_13, r85_14, r85_15, r85_18, r85_19, v85_19_4, r85_22, r85_23, r85_23A, r85_24, r85_27, r85_28, r85_29, r85_32, g4_17_4, p4_17_4, o4_len, o4_g1, o4_s1, il_s, bl_s, bl_z, ll_s, is_s, bs_s, bs_z, ls_s, al_s, al_b, al_l, fr_ne, fr_same, fr_fr, Nat.reduceEqDiff, tc_gf3_s, tc_ql2_s, tc_ws_0, tc_ws_i, tc_ws_l, tc_ws_r, Nat.reduceLeDiff, Nat.reduceAdd, Nat.reduceLT, true_and, and_true, if_true, if_false, tc_K, Option.toList_some, Option.toList_none, List.nil_append, List.cons_append, ite_true, ite_false, Int.cast_ofNat_Int, reduceIte, i3_add_eq, i3_sub_eq, Int.add_sub_cancel, Int.add_neg_cancel_right, hO hpL2 e1, hOs e1, e2]) | (simp only [r85_6, i6_lt0, i6_0lt, i6_0le, i6_le0, i6_eq0, b10_0, ite_not, Int.reduceLT, Int.reduceLE, Int.reduceEq, Int.reduceNeg, if_true, if_false, ite_true, ite_false, reduceIte, eq_self, not_true, not_false_eq_true]; try refine tc_ite (fun _ => ?_) (fun _ => ?_) <;> try (exfalso; omega)))
  refine hq L' sh' _ n' y k1 k2 k3 k4 k5 k6 k7 (by rw [fr_same, fu_same]) (fun a h1 h2 h3 => by rw [fr_ne h2]; exact k8 a h1 h3) fun k b σ hσ => ?_
  exact (k9 k b σ hσ).fr (fr_ne (by omega)) (fr_ne (by omega)) (fr_ne (by omega)) (fr_ne (by omega))
theorem INJ.put (hI : INJ D) {i y : Nat} (hi : i < 20) (hy : D i = some y ∨ ∀ j, j < 20 → ¬ D j = some y) : INJ (fun j => if j = i then some y else D j) := by
  intro a d z ha hd h1 h2
  have hno : ∀ j, j < 20 → ¬ j = i → D j = some y → False := fun j hj hn hjy => by
    rcases hy with q | q
    · exact hn (hI j i y hj hi hjy q)
    · exact q j hj hjy
  by_cases ha2 : a = i
  · by_cases hd2 : d = i
    · omega
    · simp only [if_pos ha2, if_neg hd2] at h1 h2
      injection h1 with h1
      exact absurd (h1 ▸ h2) (hno d hd hd2)
  · by_cases hd2 : d = i
    · simp only [if_neg ha2, if_pos hd2] at h1 h2
      injection h2 with h2
      exact absurd (h2 ▸ h1) (hno a ha ha2)
    · simp only [if_neg ha2, if_neg hd2] at h1 h2
      exact hI a d z ha hd h1 h2
theorem PasS.lt (hP : PasS L sh pa D) {i y : Nat} (hi : i < 20) (hy : D i = some y) : y + 3 < L := (hP.2.2.2.2 i y hi hy).2.1
theorem c85 {ps : Int} (hP : PasS L sh pa D) (hx : SanS L sh x) (hps : c pa 1 = ps) (hp0 : 0 ≤ ps ∧ ps ≤ 20) (hD : ∀ i : Nat, (i : Int) < ps → ∃ y, D i = some y) (hxa : ∀ i y, i < 20 → D i = some y → ¬ y = x) (hI : INJ D)
    (hq : ∀ L' sh' c' n' D' y, L ≤ L' → L' ≤ L + 4 → n ≤ n' → n' ≤ n + 44 → (∀ a, a < L → ¬ a = pa + 1 → sh' a = sh a) → PasS L' sh' pa D' → INJ D' → (∀ i z, i < 20 → D' i = some z → (∃ j, j < 20 ∧ D j = some z) ∨ z = L) → c' pa 1 = psk ps + 1 → (∀ i : Nat, (i : Int) < psk ps → D' i = D (i + (pss ps).toNat)) → D' (psk ps).toNat = some y → (∀ a, a < L → ¬ a = pa → (a < y ∨ y + 3 < a) → c' a = c a) → (∀ k b σ, SAN k b x c σ → SAN k b y c' σ) → Q none (hp L' sh' c') n') : tc_C 85 [rf pa, rf x] (hp L sh c) n Q := by
  obtain ⟨hL, hpL, h1, h2, h3⟩ := id hP
  have hpL0 : pa < L := by omega
  show tc_W 85 0 [rf pa, rf x] [] _ _ Q
  by_cases h20 : ps = 20
  · subst h20
    have hD' : ∀ i, i < 20 → ∃ y, D i = some y := fun i hi => hD i (by omega)
    have ek : psk 20 = 19 := if_pos rfl
    have es : pss 20 = 1 := if_pos rfl
    rw [ek, es] at hq
    repeat' (first | (simp (disch := first | omega | exact Nat.le_of_ble_eq_true rfl | exact rfl | assumption | (simp (disch := omega) only [fr_ne, fr_same]; first | assumption | omega)) only [r85_0, r85_1, r85_4, r85_9, r85_10, v85_10_4, r85_14, r85_15, r85_18, r85_19, v85_19_4, r85_22, r85_23, r85_23A, r85_24, r85_27, r85_28, r85_29, r85_32, g4_17_4, p4_17_4, o4_len, o4_g1, o4_s1, il_s, bl_s, bl_z, ll_s, is_s, bs_s, bs_z, ls_s, al_s, al_b, al_l, fr_ne, fr_same, fr_fr, Nat.reduceEqDiff, tc_gf3_s, tc_ql2_s, tc_ws_0, tc_ws_i, tc_ws_l, tc_ws_r, Nat.reduceLeDiff, Nat.reduceAdd, Nat.reduceLT, true_and, and_true, if_true, if_false, tc_K, Option.toList_some, Option.toList_none, List.nil_append, List.cons_append, ite_true, ite_false, Int.cast_ofNat_Int, reduceIte, i3_add_eq, i3_sub_eq, Int.add_sub_cancel, Int.add_neg_cancel_right, hO hpL0 h1, hps]) | (simp only [r85_6, i6_lt0, i6_0lt, i6_0le, i6_le0, i6_eq0, b10_0, ite_not, Int.reduceLT, Int.reduceLE, Int.reduceEq, Int.reduceNeg, if_true, if_false, ite_true, ite_false, reduceIte, eq_self, not_true, not_false_eq_true]; try refine tc_ite (fun _ => ?_) (fun _ => ?_) <;> try (exfalso; omega)))
    all_goals try omega
    refine c86 hP hps hD' rfl ?_
    have hf2 := SanS_off4 hx h2
    have hf1 := SanS_off6 hx h1 (by decide)
    have hP1 : PasS L (fs sh (pa + 1) (4, 5, rol (fun j => if j < 19 then D (j + 1) else D 0))) pa (fun j => if j < 19 then D (j + 1) else D 0) := by
      refine ⟨hL, hpL, by rw [fs_ne (by omega)]; exact h1, fs_same _ _ _, fun i y hi hy => ?_⟩
      have hy : (if i < 19 then D (i + 1) else D 0) = some y := hy
      have hh : ∃ j, j < 20 ∧ D j = some y := by
        by_cases hc : i < 19
        · rw [if_pos hc] at hy
          exact ⟨i + 1, by omega, hy⟩
        · rw [if_neg hc] at hy
          exact ⟨0, by omega, hy⟩
      obtain ⟨j, hj, hjy⟩ := hh
      have := h3 j y hj hjy
      exact ⟨this.1, SanS_fs this.2 (by have := SanS_off4 this.2 h2; omega)⟩
    have hx1 : SanS L (fs sh (pa + 1) (4, 5, rol (fun j => if j < 19 then D (j + 1) else D 0))) x := SanS_fs hx (by omega)
    have hS1 : ∀ a, a < L → ¬ a = pa + 1 → fs sh (pa + 1) (4, 5, rol (fun j => if j < 19 then D (j + 1) else D 0)) a = sh a := fun a _ hn => fs_ne hn
    generalize fs sh (pa + 1) (4, 5, rol (fun j => if j < 19 then D (j + 1) else D 0)) = S1 at hP1 hx1 hS1
    generalize hD1 : (fun j => if j < 19 then D (j + 1) else D 0) = D1 at hP1
    have d1 : ∀ j, D1 j = if j < 19 then D (j + 1) else D 0 := fun j => by rw [← hD1]
    have hI1 : INJ D1 := by
      intro i j y hi hj hy hz
      rw [d1] at hy hz
      by_cases hi9 : i < 19
      · by_cases hj9 : j < 19
        · rw [if_pos hi9] at hy
          rw [if_pos hj9] at hz
          have := hI (i + 1) (j + 1) y (by omega) (by omega) hy hz
          omega
        · rw [if_pos hi9] at hy
          rw [if_neg hj9] at hz
          have := hI (i + 1) 0 y (by omega) (by omega) hy hz
          omega
      · by_cases hj9 : j < 19
        · rw [if_neg hi9] at hy
          rw [if_pos hj9] at hz
          have := hI 0 (j + 1) y (by omega) (by omega) hy hz
          omega
        · omega
    have hr1 : ∀ j z, j < 20 → D1 j = some z → ∃ i, i < 20 ∧ D i = some z := fun j z hj hz => by
      rw [d1] at hz
      by_cases hj9 : j < 19
      · rw [if_pos hj9] at hz
        exact ⟨j + 1, by omega, hz⟩
      · rw [if_neg hj9] at hz
        exact ⟨0, by omega, hz⟩
    obtain ⟨y0, hy0⟩ := hD' 0 (by omega)
    have e19 : D1 19 = some y0 := by rw [d1, if_neg (by omega), hy0]
    repeat' (first | (simp (disch := first | omega | exact Nat.le_of_ble_eq_true rfl | exact rfl | assumption | (simp (disch := omega) only [fr_ne, fr_same]; first | assumption | omega)) only [r85_0, r85_1, r85_4, r85_9, r85_10, v85_10_4, r85_14, r85_15, r85_18, r85_19, v85_19_4, r85_22, r85_23, r85_23A, r85_24, r85_27, r85_28, r85_29, r85_32, g4_17_4, p4_17_4, o4_len, o4_g1, o4_s1, il_s, bl_s, bl_z, ll_s, is_s, bs_s, bs_z, ls_s, al_s, al_b, al_l, fr_ne, fr_same, fr_fr, Nat.reduceEqDiff, tc_gf3_s, tc_ql2_s, tc_ws_0, tc_ws_i, tc_ws_l, tc_ws_r, Nat.reduceLeDiff, Nat.reduceAdd, Nat.reduceLT, true_and, and_true, if_true, if_false, tc_K, Option.toList_some, Option.toList_none, List.nil_append, List.cons_append, ite_true, ite_false, Int.cast_ofNat_Int, reduceIte, i3_add_eq, i3_sub_eq, Int.add_sub_cancel, Int.add_neg_cancel_right]) | (simp only [r85_6, i6_lt0, i6_0lt, i6_0le, i6_le0, i6_eq0, b10_0, ite_not, Int.reduceLT, Int.reduceLE, Int.reduceEq, Int.reduceNeg, if_true, if_false, ite_true, ite_false, reduceIte, eq_self, not_true, not_false_eq_true]; try refine tc_ite (fun _ => ?_) (fun _ => ?_) <;> try (exfalso; omega)))
    refine c85_t (ps := 19) hP1 hx1 (by rw [fr_same, fu_same]) (by omega) (fun i y hi hy => by
      obtain ⟨j, hj, hjy⟩ := hr1 i y hi hy
      exact hxa j y hj hjy) ?_
    intro L' sh' c' n' y k1 k2 k3 k4 k5 k6 k7 k8 k9 k10
    have hy1 : y = y0 ∧ L' = L := by
      rcases k5 with ⟨q, q2⟩ | ⟨q, _⟩
      · have q : D1 19 = some y := q
        rw [e19] at q
        injection q with q
        exact ⟨q.symm, q2⟩
      · have q : D1 19 = none := q
        rw [e19] at q
        exact absurd q (by simp)
    have e19' : D1 (19 : Int).toNat = some y := hy1.1 ▸ e19
    refine hq L' sh' c' n' _ y k1 k2 k3 k4 (fun a h1 h2 => (k6 a h1 h2).trans (hS1 a h1 h2)) k7 (hI1.put (by decide) (Or.inl e19')) (fun i z hi hz => ?_) k8 (fun i hi => ?_) (if_pos rfl) (fun a h1 h2 h3 => by rw [k9 a h1 h2 h3, fr_ne h2]) (fun k b σ hσ => k10 k b σ (hσ.fr (fr_ne (by omega)) (fr_ne (by omega)) (fr_ne (by omega)) (fr_ne (by omega))))
    · by_cases hi9 : i = (19 : Int).toNat
      · rw [if_pos hi9] at hz
        injection hz with hz
        obtain ⟨j, hj, hjy⟩ := hr1 19 y0 (by omega) e19
        exact Or.inl ⟨j, hj, by rw [hjy, ← hz, hy1.1]⟩
      · rw [if_neg hi9] at hz
        exact Or.inl (hr1 i z hi hz)
    · have hi9 : ¬ i = (19 : Int).toNat := by
        show ¬ i = 19
        omega
      rw [if_neg hi9, d1, if_pos (by omega)]
      rfl
  · have ek : psk ps = ps := if_neg h20
    have es : pss ps = 0 := if_neg h20
    rw [ek, es] at hq
    repeat' (first | (simp (disch := first | omega | exact Nat.le_of_ble_eq_true rfl | exact rfl | assumption | (simp (disch := omega) only [fr_ne, fr_same]; first | assumption | omega)) only [r85_0, r85_1, r85_4, r85_9, r85_10, v85_10_4, r85_14, r85_15, r85_18, r85_19, v85_19_4, r85_22, r85_23, r85_23A, r85_24, r85_27, r85_28, r85_29, r85_32, g4_17_4, p4_17_4, o4_len, o4_g1, o4_s1, il_s, bl_s, bl_z, ll_s, is_s, bs_s, bs_z, ls_s, al_s, al_b, al_l, fr_ne, fr_same, fr_fr, Nat.reduceEqDiff, tc_gf3_s, tc_ql2_s, tc_ws_0, tc_ws_i, tc_ws_l, tc_ws_r, Nat.reduceLeDiff, Nat.reduceAdd, Nat.reduceLT, true_and, and_true, if_true, if_false, tc_K, Option.toList_some, Option.toList_none, List.nil_append, List.cons_append, ite_true, ite_false, Int.cast_ofNat_Int, reduceIte, i3_add_eq, i3_sub_eq, Int.add_sub_cancel, Int.add_neg_cancel_right, hO hpL0 h1, hps]) | (simp only [r85_6, i6_lt0, i6_0lt, i6_0le, i6_le0, i6_eq0, b10_0, ite_not, Int.reduceLT, Int.reduceLE, Int.reduceEq, Int.reduceNeg, if_true, if_false, ite_true, ite_false, reduceIte, eq_self, not_true, not_false_eq_true]; try refine tc_ite (fun _ => ?_) (fun _ => ?_) <;> try (exfalso; omega)))
    all_goals try omega
    refine c85_t hP hx hps (by omega) hxa ?_
    intro L' sh' c' n' y k1 k2 k3 k4 k5 k6 k7 k8 k9 k10
    refine hq L' sh' c' n' _ y k1 k2 k3 k4 k6 k7 (hI.put (by omega) ?_) (fun i z hi hz => ?_) k8 (fun i hi => ?_) (if_pos rfl) k9 k10
    · rcases k5 with ⟨q, _⟩ | ⟨_, q, _⟩
      · exact Or.inl q
      · refine Or.inr fun j hj hjy => ?_
        have := hP.lt hj hjy
        omega
    · by_cases hi9 : i = ps.toNat
      · rw [if_pos hi9] at hz
        injection hz with hz
        rcases k5 with ⟨q, _⟩ | ⟨_, q, _⟩
        · exact Or.inl ⟨ps.toNat, by omega, by rw [q, hz]⟩
        · exact Or.inr (by omega)
      · rw [if_neg hi9] at hz
        exact Or.inl ⟨i, hi, hz⟩
    · rw [if_neg (by omega)]
      rfl
theorem c112 {ps : Int} (hP : PasS L sh pa D) (hx : SanS L sh x) (hps : c pa 1 = ps) (hp0 : 0 < ps ∧ ps ≤ 20) {y : Nat} (hy : D (ps - 1).toNat = some y) (hxa : ¬ y = x)
    (hq : ∀ e, (∀ a, ¬ a = pa → (a < x ∨ x + 3 < a) → e a = c a) → e pa = fu (c pa) 1 (ps - 1) → (∀ k b σ, SAN k b y c σ → SAN k b x e σ) → Q none (hp L sh e) n) : tc_C 112 [rf pa, rf x] (hp L sh c) n Q := by
  obtain ⟨hL, hpL, h1, h2, h3⟩ := id hP
  have hpL0 : pa < L := by omega
  have hSy := (h3 _ y (by omega) hy).2
  have hoy := hP.off (by omega) hy
  have hf1 := SanS_off6 hx h1 (by decide)
  have hsep := SanS_sep hSy hx hxa
  show tc_W 112 0 [rf pa, rf x] [] _ _ Q
  repeat' (first | (simp (disch := first | omega | exact Nat.le_of_ble_eq_true rfl | exact rfl | assumption | (simp (disch := omega) only [fr_ne, fr_same]; first | assumption | omega)) only [r112_0, r112_1, r112_7, r112_8, r112_11, r112_12, r112_15, r112_16, r112_17, r112_18, r112_18A, r112_21, r112_22, r112_22A, r112_23, r112_26, r112_27, r112_28, r112_31, r112_32, r112_33, r112_36, r112_37, r112_40, r112_41, v112_41_5, r112_44, g4_17_4, g4_11_4, p4_17_4, o4_len, o4_g1, o4_g0, o4_s1, il_s, bl_s, bl_z, ll_s, is_s, bs_s, bs_z, ls_s, al_s, al_b, al_l, fr_ne, fr_same, fr_fr, Nat.reduceEqDiff, tc_gf3_s, tc_ql2_s, tc_ws_0, tc_ws_i, tc_ws_l, tc_ws_r, Nat.reduceLeDiff, Nat.reduceAdd, Nat.reduceLT, true_and, and_true, if_true, if_false, tc_K, Option.toList_some, Option.toList_none, List.nil_append, List.cons_append, ite_true, ite_false, Int.cast_ofNat_Int, reduceIte, i3_add_eq, i3_sub_eq, Int.add_sub_cancel, Int.add_neg_cancel_right, hO hpL0 h1, hOs h1, hQ hpL h2, ql_r, hps, hy, fu_same, SanS_g0 hx, SanS_s0 hx, SanS_g1 hx, SanS_s1 hx, SanS_g2 hx, SanS_s2 hx, SanS_g3 hx, SanS_s3 hx]) | (simp only [r112_4, i6_lt0, i6_0lt, i6_0le, i6_le0, i6_eq0, b10_0, ite_not, Int.reduceLT, Int.reduceLE, Int.reduceEq, Int.reduceNeg, if_true, if_false, ite_true, ite_false, reduceIte, eq_self, not_true, not_false_eq_true]; try refine tc_ite (fun _ => ?_) (fun _ => ?_) <;> try (exfalso; omega)))
  all_goals try omega
  refine c88 hx hSy (by omega) ?_
  intro e g1 g2 g3 g4 g5
  repeat' (first | (simp (disch := first | omega | exact Nat.le_of_ble_eq_true rfl | exact rfl | assumption | (simp (disch := omega) only [fr_ne, fr_same]; first | assumption | omega)) only [r112_0, r112_1, r112_7, r112_8, r112_11, r112_12, r112_15, r112_16, r112_17, r112_18, r112_18A, r112_21, r112_22, r112_22A, r112_23, r112_26, r112_27, r112_28, r112_31, r112_32, r112_33, r112_36, r112_37, r112_40, r112_41, v112_41_5, r112_44, g4_17_4, g4_11_4, p4_17_4, o4_len, o4_g1, o4_g0, o4_s1, il_s, bl_s, bl_z, ll_s, is_s, bs_s, bs_z, ls_s, al_s, al_b, al_l, fr_ne, fr_same, fr_fr, Nat.reduceEqDiff, tc_gf3_s, tc_ql2_s, tc_ws_0, tc_ws_i, tc_ws_l, tc_ws_r, Nat.reduceLeDiff, Nat.reduceAdd, Nat.reduceLT, true_and, and_true, if_true, if_false, tc_K, Option.toList_some, Option.toList_none, List.nil_append, List.cons_append, ite_true, ite_false, Int.cast_ofNat_Int, reduceIte, i3_add_eq, i3_sub_eq, Int.add_sub_cancel, Int.add_neg_cancel_right]) | (simp only [r112_4, i6_lt0, i6_0lt, i6_0le, i6_le0, i6_eq0, b10_0, ite_not, Int.reduceLT, Int.reduceLE, Int.reduceEq, Int.reduceNeg, if_true, if_false, ite_true, ite_false, reduceIte, eq_self, not_true, not_false_eq_true]; try refine tc_ite (fun _ => ?_) (fun _ => ?_) <;> try (exfalso; omega)))
  refine hq e (fun a ha h => by rw [g1 a h, fr_ne ha]) (by rw [g1 pa (by omega), fr_same]) fun k b σ hσ => ?_
  exact (hσ.fr (d := fr c pa (fu (c pa) 1 (ps - 1))) (fr_ne (by omega)) (fr_ne (by omega)) (fr_ne (by omega)) (fr_ne (by omega))).cp g2 g3 g4 g5
end PASTC

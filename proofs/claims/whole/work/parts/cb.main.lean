/-! the law, whole -/
section LOOPM
variable {X : Nat} {xs : Int → Int}
theorem aux_l3 {L i : Nat} (h : L ≤ 115 + 100 * i) (hi : i ≤ 512) : L ≤ 600026 := by omega
theorem aux_n3 {n i : Nat} (h : n ≤ 20000 + 5000 * i) (hi : i ≤ 512) : n ≤ 7302250 := Nat.le_trans h (Nat.le_trans (Nat.add_le_add_left (Nat.mul_le_mul_left 5000 hi) 20000) (Nat.le_of_ble_eq_true rfl))
theorem INVP.stay {i L n : Nat} {sh : Nat → SH} {c : Nat → Int → Int} (h : INV X xs i L sh c n) : INV X xs (i + 1) L sh c n := by
  obtain ⟨m, LD, s, D, ID, SS, ED, DD, hP⟩ := h
  exact ⟨m, LD, s, D, ID, SS, ED, DD, hP.mono (Nat.le_succ i)⟩
def FIN (r : Option AV) (h : List SC) (n : Nat) : Prop := r = some (.inl 1) ∧ h.length ≤ 600026 ∧ n ≤ 7302250
theorem loop_end {i L n : Nat} {sh : Nat → SH} {c : Nat → Int → Int} (hX3 : X ≤ 3072) (hi : i ≤ 512) (hI : INV X xs i L sh c n) (h : (X : Int) - 6 < 6 * (i : Int)) : tc_W 279 18 [rf 25, rf 26, rf 75, .inl (6 * (i : Int))] [] (hp L sh c) n FIN := by
  obtain ⟨m, LD, s, D, ID, SS, ED, DD, hP⟩ := id hI
  have h25 := hP.2.1.1
  have hL := hP.L115
  have hb1 := hP.1.1
  have hb2 := hP.1.2
  have hL25 : 25 < L := by omega
  clear hP
  rw [r279_18]
  repeat' (simp (disch := first | omega | exact Nat.le_of_ble_eq_true rfl | exact rfl | assumption | (simp (disch := omega) only [fr_ne, fr_same]; first | assumption | omega)) only [r279_19, r279_20, r279_21, r279_23, il_s, bl_s, bl_z, ll_s, is_s, bs_s, bs_z, ls_s, al_s, al_b, al_l, fr_ne, fr_same, fr_fr, Nat.reduceEqDiff, tc_gf3_s, tc_ql2_s, tc_ws_0, tc_ws_i, tc_ws_l, tc_ws_r, Nat.reduceLeDiff, Nat.reduceAdd, Nat.reduceLT, true_and, and_true, if_true, if_false, tc_K, Option.toList_some, Option.toList_none, List.nil_append, List.cons_append, ite_true, ite_false, Int.cast_ofNat_Int, reduceIte, i3_add_eq, i3_sub_eq, Int.add_sub_cancel, Int.add_neg_cancel_right, al_x, hX hL25 h25, i3_sub_eq])
  rw [r279_24, if_pos h, r279_1081, r279_1082t]
  exact ⟨rfl, by rw [hp_len]; exact aux_l3 hb1 hi, aux_n3 hb2 hi⟩
theorem loop_go {i L n : Nat} {sh : Nat → SH} {c : Nat → Int → Int} (hX3 : X ≤ 3072) (hb : ∀ k, xs k < 2147483648) (hi : i ≤ 512) (hI : INV X xs i L sh c n) (h : ¬ (X : Int) - 6 < 6 * (i : Int)) (ih : ∀ (L2 n2 : Nat) (sh2 : Nat → SH) (c2 : Nat → Int → Int), INV X xs (i + 1) L2 sh2 c2 n2 → tc_W 279 18 [rf 25, rf 26, rf 75, .inl (6 * ((i + 1 : Nat) : Int))] [] (hp L2 sh2 c2) n2 FIN) : tc_W 279 18 [rf 25, rf 26, rf 75, .inl (6 * (i : Int))] [] (hp L sh c) n FIN := by
  obtain ⟨m, LD, s, D, ID, SS, ED, DD, hP⟩ := id hI
  have h25 := hP.2.1.1
  have hx := hP.2.1.2
  have hL := hP.L115
  have hL25 : 25 < L := by omega
  clear hP
  have key : ∀ L2 sh2 c2 n2, INV X xs (i + 1) L2 sh2 c2 n2 → tc_W 279 1075 [rf 25, rf 26, rf 75, .inl (6 * (i : Int))] [] (hp L2 sh2 c2) n2 FIN := by
    intro L2 sh2 c2 n2 h2
    have q := ih L2 n2 sh2 c2 h2
    rw [r279_1075r, i3_add_eq (by omega) (by omega), r279_1078]
    rw [show 6 * (i : Int) + 6 = 6 * ((i + 1 : Nat) : Int) by omega]
    exact q
  rw [r279_18]
  repeat' (simp (disch := first | omega | exact Nat.le_of_ble_eq_true rfl | exact rfl | assumption | (simp (disch := omega) only [fr_ne, fr_same]; first | assumption | omega)) only [r279_19, r279_20, r279_21, r279_23, il_s, bl_s, bl_z, ll_s, is_s, bs_s, bs_z, ls_s, al_s, al_b, al_l, fr_ne, fr_same, fr_fr, Nat.reduceEqDiff, tc_gf3_s, tc_ql2_s, tc_ws_0, tc_ws_i, tc_ws_l, tc_ws_r, Nat.reduceLeDiff, Nat.reduceAdd, Nat.reduceLT, true_and, and_true, if_true, if_false, tc_K, Option.toList_some, Option.toList_none, List.nil_append, List.cons_append, ite_true, ite_false, Int.cast_ofNat_Int, reduceIte, i3_add_eq, i3_sub_eq, Int.add_sub_cancel, Int.add_neg_cancel_right, al_x, hX hL25 h25, i3_sub_eq])
  rw [r279_24, if_neg h]
  have hz : 0 ≤ 6 * (i : Int) := by omega
  have hz2 : 6 * (i : Int) + 6 ≤ X := by omega
  have hz3 : 6 * (i : Int) < X := by omega
  repeat' (simp (disch := first | omega | exact Nat.le_of_ble_eq_true rfl | exact rfl | assumption | (simp (disch := omega) only [fr_ne, fr_same]; first | assumption | omega)) only [r279_27, r279_28, r279_29, r279_30, r279_32, il_s, bl_s, bl_z, ll_s, is_s, bs_s, bs_z, ls_s, al_s, al_b, al_l, fr_ne, fr_same, fr_fr, Nat.reduceEqDiff, tc_gf3_s, tc_ql2_s, tc_ws_0, tc_ws_i, tc_ws_l, tc_ws_r, Nat.reduceLeDiff, Nat.reduceAdd, Nat.reduceLT, true_and, and_true, if_true, if_false, tc_K, Option.toList_some, Option.toList_none, List.nil_append, List.cons_append, ite_true, ite_false, Int.cast_ofNat_Int, reduceIte, i3_add_eq, i3_sub_eq, Int.add_sub_cancel, Int.add_neg_cancel_right, il_x, hX hL25 h25, hx])
  generalize i3_and (xs (6 * (i : Int))) 31 = v
  have h6 : i ≤ 600 := by omega
  by_cases hv : 0 ≤ v ∧ v ≤ 30
  · rcases (by omega : v = 0 ∨ v = 1 ∨ v = 2 ∨ v = 3 ∨ v = 4 ∨ v = 5 ∨ v = 6 ∨ v = 7 ∨ v = 8 ∨ v = 9 ∨ v = 10 ∨ v = 11 ∨ v = 12 ∨ v = 13 ∨ v = 14 ∨ v = 15 ∨ v = 16 ∨ v = 17 ∨ v = 18 ∨ v = 19 ∨ v = 20 ∨ v = 21 ∨ v = 22 ∨ v = 23 ∨ v = 24 ∨ v = 25 ∨ v = 26 ∨ v = 27 ∨ v = 28 ∨ v = 29 ∨ v = 30) with rfl | rfl | rfl | rfl | rfl | rfl | rfl | rfl | rfl | rfl | rfl | rfl | rfl | rfl | rfl | rfl | rfl | rfl | rfl | rfl | rfl | rfl | rfl | rfl | rfl | rfl | rfl | rfl | rfl | rfl | rfl
    · rw [r279_33_0]
      exact m279_0 h6 hb hI hz hz2 hX3 key
    · rw [r279_33_1]
      exact m279_1 h6 hb hI hz hz2 hX3 key
    · rw [r279_33_2]
      exact m279_2 h6 hb hI hz hz2 hX3 key
    · rw [r279_33_3]
      exact m279_3 h6 hb hI hz hz2 hX3 key
    · rw [r279_33_4]
      exact m279_4 h6 hb hI hz hz2 hX3 key
    · rw [r279_33_5]
      exact m279_5 h6 hb hI hz hz2 hX3 key
    · rw [r279_33_6]
      exact m279_6 h6 hb hI hz hz2 hX3 key
    · rw [r279_33_7]
      exact m279_7 h6 hb hI hz hz2 hX3 key
    · rw [r279_33_8]
      exact m279_8 h6 hb hI hz hz2 hX3 key
    · rw [r279_33_9]
      exact m279_9 h6 hb hI hz hz2 hX3 key
    · rw [r279_33_10]
      exact m279_10 h6 hb hI hz hz2 hX3 key
    · rw [r279_33_11]
      exact m279_11 h6 hb hI hz hz2 hX3 key
    · rw [r279_33_12]
      exact m279_12 h6 hb hI hz hz2 hX3 key
    · rw [r279_33_13]
      exact m279_13 h6 hb hI hz hz2 hX3 key
    · rw [r279_33_14]
      exact m279_14 h6 hb hI hz hz2 hX3 key
    · rw [r279_33_15]
      exact m279_15 h6 hb hI hz hz2 hX3 key
    · rw [r279_33_16]
      exact m279_16 h6 hb hI hz hz2 hX3 key
    · rw [r279_33_17]
      exact m279_17 h6 hb hI hz hz2 hX3 key
    · rw [r279_33_18]
      exact m279_18 h6 hb hI hz hz2 hX3 key
    · rw [r279_33_19]
      exact m279_19 h6 hb hI hz hz2 hX3 key
    · rw [r279_33_20]
      exact m279_20 h6 hb hI hz hz2 hX3 key
    · rw [r279_33_21]
      exact m279_21 h6 hb hI hz hz2 hX3 key
    · rw [r279_33_22]
      exact m279_22 h6 hb hI hz hz2 hX3 key
    · rw [r279_33_23]
      exact m279_23 h6 hb hI hz hz2 hX3 key
    · rw [r279_33_24]
      exact m279_24 h6 hb hI hz hz2 hX3 key
    · rw [r279_33_25]
      exact m279_25 h6 hb hI hz hz2 hX3 key
    · rw [r279_33_26]
      exact m279_26 h6 hb hI hz hz2 hX3 key
    · rw [r279_33_27]
      exact m279_27 h6 hb hI hz hz2 hX3 key
    · rw [r279_33_28]
      exact m279_28 h6 hb hI hz hz2 hX3 key
    · rw [r279_33_29]
      exact m279_29 h6 hb hI hz hz2 hX3 key
    · rw [r279_33_30]
      exact m279_30 h6 hb hI hz hz2 hX3 key
  · rw [r279_33_d (by omega)]
    exact key L sh c n (INVP.stay hI)
theorem loop279 (hX3 : X ≤ 3072) (hb : ∀ k, xs k < 2147483648) : ∀ (d i L n : Nat) (sh : Nat → SH) (c : Nat → Int → Int), X ≤ 6 * (i + d) + 5 → i ≤ 512 → INV X xs i L sh c n → tc_W 279 18 [rf 25, rf 26, rf 75, .inl (6 * (i : Int))] [] (hp L sh c) n FIN := by
  intro d
  induction d with
  | zero =>
    intro i L n sh c h1 hi hI
    exact loop_end hX3 hi hI (by omega)
  | succ d ih =>
    intro i L n sh c h1 hi hI
    by_cases h : (X : Int) - 6 < 6 * (i : Int)
    · exact loop_end hX3 hi hI h
    · exact loop_go hX3 hb hi hI h fun L2 n2 sh2 c2 h2 => ih (i + 1) L2 n2 sh2 c2 (by omega) (by omega) h2
end LOOPM
theorem NEW0.up {sh sh' : Nat → SH} {c c' : Nat → Int → Int} (h : NEW0 sh c) (hf : ∀ a, a < 75 → sh' a = sh a ∧ c' a = c a) : NEW0 sh' c' := by
  obtain ⟨a26, a27, a28, a29, a30, a38, ⟨a42, a43⟩, a44, a48, a49, a56, ⟨a60, a61, a65⟩, a69, ⟨a70, a71, a72, a73⟩, a74, e26, e27, e29, e30, e38, e42, e44, e45⟩ := h
  have s : ∀ a, a < 75 → sh' a = sh a := fun a ha => (hf a ha).1
  have t : ∀ a, a < 75 → c' a = c a := fun a ha => (hf a ha).2
  obtain ⟨x1, x2, x3, x4, x5, x6, x7, x8⟩ := a49
  unfold NEW0
  rw [s 26 (by omega), s 27 (by omega), s 28 (by omega), s 29 (by omega), s 42 (by omega), s 43 (by omega), s 48 (by omega), s 60 (by omega), s 69 (by omega), s 70 (by omega), s 71 (by omega), s 72 (by omega), s 73 (by omega), s 74 (by omega), t 26 (by omega), t 27 (by omega), t 29 (by omega), t 30 (by omega), t 38 (by omega), t 42 (by omega), t 44 (by omega), t 45 (by omega), t 46 (by omega), t 47 (by omega)]
  exact ⟨a26, a27, a28, a29, ShoS_up a30 (by omega) (fun a a1 a2 => s a (by omega)), SanS_up a38 (by omega) (fun a a1 a2 => s a (by omega)), ⟨a42, a43⟩, LogS_up a44 (by omega) (fun a a1 a2 => s a (by omega)), a48, ⟨x1, (s 49 (by omega)).trans x2, (s 50 (by omega)).trans x3, (s 51 (by omega)).trans x4, (s 52 (by omega)).trans x5, (s 53 (by omega)).trans x6, (s 54 (by omega)).trans x7, (s 55 (by omega)).trans x8⟩, SanS_up a56 (by omega) (fun a a1 a2 => s a (by omega)), ⟨a60, SanS_up a61 (by omega) (fun a a1 a2 => s a (by omega)), SanS_up a65 (by omega) (fun a a1 a2 => s a (by omega))⟩, a69, ⟨a70, a71, a72, a73⟩, a74, e26, e27, e29, e30, e38, e42, e44, e45⟩
theorem tc_Main_ok : tc_Main := by
  intro xl hl hr
  rw [h0_hp]
  have hb : ∀ k : Int, (fun k : Int => xl.getD k.toNat 0) k < 2147483648 := fun k => by
    show xl.getD k.toNat 0 < 2147483648
    rw [List.getD_eq_getElem?_getD]
    by_cases hk : k.toNat < xl.length
    · rw [List.getElem?_eq_getElem hk]
      exact (hr _ (List.getElem_mem hk)).2
    · rw [List.getElem?_eq_none (by omega)]
      show (0 : Int) < 2147483648
      omega
  generalize hxs : (fun k : Int => xl.getD k.toNat 0) = xs at hb
  generalize hXX : xl.length = X at hl
  show tc_W 279 0 [rf 25, tc_nil, tc_nil, tc_nil] [] (hp 26 (shB X) (cB xs)) 0 FIN
  repeat' (simp (disch := first | omega | exact Nat.le_of_ble_eq_true rfl | exact rfl | assumption | (simp (disch := omega) only [fr_ne, fr_same]; first | assumption | omega)) only [r279_0, r279_3, r279_3A, r279_4, il_s, bl_s, bl_z, ll_s, is_s, bs_s, bs_z, ls_s, al_s, al_b, al_l, fr_ne, fr_same, fr_fr, Nat.reduceEqDiff, tc_gf3_s, tc_ql2_s, tc_ws_0, tc_ws_i, tc_ws_l, tc_ws_r, Nat.reduceLeDiff, Nat.reduceAdd, Nat.reduceLT, true_and, and_true, if_true, if_false, tc_K, Option.toList_some, Option.toList_none, List.nil_append, List.cons_append, ite_true, ite_false, Int.cast_ofNat_Int, reduceIte, i3_add_eq, i3_sub_eq, Int.add_sub_cancel, Int.add_neg_cancel_right, o10_new, nap_o, hp_len])
  refine c0f (by simp only [fs_same]) ?_
  intro sh1 c1 n1 hn1 low1 hN1
  repeat' (simp (disch := first | omega | exact Nat.le_of_ble_eq_true rfl | exact rfl | assumption | (simp (disch := omega) only [fr_ne, fr_same]; first | assumption | omega)) only [r279_7r, r279_8, r279_11, r279_11A, r279_12, il_s, bl_s, bl_z, ll_s, is_s, bs_s, bs_z, ls_s, al_s, al_b, al_l, fr_ne, fr_same, fr_fr, Nat.reduceEqDiff, tc_gf3_s, tc_ql2_s, tc_ws_0, tc_ws_i, tc_ws_l, tc_ws_r, Nat.reduceLeDiff, Nat.reduceAdd, Nat.reduceLT, true_and, and_true, if_true, if_false, tc_K, Option.toList_some, Option.toList_none, List.nil_append, List.cons_append, ite_true, ite_false, Int.cast_ofNat_Int, reduceIte, i3_add_eq, i3_sub_eq, Int.add_sub_cancel, Int.add_neg_cancel_right, o11_new, nap_o, hp_len])
  refine c163 (by simp only [fs_same]) (by simp only [fr_same]) ?_
  intro sh2 c2 n2 hn2 hB2
  repeat' (simp (disch := first | omega | exact Nat.le_of_ble_eq_true rfl | exact rfl | assumption | (simp (disch := omega) only [fr_ne, fr_same]; first | assumption | omega)) only [r279_15r, r279_16, r279_17r, il_s, bl_s, bl_z, ll_s, is_s, bs_s, bs_z, ls_s, al_s, al_b, al_l, fr_ne, fr_same, fr_fr, Nat.reduceEqDiff, tc_gf3_s, tc_ql2_s, tc_ws_0, tc_ws_i, tc_ws_l, tc_ws_r, Nat.reduceLeDiff, Nat.reduceAdd, Nat.reduceLT, true_and, and_true, if_true, if_false, tc_K, Option.toList_some, Option.toList_none, List.nil_append, List.cons_append, ite_true, ite_false, Int.cast_ofNat_Int, reduceIte, i3_add_eq, i3_sub_eq, Int.add_sub_cancel, Int.add_neg_cancel_right])
  have lo : ∀ a, a < 75 → sh2 a = sh1 a ∧ c2 a = c1 a := fun a ha => by
    obtain ⟨q1, q2⟩ := hB2.2.1 a ha
    rw [fs_ne (by omega)] at q1
    rw [fr_ne (by omega)] at q2
    exact ⟨q1, q2⟩
  have lob : ∀ a, a < 26 → sh2 a = shB X a ∧ c2 a = cB xs a := fun a ha => by
    obtain ⟨q1, q2⟩ := lo a (by omega)
    obtain ⟨q3, q4⟩ := low1 a ha
    rw [fs_ne (by omega)] at q3
    rw [fr_ne (by omega)] at q4
    exact ⟨q1.trans q3, q2.trans q4⟩
  have h25 : sh2 25 = (5, X, []) := (lob 25 (by omega)).1.trans (if_neg (by omega))
  have hx : c2 25 = xs := (lob 25 (by omega)).2.trans (if_neg (by omega))
  have hst : STRS sh2 c2 := fun a ha => ⟨(lob a (by omega)).1.trans (if_pos ha), (lob a (by omega)).2.trans (if_pos ha)⟩
  have hI := inv0 (n := n2) (by omega) h25 hx hst (hN1.up lo) hB2
  have q := loop279 (X := X) (xs := xs) hl hb 512 0 115 n2 sh2 c2 (by omega) (by omega) hI
  rw [show 6 * ((0 : Nat) : Int) = 0 from rfl] at q
  exact q

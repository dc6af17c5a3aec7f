/-! the reference's constructor -/
def rsN (k : Nat) : List (Option Nat) := (List.range 39).map fun j => if j < k then some (76 + j) else none
theorem rsN_all : rsN 39 = rsM := by decide
theorem o11_new : ([.inl 0, .inr (.inr (.inl none)), .inr (.inr (.inl none)), .inr (.inr (.inl none)), .inr (.inr (.inl none)), .inr (.inr (.inl none)), .inr (.inr (.inl none)), .inr (.inr (.inl none)), .inr (.inr (.inl none)), .inr (.inr (.inl none)), .inr (.inr (.inl none)), .inr (.inr (.inl none)), .inr (.inr (.inl none)), .inr (.inr (.inl none)), .inr (.inr (.inl none)), .inr (.inr (.inl none)), .inr (.inr (.inl none)), .inr (.inr (.inl none)), .inr (.inr (.inl none)), .inr (.inr (.inl none)), .inl 0, .inl 0, .inl 0, .inl 0, .inl 0, .inl 0, .inl 0, .inl 0, .inl 0, .inl 0, .inl 0, .inr (.inr (.inl none)), .inr (.inr (.inl none)), .inr (.inr (.inl none)), .inr (.inr (.inl none)), .inr (.inr (.inl none)), .inr (.inr (.inl none)), .inr (.inr (.inl none)), .inr (.inr (.inl none)), .inr (.inr (.inl none)), .inr (.inr (.inl none)), .inr (.inr (.inl none)), .inr (.inr (.inl none)), .inr (.inr (.inl none)), .inr (.inr (.inl none)), .inl 0, .inl 0, .inl 0, .inr (.inr (.inl none)), .inr (.inr (.inl none)), .inl 0, .inl 0, .inr (.inr (.inl none)), .inr (.inr (.inl none)), .inr (.inr (.inl none)), .inr (.inr (.inl none)), .inl 0, .inl 0] : List AV) = ob 11 (rsN 0) (fun _ => 0) := rfl
theorem n11_len {k : Nat} {f : Int → Int} : (ob 11 (rsN k) f).length = 58 := rfl
theorem n11_30 {k : Nat} {f : Int → Int} {v : Int} : (ob 11 (rsN k) f).set 30 (.inl v) = ob 11 (rsN k) (fu f 30 v) := rfl
theorem n11_r0 {f : Int → Int} : (ob 11 (rsN 0) f).set 1 (.inr (.inr (.inl (some 76)))) = ob 11 (rsN 1) f := rfl
theorem n11_r1 {f : Int → Int} : (ob 11 (rsN 1) f).set 2 (.inr (.inr (.inl (some 77)))) = ob 11 (rsN 2) f := rfl
theorem n11_r2 {f : Int → Int} : (ob 11 (rsN 2) f).set 3 (.inr (.inr (.inl (some 78)))) = ob 11 (rsN 3) f := rfl
theorem n11_r3 {f : Int → Int} : (ob 11 (rsN 3) f).set 4 (.inr (.inr (.inl (some 79)))) = ob 11 (rsN 4) f := rfl
theorem n11_r4 {f : Int → Int} : (ob 11 (rsN 4) f).set 5 (.inr (.inr (.inl (some 80)))) = ob 11 (rsN 5) f := rfl
theorem n11_r5 {f : Int → Int} : (ob 11 (rsN 5) f).set 6 (.inr (.inr (.inl (some 81)))) = ob 11 (rsN 6) f := rfl
theorem n11_r6 {f : Int → Int} : (ob 11 (rsN 6) f).set 7 (.inr (.inr (.inl (some 82)))) = ob 11 (rsN 7) f := rfl
theorem n11_r7 {f : Int → Int} : (ob 11 (rsN 7) f).set 8 (.inr (.inr (.inl (some 83)))) = ob 11 (rsN 8) f := rfl
theorem n11_r8 {f : Int → Int} : (ob 11 (rsN 8) f).set 9 (.inr (.inr (.inl (some 84)))) = ob 11 (rsN 9) f := rfl
theorem n11_r9 {f : Int → Int} : (ob 11 (rsN 9) f).set 10 (.inr (.inr (.inl (some 85)))) = ob 11 (rsN 10) f := rfl
theorem n11_r10 {f : Int → Int} : (ob 11 (rsN 10) f).set 11 (.inr (.inr (.inl (some 86)))) = ob 11 (rsN 11) f := rfl
theorem n11_r11 {f : Int → Int} : (ob 11 (rsN 11) f).set 12 (.inr (.inr (.inl (some 87)))) = ob 11 (rsN 12) f := rfl
theorem n11_r12 {f : Int → Int} : (ob 11 (rsN 12) f).set 13 (.inr (.inr (.inl (some 88)))) = ob 11 (rsN 13) f := rfl
theorem n11_r13 {f : Int → Int} : (ob 11 (rsN 13) f).set 14 (.inr (.inr (.inl (some 89)))) = ob 11 (rsN 14) f := rfl
theorem n11_r14 {f : Int → Int} : (ob 11 (rsN 14) f).set 15 (.inr (.inr (.inl (some 90)))) = ob 11 (rsN 15) f := rfl
theorem n11_r15 {f : Int → Int} : (ob 11 (rsN 15) f).set 16 (.inr (.inr (.inl (some 91)))) = ob 11 (rsN 16) f := rfl
theorem n11_r16 {f : Int → Int} : (ob 11 (rsN 16) f).set 17 (.inr (.inr (.inl (some 92)))) = ob 11 (rsN 17) f := rfl
theorem n11_r17 {f : Int → Int} : (ob 11 (rsN 17) f).set 18 (.inr (.inr (.inl (some 93)))) = ob 11 (rsN 18) f := rfl
theorem n11_r18 {f : Int → Int} : (ob 11 (rsN 18) f).set 19 (.inr (.inr (.inl (some 94)))) = ob 11 (rsN 19) f := rfl
theorem n11_r19 {f : Int → Int} : (ob 11 (rsN 19) f).set 31 (.inr (.inr (.inl (some 95)))) = ob 11 (rsN 20) f := rfl
theorem n11_r20 {f : Int → Int} : (ob 11 (rsN 20) f).set 32 (.inr (.inr (.inl (some 96)))) = ob 11 (rsN 21) f := rfl
theorem n11_r21 {f : Int → Int} : (ob 11 (rsN 21) f).set 33 (.inr (.inr (.inl (some 97)))) = ob 11 (rsN 22) f := rfl
theorem n11_r22 {f : Int → Int} : (ob 11 (rsN 22) f).set 34 (.inr (.inr (.inl (some 98)))) = ob 11 (rsN 23) f := rfl
theorem n11_r23 {f : Int → Int} : (ob 11 (rsN 23) f).set 35 (.inr (.inr (.inl (some 99)))) = ob 11 (rsN 24) f := rfl
theorem n11_r24 {f : Int → Int} : (ob 11 (rsN 24) f).set 36 (.inr (.inr (.inl (some 100)))) = ob 11 (rsN 25) f := rfl
theorem n11_r25 {f : Int → Int} : (ob 11 (rsN 25) f).set 37 (.inr (.inr (.inl (some 101)))) = ob 11 (rsN 26) f := rfl
theorem n11_r26 {f : Int → Int} : (ob 11 (rsN 26) f).set 38 (.inr (.inr (.inl (some 102)))) = ob 11 (rsN 27) f := rfl
theorem n11_r27 {f : Int → Int} : (ob 11 (rsN 27) f).set 39 (.inr (.inr (.inl (some 103)))) = ob 11 (rsN 28) f := rfl
theorem n11_r28 {f : Int → Int} : (ob 11 (rsN 28) f).set 40 (.inr (.inr (.inl (some 104)))) = ob 11 (rsN 29) f := rfl
theorem n11_r29 {f : Int → Int} : (ob 11 (rsN 29) f).set 41 (.inr (.inr (.inl (some 105)))) = ob 11 (rsN 30) f := rfl
theorem n11_r30 {f : Int → Int} : (ob 11 (rsN 30) f).set 42 (.inr (.inr (.inl (some 106)))) = ob 11 (rsN 31) f := rfl
theorem n11_r31 {f : Int → Int} : (ob 11 (rsN 31) f).set 43 (.inr (.inr (.inl (some 107)))) = ob 11 (rsN 32) f := rfl
theorem n11_r32 {f : Int → Int} : (ob 11 (rsN 32) f).set 44 (.inr (.inr (.inl (some 108)))) = ob 11 (rsN 33) f := rfl
theorem n11_r33 {f : Int → Int} : (ob 11 (rsN 33) f).set 48 (.inr (.inr (.inl (some 109)))) = ob 11 (rsN 34) f := rfl
theorem n11_r34 {f : Int → Int} : (ob 11 (rsN 34) f).set 49 (.inr (.inr (.inl (some 110)))) = ob 11 (rsN 35) f := rfl
theorem n11_r35 {f : Int → Int} : (ob 11 (rsN 35) f).set 52 (.inr (.inr (.inl (some 111)))) = ob 11 (rsN 36) f := rfl
theorem n11_r36 {f : Int → Int} : (ob 11 (rsN 36) f).set 53 (.inr (.inr (.inl (some 112)))) = ob 11 (rsN 37) f := rfl
theorem n11_r37 {f : Int → Int} : (ob 11 (rsN 37) f).set 54 (.inr (.inr (.inl (some 113)))) = ob 11 (rsN 38) f := rfl
theorem n11_r38 {f : Int → Int} : (ob 11 (rsN 38) f).set 55 (.inr (.inr (.inl (some 114)))) = ob 11 (rsN 39) f := rfl
def BLD (k : Nat) (sh0 : Nat → SH) (c0 : Nat → Int → Int) (sh : Nat → SH) (c : Nat → Int → Int) : Prop := sh 75 = (6, 11, rsN k) ∧ (∀ a, a < 75 → sh a = sh0 a ∧ c a = c0 a) ∧ (∀ j, j < k → sh (76 + j) = shT (76 + j)) ∧ (∀ j, 1 ≤ j → j < k → c (76 + j) = fun _ => 0) ∧ (0 < k → c 76 = fu (fun _ => 0) 12 (-1)) ∧ (c 75 21 = 0 ∧ c 75 25 = 0 ∧ c 75 45 = 0) ∧ (20 ≤ k → c 75 30 = 9)
section BLDS
variable {sh0 sh : Nat → SH} {c0 c : Nat → Int → Int} {n : Nat} {Q : Option AV → List SC → Nat → Prop}
theorem BLD.nx {k : Nat} {S : SH} {f : Int → Int} (h : BLD k sh0 c0 sh c) (hk : 1 ≤ k) (hS : shT (76 + k) = S) (hf : f 21 = c 75 21 ∧ f 25 = c 75 25 ∧ f 45 = c 75 45) (hf2 : 20 ≤ k → f 30 = c 75 30) (hf3 : k = 19 → f 30 = 9) : BLD (k + 1) sh0 c0 (fs (fs sh (76 + k) S) 75 (6, 11, rsN (k + 1))) (fr (fr c (76 + k) (fun _ => 0)) 75 f) := by
  obtain ⟨h1, h2, h3, h4, h5, ⟨h6, h7, h8⟩, h9⟩ := h
  refine ⟨fs_same _ _ _, fun a ha => ⟨?_, ?_⟩, fun j hj => ?_, fun j j1 hj => ?_, fun _ => ?_, ⟨?_, ?_, ?_⟩, fun hk2 => ?_⟩
  · rw [fs_ne (by omega), fs_ne (by omega)]
    exact (h2 a ha).1
  · rw [fr_ne (by omega), fr_ne (by omega)]
    exact (h2 a ha).2
  · rw [fs_ne (by omega)]
    by_cases q : j = k
    · rw [q, fs_same]
      exact hS.symm
    · rw [fs_ne (by omega)]
      exact h3 j (by omega)
  · rw [fr_ne (by omega)]
    by_cases q : j = k
    · rw [q, fr_same]
    · rw [fr_ne (by omega)]
      exact h4 j j1 (by omega)
  · rw [fr_ne (by omega), fr_ne (by omega)]
    exact h5 (by omega)
  · rw [fr_same, hf.1]
    exact h6
  · rw [fr_same, hf.2.1]
    exact h7
  · rw [fr_same, hf.2.2]
    exact h8
  · rw [fr_same]
    by_cases q : k = 19
    · exact hf3 q
    · rw [hf2 (by omega)]
      exact h9 (by omega)
theorem t163_0 (h : BLD 0 sh0 c0 sh c) (hq : ∀ sh' c', BLD 1 sh0 c0 sh' c' → tc_W 163 71 [rf 75] [] (hp 77 sh' c') (n + 13) Q) : tc_W 163 4 [rf 75] [] (hp 76 sh c) n Q := by
  repeat' (simp (disch := first | omega | exact Nat.le_of_ble_eq_true rfl | exact rfl | assumption | (simp (disch := omega) only [fr_ne, fr_same]; first | assumption | omega)) only [r163_4, r163_5, r163_7, r163_9, r163_9A, r163_10, r163_11, r163_12, r163_13, r163_13A, r163_14, r163_15, r163_16, r163_17, r163_17A, r163_18, r163_19, r163_20, r163_21, r163_21A, r163_22, r163_23, r163_24, r163_25, r163_25A, r163_26, r163_27, r163_28, r163_29, r163_29A, r163_30, r163_31, r163_32, r163_33, r163_33A, r163_34, r163_36, r163_37, r163_38, r163_38A, r163_39, r163_41, r163_42, r163_43, r163_43A, r163_44, r163_46, r163_47, r163_48, r163_48A, r163_49, r163_51, r163_52, r163_53, r163_53A, r163_54, r163_56, r163_57, r163_58, r163_58A, r163_59, r163_61, r163_62, r163_63, r163_63A, r163_64, r163_66, r163_67, r163_68, p11_9_11, il_s, bl_s, bl_z, ll_s, is_s, bs_s, bs_z, ls_s, al_s, al_b, al_l, fr_ne, fr_same, fr_fr, Nat.reduceEqDiff, tc_gf3_s, tc_ql2_s, tc_ws_0, tc_ws_i, tc_ws_l, tc_ws_r, Nat.reduceLeDiff, Nat.reduceAdd, Nat.reduceLT, true_and, and_true, if_true, if_false, tc_K, Option.toList_some, Option.toList_none, List.nil_append, List.cons_append, ite_true, ite_false, Int.cast_ofNat_Int, reduceIte, i3_add_eq, i3_sub_eq, Int.add_sub_cancel, Int.add_neg_cancel_right, hp_get, hp_len, h.1, fs_same, fs_ne, px_o, px_i, hOr, hIr, nap_i, Int.reduceToNat, n11_r0, n11_len])
  refine hq _ _ ?_
  obtain ⟨h1, h2, h3, h4, h5, ⟨h6, h7, h8⟩, h9⟩ := h
  refine ⟨by simp only [fs_same], fun a ha => ⟨?_, ?_⟩, fun j hj => ?_, fun j j1 hj => by omega, fun _ => ?_, ⟨?_, ?_, ?_⟩, fun hk2 => by omega⟩
  · simp (disch := omega) only [fs_ne]
    exact (h2 a ha).1
  · simp (disch := omega) only [fr_ne]
    exact (h2 a ha).2
  · rw [show j = 0 by omega]
    simp (disch := omega) only [fs_ne, fs_same]
    rfl
  · simp (disch := omega) only [fr_ne, fr_same]
    funext j
    simp only [fu_at, ite_self]
  · simp (disch := omega) only [fr_ne, fr_same]
    exact h6
  · simp (disch := omega) only [fr_ne, fr_same]
    exact h7
  · simp (disch := omega) only [fr_ne, fr_same]
    exact h8
theorem t163_1 (h : BLD 1 sh0 c0 sh c) (hq : ∀ sh' c', BLD 2 sh0 c0 sh' c' → tc_W 163 79 [rf 75] [] (hp 78 sh' c') (n + 25) Q) : tc_W 163 71 [rf 75] [] (hp 77 sh c) n Q := by
  repeat' (simp (disch := first | omega | exact Nat.le_of_ble_eq_true rfl | exact rfl | assumption | (simp (disch := omega) only [fr_ne, fr_same]; first | assumption | omega)) only [r163_71, r163_72, r163_74, r163_76, p11_13_11, il_s, bl_s, bl_z, ll_s, is_s, bs_s, bs_z, ls_s, al_s, al_b, al_l, fr_ne, fr_same, fr_fr, Nat.reduceEqDiff, tc_gf3_s, tc_ql2_s, tc_ws_0, tc_ws_i, tc_ws_l, tc_ws_r, Nat.reduceLeDiff, Nat.reduceAdd, Nat.reduceLT, true_and, and_true, if_true, if_false, tc_K, Option.toList_some, Option.toList_none, List.nil_append, List.cons_append, ite_true, ite_false, Int.cast_ofNat_Int, reduceIte, i3_add_eq, i3_sub_eq, Int.add_sub_cancel, Int.add_neg_cancel_right, hp_get, hp_len, h.1, fs_same, fs_ne, px_o, px_i, hOr, hIr, nap_i, Int.reduceToNat, n11_r1, n11_len])
  exact hq _ _ (h.nx (k := 1) (S := (0, 25, [])) (by omega) rfl ⟨rfl, rfl, rfl⟩ (fun _ => rfl) (fun q => by omega))
theorem t163_2 (h : BLD 2 sh0 c0 sh c) (hq : ∀ sh' c', BLD 3 sh0 c0 sh' c' → tc_W 163 87 [rf 75] [] (hp 79 sh' c') (n + 25) Q) : tc_W 163 79 [rf 75] [] (hp 78 sh c) n Q := by
  repeat' (simp (disch := first | omega | exact Nat.le_of_ble_eq_true rfl | exact rfl | assumption | (simp (disch := omega) only [fr_ne, fr_same]; first | assumption | omega)) only [r163_79, r163_80, r163_82, r163_84, p11_16_11, il_s, bl_s, bl_z, ll_s, is_s, bs_s, bs_z, ls_s, al_s, al_b, al_l, fr_ne, fr_same, fr_fr, Nat.reduceEqDiff, tc_gf3_s, tc_ql2_s, tc_ws_0, tc_ws_i, tc_ws_l, tc_ws_r, Nat.reduceLeDiff, Nat.reduceAdd, Nat.reduceLT, true_and, and_true, if_true, if_false, tc_K, Option.toList_some, Option.toList_none, List.nil_append, List.cons_append, ite_true, ite_false, Int.cast_ofNat_Int, reduceIte, i3_add_eq, i3_sub_eq, Int.add_sub_cancel, Int.add_neg_cancel_right, hp_get, hp_len, h.1, fs_same, fs_ne, px_o, px_i, hOr, hIr, nap_i, Int.reduceToNat, n11_r2, n11_len])
  exact hq _ _ (h.nx (k := 2) (S := (0, 25, [])) (by omega) rfl ⟨rfl, rfl, rfl⟩ (fun _ => rfl) (fun q => by omega))
theorem t163_3 (h : BLD 3 sh0 c0 sh c) (hq : ∀ sh' c', BLD 4 sh0 c0 sh' c' → tc_W 163 95 [rf 75] [] (hp 80 sh' c') (n + 6) Q) : tc_W 163 87 [rf 75] [] (hp 79 sh c) n Q := by
  repeat' (simp (disch := first | omega | exact Nat.le_of_ble_eq_true rfl | exact rfl | assumption | (simp (disch := omega) only [fr_ne, fr_same]; first | assumption | omega)) only [r163_87, r163_88, r163_90, r163_92, p11_19_11, il_s, bl_s, bl_z, ll_s, is_s, bs_s, bs_z, ls_s, al_s, al_b, al_l, fr_ne, fr_same, fr_fr, Nat.reduceEqDiff, tc_gf3_s, tc_ql2_s, tc_ws_0, tc_ws_i, tc_ws_l, tc_ws_r, Nat.reduceLeDiff, Nat.reduceAdd, Nat.reduceLT, true_and, and_true, if_true, if_false, tc_K, Option.toList_some, Option.toList_none, List.nil_append, List.cons_append, ite_true, ite_false, Int.cast_ofNat_Int, reduceIte, i3_add_eq, i3_sub_eq, Int.add_sub_cancel, Int.add_neg_cancel_right, hp_get, hp_len, h.1, fs_same, fs_ne, px_o, px_i, hOr, hIr, nap_i, Int.reduceToNat, n11_r3, n11_len])
  exact hq _ _ (h.nx (k := 3) (S := (0, 6, [])) (by omega) rfl ⟨rfl, rfl, rfl⟩ (fun _ => rfl) (fun q => by omega))
theorem t163_4 (h : BLD 4 sh0 c0 sh c) (hq : ∀ sh' c', BLD 5 sh0 c0 sh' c' → tc_W 163 103 [rf 75] [] (hp 81 sh' c') (n + 6) Q) : tc_W 163 95 [rf 75] [] (hp 80 sh c) n Q := by
  repeat' (simp (disch := first | omega | exact Nat.le_of_ble_eq_true rfl | exact rfl | assumption | (simp (disch := omega) only [fr_ne, fr_same]; first | assumption | omega)) only [r163_95, r163_96, r163_98, r163_100, p11_22_11, il_s, bl_s, bl_z, ll_s, is_s, bs_s, bs_z, ls_s, al_s, al_b, al_l, fr_ne, fr_same, fr_fr, Nat.reduceEqDiff, tc_gf3_s, tc_ql2_s, tc_ws_0, tc_ws_i, tc_ws_l, tc_ws_r, Nat.reduceLeDiff, Nat.reduceAdd, Nat.reduceLT, true_and, and_true, if_true, if_false, tc_K, Option.toList_some, Option.toList_none, List.nil_append, List.cons_append, ite_true, ite_false, Int.cast_ofNat_Int, reduceIte, i3_add_eq, i3_sub_eq, Int.add_sub_cancel, Int.add_neg_cancel_right, hp_get, hp_len, h.1, fs_same, fs_ne, px_o, px_i, hOr, hIr, nap_i, Int.reduceToNat, n11_r4, n11_len])
  exact hq _ _ (h.nx (k := 4) (S := (0, 6, [])) (by omega) rfl ⟨rfl, rfl, rfl⟩ (fun _ => rfl) (fun q => by omega))
theorem t163_5 (h : BLD 5 sh0 c0 sh c) (hq : ∀ sh' c', BLD 6 sh0 c0 sh' c' → tc_W 163 111 [rf 75] [] (hp 82 sh' c') (n + 6) Q) : tc_W 163 103 [rf 75] [] (hp 81 sh c) n Q := by
  repeat' (simp (disch := first | omega | exact Nat.le_of_ble_eq_true rfl | exact rfl | assumption | (simp (disch := omega) only [fr_ne, fr_same]; first | assumption | omega)) only [r163_103, r163_104, r163_106, r163_108, p11_25_11, il_s, bl_s, bl_z, ll_s, is_s, bs_s, bs_z, ls_s, al_s, al_b, al_l, fr_ne, fr_same, fr_fr, Nat.reduceEqDiff, tc_gf3_s, tc_ql2_s, tc_ws_0, tc_ws_i, tc_ws_l, tc_ws_r, Nat.reduceLeDiff, Nat.reduceAdd, Nat.reduceLT, true_and, and_true, if_true, if_false, tc_K, Option.toList_some, Option.toList_none, List.nil_append, List.cons_append, ite_true, ite_false, Int.cast_ofNat_Int, reduceIte, i3_add_eq, i3_sub_eq, Int.add_sub_cancel, Int.add_neg_cancel_right, hp_get, hp_len, h.1, fs_same, fs_ne, px_o, px_i, hOr, hIr, nap_i, Int.reduceToNat, n11_r5, n11_len])
  exact hq _ _ (h.nx (k := 5) (S := (0, 6, [])) (by omega) rfl ⟨rfl, rfl, rfl⟩ (fun _ => rfl) (fun q => by omega))
theorem t163_6 (h : BLD 6 sh0 c0 sh c) (hq : ∀ sh' c', BLD 7 sh0 c0 sh' c' → tc_W 163 119 [rf 75] [] (hp 83 sh' c') (n + 6) Q) : tc_W 163 111 [rf 75] [] (hp 82 sh c) n Q := by
  repeat' (simp (disch := first | omega | exact Nat.le_of_ble_eq_true rfl | exact rfl | assumption | (simp (disch := omega) only [fr_ne, fr_same]; first | assumption | omega)) only [r163_111, r163_112, r163_114, r163_116, p11_28_11, il_s, bl_s, bl_z, ll_s, is_s, bs_s, bs_z, ls_s, al_s, al_b, al_l, fr_ne, fr_same, fr_fr, Nat.reduceEqDiff, tc_gf3_s, tc_ql2_s, tc_ws_0, tc_ws_i, tc_ws_l, tc_ws_r, Nat.reduceLeDiff, Nat.reduceAdd, Nat.reduceLT, true_and, and_true, if_true, if_false, tc_K, Option.toList_some, Option.toList_none, List.nil_append, List.cons_append, ite_true, ite_false, Int.cast_ofNat_Int, reduceIte, i3_add_eq, i3_sub_eq, Int.add_sub_cancel, Int.add_neg_cancel_right, hp_get, hp_len, h.1, fs_same, fs_ne, px_o, px_i, hOr, hIr, nap_i, Int.reduceToNat, n11_r6, n11_len])
  exact hq _ _ (h.nx (k := 6) (S := (0, 6, [])) (by omega) rfl ⟨rfl, rfl, rfl⟩ (fun _ => rfl) (fun q => by omega))
theorem t163_7 (h : BLD 7 sh0 c0 sh c) (hq : ∀ sh' c', BLD 8 sh0 c0 sh' c' → tc_W 163 127 [rf 75] [] (hp 84 sh' c') (n + 12) Q) : tc_W 163 119 [rf 75] [] (hp 83 sh c) n Q := by
  repeat' (simp (disch := first | omega | exact Nat.le_of_ble_eq_true rfl | exact rfl | assumption | (simp (disch := omega) only [fr_ne, fr_same]; first | assumption | omega)) only [r163_119, r163_120, r163_122, r163_124, p11_31_11, il_s, bl_s, bl_z, ll_s, is_s, bs_s, bs_z, ls_s, al_s, al_b, al_l, fr_ne, fr_same, fr_fr, Nat.reduceEqDiff, tc_gf3_s, tc_ql2_s, tc_ws_0, tc_ws_i, tc_ws_l, tc_ws_r, Nat.reduceLeDiff, Nat.reduceAdd, Nat.reduceLT, true_and, and_true, if_true, if_false, tc_K, Option.toList_some, Option.toList_none, List.nil_append, List.cons_append, ite_true, ite_false, Int.cast_ofNat_Int, reduceIte, i3_add_eq, i3_sub_eq, Int.add_sub_cancel, Int.add_neg_cancel_right, hp_get, hp_len, h.1, fs_same, fs_ne, px_o, px_i, hOr, hIr, nap_i, Int.reduceToNat, n11_r7, n11_len])
  exact hq _ _ (h.nx (k := 7) (S := (0, 12, [])) (by omega) rfl ⟨rfl, rfl, rfl⟩ (fun _ => rfl) (fun q => by omega))
theorem t163_8 (h : BLD 8 sh0 c0 sh c) (hq : ∀ sh' c', BLD 9 sh0 c0 sh' c' → tc_W 163 135 [rf 75] [] (hp 85 sh' c') (n + 10) Q) : tc_W 163 127 [rf 75] [] (hp 84 sh c) n Q := by
  repeat' (simp (disch := first | omega | exact Nat.le_of_ble_eq_true rfl | exact rfl | assumption | (simp (disch := omega) only [fr_ne, fr_same]; first | assumption | omega)) only [r163_127, r163_128, r163_130, r163_132, p11_34_11, il_s, bl_s, bl_z, ll_s, is_s, bs_s, bs_z, ls_s, al_s, al_b, al_l, fr_ne, fr_same, fr_fr, Nat.reduceEqDiff, tc_gf3_s, tc_ql2_s, tc_ws_0, tc_ws_i, tc_ws_l, tc_ws_r, Nat.reduceLeDiff, Nat.reduceAdd, Nat.reduceLT, true_and, and_true, if_true, if_false, tc_K, Option.toList_some, Option.toList_none, List.nil_append, List.cons_append, ite_true, ite_false, Int.cast_ofNat_Int, reduceIte, i3_add_eq, i3_sub_eq, Int.add_sub_cancel, Int.add_neg_cancel_right, hp_get, hp_len, h.1, fs_same, fs_ne, px_o, px_i, hOr, hIr, nap_i, Int.reduceToNat, n11_r8, n11_len])
  exact hq _ _ (h.nx (k := 8) (S := (0, 10, [])) (by omega) rfl ⟨rfl, rfl, rfl⟩ (fun _ => rfl) (fun q => by omega))
theorem t163_9 (h : BLD 9 sh0 c0 sh c) (hq : ∀ sh' c', BLD 10 sh0 c0 sh' c' → tc_W 163 143 [rf 75] [] (hp 86 sh' c') (n + 10) Q) : tc_W 163 135 [rf 75] [] (hp 85 sh c) n Q := by
  repeat' (simp (disch := first | omega | exact Nat.le_of_ble_eq_true rfl | exact rfl | assumption | (simp (disch := omega) only [fr_ne, fr_same]; first | assumption | omega)) only [r163_135, r163_136, r163_138, r163_140, p11_37_11, il_s, bl_s, bl_z, ll_s, is_s, bs_s, bs_z, ls_s, al_s, al_b, al_l, fr_ne, fr_same, fr_fr, Nat.reduceEqDiff, tc_gf3_s, tc_ql2_s, tc_ws_0, tc_ws_i, tc_ws_l, tc_ws_r, Nat.reduceLeDiff, Nat.reduceAdd, Nat.reduceLT, true_and, and_true, if_true, if_false, tc_K, Option.toList_some, Option.toList_none, List.nil_append, List.cons_append, ite_true, ite_false, Int.cast_ofNat_Int, reduceIte, i3_add_eq, i3_sub_eq, Int.add_sub_cancel, Int.add_neg_cancel_right, hp_get, hp_len, h.1, fs_same, fs_ne, px_o, px_i, hOr, hIr, nap_i, Int.reduceToNat, n11_r9, n11_len])
  exact hq _ _ (h.nx (k := 9) (S := (0, 10, [])) (by omega) rfl ⟨rfl, rfl, rfl⟩ (fun _ => rfl) (fun q => by omega))
theorem t163_10 (h : BLD 10 sh0 c0 sh c) (hq : ∀ sh' c', BLD 11 sh0 c0 sh' c' → tc_W 163 151 [rf 75] [] (hp 87 sh' c') (n + 10) Q) : tc_W 163 143 [rf 75] [] (hp 86 sh c) n Q := by
  repeat' (simp (disch := first | omega | exact Nat.le_of_ble_eq_true rfl | exact rfl | assumption | (simp (disch := omega) only [fr_ne, fr_same]; first | assumption | omega)) only [r163_143, r163_144, r163_146, r163_148, p11_40_11, il_s, bl_s, bl_z, ll_s, is_s, bs_s, bs_z, ls_s, al_s, al_b, al_l, fr_ne, fr_same, fr_fr, Nat.reduceEqDiff, tc_gf3_s, tc_ql2_s, tc_ws_0, tc_ws_i, tc_ws_l, tc_ws_r, Nat.reduceLeDiff, Nat.reduceAdd, Nat.reduceLT, true_and, and_true, if_true, if_false, tc_K, Option.toList_some, Option.toList_none, List.nil_append, List.cons_append, ite_true, ite_false, Int.cast_ofNat_Int, reduceIte, i3_add_eq, i3_sub_eq, Int.add_sub_cancel, Int.add_neg_cancel_right, hp_get, hp_len, h.1, fs_same, fs_ne, px_o, px_i, hOr, hIr, nap_i, Int.reduceToNat, n11_r10, n11_len])
  exact hq _ _ (h.nx (k := 10) (S := (0, 10, [])) (by omega) rfl ⟨rfl, rfl, rfl⟩ (fun _ => rfl) (fun q => by omega))
theorem t163_11 (h : BLD 11 sh0 c0 sh c) (hq : ∀ sh' c', BLD 12 sh0 c0 sh' c' → tc_W 163 159 [rf 75] [] (hp 88 sh' c') (n + 25) Q) : tc_W 163 151 [rf 75] [] (hp 87 sh c) n Q := by
  repeat' (simp (disch := first | omega | exact Nat.le_of_ble_eq_true rfl | exact rfl | assumption | (simp (disch := omega) only [fr_ne, fr_same]; first | assumption | omega)) only [r163_151, r163_152, r163_154, r163_156, p11_43_11, il_s, bl_s, bl_z, ll_s, is_s, bs_s, bs_z, ls_s, al_s, al_b, al_l, fr_ne, fr_same, fr_fr, Nat.reduceEqDiff, tc_gf3_s, tc_ql2_s, tc_ws_0, tc_ws_i, tc_ws_l, tc_ws_r, Nat.reduceLeDiff, Nat.reduceAdd, Nat.reduceLT, true_and, and_true, if_true, if_false, tc_K, Option.toList_some, Option.toList_none, List.nil_append, List.cons_append, ite_true, ite_false, Int.cast_ofNat_Int, reduceIte, i3_add_eq, i3_sub_eq, Int.add_sub_cancel, Int.add_neg_cancel_right, hp_get, hp_len, h.1, fs_same, fs_ne, px_o, px_i, hOr, hIr, nap_i, Int.reduceToNat, n11_r11, n11_len])
  exact hq _ _ (h.nx (k := 11) (S := (0, 25, [])) (by omega) rfl ⟨rfl, rfl, rfl⟩ (fun _ => rfl) (fun q => by omega))
theorem t163_12 (h : BLD 12 sh0 c0 sh c) (hq : ∀ sh' c', BLD 13 sh0 c0 sh' c' → tc_W 163 167 [rf 75] [] (hp 89 sh' c') (n + 6) Q) : tc_W 163 159 [rf 75] [] (hp 88 sh c) n Q := by
  repeat' (simp (disch := first | omega | exact Nat.le_of_ble_eq_true rfl | exact rfl | assumption | (simp (disch := omega) only [fr_ne, fr_same]; first | assumption | omega)) only [r163_159, r163_160, r163_162, r163_164, p11_46_11, il_s, bl_s, bl_z, ll_s, is_s, bs_s, bs_z, ls_s, al_s, al_b, al_l, fr_ne, fr_same, fr_fr, Nat.reduceEqDiff, tc_gf3_s, tc_ql2_s, tc_ws_0, tc_ws_i, tc_ws_l, tc_ws_r, Nat.reduceLeDiff, Nat.reduceAdd, Nat.reduceLT, true_and, and_true, if_true, if_false, tc_K, Option.toList_some, Option.toList_none, List.nil_append, List.cons_append, ite_true, ite_false, Int.cast_ofNat_Int, reduceIte, i3_add_eq, i3_sub_eq, Int.add_sub_cancel, Int.add_neg_cancel_right, hp_get, hp_len, h.1, fs_same, fs_ne, px_o, px_i, hOr, hIr, nap_i, Int.reduceToNat, n11_r12, n11_len])
  exact hq _ _ (h.nx (k := 12) (S := (0, 6, [])) (by omega) rfl ⟨rfl, rfl, rfl⟩ (fun _ => rfl) (fun q => by omega))
theorem t163_13 (h : BLD 13 sh0 c0 sh c) (hq : ∀ sh' c', BLD 14 sh0 c0 sh' c' → tc_W 163 175 [rf 75] [] (hp 90 sh' c') (n + 8) Q) : tc_W 163 167 [rf 75] [] (hp 89 sh c) n Q := by
  repeat' (simp (disch := first | omega | exact Nat.le_of_ble_eq_true rfl | exact rfl | assumption | (simp (disch := omega) only [fr_ne, fr_same]; first | assumption | omega)) only [r163_167, r163_168, r163_170, r163_172, p11_49_11, il_s, bl_s, bl_z, ll_s, is_s, bs_s, bs_z, ls_s, al_s, al_b, al_l, fr_ne, fr_same, fr_fr, Nat.reduceEqDiff, tc_gf3_s, tc_ql2_s, tc_ws_0, tc_ws_i, tc_ws_l, tc_ws_r, Nat.reduceLeDiff, Nat.reduceAdd, Nat.reduceLT, true_and, and_true, if_true, if_false, tc_K, Option.toList_some, Option.toList_none, List.nil_append, List.cons_append, ite_true, ite_false, Int.cast_ofNat_Int, reduceIte, i3_add_eq, i3_sub_eq, Int.add_sub_cancel, Int.add_neg_cancel_right, hp_get, hp_len, h.1, fs_same, fs_ne, px_o, px_i, hOr, hIr, nap_i, Int.reduceToNat, n11_r13, n11_len])
  exact hq _ _ (h.nx (k := 13) (S := (0, 8, [])) (by omega) rfl ⟨rfl, rfl, rfl⟩ (fun _ => rfl) (fun q => by omega))
theorem t163_14 (h : BLD 14 sh0 c0 sh c) (hq : ∀ sh' c', BLD 15 sh0 c0 sh' c' → tc_W 163 183 [rf 75] [] (hp 91 sh' c') (n + 25) Q) : tc_W 163 175 [rf 75] [] (hp 90 sh c) n Q := by
  repeat' (simp (disch := first | omega | exact Nat.le_of_ble_eq_true rfl | exact rfl | assumption | (simp (disch := omega) only [fr_ne, fr_same]; first | assumption | omega)) only [r163_175, r163_176, r163_178, r163_180, p11_52_11, il_s, bl_s, bl_z, ll_s, is_s, bs_s, bs_z, ls_s, al_s, al_b, al_l, fr_ne, fr_same, fr_fr, Nat.reduceEqDiff, tc_gf3_s, tc_ql2_s, tc_ws_0, tc_ws_i, tc_ws_l, tc_ws_r, Nat.reduceLeDiff, Nat.reduceAdd, Nat.reduceLT, true_and, and_true, if_true, if_false, tc_K, Option.toList_some, Option.toList_none, List.nil_append, List.cons_append, ite_true, ite_false, Int.cast_ofNat_Int, reduceIte, i3_add_eq, i3_sub_eq, Int.add_sub_cancel, Int.add_neg_cancel_right, hp_get, hp_len, h.1, fs_same, fs_ne, px_o, px_i, hOr, hIr, nap_i, Int.reduceToNat, n11_r14, n11_len])
  exact hq _ _ (h.nx (k := 14) (S := (0, 25, [])) (by omega) rfl ⟨rfl, rfl, rfl⟩ (fun _ => rfl) (fun q => by omega))
theorem t163_15 (h : BLD 15 sh0 c0 sh c) (hq : ∀ sh' c', BLD 16 sh0 c0 sh' c' → tc_W 163 191 [rf 75] [] (hp 92 sh' c') (n + 6) Q) : tc_W 163 183 [rf 75] [] (hp 91 sh c) n Q := by
  repeat' (simp (disch := first | omega | exact Nat.le_of_ble_eq_true rfl | exact rfl | assumption | (simp (disch := omega) only [fr_ne, fr_same]; first | assumption | omega)) only [r163_183, r163_184, r163_186, r163_188, p11_55_11, il_s, bl_s, bl_z, ll_s, is_s, bs_s, bs_z, ls_s, al_s, al_b, al_l, fr_ne, fr_same, fr_fr, Nat.reduceEqDiff, tc_gf3_s, tc_ql2_s, tc_ws_0, tc_ws_i, tc_ws_l, tc_ws_r, Nat.reduceLeDiff, Nat.reduceAdd, Nat.reduceLT, true_and, and_true, if_true, if_false, tc_K, Option.toList_some, Option.toList_none, List.nil_append, List.cons_append, ite_true, ite_false, Int.cast_ofNat_Int, reduceIte, i3_add_eq, i3_sub_eq, Int.add_sub_cancel, Int.add_neg_cancel_right, hp_get, hp_len, h.1, fs_same, fs_ne, px_o, px_i, hOr, hIr, nap_i, Int.reduceToNat, n11_r15, n11_len])
  exact hq _ _ (h.nx (k := 15) (S := (0, 6, [])) (by omega) rfl ⟨rfl, rfl, rfl⟩ (fun _ => rfl) (fun q => by omega))
theorem t163_16 (h : BLD 16 sh0 c0 sh c) (hq : ∀ sh' c', BLD 17 sh0 c0 sh' c' → tc_W 163 199 [rf 75] [] (hp 93 sh' c') (n + 6) Q) : tc_W 163 191 [rf 75] [] (hp 92 sh c) n Q := by
  repeat' (simp (disch := first | omega | exact Nat.le_of_ble_eq_true rfl | exact rfl | assumption | (simp (disch := omega) only [fr_ne, fr_same]; first | assumption | omega)) only [r163_191, r163_192, r163_194, r163_196, p11_58_11, il_s, bl_s, bl_z, ll_s, is_s, bs_s, bs_z, ls_s, al_s, al_b, al_l, fr_ne, fr_same, fr_fr, Nat.reduceEqDiff, tc_gf3_s, tc_ql2_s, tc_ws_0, tc_ws_i, tc_ws_l, tc_ws_r, Nat.reduceLeDiff, Nat.reduceAdd, Nat.reduceLT, true_and, and_true, if_true, if_false, tc_K, Option.toList_some, Option.toList_none, List.nil_append, List.cons_append, ite_true, ite_false, Int.cast_ofNat_Int, reduceIte, i3_add_eq, i3_sub_eq, Int.add_sub_cancel, Int.add_neg_cancel_right, hp_get, hp_len, h.1, fs_same, fs_ne, px_o, px_i, hOr, hIr, nap_i, Int.reduceToNat, n11_r16, n11_len])
  exact hq _ _ (h.nx (k := 16) (S := (0, 6, [])) (by omega) rfl ⟨rfl, rfl, rfl⟩ (fun _ => rfl) (fun q => by omega))
theorem t163_17 (h : BLD 17 sh0 c0 sh c) (hq : ∀ sh' c', BLD 18 sh0 c0 sh' c' → tc_W 163 207 [rf 75] [] (hp 94 sh' c') (n + 6) Q) : tc_W 163 199 [rf 75] [] (hp 93 sh c) n Q := by
  repeat' (simp (disch := first | omega | exact Nat.le_of_ble_eq_true rfl | exact rfl | assumption | (simp (disch := omega) only [fr_ne, fr_same]; first | assumption | omega)) only [r163_199, r163_200, r163_202, r163_204, p11_61_11, il_s, bl_s, bl_z, ll_s, is_s, bs_s, bs_z, ls_s, al_s, al_b, al_l, fr_ne, fr_same, fr_fr, Nat.reduceEqDiff, tc_gf3_s, tc_ql2_s, tc_ws_0, tc_ws_i, tc_ws_l, tc_ws_r, Nat.reduceLeDiff, Nat.reduceAdd, Nat.reduceLT, true_and, and_true, if_true, if_false, tc_K, Option.toList_some, Option.toList_none, List.nil_append, List.cons_append, ite_true, ite_false, Int.cast_ofNat_Int, reduceIte, i3_add_eq, i3_sub_eq, Int.add_sub_cancel, Int.add_neg_cancel_right, hp_get, hp_len, h.1, fs_same, fs_ne, px_o, px_i, hOr, hIr, nap_i, Int.reduceToNat, n11_r17, n11_len])
  exact hq _ _ (h.nx (k := 17) (S := (0, 6, [])) (by omega) rfl ⟨rfl, rfl, rfl⟩ (fun _ => rfl) (fun q => by omega))
theorem t163_18 (h : BLD 18 sh0 c0 sh c) (hq : ∀ sh' c', BLD 19 sh0 c0 sh' c' → tc_W 163 215 [rf 75] [] (hp 95 sh' c') (n + 12) Q) : tc_W 163 207 [rf 75] [] (hp 94 sh c) n Q := by
  repeat' (simp (disch := first | omega | exact Nat.le_of_ble_eq_true rfl | exact rfl | assumption | (simp (disch := omega) only [fr_ne, fr_same]; first | assumption | omega)) only [r163_207, r163_208, r163_210, r163_212, p11_64_11, il_s, bl_s, bl_z, ll_s, is_s, bs_s, bs_z, ls_s, al_s, al_b, al_l, fr_ne, fr_same, fr_fr, Nat.reduceEqDiff, tc_gf3_s, tc_ql2_s, tc_ws_0, tc_ws_i, tc_ws_l, tc_ws_r, Nat.reduceLeDiff, Nat.reduceAdd, Nat.reduceLT, true_and, and_true, if_true, if_false, tc_K, Option.toList_some, Option.toList_none, List.nil_append, List.cons_append, ite_true, ite_false, Int.cast_ofNat_Int, reduceIte, i3_add_eq, i3_sub_eq, Int.add_sub_cancel, Int.add_neg_cancel_right, hp_get, hp_len, h.1, fs_same, fs_ne, px_o, px_i, hOr, hIr, nap_i, Int.reduceToNat, n11_r18, n11_len])
  exact hq _ _ (h.nx (k := 18) (S := (0, 12, [])) (by omega) rfl ⟨rfl, rfl, rfl⟩ (fun _ => rfl) (fun q => by omega))
theorem t163_19 (h : BLD 19 sh0 c0 sh c) (hq : ∀ sh' c', BLD 20 sh0 c0 sh' c' → tc_W 163 230 [rf 75] [] (hp 96 sh' c') (n + 400) Q) : tc_W 163 215 [rf 75] [] (hp 95 sh c) n Q := by
  repeat' (simp (disch := first | omega | exact Nat.le_of_ble_eq_true rfl | exact rfl | assumption | (simp (disch := omega) only [fr_ne, fr_same]; first | assumption | omega)) only [r163_215, r163_216, r163_218, r163_221, r163_222, r163_225, r163_227, p11_67_11, p11_71_11, il_s, bl_s, bl_z, ll_s, is_s, bs_s, bs_z, ls_s, al_s, al_b, al_l, fr_ne, fr_same, fr_fr, Nat.reduceEqDiff, tc_gf3_s, tc_ql2_s, tc_ws_0, tc_ws_i, tc_ws_l, tc_ws_r, Nat.reduceLeDiff, Nat.reduceAdd, Nat.reduceLT, true_and, and_true, if_true, if_false, tc_K, Option.toList_some, Option.toList_none, List.nil_append, List.cons_append, ite_true, ite_false, Int.cast_ofNat_Int, reduceIte, i3_add_eq, i3_sub_eq, Int.add_sub_cancel, Int.add_neg_cancel_right, hp_get, hp_len, h.1, fs_same, fs_ne, px_o, px_i, hOr, hIr, nap_b, Int.reduceToNat, n11_r19, n11_len, n11_30])
  refine hq _ _ ?_
  have h2 : BLD 19 sh0 c0 (fs sh 75 (6, 11, rsN 19)) (fr c 75 (fu (c 75) 30 9)) := by
    obtain ⟨h1, h2, h3, h4, h5, ⟨h6, h7, h8⟩, h9⟩ := h
    refine ⟨fs_same _ _ _, fun a ha => ⟨?_, ?_⟩, fun j hj => ?_, fun j j1 hj => ?_, fun _ => ?_, ⟨?_, ?_, ?_⟩, fun hk2 => by omega⟩
    · rw [fs_ne (by omega)]
      exact (h2 a ha).1
    · rw [fr_ne (by omega)]
      exact (h2 a ha).2
    · rw [fs_ne (by omega)]
      exact h3 j hj
    · rw [fr_ne (by omega)]
      exact h4 j j1 hj
    · rw [fr_ne (by omega)]
      exact h5 (by omega)
    · rw [fr_same, fu_ne (by omega)]
      exact h6
    · rw [fr_same, fu_ne (by omega)]
      exact h7
    · rw [fr_same, fu_ne (by omega)]
      exact h8
  exact h2.nx (k := 19) (S := (1, 400, [])) (by omega) rfl (by rw [fr_same]; exact ⟨rfl, rfl, rfl⟩) (fun q => by omega) (fun _ => fu_same _ _ _)
theorem t163_20 (h : BLD 20 sh0 c0 sh c) (hq : ∀ sh' c', BLD 21 sh0 c0 sh' c' → tc_W 163 239 [rf 75] [] (hp 97 sh' c') (n + 1800) Q) : tc_W 163 230 [rf 75] [] (hp 96 sh c) n Q := by
  repeat' (simp (disch := first | omega | exact Nat.le_of_ble_eq_true rfl | exact rfl | assumption | (simp (disch := omega) only [fr_ne, fr_same]; first | assumption | omega)) only [r163_230, r163_231, r163_234, r163_236, p11_75_11, il_s, bl_s, bl_z, ll_s, is_s, bs_s, bs_z, ls_s, al_s, al_b, al_l, fr_ne, fr_same, fr_fr, Nat.reduceEqDiff, tc_gf3_s, tc_ql2_s, tc_ws_0, tc_ws_i, tc_ws_l, tc_ws_r, Nat.reduceLeDiff, Nat.reduceAdd, Nat.reduceLT, true_and, and_true, if_true, if_false, tc_K, Option.toList_some, Option.toList_none, List.nil_append, List.cons_append, ite_true, ite_false, Int.cast_ofNat_Int, reduceIte, i3_add_eq, i3_sub_eq, Int.add_sub_cancel, Int.add_neg_cancel_right, hp_get, hp_len, h.1, fs_same, fs_ne, px_o, px_i, hOr, hIr, nap_i, Int.reduceToNat, n11_r20, n11_len])
  exact hq _ _ (h.nx (k := 20) (S := (0, 1800, [])) (by omega) rfl ⟨rfl, rfl, rfl⟩ (fun _ => rfl) (fun q => by omega))
theorem t163_21 (h : BLD 21 sh0 c0 sh c) (hq : ∀ sh' c', BLD 22 sh0 c0 sh' c' → tc_W 163 248 [rf 75] [] (hp 98 sh' c') (n + 1800) Q) : tc_W 163 239 [rf 75] [] (hp 97 sh c) n Q := by
  repeat' (simp (disch := first | omega | exact Nat.le_of_ble_eq_true rfl | exact rfl | assumption | (simp (disch := omega) only [fr_ne, fr_same]; first | assumption | omega)) only [r163_239, r163_240, r163_243, r163_245, p11_78_11, il_s, bl_s, bl_z, ll_s, is_s, bs_s, bs_z, ls_s, al_s, al_b, al_l, fr_ne, fr_same, fr_fr, Nat.reduceEqDiff, tc_gf3_s, tc_ql2_s, tc_ws_0, tc_ws_i, tc_ws_l, tc_ws_r, Nat.reduceLeDiff, Nat.reduceAdd, Nat.reduceLT, true_and, and_true, if_true, if_false, tc_K, Option.toList_some, Option.toList_none, List.nil_append, List.cons_append, ite_true, ite_false, Int.cast_ofNat_Int, reduceIte, i3_add_eq, i3_sub_eq, Int.add_sub_cancel, Int.add_neg_cancel_right, hp_get, hp_len, h.1, fs_same, fs_ne, px_o, px_i, hOr, hIr, nap_i, Int.reduceToNat, n11_r21, n11_len])
  exact hq _ _ (h.nx (k := 21) (S := (0, 1800, [])) (by omega) rfl ⟨rfl, rfl, rfl⟩ (fun _ => rfl) (fun q => by omega))
theorem t163_22 (h : BLD 22 sh0 c0 sh c) (hq : ∀ sh' c', BLD 23 sh0 c0 sh' c' → tc_W 163 256 [rf 75] [] (hp 99 sh' c') (n + 6) Q) : tc_W 163 248 [rf 75] [] (hp 98 sh c) n Q := by
  repeat' (simp (disch := first | omega | exact Nat.le_of_ble_eq_true rfl | exact rfl | assumption | (simp (disch := omega) only [fr_ne, fr_same]; first | assumption | omega)) only [r163_248, r163_249, r163_251, r163_253, p11_81_11, il_s, bl_s, bl_z, ll_s, is_s, bs_s, bs_z, ls_s, al_s, al_b, al_l, fr_ne, fr_same, fr_fr, Nat.reduceEqDiff, tc_gf3_s, tc_ql2_s, tc_ws_0, tc_ws_i, tc_ws_l, tc_ws_r, Nat.reduceLeDiff, Nat.reduceAdd, Nat.reduceLT, true_and, and_true, if_true, if_false, tc_K, Option.toList_some, Option.toList_none, List.nil_append, List.cons_append, ite_true, ite_false, Int.cast_ofNat_Int, reduceIte, i3_add_eq, i3_sub_eq, Int.add_sub_cancel, Int.add_neg_cancel_right, hp_get, hp_len, h.1, fs_same, fs_ne, px_o, px_i, hOr, hIr, nap_i, Int.reduceToNat, n11_r22, n11_len])
  exact hq _ _ (h.nx (k := 22) (S := (0, 6, [])) (by omega) rfl ⟨rfl, rfl, rfl⟩ (fun _ => rfl) (fun q => by omega))
theorem t163_23 (h : BLD 23 sh0 c0 sh c) (hq : ∀ sh' c', BLD 24 sh0 c0 sh' c' → tc_W 163 264 [rf 75] [] (hp 100 sh' c') (n + 72) Q) : tc_W 163 256 [rf 75] [] (hp 99 sh c) n Q := by
  repeat' (simp (disch := first | omega | exact Nat.le_of_ble_eq_true rfl | exact rfl | assumption | (simp (disch := omega) only [fr_ne, fr_same]; first | assumption | omega)) only [r163_256, r163_257, r163_259, r163_261, p11_84_11, il_s, bl_s, bl_z, ll_s, is_s, bs_s, bs_z, ls_s, al_s, al_b, al_l, fr_ne, fr_same, fr_fr, Nat.reduceEqDiff, tc_gf3_s, tc_ql2_s, tc_ws_0, tc_ws_i, tc_ws_l, tc_ws_r, Nat.reduceLeDiff, Nat.reduceAdd, Nat.reduceLT, true_and, and_true, if_true, if_false, tc_K, Option.toList_some, Option.toList_none, List.nil_append, List.cons_append, ite_true, ite_false, Int.cast_ofNat_Int, reduceIte, i3_add_eq, i3_sub_eq, Int.add_sub_cancel, Int.add_neg_cancel_right, hp_get, hp_len, h.1, fs_same, fs_ne, px_o, px_i, hOr, hIr, nap_i, Int.reduceToNat, n11_r23, n11_len])
  exact hq _ _ (h.nx (k := 23) (S := (0, 72, [])) (by omega) rfl ⟨rfl, rfl, rfl⟩ (fun _ => rfl) (fun q => by omega))
theorem t163_24 (h : BLD 24 sh0 c0 sh c) (hq : ∀ sh' c', BLD 25 sh0 c0 sh' c' → tc_W 163 272 [rf 75] [] (hp 101 sh' c') (n + 72) Q) : tc_W 163 264 [rf 75] [] (hp 100 sh c) n Q := by
  repeat' (simp (disch := first | omega | exact Nat.le_of_ble_eq_true rfl | exact rfl | assumption | (simp (disch := omega) only [fr_ne, fr_same]; first | assumption | omega)) only [r163_264, r163_265, r163_267, r163_269, p11_87_11, il_s, bl_s, bl_z, ll_s, is_s, bs_s, bs_z, ls_s, al_s, al_b, al_l, fr_ne, fr_same, fr_fr, Nat.reduceEqDiff, tc_gf3_s, tc_ql2_s, tc_ws_0, tc_ws_i, tc_ws_l, tc_ws_r, Nat.reduceLeDiff, Nat.reduceAdd, Nat.reduceLT, true_and, and_true, if_true, if_false, tc_K, Option.toList_some, Option.toList_none, List.nil_append, List.cons_append, ite_true, ite_false, Int.cast_ofNat_Int, reduceIte, i3_add_eq, i3_sub_eq, Int.add_sub_cancel, Int.add_neg_cancel_right, hp_get, hp_len, h.1, fs_same, fs_ne, px_o, px_i, hOr, hIr, nap_i, Int.reduceToNat, n11_r24, n11_len])
  exact hq _ _ (h.nx (k := 24) (S := (0, 72, [])) (by omega) rfl ⟨rfl, rfl, rfl⟩ (fun _ => rfl) (fun q => by omega))
theorem t163_25 (h : BLD 25 sh0 c0 sh c) (hq : ∀ sh' c', BLD 26 sh0 c0 sh' c' → tc_W 163 280 [rf 75] [] (hp 102 sh' c') (n + 72) Q) : tc_W 163 272 [rf 75] [] (hp 101 sh c) n Q := by
  repeat' (simp (disch := first | omega | exact Nat.le_of_ble_eq_true rfl | exact rfl | assumption | (simp (disch := omega) only [fr_ne, fr_same]; first | assumption | omega)) only [r163_272, r163_273, r163_275, r163_277, p11_90_11, il_s, bl_s, bl_z, ll_s, is_s, bs_s, bs_z, ls_s, al_s, al_b, al_l, fr_ne, fr_same, fr_fr, Nat.reduceEqDiff, tc_gf3_s, tc_ql2_s, tc_ws_0, tc_ws_i, tc_ws_l, tc_ws_r, Nat.reduceLeDiff, Nat.reduceAdd, Nat.reduceLT, true_and, and_true, if_true, if_false, tc_K, Option.toList_some, Option.toList_none, List.nil_append, List.cons_append, ite_true, ite_false, Int.cast_ofNat_Int, reduceIte, i3_add_eq, i3_sub_eq, Int.add_sub_cancel, Int.add_neg_cancel_right, hp_get, hp_len, h.1, fs_same, fs_ne, px_o, px_i, hOr, hIr, nap_i, Int.reduceToNat, n11_r25, n11_len])
  exact hq _ _ (h.nx (k := 25) (S := (0, 72, [])) (by omega) rfl ⟨rfl, rfl, rfl⟩ (fun _ => rfl) (fun q => by omega))
theorem t163_26 (h : BLD 26 sh0 c0 sh c) (hq : ∀ sh' c', BLD 27 sh0 c0 sh' c' → tc_W 163 289 [rf 75] [] (hp 103 sh' c') (n + 402) Q) : tc_W 163 280 [rf 75] [] (hp 102 sh c) n Q := by
  repeat' (simp (disch := first | omega | exact Nat.le_of_ble_eq_true rfl | exact rfl | assumption | (simp (disch := omega) only [fr_ne, fr_same]; first | assumption | omega)) only [r163_280, r163_281, r163_284, r163_286, p11_93_11, il_s, bl_s, bl_z, ll_s, is_s, bs_s, bs_z, ls_s, al_s, al_b, al_l, fr_ne, fr_same, fr_fr, Nat.reduceEqDiff, tc_gf3_s, tc_ql2_s, tc_ws_0, tc_ws_i, tc_ws_l, tc_ws_r, Nat.reduceLeDiff, Nat.reduceAdd, Nat.reduceLT, true_and, and_true, if_true, if_false, tc_K, Option.toList_some, Option.toList_none, List.nil_append, List.cons_append, ite_true, ite_false, Int.cast_ofNat_Int, reduceIte, i3_add_eq, i3_sub_eq, Int.add_sub_cancel, Int.add_neg_cancel_right, hp_get, hp_len, h.1, fs_same, fs_ne, px_o, px_i, hOr, hIr, nap_i, Int.reduceToNat, n11_r26, n11_len])
  exact hq _ _ (h.nx (k := 26) (S := (0, 402, [])) (by omega) rfl ⟨rfl, rfl, rfl⟩ (fun _ => rfl) (fun q => by omega))
theorem t163_27 (h : BLD 27 sh0 c0 sh c) (hq : ∀ sh' c', BLD 28 sh0 c0 sh' c' → tc_W 163 297 [rf 75] [] (hp 104 sh' c') (n + 9) Q) : tc_W 163 289 [rf 75] [] (hp 103 sh c) n Q := by
  repeat' (simp (disch := first | omega | exact Nat.le_of_ble_eq_true rfl | exact rfl | assumption | (simp (disch := omega) only [fr_ne, fr_same]; first | assumption | omega)) only [r163_289, r163_290, r163_292, r163_294, p11_96_11, il_s, bl_s, bl_z, ll_s, is_s, bs_s, bs_z, ls_s, al_s, al_b, al_l, fr_ne, fr_same, fr_fr, Nat.reduceEqDiff, tc_gf3_s, tc_ql2_s, tc_ws_0, tc_ws_i, tc_ws_l, tc_ws_r, Nat.reduceLeDiff, Nat.reduceAdd, Nat.reduceLT, true_and, and_true, if_true, if_false, tc_K, Option.toList_some, Option.toList_none, List.nil_append, List.cons_append, ite_true, ite_false, Int.cast_ofNat_Int, reduceIte, i3_add_eq, i3_sub_eq, Int.add_sub_cancel, Int.add_neg_cancel_right, hp_get, hp_len, h.1, fs_same, fs_ne, px_o, px_i, hOr, hIr, nap_l, Int.reduceToNat, n11_r27, n11_len])
  exact hq _ _ (h.nx (k := 27) (S := (3, 9, [])) (by omega) rfl ⟨rfl, rfl, rfl⟩ (fun _ => rfl) (fun q => by omega))
theorem t163_28 (h : BLD 28 sh0 c0 sh c) (hq : ∀ sh' c', BLD 29 sh0 c0 sh' c' → tc_W 163 306 [rf 75] [] (hp 105 sh' c') (n + 300) Q) : tc_W 163 297 [rf 75] [] (hp 104 sh c) n Q := by
  repeat' (simp (disch := first | omega | exact Nat.le_of_ble_eq_true rfl | exact rfl | assumption | (simp (disch := omega) only [fr_ne, fr_same]; first | assumption | omega)) only [r163_297, r163_298, r163_301, r163_303, p11_100_11, il_s, bl_s, bl_z, ll_s, is_s, bs_s, bs_z, ls_s, al_s, al_b, al_l, fr_ne, fr_same, fr_fr, Nat.reduceEqDiff, tc_gf3_s, tc_ql2_s, tc_ws_0, tc_ws_i, tc_ws_l, tc_ws_r, Nat.reduceLeDiff, Nat.reduceAdd, Nat.reduceLT, true_and, and_true, if_true, if_false, tc_K, Option.toList_some, Option.toList_none, List.nil_append, List.cons_append, ite_true, ite_false, Int.cast_ofNat_Int, reduceIte, i3_add_eq, i3_sub_eq, Int.add_sub_cancel, Int.add_neg_cancel_right, hp_get, hp_len, h.1, fs_same, fs_ne, px_o, px_i, hOr, hIr, nap_l, Int.reduceToNat, n11_r28, n11_len])
  exact hq _ _ (h.nx (k := 28) (S := (3, 300, [])) (by omega) rfl ⟨rfl, rfl, rfl⟩ (fun _ => rfl) (fun q => by omega))
theorem t163_29 (h : BLD 29 sh0 c0 sh c) (hq : ∀ sh' c', BLD 30 sh0 c0 sh' c' → tc_W 163 314 [rf 75] [] (hp 106 sh' c') (n + 25) Q) : tc_W 163 306 [rf 75] [] (hp 105 sh c) n Q := by
  repeat' (simp (disch := first | omega | exact Nat.le_of_ble_eq_true rfl | exact rfl | assumption | (simp (disch := omega) only [fr_ne, fr_same]; first | assumption | omega)) only [r163_306, r163_307, r163_309, r163_311, p11_103_11, il_s, bl_s, bl_z, ll_s, is_s, bs_s, bs_z, ls_s, al_s, al_b, al_l, fr_ne, fr_same, fr_fr, Nat.reduceEqDiff, tc_gf3_s, tc_ql2_s, tc_ws_0, tc_ws_i, tc_ws_l, tc_ws_r, Nat.reduceLeDiff, Nat.reduceAdd, Nat.reduceLT, true_and, and_true, if_true, if_false, tc_K, Option.toList_some, Option.toList_none, List.nil_append, List.cons_append, ite_true, ite_false, Int.cast_ofNat_Int, reduceIte, i3_add_eq, i3_sub_eq, Int.add_sub_cancel, Int.add_neg_cancel_right, hp_get, hp_len, h.1, fs_same, fs_ne, px_o, px_i, hOr, hIr, nap_i, Int.reduceToNat, n11_r29, n11_len])
  exact hq _ _ (h.nx (k := 29) (S := (0, 25, [])) (by omega) rfl ⟨rfl, rfl, rfl⟩ (fun _ => rfl) (fun q => by omega))
theorem t163_30 (h : BLD 30 sh0 c0 sh c) (hq : ∀ sh' c', BLD 31 sh0 c0 sh' c' → tc_W 163 322 [rf 75] [] (hp 107 sh' c') (n + 25) Q) : tc_W 163 314 [rf 75] [] (hp 106 sh c) n Q := by
  repeat' (simp (disch := first | omega | exact Nat.le_of_ble_eq_true rfl | exact rfl | assumption | (simp (disch := omega) only [fr_ne, fr_same]; first | assumption | omega)) only [r163_314, r163_315, r163_317, r163_319, p11_106_11, il_s, bl_s, bl_z, ll_s, is_s, bs_s, bs_z, ls_s, al_s, al_b, al_l, fr_ne, fr_same, fr_fr, Nat.reduceEqDiff, tc_gf3_s, tc_ql2_s, tc_ws_0, tc_ws_i, tc_ws_l, tc_ws_r, Nat.reduceLeDiff, Nat.reduceAdd, Nat.reduceLT, true_and, and_true, if_true, if_false, tc_K, Option.toList_some, Option.toList_none, List.nil_append, List.cons_append, ite_true, ite_false, Int.cast_ofNat_Int, reduceIte, i3_add_eq, i3_sub_eq, Int.add_sub_cancel, Int.add_neg_cancel_right, hp_get, hp_len, h.1, fs_same, fs_ne, px_o, px_i, hOr, hIr, nap_i, Int.reduceToNat, n11_r30, n11_len])
  exact hq _ _ (h.nx (k := 30) (S := (0, 25, [])) (by omega) rfl ⟨rfl, rfl, rfl⟩ (fun _ => rfl) (fun q => by omega))
theorem t163_31 (h : BLD 31 sh0 c0 sh c) (hq : ∀ sh' c', BLD 32 sh0 c0 sh' c' → tc_W 163 331 [rf 75] [] (hp 108 sh' c') (n + 1280) Q) : tc_W 163 322 [rf 75] [] (hp 107 sh c) n Q := by
  repeat' (simp (disch := first | omega | exact Nat.le_of_ble_eq_true rfl | exact rfl | assumption | (simp (disch := omega) only [fr_ne, fr_same]; first | assumption | omega)) only [r163_322, r163_323, r163_326, r163_328, p11_109_11, il_s, bl_s, bl_z, ll_s, is_s, bs_s, bs_z, ls_s, al_s, al_b, al_l, fr_ne, fr_same, fr_fr, Nat.reduceEqDiff, tc_gf3_s, tc_ql2_s, tc_ws_0, tc_ws_i, tc_ws_l, tc_ws_r, Nat.reduceLeDiff, Nat.reduceAdd, Nat.reduceLT, true_and, and_true, if_true, if_false, tc_K, Option.toList_some, Option.toList_none, List.nil_append, List.cons_append, ite_true, ite_false, Int.cast_ofNat_Int, reduceIte, i3_add_eq, i3_sub_eq, Int.add_sub_cancel, Int.add_neg_cancel_right, hp_get, hp_len, h.1, fs_same, fs_ne, px_o, px_i, hOr, hIr, nap_i, Int.reduceToNat, n11_r31, n11_len])
  exact hq _ _ (h.nx (k := 31) (S := (0, 1280, [])) (by omega) rfl ⟨rfl, rfl, rfl⟩ (fun _ => rfl) (fun q => by omega))
theorem t163_32 (h : BLD 32 sh0 c0 sh c) (hq : ∀ sh' c', BLD 33 sh0 c0 sh' c' → tc_W 163 338 [rf 75] [] (hp 109 sh' c') (n + 1) Q) : tc_W 163 331 [rf 75] [] (hp 108 sh c) n Q := by
  repeat' (simp (disch := first | omega | exact Nat.le_of_ble_eq_true rfl | exact rfl | assumption | (simp (disch := omega) only [fr_ne, fr_same]; first | assumption | omega)) only [r163_331, r163_332, r163_333, r163_335, p11_112_11, il_s, bl_s, bl_z, ll_s, is_s, bs_s, bs_z, ls_s, al_s, al_b, al_l, fr_ne, fr_same, fr_fr, Nat.reduceEqDiff, tc_gf3_s, tc_ql2_s, tc_ws_0, tc_ws_i, tc_ws_l, tc_ws_r, Nat.reduceLeDiff, Nat.reduceAdd, Nat.reduceLT, true_and, and_true, if_true, if_false, tc_K, Option.toList_some, Option.toList_none, List.nil_append, List.cons_append, ite_true, ite_false, Int.cast_ofNat_Int, reduceIte, i3_add_eq, i3_sub_eq, Int.add_sub_cancel, Int.add_neg_cancel_right, hp_get, hp_len, h.1, fs_same, fs_ne, px_o, px_i, hOr, hIr, nap_i, Int.reduceToNat, n11_r32, n11_len])
  exact hq _ _ (h.nx (k := 32) (S := (0, 1, [])) (by omega) rfl ⟨rfl, rfl, rfl⟩ (fun _ => rfl) (fun q => by omega))
theorem t163_33 (h : BLD 33 sh0 c0 sh c) (hq : ∀ sh' c', BLD 34 sh0 c0 sh' c' → tc_W 163 346 [rf 75] [] (hp 110 sh' c') (n + 25) Q) : tc_W 163 338 [rf 75] [] (hp 109 sh c) n Q := by
  repeat' (simp (disch := first | omega | exact Nat.le_of_ble_eq_true rfl | exact rfl | assumption | (simp (disch := omega) only [fr_ne, fr_same]; first | assumption | omega)) only [r163_338, r163_339, r163_341, r163_343, p11_115_11, il_s, bl_s, bl_z, ll_s, is_s, bs_s, bs_z, ls_s, al_s, al_b, al_l, fr_ne, fr_same, fr_fr, Nat.reduceEqDiff, tc_gf3_s, tc_ql2_s, tc_ws_0, tc_ws_i, tc_ws_l, tc_ws_r, Nat.reduceLeDiff, Nat.reduceAdd, Nat.reduceLT, true_and, and_true, if_true, if_false, tc_K, Option.toList_some, Option.toList_none, List.nil_append, List.cons_append, ite_true, ite_false, Int.cast_ofNat_Int, reduceIte, i3_add_eq, i3_sub_eq, Int.add_sub_cancel, Int.add_neg_cancel_right, hp_get, hp_len, h.1, fs_same, fs_ne, px_o, px_i, hOr, hIr, nap_i, Int.reduceToNat, n11_r33, n11_len])
  exact hq _ _ (h.nx (k := 33) (S := (0, 25, [])) (by omega) rfl ⟨rfl, rfl, rfl⟩ (fun _ => rfl) (fun q => by omega))
theorem t163_34 (h : BLD 34 sh0 c0 sh c) (hq : ∀ sh' c', BLD 35 sh0 c0 sh' c' → tc_W 163 353 [rf 75] [] (hp 111 sh' c') (n + 2) Q) : tc_W 163 346 [rf 75] [] (hp 110 sh c) n Q := by
  repeat' (simp (disch := first | omega | exact Nat.le_of_ble_eq_true rfl | exact rfl | assumption | (simp (disch := omega) only [fr_ne, fr_same]; first | assumption | omega)) only [r163_346, r163_347, r163_348, r163_350, p11_118_11, il_s, bl_s, bl_z, ll_s, is_s, bs_s, bs_z, ls_s, al_s, al_b, al_l, fr_ne, fr_same, fr_fr, Nat.reduceEqDiff, tc_gf3_s, tc_ql2_s, tc_ws_0, tc_ws_i, tc_ws_l, tc_ws_r, Nat.reduceLeDiff, Nat.reduceAdd, Nat.reduceLT, true_and, and_true, if_true, if_false, tc_K, Option.toList_some, Option.toList_none, List.nil_append, List.cons_append, ite_true, ite_false, Int.cast_ofNat_Int, reduceIte, i3_add_eq, i3_sub_eq, Int.add_sub_cancel, Int.add_neg_cancel_right, hp_get, hp_len, h.1, fs_same, fs_ne, px_o, px_i, hOr, hIr, nap_i, Int.reduceToNat, n11_r34, n11_len])
  exact hq _ _ (h.nx (k := 34) (S := (0, 2, [])) (by omega) rfl ⟨rfl, rfl, rfl⟩ (fun _ => rfl) (fun q => by omega))
theorem t163_35 (h : BLD 35 sh0 c0 sh c) (hq : ∀ sh' c', BLD 36 sh0 c0 sh' c' → tc_W 163 361 [rf 75] [] (hp 112 sh' c') (n + 25) Q) : tc_W 163 353 [rf 75] [] (hp 111 sh c) n Q := by
  repeat' (simp (disch := first | omega | exact Nat.le_of_ble_eq_true rfl | exact rfl | assumption | (simp (disch := omega) only [fr_ne, fr_same]; first | assumption | omega)) only [r163_353, r163_354, r163_356, r163_358, p11_121_11, il_s, bl_s, bl_z, ll_s, is_s, bs_s, bs_z, ls_s, al_s, al_b, al_l, fr_ne, fr_same, fr_fr, Nat.reduceEqDiff, tc_gf3_s, tc_ql2_s, tc_ws_0, tc_ws_i, tc_ws_l, tc_ws_r, Nat.reduceLeDiff, Nat.reduceAdd, Nat.reduceLT, true_and, and_true, if_true, if_false, tc_K, Option.toList_some, Option.toList_none, List.nil_append, List.cons_append, ite_true, ite_false, Int.cast_ofNat_Int, reduceIte, i3_add_eq, i3_sub_eq, Int.add_sub_cancel, Int.add_neg_cancel_right, hp_get, hp_len, h.1, fs_same, fs_ne, px_o, px_i, hOr, hIr, nap_i, Int.reduceToNat, n11_r35, n11_len])
  exact hq _ _ (h.nx (k := 35) (S := (0, 25, [])) (by omega) rfl ⟨rfl, rfl, rfl⟩ (fun _ => rfl) (fun q => by omega))
theorem t163_36 (h : BLD 36 sh0 c0 sh c) (hq : ∀ sh' c', BLD 37 sh0 c0 sh' c' → tc_W 163 370 [rf 75] [] (hp 113 sh' c') (n + 250) Q) : tc_W 163 361 [rf 75] [] (hp 112 sh c) n Q := by
  repeat' (simp (disch := first | omega | exact Nat.le_of_ble_eq_true rfl | exact rfl | assumption | (simp (disch := omega) only [fr_ne, fr_same]; first | assumption | omega)) only [r163_361, r163_362, r163_365, r163_367, p11_124_11, il_s, bl_s, bl_z, ll_s, is_s, bs_s, bs_z, ls_s, al_s, al_b, al_l, fr_ne, fr_same, fr_fr, Nat.reduceEqDiff, tc_gf3_s, tc_ql2_s, tc_ws_0, tc_ws_i, tc_ws_l, tc_ws_r, Nat.reduceLeDiff, Nat.reduceAdd, Nat.reduceLT, true_and, and_true, if_true, if_false, tc_K, Option.toList_some, Option.toList_none, List.nil_append, List.cons_append, ite_true, ite_false, Int.cast_ofNat_Int, reduceIte, i3_add_eq, i3_sub_eq, Int.add_sub_cancel, Int.add_neg_cancel_right, hp_get, hp_len, h.1, fs_same, fs_ne, px_o, px_i, hOr, hIr, nap_i, Int.reduceToNat, n11_r36, n11_len])
  exact hq _ _ (h.nx (k := 36) (S := (0, 250, [])) (by omega) rfl ⟨rfl, rfl, rfl⟩ (fun _ => rfl) (fun q => by omega))
theorem t163_37 (h : BLD 37 sh0 c0 sh c) (hq : ∀ sh' c', BLD 38 sh0 c0 sh' c' → tc_W 163 379 [rf 75] [] (hp 114 sh' c') (n + 7500) Q) : tc_W 163 370 [rf 75] [] (hp 113 sh c) n Q := by
  repeat' (simp (disch := first | omega | exact Nat.le_of_ble_eq_true rfl | exact rfl | assumption | (simp (disch := omega) only [fr_ne, fr_same]; first | assumption | omega)) only [r163_370, r163_371, r163_374, r163_376, p11_127_11, il_s, bl_s, bl_z, ll_s, is_s, bs_s, bs_z, ls_s, al_s, al_b, al_l, fr_ne, fr_same, fr_fr, Nat.reduceEqDiff, tc_gf3_s, tc_ql2_s, tc_ws_0, tc_ws_i, tc_ws_l, tc_ws_r, Nat.reduceLeDiff, Nat.reduceAdd, Nat.reduceLT, true_and, and_true, if_true, if_false, tc_K, Option.toList_some, Option.toList_none, List.nil_append, List.cons_append, ite_true, ite_false, Int.cast_ofNat_Int, reduceIte, i3_add_eq, i3_sub_eq, Int.add_sub_cancel, Int.add_neg_cancel_right, hp_get, hp_len, h.1, fs_same, fs_ne, px_o, px_i, hOr, hIr, nap_i, Int.reduceToNat, n11_r37, n11_len])
  exact hq _ _ (h.nx (k := 37) (S := (0, 7500, [])) (by omega) rfl ⟨rfl, rfl, rfl⟩ (fun _ => rfl) (fun q => by omega))
theorem t163_38 (h : BLD 38 sh0 c0 sh c) (hq : ∀ sh' c', BLD 39 sh0 c0 sh' c' → tc_W 163 386 [rf 75] [] (hp 115 sh' c') (n + 4) Q) : tc_W 163 379 [rf 75] [] (hp 114 sh c) n Q := by
  repeat' (simp (disch := first | omega | exact Nat.le_of_ble_eq_true rfl | exact rfl | assumption | (simp (disch := omega) only [fr_ne, fr_same]; first | assumption | omega)) only [r163_379, r163_380, r163_381, r163_383, p11_130_11, il_s, bl_s, bl_z, ll_s, is_s, bs_s, bs_z, ls_s, al_s, al_b, al_l, fr_ne, fr_same, fr_fr, Nat.reduceEqDiff, tc_gf3_s, tc_ql2_s, tc_ws_0, tc_ws_i, tc_ws_l, tc_ws_r, Nat.reduceLeDiff, Nat.reduceAdd, Nat.reduceLT, true_and, and_true, if_true, if_false, tc_K, Option.toList_some, Option.toList_none, List.nil_append, List.cons_append, ite_true, ite_false, Int.cast_ofNat_Int, reduceIte, i3_add_eq, i3_sub_eq, Int.add_sub_cancel, Int.add_neg_cancel_right, hp_get, hp_len, h.1, fs_same, fs_ne, px_o, px_i, hOr, hIr, nap_z, Int.reduceToNat, n11_r38, n11_len])
  exact hq _ _ (h.nx (k := 38) (S := (2, 4, [])) (by omega) rfl ⟨rfl, rfl, rfl⟩ (fun _ => rfl) (fun q => by omega))
theorem c163 (h75 : sh 75 = (6, 11, rsN 0)) (hc : c 75 = fun _ => 0) (hq : ∀ sh' c' n', n' ≤ n + 17000 → BLD 39 sh c sh' c' → Q none (hp 115 sh' c') n') : tc_C 163 [rf 75] (hp 76 sh c) n Q := by
  have h0 : BLD 0 sh c sh c := ⟨h75, fun a _ => ⟨rfl, rfl⟩, fun j hj => by omega, fun j _ hj => by omega, fun q => by omega, by rw [hc]; exact ⟨rfl, rfl, rfl⟩, fun q => by omega⟩
  show tc_W 163 0 [rf 75] [] _ _ Q
  repeat' (simp (disch := first | omega | exact Nat.le_of_ble_eq_true rfl | exact rfl | assumption | (simp (disch := omega) only [fr_ne, fr_same]; first | assumption | omega)) only [r163_0, r163_1, il_s, bl_s, bl_z, ll_s, is_s, bs_s, bs_z, ls_s, al_s, al_b, al_l, fr_ne, fr_same, fr_fr, Nat.reduceEqDiff, tc_gf3_s, tc_ql2_s, tc_ws_0, tc_ws_i, tc_ws_l, tc_ws_r, Nat.reduceLeDiff, Nat.reduceAdd, Nat.reduceLT, true_and, and_true, if_true, if_false, tc_K, Option.toList_some, Option.toList_none, List.nil_append, List.cons_append, ite_true, ite_false, Int.cast_ofNat_Int, reduceIte])
  refine t163_0 h0 ?_
  intro sh1 c1 h1
  refine t163_1 h1 ?_
  intro sh2 c2 h2
  refine t163_2 h2 ?_
  intro sh3 c3 h3
  refine t163_3 h3 ?_
  intro sh4 c4 h4
  refine t163_4 h4 ?_
  intro sh5 c5 h5
  refine t163_5 h5 ?_
  intro sh6 c6 h6
  refine t163_6 h6 ?_
  intro sh7 c7 h7
  refine t163_7 h7 ?_
  intro sh8 c8 h8
  refine t163_8 h8 ?_
  intro sh9 c9 h9
  refine t163_9 h9 ?_
  intro sh10 c10 h10
  refine t163_10 h10 ?_
  intro sh11 c11 h11
  refine t163_11 h11 ?_
  intro sh12 c12 h12
  refine t163_12 h12 ?_
  intro sh13 c13 h13
  refine t163_13 h13 ?_
  intro sh14 c14 h14
  refine t163_14 h14 ?_
  intro sh15 c15 h15
  refine t163_15 h15 ?_
  intro sh16 c16 h16
  refine t163_16 h16 ?_
  intro sh17 c17 h17
  refine t163_17 h17 ?_
  intro sh18 c18 h18
  refine t163_18 h18 ?_
  intro sh19 c19 h19
  refine t163_19 h19 ?_
  intro sh20 c20 h20
  refine t163_20 h20 ?_
  intro sh21 c21 h21
  refine t163_21 h21 ?_
  intro sh22 c22 h22
  refine t163_22 h22 ?_
  intro sh23 c23 h23
  refine t163_23 h23 ?_
  intro sh24 c24 h24
  refine t163_24 h24 ?_
  intro sh25 c25 h25
  refine t163_25 h25 ?_
  intro sh26 c26 h26
  refine t163_26 h26 ?_
  intro sh27 c27 h27
  refine t163_27 h27 ?_
  intro sh28 c28 h28
  refine t163_28 h28 ?_
  intro sh29 c29 h29
  refine t163_29 h29 ?_
  intro sh30 c30 h30
  refine t163_30 h30 ?_
  intro sh31 c31 h31
  refine t163_31 h31 ?_
  intro sh32 c32 h32
  refine t163_32 h32 ?_
  intro sh33 c33 h33
  refine t163_33 h33 ?_
  intro sh34 c34 h34
  refine t163_34 h34 ?_
  intro sh35 c35 h35
  refine t163_35 h35 ?_
  intro sh36 c36 h36
  refine t163_36 h36 ?_
  intro sh37 c37 h37
  refine t163_37 h37 ?_
  intro sh38 c38 h38
  refine t163_38 h38 ?_
  intro sh39 c39 h39
  repeat' (simp (disch := first | omega | exact Nat.le_of_ble_eq_true rfl | exact rfl | assumption | (simp (disch := omega) only [fr_ne, fr_same]; first | assumption | omega)) only [r163_386, il_s, bl_s, bl_z, ll_s, is_s, bs_s, bs_z, ls_s, al_s, al_b, al_l, fr_ne, fr_same, fr_fr, Nat.reduceEqDiff, tc_gf3_s, tc_ql2_s, tc_ws_0, tc_ws_i, tc_ws_l, tc_ws_r, Nat.reduceLeDiff, Nat.reduceAdd, Nat.reduceLT, true_and, and_true, if_true, if_false, tc_K, Option.toList_some, Option.toList_none, List.nil_append, List.cons_append, ite_true, ite_false, Int.cast_ofNat_Int, reduceIte])
  exact hq _ _ _ (by omega) h39
end BLDS

/-! the law's loop -/
section LOOPC
variable {X i L n : Nat} {xs : Int → Int} {sh : Nat → SH} {c : Nat → Int → Int} {Q : Option AV → List SC → Nat → Prop} {z : Int}
theorem m279_0 (hi : i ≤ 600) (hb : ∀ k, xs k < 2147483648) (hI : INV X xs i L sh c n) (hz : 0 ≤ z) (hz2 : z + 6 ≤ X) (hX3 : X ≤ 3072) (hq : ∀ L2 sh2 c2 n2, INV X xs (i + 1) L2 sh2 c2 n2 → tc_W 279 1075 [rf 25, rf 26, rf 75, .inl z] [] (hp L2 sh2 c2) n2 Q) : tc_W 279 172 [rf 25, rf 26, rf 75, .inl z] [] (hp L sh c) n Q := by
  obtain ⟨m, LD, s, D, ID, SS, ED, DD, hP⟩ := id hI
  have h25 := hP.2.1.1
  have hx := hP.2.1.2
  have hM := hP.mo
  have hL := hP.L115
  have hL25 : 25 < L := by omega
  have hL26 : 26 < L := by omega
  clear hP
  repeat' (simp (disch := first | omega | exact Nat.le_of_ble_eq_true rfl | exact rfl | assumption | (simp (disch := omega) only [fr_ne, fr_same]; first | assumption | omega)) only [r279_172, r279_173, r279_174, r279_175, r279_176, r279_177, r279_178, r279_179, r279_180, r279_181, r279_182, r279_183, r279_184, r279_185, r279_186, r279_187, r279_188, r279_189, r279_190, r279_191, r279_192, r279_193, r279_194, r279_195, r279_196, r279_197, r279_198, v279_198_10, il_s, bl_s, bl_z, ll_s, is_s, bs_s, bs_z, ls_s, al_s, al_b, al_l, fr_ne, fr_same, fr_fr, Nat.reduceEqDiff, tc_gf3_s, tc_ql2_s, tc_ws_0, tc_ws_i, tc_ws_l, tc_ws_r, Nat.reduceLeDiff, Nat.reduceAdd, Nat.reduceLT, true_and, and_true, if_true, if_false, tc_K, Option.toList_some, Option.toList_none, List.nil_append, List.cons_append, ite_true, ite_false, Int.cast_ofNat_Int, reduceIte, i3_add_eq, i3_sub_eq, Int.add_sub_cancel, Int.add_neg_cancel_right, il_x, hX hL25 h25, hO hL26 hM.1, hx])
  refine step_0 L sh c n _ hI ?_
  intro v L1 sh1 c1 n1 hM1 g25 gx hcall
  have gL := hM1.1
  have gL25 : 25 < L1 := by omega
  repeat' (simp (disch := first | omega | exact Nat.le_of_ble_eq_true rfl | exact rfl | assumption | (simp (disch := omega) only [fr_ne, fr_same]; first | assumption | omega)) only [r279_201, r279_202, r279_203, r279_204, r279_205, r279_206, r279_207, r279_208, r279_209, r279_210, r279_211, r279_212, r279_213, r279_214, r279_215, r279_216, r279_217, r279_218, r279_219, r279_220, r279_221, r279_222, r279_223, r279_224, r279_225, r279_226, r279_227, v279_227_11, il_s, bl_s, bl_z, ll_s, is_s, bs_s, bs_z, ls_s, al_s, al_b, al_l, fr_ne, fr_same, fr_fr, Nat.reduceEqDiff, tc_gf3_s, tc_ql2_s, tc_ws_0, tc_ws_i, tc_ws_l, tc_ws_r, Nat.reduceLeDiff, Nat.reduceAdd, Nat.reduceLT, true_and, and_true, if_true, if_false, tc_K, Option.toList_some, Option.toList_none, List.nil_append, List.cons_append, ite_true, ite_false, Int.cast_ofNat_Int, reduceIte, i3_add_eq, i3_sub_eq, Int.add_sub_cancel, Int.add_neg_cancel_right, il_x, hX gL25 g25, ms75 hM1, gx])
  refine hcall _ ?_
  intro L2 sh2 c2 n2 hI2
  repeat' (simp (disch := first | omega | exact Nat.le_of_ble_eq_true rfl | exact rfl | assumption | (simp (disch := omega) only [fr_ne, fr_same]; first | assumption | omega)) only [r279_230, r279_233, r279_234h, r279_234f, r279_234t, il_s, bl_s, bl_z, ll_s, is_s, bs_s, bs_z, ls_s, al_s, al_b, al_l, fr_ne, fr_same, fr_fr, Nat.reduceEqDiff, tc_gf3_s, tc_ql2_s, tc_ws_0, tc_ws_i, tc_ws_l, tc_ws_r, Nat.reduceLeDiff, Nat.reduceAdd, Nat.reduceLT, true_and, and_true, if_true, if_false, tc_K, Option.toList_some, Option.toList_none, List.nil_append, List.cons_append, ite_true, ite_false, Int.cast_ofNat_Int, reduceIte, i3_add_eq, i3_sub_eq, Int.add_sub_cancel, Int.add_neg_cancel_right, eq_self])
  exact hq L2 sh2 c2 n2 hI2
theorem m279_1 (hi : i ≤ 600) (hb : ∀ k, xs k < 2147483648) (hI : INV X xs i L sh c n) (hz : 0 ≤ z) (hz2 : z + 6 ≤ X) (hX3 : X ≤ 3072) (hq : ∀ L2 sh2 c2 n2, INV X xs (i + 1) L2 sh2 c2 n2 → tc_W 279 1075 [rf 25, rf 26, rf 75, .inl z] [] (hp L2 sh2 c2) n2 Q) : tc_W 279 235 [rf 25, rf 26, rf 75, .inl z] [] (hp L sh c) n Q := by
  obtain ⟨m, LD, s, D, ID, SS, ED, DD, hP⟩ := id hI
  have h25 := hP.2.1.1
  have hx := hP.2.1.2
  have hM := hP.mo
  have hL := hP.L115
  have hL25 : 25 < L := by omega
  have hL26 : 26 < L := by omega
  clear hP
  repeat' (simp (disch := first | omega | exact Nat.le_of_ble_eq_true rfl | exact rfl | assumption | (simp (disch := omega) only [fr_ne, fr_same]; first | assumption | omega)) only [r279_235, r279_236, r279_237, r279_238, r279_239, r279_240, r279_241, v279_241_10, il_s, bl_s, bl_z, ll_s, is_s, bs_s, bs_z, ls_s, al_s, al_b, al_l, fr_ne, fr_same, fr_fr, Nat.reduceEqDiff, tc_gf3_s, tc_ql2_s, tc_ws_0, tc_ws_i, tc_ws_l, tc_ws_r, Nat.reduceLeDiff, Nat.reduceAdd, Nat.reduceLT, true_and, and_true, if_true, if_false, tc_K, Option.toList_some, Option.toList_none, List.nil_append, List.cons_append, ite_true, ite_false, Int.cast_ofNat_Int, reduceIte, i3_add_eq, i3_sub_eq, Int.add_sub_cancel, Int.add_neg_cancel_right, il_x, hX hL25 h25, hO hL26 hM.1, hx])
  refine step_1 L sh c n _ hI ?_
  intro v L1 sh1 c1 n1 hM1 g25 gx hcall
  have gL := hM1.1
  have gL25 : 25 < L1 := by omega
  repeat' (simp (disch := first | omega | exact Nat.le_of_ble_eq_true rfl | exact rfl | assumption | (simp (disch := omega) only [fr_ne, fr_same]; first | assumption | omega)) only [r279_244, r279_245, r279_246, r279_247, r279_248, r279_249, r279_250, v279_250_11, il_s, bl_s, bl_z, ll_s, is_s, bs_s, bs_z, ls_s, al_s, al_b, al_l, fr_ne, fr_same, fr_fr, Nat.reduceEqDiff, tc_gf3_s, tc_ql2_s, tc_ws_0, tc_ws_i, tc_ws_l, tc_ws_r, Nat.reduceLeDiff, Nat.reduceAdd, Nat.reduceLT, true_and, and_true, if_true, if_false, tc_K, Option.toList_some, Option.toList_none, List.nil_append, List.cons_append, ite_true, ite_false, Int.cast_ofNat_Int, reduceIte, i3_add_eq, i3_sub_eq, Int.add_sub_cancel, Int.add_neg_cancel_right, il_x, hX gL25 g25, ms75 hM1, gx])
  refine hcall _ ?_
  intro L2 sh2 c2 n2 hI2
  repeat' (simp (disch := first | omega | exact Nat.le_of_ble_eq_true rfl | exact rfl | assumption | (simp (disch := omega) only [fr_ne, fr_same]; first | assumption | omega)) only [r279_253, r279_256, r279_257h, r279_257f, r279_257t, il_s, bl_s, bl_z, ll_s, is_s, bs_s, bs_z, ls_s, al_s, al_b, al_l, fr_ne, fr_same, fr_fr, Nat.reduceEqDiff, tc_gf3_s, tc_ql2_s, tc_ws_0, tc_ws_i, tc_ws_l, tc_ws_r, Nat.reduceLeDiff, Nat.reduceAdd, Nat.reduceLT, true_and, and_true, if_true, if_false, tc_K, Option.toList_some, Option.toList_none, List.nil_append, List.cons_append, ite_true, ite_false, Int.cast_ofNat_Int, reduceIte, i3_add_eq, i3_sub_eq, Int.add_sub_cancel, Int.add_neg_cancel_right, eq_self])
  exact hq L2 sh2 c2 n2 hI2
theorem m279_2 (hi : i ≤ 600) (hb : ∀ k, xs k < 2147483648) (hI : INV X xs i L sh c n) (hz : 0 ≤ z) (hz2 : z + 6 ≤ X) (hX3 : X ≤ 3072) (hq : ∀ L2 sh2 c2 n2, INV X xs (i + 1) L2 sh2 c2 n2 → tc_W 279 1075 [rf 25, rf 26, rf 75, .inl z] [] (hp L2 sh2 c2) n2 Q) : tc_W 279 258 [rf 25, rf 26, rf 75, .inl z] [] (hp L sh c) n Q := by
  obtain ⟨m, LD, s, D, ID, SS, ED, DD, hP⟩ := id hI
  have h25 := hP.2.1.1
  have hx := hP.2.1.2
  have hM := hP.mo
  have hL := hP.L115
  have hL25 : 25 < L := by omega
  have hL26 : 26 < L := by omega
  clear hP
  repeat' (simp (disch := first | omega | exact Nat.le_of_ble_eq_true rfl | exact rfl | assumption | (simp (disch := omega) only [fr_ne, fr_same]; first | assumption | omega)) only [r279_258, r279_259, v279_259_10, il_s, bl_s, bl_z, ll_s, is_s, bs_s, bs_z, ls_s, al_s, al_b, al_l, fr_ne, fr_same, fr_fr, Nat.reduceEqDiff, tc_gf3_s, tc_ql2_s, tc_ws_0, tc_ws_i, tc_ws_l, tc_ws_r, Nat.reduceLeDiff, Nat.reduceAdd, Nat.reduceLT, true_and, and_true, if_true, if_false, tc_K, Option.toList_some, Option.toList_none, List.nil_append, List.cons_append, ite_true, ite_false, Int.cast_ofNat_Int, reduceIte, i3_add_eq, i3_sub_eq, Int.add_sub_cancel, Int.add_neg_cancel_right, il_x, hX hL25 h25, hO hL26 hM.1, hx])
  refine step_2 L sh c n _ hI ?_
  intro v L1 sh1 c1 n1 hM1 g25 gx hcall
  have gL := hM1.1
  have gL25 : 25 < L1 := by omega
  repeat' (simp (disch := first | omega | exact Nat.le_of_ble_eq_true rfl | exact rfl | assumption | (simp (disch := omega) only [fr_ne, fr_same]; first | assumption | omega)) only [r279_262, r279_263, v279_263_11, il_s, bl_s, bl_z, ll_s, is_s, bs_s, bs_z, ls_s, al_s, al_b, al_l, fr_ne, fr_same, fr_fr, Nat.reduceEqDiff, tc_gf3_s, tc_ql2_s, tc_ws_0, tc_ws_i, tc_ws_l, tc_ws_r, Nat.reduceLeDiff, Nat.reduceAdd, Nat.reduceLT, true_and, and_true, if_true, if_false, tc_K, Option.toList_some, Option.toList_none, List.nil_append, List.cons_append, ite_true, ite_false, Int.cast_ofNat_Int, reduceIte, i3_add_eq, i3_sub_eq, Int.add_sub_cancel, Int.add_neg_cancel_right, il_x, hX gL25 g25, ms75 hM1, gx])
  refine hcall _ ?_
  intro L2 sh2 c2 n2 hI2
  repeat' (simp (disch := first | omega | exact Nat.le_of_ble_eq_true rfl | exact rfl | assumption | (simp (disch := omega) only [fr_ne, fr_same]; first | assumption | omega)) only [r279_266, r279_269, r279_270h, r279_270f, r279_270t, il_s, bl_s, bl_z, ll_s, is_s, bs_s, bs_z, ls_s, al_s, al_b, al_l, fr_ne, fr_same, fr_fr, Nat.reduceEqDiff, tc_gf3_s, tc_ql2_s, tc_ws_0, tc_ws_i, tc_ws_l, tc_ws_r, Nat.reduceLeDiff, Nat.reduceAdd, Nat.reduceLT, true_and, and_true, if_true, if_false, tc_K, Option.toList_some, Option.toList_none, List.nil_append, List.cons_append, ite_true, ite_false, Int.cast_ofNat_Int, reduceIte, i3_add_eq, i3_sub_eq, Int.add_sub_cancel, Int.add_neg_cancel_right, eq_self])
  exact hq L2 sh2 c2 n2 hI2
theorem m279_3 (hi : i ≤ 600) (hb : ∀ k, xs k < 2147483648) (hI : INV X xs i L sh c n) (hz : 0 ≤ z) (hz2 : z + 6 ≤ X) (hX3 : X ≤ 3072) (hq : ∀ L2 sh2 c2 n2, INV X xs (i + 1) L2 sh2 c2 n2 → tc_W 279 1075 [rf 25, rf 26, rf 75, .inl z] [] (hp L2 sh2 c2) n2 Q) : tc_W 279 271 [rf 25, rf 26, rf 75, .inl z] [] (hp L sh c) n Q := by
  obtain ⟨m, LD, s, D, ID, SS, ED, DD, hP⟩ := id hI
  have h25 := hP.2.1.1
  have hx := hP.2.1.2
  have hM := hP.mo
  have hL := hP.L115
  have hL25 : 25 < L := by omega
  have hL26 : 26 < L := by omega
  clear hP
  repeat' (simp (disch := first | omega | exact Nat.le_of_ble_eq_true rfl | exact rfl | assumption | (simp (disch := omega) only [fr_ne, fr_same]; first | assumption | omega)) only [r279_271, r279_272, v279_272_10, il_s, bl_s, bl_z, ll_s, is_s, bs_s, bs_z, ls_s, al_s, al_b, al_l, fr_ne, fr_same, fr_fr, Nat.reduceEqDiff, tc_gf3_s, tc_ql2_s, tc_ws_0, tc_ws_i, tc_ws_l, tc_ws_r, Nat.reduceLeDiff, Nat.reduceAdd, Nat.reduceLT, true_and, and_true, if_true, if_false, tc_K, Option.toList_some, Option.toList_none, List.nil_append, List.cons_append, ite_true, ite_false, Int.cast_ofNat_Int, reduceIte, i3_add_eq, i3_sub_eq, Int.add_sub_cancel, Int.add_neg_cancel_right, il_x, hX hL25 h25, hO hL26 hM.1, hx])
  refine step_3 L sh c n _ hI ?_
  intro v L1 sh1 c1 n1 hM1 g25 gx hcall
  have gL := hM1.1
  have gL25 : 25 < L1 := by omega
  repeat' (simp (disch := first | omega | exact Nat.le_of_ble_eq_true rfl | exact rfl | assumption | (simp (disch := omega) only [fr_ne, fr_same]; first | assumption | omega)) only [r279_275, r279_276, v279_276_11, il_s, bl_s, bl_z, ll_s, is_s, bs_s, bs_z, ls_s, al_s, al_b, al_l, fr_ne, fr_same, fr_fr, Nat.reduceEqDiff, tc_gf3_s, tc_ql2_s, tc_ws_0, tc_ws_i, tc_ws_l, tc_ws_r, Nat.reduceLeDiff, Nat.reduceAdd, Nat.reduceLT, true_and, and_true, if_true, if_false, tc_K, Option.toList_some, Option.toList_none, List.nil_append, List.cons_append, ite_true, ite_false, Int.cast_ofNat_Int, reduceIte, i3_add_eq, i3_sub_eq, Int.add_sub_cancel, Int.add_neg_cancel_right, il_x, hX gL25 g25, ms75 hM1, gx])
  refine hcall _ ?_
  intro L2 sh2 c2 n2 hI2
  repeat' (simp (disch := first | omega | exact Nat.le_of_ble_eq_true rfl | exact rfl | assumption | (simp (disch := omega) only [fr_ne, fr_same]; first | assumption | omega)) only [r279_279, r279_282, r279_283h, r279_283f, r279_283t, il_s, bl_s, bl_z, ll_s, is_s, bs_s, bs_z, ls_s, al_s, al_b, al_l, fr_ne, fr_same, fr_fr, Nat.reduceEqDiff, tc_gf3_s, tc_ql2_s, tc_ws_0, tc_ws_i, tc_ws_l, tc_ws_r, Nat.reduceLeDiff, Nat.reduceAdd, Nat.reduceLT, true_and, and_true, if_true, if_false, tc_K, Option.toList_some, Option.toList_none, List.nil_append, List.cons_append, ite_true, ite_false, Int.cast_ofNat_Int, reduceIte, i3_add_eq, i3_sub_eq, Int.add_sub_cancel, Int.add_neg_cancel_right, eq_self])
  exact hq L2 sh2 c2 n2 hI2
theorem m279_4 (hi : i ≤ 600) (hb : ∀ k, xs k < 2147483648) (hI : INV X xs i L sh c n) (hz : 0 ≤ z) (hz2 : z + 6 ≤ X) (hX3 : X ≤ 3072) (hq : ∀ L2 sh2 c2 n2, INV X xs (i + 1) L2 sh2 c2 n2 → tc_W 279 1075 [rf 25, rf 26, rf 75, .inl z] [] (hp L2 sh2 c2) n2 Q) : tc_W 279 284 [rf 25, rf 26, rf 75, .inl z] [] (hp L sh c) n Q := by
  obtain ⟨m, LD, s, D, ID, SS, ED, DD, hP⟩ := id hI
  have h25 := hP.2.1.1
  have hx := hP.2.1.2
  have hM := hP.mo
  have hL := hP.L115
  have hL25 : 25 < L := by omega
  have hL26 : 26 < L := by omega
  clear hP
  repeat' (simp (disch := first | omega | exact Nat.le_of_ble_eq_true rfl | exact rfl | assumption | (simp (disch := omega) only [fr_ne, fr_same]; first | assumption | omega)) only [r279_284, r279_285, r279_286, r279_287, r279_288, r279_289, r279_290, v279_290_10, il_s, bl_s, bl_z, ll_s, is_s, bs_s, bs_z, ls_s, al_s, al_b, al_l, fr_ne, fr_same, fr_fr, Nat.reduceEqDiff, tc_gf3_s, tc_ql2_s, tc_ws_0, tc_ws_i, tc_ws_l, tc_ws_r, Nat.reduceLeDiff, Nat.reduceAdd, Nat.reduceLT, true_and, and_true, if_true, if_false, tc_K, Option.toList_some, Option.toList_none, List.nil_append, List.cons_append, ite_true, ite_false, Int.cast_ofNat_Int, reduceIte, i3_add_eq, i3_sub_eq, Int.add_sub_cancel, Int.add_neg_cancel_right, il_x, hX hL25 h25, hO hL26 hM.1, hx])
  refine step_4 L sh c n _ hI ?_
  intro v L1 sh1 c1 n1 hM1 g25 gx hcall
  have gL := hM1.1
  have gL25 : 25 < L1 := by omega
  repeat' (simp (disch := first | omega | exact Nat.le_of_ble_eq_true rfl | exact rfl | assumption | (simp (disch := omega) only [fr_ne, fr_same]; first | assumption | omega)) only [r279_293, r279_294, r279_295, r279_296, r279_297, r279_298, r279_299, v279_299_11, il_s, bl_s, bl_z, ll_s, is_s, bs_s, bs_z, ls_s, al_s, al_b, al_l, fr_ne, fr_same, fr_fr, Nat.reduceEqDiff, tc_gf3_s, tc_ql2_s, tc_ws_0, tc_ws_i, tc_ws_l, tc_ws_r, Nat.reduceLeDiff, Nat.reduceAdd, Nat.reduceLT, true_and, and_true, if_true, if_false, tc_K, Option.toList_some, Option.toList_none, List.nil_append, List.cons_append, ite_true, ite_false, Int.cast_ofNat_Int, reduceIte, i3_add_eq, i3_sub_eq, Int.add_sub_cancel, Int.add_neg_cancel_right, il_x, hX gL25 g25, ms75 hM1, gx])
  refine hcall _ ?_
  intro L2 sh2 c2 n2 hI2
  repeat' (simp (disch := first | omega | exact Nat.le_of_ble_eq_true rfl | exact rfl | assumption | (simp (disch := omega) only [fr_ne, fr_same]; first | assumption | omega)) only [r279_302, r279_305, r279_306h, r279_306f, r279_306t, il_s, bl_s, bl_z, ll_s, is_s, bs_s, bs_z, ls_s, al_s, al_b, al_l, fr_ne, fr_same, fr_fr, Nat.reduceEqDiff, tc_gf3_s, tc_ql2_s, tc_ws_0, tc_ws_i, tc_ws_l, tc_ws_r, Nat.reduceLeDiff, Nat.reduceAdd, Nat.reduceLT, true_and, and_true, if_true, if_false, tc_K, Option.toList_some, Option.toList_none, List.nil_append, List.cons_append, ite_true, ite_false, Int.cast_ofNat_Int, reduceIte, i3_add_eq, i3_sub_eq, Int.add_sub_cancel, Int.add_neg_cancel_right, eq_self])
  exact hq L2 sh2 c2 n2 hI2
theorem m279_5 (hi : i ≤ 600) (hb : ∀ k, xs k < 2147483648) (hI : INV X xs i L sh c n) (hz : 0 ≤ z) (hz2 : z + 6 ≤ X) (hX3 : X ≤ 3072) (hq : ∀ L2 sh2 c2 n2, INV X xs (i + 1) L2 sh2 c2 n2 → tc_W 279 1075 [rf 25, rf 26, rf 75, .inl z] [] (hp L2 sh2 c2) n2 Q) : tc_W 279 307 [rf 25, rf 26, rf 75, .inl z] [] (hp L sh c) n Q := by
  obtain ⟨m, LD, s, D, ID, SS, ED, DD, hP⟩ := id hI
  have h25 := hP.2.1.1
  have hx := hP.2.1.2
  have hM := hP.mo
  have hL := hP.L115
  have hL25 : 25 < L := by omega
  have hL26 : 26 < L := by omega
  clear hP
  repeat' (simp (disch := first | omega | exact Nat.le_of_ble_eq_true rfl | exact rfl | assumption | (simp (disch := omega) only [fr_ne, fr_same]; first | assumption | omega)) only [r279_307, r279_308, r279_309, r279_310, r279_311, r279_312, r279_313, r279_314, r279_315, r279_316, r279_317, r279_318, v279_318_10, il_s, bl_s, bl_z, ll_s, is_s, bs_s, bs_z, ls_s, al_s, al_b, al_l, fr_ne, fr_same, fr_fr, Nat.reduceEqDiff, tc_gf3_s, tc_ql2_s, tc_ws_0, tc_ws_i, tc_ws_l, tc_ws_r, Nat.reduceLeDiff, Nat.reduceAdd, Nat.reduceLT, true_and, and_true, if_true, if_false, tc_K, Option.toList_some, Option.toList_none, List.nil_append, List.cons_append, ite_true, ite_false, Int.cast_ofNat_Int, reduceIte, i3_add_eq, i3_sub_eq, Int.add_sub_cancel, Int.add_neg_cancel_right, il_x, hX hL25 h25, hO hL26 hM.1, hx])
  refine step_5 L sh c n _ hI ?_
  intro v L1 sh1 c1 n1 hM1 g25 gx hcall
  have gL := hM1.1
  have gL25 : 25 < L1 := by omega
  repeat' (simp (disch := first | omega | exact Nat.le_of_ble_eq_true rfl | exact rfl | assumption | (simp (disch := omega) only [fr_ne, fr_same]; first | assumption | omega)) only [r279_321, r279_322, r279_323, r279_324, r279_325, r279_326, r279_327, r279_328, r279_329, r279_330, r279_331, r279_332, v279_332_11, il_s, bl_s, bl_z, ll_s, is_s, bs_s, bs_z, ls_s, al_s, al_b, al_l, fr_ne, fr_same, fr_fr, Nat.reduceEqDiff, tc_gf3_s, tc_ql2_s, tc_ws_0, tc_ws_i, tc_ws_l, tc_ws_r, Nat.reduceLeDiff, Nat.reduceAdd, Nat.reduceLT, true_and, and_true, if_true, if_false, tc_K, Option.toList_some, Option.toList_none, List.nil_append, List.cons_append, ite_true, ite_false, Int.cast_ofNat_Int, reduceIte, i3_add_eq, i3_sub_eq, Int.add_sub_cancel, Int.add_neg_cancel_right, il_x, hX gL25 g25, ms75 hM1, gx])
  refine hcall _ ?_
  intro L2 sh2 c2 n2 hI2
  repeat' (simp (disch := first | omega | exact Nat.le_of_ble_eq_true rfl | exact rfl | assumption | (simp (disch := omega) only [fr_ne, fr_same]; first | assumption | omega)) only [r279_335, r279_338, r279_339h, r279_339f, r279_339t, il_s, bl_s, bl_z, ll_s, is_s, bs_s, bs_z, ls_s, al_s, al_b, al_l, fr_ne, fr_same, fr_fr, Nat.reduceEqDiff, tc_gf3_s, tc_ql2_s, tc_ws_0, tc_ws_i, tc_ws_l, tc_ws_r, Nat.reduceLeDiff, Nat.reduceAdd, Nat.reduceLT, true_and, and_true, if_true, if_false, tc_K, Option.toList_some, Option.toList_none, List.nil_append, List.cons_append, ite_true, ite_false, Int.cast_ofNat_Int, reduceIte, i3_add_eq, i3_sub_eq, Int.add_sub_cancel, Int.add_neg_cancel_right, eq_self])
  exact hq L2 sh2 c2 n2 hI2
theorem m279_6 (hi : i ≤ 600) (hb : ∀ k, xs k < 2147483648) (hI : INV X xs i L sh c n) (hz : 0 ≤ z) (hz2 : z + 6 ≤ X) (hX3 : X ≤ 3072) (hq : ∀ L2 sh2 c2 n2, INV X xs (i + 1) L2 sh2 c2 n2 → tc_W 279 1075 [rf 25, rf 26, rf 75, .inl z] [] (hp L2 sh2 c2) n2 Q) : tc_W 279 340 [rf 25, rf 26, rf 75, .inl z] [] (hp L sh c) n Q := by
  obtain ⟨m, LD, s, D, ID, SS, ED, DD, hP⟩ := id hI
  have h25 := hP.2.1.1
  have hx := hP.2.1.2
  have hM := hP.mo
  have hL := hP.L115
  have hL25 : 25 < L := by omega
  have hL26 : 26 < L := by omega
  clear hP
  repeat' (simp (disch := first | omega | exact Nat.le_of_ble_eq_true rfl | exact rfl | assumption | (simp (disch := omega) only [fr_ne, fr_same]; first | assumption | omega)) only [r279_340, r279_341, r279_342, r279_343, r279_344, r279_345, r279_346, r279_347, r279_348, r279_349, r279_350, r279_351, v279_351_10, il_s, bl_s, bl_z, ll_s, is_s, bs_s, bs_z, ls_s, al_s, al_b, al_l, fr_ne, fr_same, fr_fr, Nat.reduceEqDiff, tc_gf3_s, tc_ql2_s, tc_ws_0, tc_ws_i, tc_ws_l, tc_ws_r, Nat.reduceLeDiff, Nat.reduceAdd, Nat.reduceLT, true_and, and_true, if_true, if_false, tc_K, Option.toList_some, Option.toList_none, List.nil_append, List.cons_append, ite_true, ite_false, Int.cast_ofNat_Int, reduceIte, i3_add_eq, i3_sub_eq, Int.add_sub_cancel, Int.add_neg_cancel_right, il_x, hX hL25 h25, hO hL26 hM.1, hx])
  refine step_6 L sh c n _ hI ?_
  intro v L1 sh1 c1 n1 hM1 g25 gx hcall
  have gL := hM1.1
  have gL25 : 25 < L1 := by omega
  repeat' (simp (disch := first | omega | exact Nat.le_of_ble_eq_true rfl | exact rfl | assumption | (simp (disch := omega) only [fr_ne, fr_same]; first | assumption | omega)) only [r279_354, r279_355, r279_356, r279_357, r279_358, r279_359, r279_360, r279_361, r279_362, r279_363, r279_364, r279_365, v279_365_11, il_s, bl_s, bl_z, ll_s, is_s, bs_s, bs_z, ls_s, al_s, al_b, al_l, fr_ne, fr_same, fr_fr, Nat.reduceEqDiff, tc_gf3_s, tc_ql2_s, tc_ws_0, tc_ws_i, tc_ws_l, tc_ws_r, Nat.reduceLeDiff, Nat.reduceAdd, Nat.reduceLT, true_and, and_true, if_true, if_false, tc_K, Option.toList_some, Option.toList_none, List.nil_append, List.cons_append, ite_true, ite_false, Int.cast_ofNat_Int, reduceIte, i3_add_eq, i3_sub_eq, Int.add_sub_cancel, Int.add_neg_cancel_right, il_x, hX gL25 g25, ms75 hM1, gx])
  refine hcall _ ?_
  intro L2 sh2 c2 n2 hI2
  repeat' (simp (disch := first | omega | exact Nat.le_of_ble_eq_true rfl | exact rfl | assumption | (simp (disch := omega) only [fr_ne, fr_same]; first | assumption | omega)) only [r279_368, r279_371, r279_372h, r279_372f, r279_372t, il_s, bl_s, bl_z, ll_s, is_s, bs_s, bs_z, ls_s, al_s, al_b, al_l, fr_ne, fr_same, fr_fr, Nat.reduceEqDiff, tc_gf3_s, tc_ql2_s, tc_ws_0, tc_ws_i, tc_ws_l, tc_ws_r, Nat.reduceLeDiff, Nat.reduceAdd, Nat.reduceLT, true_and, and_true, if_true, if_false, tc_K, Option.toList_some, Option.toList_none, List.nil_append, List.cons_append, ite_true, ite_false, Int.cast_ofNat_Int, reduceIte, i3_add_eq, i3_sub_eq, Int.add_sub_cancel, Int.add_neg_cancel_right, eq_self])
  exact hq L2 sh2 c2 n2 hI2
theorem m279_7 (hi : i ≤ 600) (hb : ∀ k, xs k < 2147483648) (hI : INV X xs i L sh c n) (hz : 0 ≤ z) (hz2 : z + 6 ≤ X) (hX3 : X ≤ 3072) (hq : ∀ L2 sh2 c2 n2, INV X xs (i + 1) L2 sh2 c2 n2 → tc_W 279 1075 [rf 25, rf 26, rf 75, .inl z] [] (hp L2 sh2 c2) n2 Q) : tc_W 279 373 [rf 25, rf 26, rf 75, .inl z] [] (hp L sh c) n Q := by
  obtain ⟨m, LD, s, D, ID, SS, ED, DD, hP⟩ := id hI
  have h25 := hP.2.1.1
  have hx := hP.2.1.2
  have hM := hP.mo
  have hL := hP.L115
  have hL25 : 25 < L := by omega
  have hL26 : 26 < L := by omega
  clear hP
  repeat' (simp (disch := first | omega | exact Nat.le_of_ble_eq_true rfl | exact rfl | assumption | (simp (disch := omega) only [fr_ne, fr_same]; first | assumption | omega)) only [r279_373, r279_374, r279_375, r279_376, r279_377, r279_378, r279_379, v279_379_10, il_s, bl_s, bl_z, ll_s, is_s, bs_s, bs_z, ls_s, al_s, al_b, al_l, fr_ne, fr_same, fr_fr, Nat.reduceEqDiff, tc_gf3_s, tc_ql2_s, tc_ws_0, tc_ws_i, tc_ws_l, tc_ws_r, Nat.reduceLeDiff, Nat.reduceAdd, Nat.reduceLT, true_and, and_true, if_true, if_false, tc_K, Option.toList_some, Option.toList_none, List.nil_append, List.cons_append, ite_true, ite_false, Int.cast_ofNat_Int, reduceIte, i3_add_eq, i3_sub_eq, Int.add_sub_cancel, Int.add_neg_cancel_right, il_x, hX hL25 h25, hO hL26 hM.1, hx])
  refine step_7 (hb _) L sh c n _ hI ?_
  intro v L1 sh1 c1 n1 hM1 g25 gx hcall
  have gL := hM1.1
  have gL25 : 25 < L1 := by omega
  repeat' (simp (disch := first | omega | exact Nat.le_of_ble_eq_true rfl | exact rfl | assumption | (simp (disch := omega) only [fr_ne, fr_same]; first | assumption | omega)) only [r279_382, r279_383, r279_384, r279_385, r279_386, r279_387, r279_388, v279_388_11, il_s, bl_s, bl_z, ll_s, is_s, bs_s, bs_z, ls_s, al_s, al_b, al_l, fr_ne, fr_same, fr_fr, Nat.reduceEqDiff, tc_gf3_s, tc_ql2_s, tc_ws_0, tc_ws_i, tc_ws_l, tc_ws_r, Nat.reduceLeDiff, Nat.reduceAdd, Nat.reduceLT, true_and, and_true, if_true, if_false, tc_K, Option.toList_some, Option.toList_none, List.nil_append, List.cons_append, ite_true, ite_false, Int.cast_ofNat_Int, reduceIte, i3_add_eq, i3_sub_eq, Int.add_sub_cancel, Int.add_neg_cancel_right, il_x, hX gL25 g25, ms75 hM1, gx])
  refine hcall _ ?_
  intro L2 sh2 c2 n2 hI2
  repeat' (simp (disch := first | omega | exact Nat.le_of_ble_eq_true rfl | exact rfl | assumption | (simp (disch := omega) only [fr_ne, fr_same]; first | assumption | omega)) only [r279_391, r279_394, r279_395h, r279_395f, r279_395t, il_s, bl_s, bl_z, ll_s, is_s, bs_s, bs_z, ls_s, al_s, al_b, al_l, fr_ne, fr_same, fr_fr, Nat.reduceEqDiff, tc_gf3_s, tc_ql2_s, tc_ws_0, tc_ws_i, tc_ws_l, tc_ws_r, Nat.reduceLeDiff, Nat.reduceAdd, Nat.reduceLT, true_and, and_true, if_true, if_false, tc_K, Option.toList_some, Option.toList_none, List.nil_append, List.cons_append, ite_true, ite_false, Int.cast_ofNat_Int, reduceIte, i3_add_eq, i3_sub_eq, Int.add_sub_cancel, Int.add_neg_cancel_right, eq_self])
  exact hq L2 sh2 c2 n2 hI2
theorem m279_8 (hi : i ≤ 600) (hb : ∀ k, xs k < 2147483648) (hI : INV X xs i L sh c n) (hz : 0 ≤ z) (hz2 : z + 6 ≤ X) (hX3 : X ≤ 3072) (hq : ∀ L2 sh2 c2 n2, INV X xs (i + 1) L2 sh2 c2 n2 → tc_W 279 1075 [rf 25, rf 26, rf 75, .inl z] [] (hp L2 sh2 c2) n2 Q) : tc_W 279 396 [rf 25, rf 26, rf 75, .inl z] [] (hp L sh c) n Q := by
  obtain ⟨m, LD, s, D, ID, SS, ED, DD, hP⟩ := id hI
  have h25 := hP.2.1.1
  have hx := hP.2.1.2
  have hM := hP.mo
  have hL := hP.L115
  have hL25 : 25 < L := by omega
  have hL26 : 26 < L := by omega
  clear hP
  repeat' (simp (disch := first | omega | exact Nat.le_of_ble_eq_true rfl | exact rfl | assumption | (simp (disch := omega) only [fr_ne, fr_same]; first | assumption | omega)) only [r279_396, r279_397, v279_397_10, il_s, bl_s, bl_z, ll_s, is_s, bs_s, bs_z, ls_s, al_s, al_b, al_l, fr_ne, fr_same, fr_fr, Nat.reduceEqDiff, tc_gf3_s, tc_ql2_s, tc_ws_0, tc_ws_i, tc_ws_l, tc_ws_r, Nat.reduceLeDiff, Nat.reduceAdd, Nat.reduceLT, true_and, and_true, if_true, if_false, tc_K, Option.toList_some, Option.toList_none, List.nil_append, List.cons_append, ite_true, ite_false, Int.cast_ofNat_Int, reduceIte, i3_add_eq, i3_sub_eq, Int.add_sub_cancel, Int.add_neg_cancel_right, il_x, hX hL25 h25, hO hL26 hM.1, hx])
  refine step_8 hi L sh c n _ hI ?_
  intro v L1 sh1 c1 n1 hM1 g25 gx hcall
  have gL := hM1.1
  have gL25 : 25 < L1 := by omega
  repeat' (simp (disch := first | omega | exact Nat.le_of_ble_eq_true rfl | exact rfl | assumption | (simp (disch := omega) only [fr_ne, fr_same]; first | assumption | omega)) only [r279_400, r279_401, v279_401_11, il_s, bl_s, bl_z, ll_s, is_s, bs_s, bs_z, ls_s, al_s, al_b, al_l, fr_ne, fr_same, fr_fr, Nat.reduceEqDiff, tc_gf3_s, tc_ql2_s, tc_ws_0, tc_ws_i, tc_ws_l, tc_ws_r, Nat.reduceLeDiff, Nat.reduceAdd, Nat.reduceLT, true_and, and_true, if_true, if_false, tc_K, Option.toList_some, Option.toList_none, List.nil_append, List.cons_append, ite_true, ite_false, Int.cast_ofNat_Int, reduceIte, i3_add_eq, i3_sub_eq, Int.add_sub_cancel, Int.add_neg_cancel_right, il_x, hX gL25 g25, ms75 hM1, gx])
  refine hcall _ ?_
  intro L2 sh2 c2 n2 hI2
  repeat' (simp (disch := first | omega | exact Nat.le_of_ble_eq_true rfl | exact rfl | assumption | (simp (disch := omega) only [fr_ne, fr_same]; first | assumption | omega)) only [r279_404, r279_407, r279_408h, r279_408f, r279_408t, il_s, bl_s, bl_z, ll_s, is_s, bs_s, bs_z, ls_s, al_s, al_b, al_l, fr_ne, fr_same, fr_fr, Nat.reduceEqDiff, tc_gf3_s, tc_ql2_s, tc_ws_0, tc_ws_i, tc_ws_l, tc_ws_r, Nat.reduceLeDiff, Nat.reduceAdd, Nat.reduceLT, true_and, and_true, if_true, if_false, tc_K, Option.toList_some, Option.toList_none, List.nil_append, List.cons_append, ite_true, ite_false, Int.cast_ofNat_Int, reduceIte, i3_add_eq, i3_sub_eq, Int.add_sub_cancel, Int.add_neg_cancel_right, eq_self])
  exact hq L2 sh2 c2 n2 hI2
theorem m279_9 (hi : i ≤ 600) (hb : ∀ k, xs k < 2147483648) (hI : INV X xs i L sh c n) (hz : 0 ≤ z) (hz2 : z + 6 ≤ X) (hX3 : X ≤ 3072) (hq : ∀ L2 sh2 c2 n2, INV X xs (i + 1) L2 sh2 c2 n2 → tc_W 279 1075 [rf 25, rf 26, rf 75, .inl z] [] (hp L2 sh2 c2) n2 Q) : tc_W 279 409 [rf 25, rf 26, rf 75, .inl z] [] (hp L sh c) n Q := by
  obtain ⟨m, LD, s, D, ID, SS, ED, DD, hP⟩ := id hI
  have h25 := hP.2.1.1
  have hx := hP.2.1.2
  have hM := hP.mo
  have hL := hP.L115
  have hL25 : 25 < L := by omega
  have hL26 : 26 < L := by omega
  clear hP
  repeat' (simp (disch := first | omega | exact Nat.le_of_ble_eq_true rfl | exact rfl | assumption | (simp (disch := omega) only [fr_ne, fr_same]; first | assumption | omega)) only [r279_409, r279_410, r279_411, r279_412, r279_413, r279_414, r279_415, r279_416, r279_417, r279_418, r279_419, r279_420, v279_420_10, il_s, bl_s, bl_z, ll_s, is_s, bs_s, bs_z, ls_s, al_s, al_b, al_l, fr_ne, fr_same, fr_fr, Nat.reduceEqDiff, tc_gf3_s, tc_ql2_s, tc_ws_0, tc_ws_i, tc_ws_l, tc_ws_r, Nat.reduceLeDiff, Nat.reduceAdd, Nat.reduceLT, true_and, and_true, if_true, if_false, tc_K, Option.toList_some, Option.toList_none, List.nil_append, List.cons_append, ite_true, ite_false, Int.cast_ofNat_Int, reduceIte, i3_add_eq, i3_sub_eq, Int.add_sub_cancel, Int.add_neg_cancel_right, il_x, hX hL25 h25, hO hL26 hM.1, hx])
  refine step_9 hi L sh c n _ hI ?_
  intro v L1 sh1 c1 n1 hM1 g25 gx hcall
  have gL := hM1.1
  have gL25 : 25 < L1 := by omega
  repeat' (simp (disch := first | omega | exact Nat.le_of_ble_eq_true rfl | exact rfl | assumption | (simp (disch := omega) only [fr_ne, fr_same]; first | assumption | omega)) only [r279_423, r279_424, r279_425, r279_426, r279_427, r279_428, r279_429, r279_430, r279_431, r279_432, r279_433, r279_434, v279_434_11, il_s, bl_s, bl_z, ll_s, is_s, bs_s, bs_z, ls_s, al_s, al_b, al_l, fr_ne, fr_same, fr_fr, Nat.reduceEqDiff, tc_gf3_s, tc_ql2_s, tc_ws_0, tc_ws_i, tc_ws_l, tc_ws_r, Nat.reduceLeDiff, Nat.reduceAdd, Nat.reduceLT, true_and, and_true, if_true, if_false, tc_K, Option.toList_some, Option.toList_none, List.nil_append, List.cons_append, ite_true, ite_false, Int.cast_ofNat_Int, reduceIte, i3_add_eq, i3_sub_eq, Int.add_sub_cancel, Int.add_neg_cancel_right, il_x, hX gL25 g25, ms75 hM1, gx])
  refine hcall _ ?_
  intro L2 sh2 c2 n2 hI2
  repeat' (simp (disch := first | omega | exact Nat.le_of_ble_eq_true rfl | exact rfl | assumption | (simp (disch := omega) only [fr_ne, fr_same]; first | assumption | omega)) only [r279_437, r279_440, r279_441h, r279_441f, r279_441t, il_s, bl_s, bl_z, ll_s, is_s, bs_s, bs_z, ls_s, al_s, al_b, al_l, fr_ne, fr_same, fr_fr, Nat.reduceEqDiff, tc_gf3_s, tc_ql2_s, tc_ws_0, tc_ws_i, tc_ws_l, tc_ws_r, Nat.reduceLeDiff, Nat.reduceAdd, Nat.reduceLT, true_and, and_true, if_true, if_false, tc_K, Option.toList_some, Option.toList_none, List.nil_append, List.cons_append, ite_true, ite_false, Int.cast_ofNat_Int, reduceIte, i3_add_eq, i3_sub_eq, Int.add_sub_cancel, Int.add_neg_cancel_right, eq_self])
  exact hq L2 sh2 c2 n2 hI2
theorem m279_10 (hi : i ≤ 600) (hb : ∀ k, xs k < 2147483648) (hI : INV X xs i L sh c n) (hz : 0 ≤ z) (hz2 : z + 6 ≤ X) (hX3 : X ≤ 3072) (hq : ∀ L2 sh2 c2 n2, INV X xs (i + 1) L2 sh2 c2 n2 → tc_W 279 1075 [rf 25, rf 26, rf 75, .inl z] [] (hp L2 sh2 c2) n2 Q) : tc_W 279 442 [rf 25, rf 26, rf 75, .inl z] [] (hp L sh c) n Q := by
  obtain ⟨m, LD, s, D, ID, SS, ED, DD, hP⟩ := id hI
  have h25 := hP.2.1.1
  have hx := hP.2.1.2
  have hM := hP.mo
  have hL := hP.L115
  have hL25 : 25 < L := by omega
  have hL26 : 26 < L := by omega
  clear hP
  repeat' (simp (disch := first | omega | exact Nat.le_of_ble_eq_true rfl | exact rfl | assumption | (simp (disch := omega) only [fr_ne, fr_same]; first | assumption | omega)) only [r279_442, r279_443, r279_444, r279_445, r279_446, r279_447, r279_448, v279_448_10, il_s, bl_s, bl_z, ll_s, is_s, bs_s, bs_z, ls_s, al_s, al_b, al_l, fr_ne, fr_same, fr_fr, Nat.reduceEqDiff, tc_gf3_s, tc_ql2_s, tc_ws_0, tc_ws_i, tc_ws_l, tc_ws_r, Nat.reduceLeDiff, Nat.reduceAdd, Nat.reduceLT, true_and, and_true, if_true, if_false, tc_K, Option.toList_some, Option.toList_none, List.nil_append, List.cons_append, ite_true, ite_false, Int.cast_ofNat_Int, reduceIte, i3_add_eq, i3_sub_eq, Int.add_sub_cancel, Int.add_neg_cancel_right, il_x, hX hL25 h25, hO hL26 hM.1, hx])
  refine step_10 hi L sh c n _ hI ?_
  intro v L1 sh1 c1 n1 hM1 g25 gx hcall
  have gL := hM1.1
  have gL25 : 25 < L1 := by omega
  repeat' (simp (disch := first | omega | exact Nat.le_of_ble_eq_true rfl | exact rfl | assumption | (simp (disch := omega) only [fr_ne, fr_same]; first | assumption | omega)) only [r279_451, r279_452, r279_453, r279_454, r279_455, r279_456, r279_457, v279_457_11, il_s, bl_s, bl_z, ll_s, is_s, bs_s, bs_z, ls_s, al_s, al_b, al_l, fr_ne, fr_same, fr_fr, Nat.reduceEqDiff, tc_gf3_s, tc_ql2_s, tc_ws_0, tc_ws_i, tc_ws_l, tc_ws_r, Nat.reduceLeDiff, Nat.reduceAdd, Nat.reduceLT, true_and, and_true, if_true, if_false, tc_K, Option.toList_some, Option.toList_none, List.nil_append, List.cons_append, ite_true, ite_false, Int.cast_ofNat_Int, reduceIte, i3_add_eq, i3_sub_eq, Int.add_sub_cancel, Int.add_neg_cancel_right, il_x, hX gL25 g25, ms75 hM1, gx])
  refine hcall _ ?_
  intro L2 sh2 c2 n2 hI2
  repeat' (simp (disch := first | omega | exact Nat.le_of_ble_eq_true rfl | exact rfl | assumption | (simp (disch := omega) only [fr_ne, fr_same]; first | assumption | omega)) only [r279_460, r279_463, r279_464h, r279_464f, r279_464t, il_s, bl_s, bl_z, ll_s, is_s, bs_s, bs_z, ls_s, al_s, al_b, al_l, fr_ne, fr_same, fr_fr, Nat.reduceEqDiff, tc_gf3_s, tc_ql2_s, tc_ws_0, tc_ws_i, tc_ws_l, tc_ws_r, Nat.reduceLeDiff, Nat.reduceAdd, Nat.reduceLT, true_and, and_true, if_true, if_false, tc_K, Option.toList_some, Option.toList_none, List.nil_append, List.cons_append, ite_true, ite_false, Int.cast_ofNat_Int, reduceIte, i3_add_eq, i3_sub_eq, Int.add_sub_cancel, Int.add_neg_cancel_right, eq_self])
  exact hq L2 sh2 c2 n2 hI2
theorem m279_11 (hi : i ≤ 600) (hb : ∀ k, xs k < 2147483648) (hI : INV X xs i L sh c n) (hz : 0 ≤ z) (hz2 : z + 6 ≤ X) (hX3 : X ≤ 3072) (hq : ∀ L2 sh2 c2 n2, INV X xs (i + 1) L2 sh2 c2 n2 → tc_W 279 1075 [rf 25, rf 26, rf 75, .inl z] [] (hp L2 sh2 c2) n2 Q) : tc_W 279 465 [rf 25, rf 26, rf 75, .inl z] [] (hp L sh c) n Q := by
  obtain ⟨m, LD, s, D, ID, SS, ED, DD, hP⟩ := id hI
  have h25 := hP.2.1.1
  have hx := hP.2.1.2
  have hM := hP.mo
  have hL := hP.L115
  have hL25 : 25 < L := by omega
  have hL26 : 26 < L := by omega
  clear hP
  repeat' (simp (disch := first | omega | exact Nat.le_of_ble_eq_true rfl | exact rfl | assumption | (simp (disch := omega) only [fr_ne, fr_same]; first | assumption | omega)) only [r279_465, r279_466, r279_467, r279_468, r279_469, r279_470, r279_471, r279_472, r279_473, r279_474, r279_475, r279_476, v279_476_10, il_s, bl_s, bl_z, ll_s, is_s, bs_s, bs_z, ls_s, al_s, al_b, al_l, fr_ne, fr_same, fr_fr, Nat.reduceEqDiff, tc_gf3_s, tc_ql2_s, tc_ws_0, tc_ws_i, tc_ws_l, tc_ws_r, Nat.reduceLeDiff, Nat.reduceAdd, Nat.reduceLT, true_and, and_true, if_true, if_false, tc_K, Option.toList_some, Option.toList_none, List.nil_append, List.cons_append, ite_true, ite_false, Int.cast_ofNat_Int, reduceIte, i3_add_eq, i3_sub_eq, Int.add_sub_cancel, Int.add_neg_cancel_right, il_x, hX hL25 h25, hO hL26 hM.1, hx])
  refine step_11 hi L sh c n _ hI ?_
  intro v L1 sh1 c1 n1 hM1 g25 gx hcall
  have gL := hM1.1
  have gL25 : 25 < L1 := by omega
  repeat' (simp (disch := first | omega | exact Nat.le_of_ble_eq_true rfl | exact rfl | assumption | (simp (disch := omega) only [fr_ne, fr_same]; first | assumption | omega)) only [r279_479, r279_480, r279_481, r279_482, r279_483, r279_484, r279_485, r279_486, r279_487, r279_488, r279_489, r279_490, v279_490_11, il_s, bl_s, bl_z, ll_s, is_s, bs_s, bs_z, ls_s, al_s, al_b, al_l, fr_ne, fr_same, fr_fr, Nat.reduceEqDiff, tc_gf3_s, tc_ql2_s, tc_ws_0, tc_ws_i, tc_ws_l, tc_ws_r, Nat.reduceLeDiff, Nat.reduceAdd, Nat.reduceLT, true_and, and_true, if_true, if_false, tc_K, Option.toList_some, Option.toList_none, List.nil_append, List.cons_append, ite_true, ite_false, Int.cast_ofNat_Int, reduceIte, i3_add_eq, i3_sub_eq, Int.add_sub_cancel, Int.add_neg_cancel_right, il_x, hX gL25 g25, ms75 hM1, gx])
  refine hcall _ ?_
  intro L2 sh2 c2 n2 hI2
  repeat' (simp (disch := first | omega | exact Nat.le_of_ble_eq_true rfl | exact rfl | assumption | (simp (disch := omega) only [fr_ne, fr_same]; first | assumption | omega)) only [r279_493, r279_496, r279_497h, r279_497f, r279_497t, il_s, bl_s, bl_z, ll_s, is_s, bs_s, bs_z, ls_s, al_s, al_b, al_l, fr_ne, fr_same, fr_fr, Nat.reduceEqDiff, tc_gf3_s, tc_ql2_s, tc_ws_0, tc_ws_i, tc_ws_l, tc_ws_r, Nat.reduceLeDiff, Nat.reduceAdd, Nat.reduceLT, true_and, and_true, if_true, if_false, tc_K, Option.toList_some, Option.toList_none, List.nil_append, List.cons_append, ite_true, ite_false, Int.cast_ofNat_Int, reduceIte, i3_add_eq, i3_sub_eq, Int.add_sub_cancel, Int.add_neg_cancel_right, eq_self])
  exact hq L2 sh2 c2 n2 hI2
theorem m279_12 (hi : i ≤ 600) (hb : ∀ k, xs k < 2147483648) (hI : INV X xs i L sh c n) (hz : 0 ≤ z) (hz2 : z + 6 ≤ X) (hX3 : X ≤ 3072) (hq : ∀ L2 sh2 c2 n2, INV X xs (i + 1) L2 sh2 c2 n2 → tc_W 279 1075 [rf 25, rf 26, rf 75, .inl z] [] (hp L2 sh2 c2) n2 Q) : tc_W 279 498 [rf 25, rf 26, rf 75, .inl z] [] (hp L sh c) n Q := by
  obtain ⟨m, LD, s, D, ID, SS, ED, DD, hP⟩ := id hI
  have h25 := hP.2.1.1
  have hx := hP.2.1.2
  have hM := hP.mo
  have hL := hP.L115
  have hL25 : 25 < L := by omega
  have hL26 : 26 < L := by omega
  clear hP
  repeat' (simp (disch := first | omega | exact Nat.le_of_ble_eq_true rfl | exact rfl | assumption | (simp (disch := omega) only [fr_ne, fr_same]; first | assumption | omega)) only [r279_498, r279_499, v279_499_10, il_s, bl_s, bl_z, ll_s, is_s, bs_s, bs_z, ls_s, al_s, al_b, al_l, fr_ne, fr_same, fr_fr, Nat.reduceEqDiff, tc_gf3_s, tc_ql2_s, tc_ws_0, tc_ws_i, tc_ws_l, tc_ws_r, Nat.reduceLeDiff, Nat.reduceAdd, Nat.reduceLT, true_and, and_true, if_true, if_false, tc_K, Option.toList_some, Option.toList_none, List.nil_append, List.cons_append, ite_true, ite_false, Int.cast_ofNat_Int, reduceIte, i3_add_eq, i3_sub_eq, Int.add_sub_cancel, Int.add_neg_cancel_right, il_x, hX hL25 h25, hO hL26 hM.1, hx])
  refine step_12 L sh c n _ hI ?_
  intro v L1 sh1 c1 n1 hM1 g25 gx hcall
  have gL := hM1.1
  have gL25 : 25 < L1 := by omega
  repeat' (simp (disch := first | omega | exact Nat.le_of_ble_eq_true rfl | exact rfl | assumption | (simp (disch := omega) only [fr_ne, fr_same]; first | assumption | omega)) only [r279_502, r279_503, v279_503_11, il_s, bl_s, bl_z, ll_s, is_s, bs_s, bs_z, ls_s, al_s, al_b, al_l, fr_ne, fr_same, fr_fr, Nat.reduceEqDiff, tc_gf3_s, tc_ql2_s, tc_ws_0, tc_ws_i, tc_ws_l, tc_ws_r, Nat.reduceLeDiff, Nat.reduceAdd, Nat.reduceLT, true_and, and_true, if_true, if_false, tc_K, Option.toList_some, Option.toList_none, List.nil_append, List.cons_append, ite_true, ite_false, Int.cast_ofNat_Int, reduceIte, i3_add_eq, i3_sub_eq, Int.add_sub_cancel, Int.add_neg_cancel_right, il_x, hX gL25 g25, ms75 hM1, gx])
  refine hcall _ ?_
  intro L2 sh2 c2 n2 hI2
  repeat' (simp (disch := first | omega | exact Nat.le_of_ble_eq_true rfl | exact rfl | assumption | (simp (disch := omega) only [fr_ne, fr_same]; first | assumption | omega)) only [r279_506, r279_509, r279_510h, r279_510f, r279_510t, il_s, bl_s, bl_z, ll_s, is_s, bs_s, bs_z, ls_s, al_s, al_b, al_l, fr_ne, fr_same, fr_fr, Nat.reduceEqDiff, tc_gf3_s, tc_ql2_s, tc_ws_0, tc_ws_i, tc_ws_l, tc_ws_r, Nat.reduceLeDiff, Nat.reduceAdd, Nat.reduceLT, true_and, and_true, if_true, if_false, tc_K, Option.toList_some, Option.toList_none, List.nil_append, List.cons_append, ite_true, ite_false, Int.cast_ofNat_Int, reduceIte, i3_add_eq, i3_sub_eq, Int.add_sub_cancel, Int.add_neg_cancel_right, eq_self])
  exact hq L2 sh2 c2 n2 hI2
theorem m279_13 (hi : i ≤ 600) (hb : ∀ k, xs k < 2147483648) (hI : INV X xs i L sh c n) (hz : 0 ≤ z) (hz2 : z + 6 ≤ X) (hX3 : X ≤ 3072) (hq : ∀ L2 sh2 c2 n2, INV X xs (i + 1) L2 sh2 c2 n2 → tc_W 279 1075 [rf 25, rf 26, rf 75, .inl z] [] (hp L2 sh2 c2) n2 Q) : tc_W 279 511 [rf 25, rf 26, rf 75, .inl z] [] (hp L sh c) n Q := by
  obtain ⟨m, LD, s, D, ID, SS, ED, DD, hP⟩ := id hI
  have h25 := hP.2.1.1
  have hx := hP.2.1.2
  have hM := hP.mo
  have hL := hP.L115
  have hL25 : 25 < L := by omega
  have hL26 : 26 < L := by omega
  clear hP
  repeat' (simp (disch := first | omega | exact Nat.le_of_ble_eq_true rfl | exact rfl | assumption | (simp (disch := omega) only [fr_ne, fr_same]; first | assumption | omega)) only [r279_511, r279_512, r279_513, r279_514, r279_515, r279_516, r279_517, r279_518, r279_519, r279_520, r279_521, r279_522, v279_522_10, il_s, bl_s, bl_z, ll_s, is_s, bs_s, bs_z, ls_s, al_s, al_b, al_l, fr_ne, fr_same, fr_fr, Nat.reduceEqDiff, tc_gf3_s, tc_ql2_s, tc_ws_0, tc_ws_i, tc_ws_l, tc_ws_r, Nat.reduceLeDiff, Nat.reduceAdd, Nat.reduceLT, true_and, and_true, if_true, if_false, tc_K, Option.toList_some, Option.toList_none, List.nil_append, List.cons_append, ite_true, ite_false, Int.cast_ofNat_Int, reduceIte, i3_add_eq, i3_sub_eq, Int.add_sub_cancel, Int.add_neg_cancel_right, il_x, hX hL25 h25, hO hL26 hM.1, hx])
  refine step_13 (hb _) L sh c n _ hI ?_
  intro v L1 sh1 c1 n1 hM1 g25 gx hcall
  have gL := hM1.1
  have gL25 : 25 < L1 := by omega
  repeat' (simp (disch := first | omega | exact Nat.le_of_ble_eq_true rfl | exact rfl | assumption | (simp (disch := omega) only [fr_ne, fr_same]; first | assumption | omega)) only [r279_525, r279_526, r279_527, r279_528, r279_529, r279_530, r279_531, r279_532, r279_533, r279_534, r279_535, r279_536, v279_536_11, il_s, bl_s, bl_z, ll_s, is_s, bs_s, bs_z, ls_s, al_s, al_b, al_l, fr_ne, fr_same, fr_fr, Nat.reduceEqDiff, tc_gf3_s, tc_ql2_s, tc_ws_0, tc_ws_i, tc_ws_l, tc_ws_r, Nat.reduceLeDiff, Nat.reduceAdd, Nat.reduceLT, true_and, and_true, if_true, if_false, tc_K, Option.toList_some, Option.toList_none, List.nil_append, List.cons_append, ite_true, ite_false, Int.cast_ofNat_Int, reduceIte, i3_add_eq, i3_sub_eq, Int.add_sub_cancel, Int.add_neg_cancel_right, il_x, hX gL25 g25, ms75 hM1, gx])
  refine hcall _ ?_
  intro L2 sh2 c2 n2 hI2
  repeat' (simp (disch := first | omega | exact Nat.le_of_ble_eq_true rfl | exact rfl | assumption | (simp (disch := omega) only [fr_ne, fr_same]; first | assumption | omega)) only [r279_539, r279_542, r279_543h, r279_543f, r279_543t, il_s, bl_s, bl_z, ll_s, is_s, bs_s, bs_z, ls_s, al_s, al_b, al_l, fr_ne, fr_same, fr_fr, Nat.reduceEqDiff, tc_gf3_s, tc_ql2_s, tc_ws_0, tc_ws_i, tc_ws_l, tc_ws_r, Nat.reduceLeDiff, Nat.reduceAdd, Nat.reduceLT, true_and, and_true, if_true, if_false, tc_K, Option.toList_some, Option.toList_none, List.nil_append, List.cons_append, ite_true, ite_false, Int.cast_ofNat_Int, reduceIte, i3_add_eq, i3_sub_eq, Int.add_sub_cancel, Int.add_neg_cancel_right, eq_self])
  exact hq L2 sh2 c2 n2 hI2
theorem m279_14 (hi : i ≤ 600) (hb : ∀ k, xs k < 2147483648) (hI : INV X xs i L sh c n) (hz : 0 ≤ z) (hz2 : z + 6 ≤ X) (hX3 : X ≤ 3072) (hq : ∀ L2 sh2 c2 n2, INV X xs (i + 1) L2 sh2 c2 n2 → tc_W 279 1075 [rf 25, rf 26, rf 75, .inl z] [] (hp L2 sh2 c2) n2 Q) : tc_W 279 544 [rf 25, rf 26, rf 75, .inl z] [] (hp L sh c) n Q := by
  obtain ⟨m, LD, s, D, ID, SS, ED, DD, hP⟩ := id hI
  have h25 := hP.2.1.1
  have hx := hP.2.1.2
  have hM := hP.mo
  have hL := hP.L115
  have hL25 : 25 < L := by omega
  have hL26 : 26 < L := by omega
  clear hP
  repeat' (simp (disch := first | omega | exact Nat.le_of_ble_eq_true rfl | exact rfl | assumption | (simp (disch := omega) only [fr_ne, fr_same]; first | assumption | omega)) only [r279_544, r279_545, r279_546, r279_547, r279_548, r279_549, r279_550, r279_551, r279_552, r279_553, r279_554, r279_555, r279_556, r279_557, r279_558, r279_559, r279_560, v279_560_10, il_s, bl_s, bl_z, ll_s, is_s, bs_s, bs_z, ls_s, al_s, al_b, al_l, fr_ne, fr_same, fr_fr, Nat.reduceEqDiff, tc_gf3_s, tc_ql2_s, tc_ws_0, tc_ws_i, tc_ws_l, tc_ws_r, Nat.reduceLeDiff, Nat.reduceAdd, Nat.reduceLT, true_and, and_true, if_true, if_false, tc_K, Option.toList_some, Option.toList_none, List.nil_append, List.cons_append, ite_true, ite_false, Int.cast_ofNat_Int, reduceIte, i3_add_eq, i3_sub_eq, Int.add_sub_cancel, Int.add_neg_cancel_right, il_x, hX hL25 h25, hO hL26 hM.1, hx])
  refine step_14 hi L sh c n _ hI ?_
  intro v L1 sh1 c1 n1 hM1 g25 gx hcall
  have gL := hM1.1
  have gL25 : 25 < L1 := by omega
  repeat' (simp (disch := first | omega | exact Nat.le_of_ble_eq_true rfl | exact rfl | assumption | (simp (disch := omega) only [fr_ne, fr_same]; first | assumption | omega)) only [r279_563, r279_564, r279_565, r279_566, r279_567, r279_568, r279_569, r279_570, r279_571, r279_572, r279_573, r279_574, r279_575, r279_576, r279_577, r279_578, r279_579, v279_579_11, il_s, bl_s, bl_z, ll_s, is_s, bs_s, bs_z, ls_s, al_s, al_b, al_l, fr_ne, fr_same, fr_fr, Nat.reduceEqDiff, tc_gf3_s, tc_ql2_s, tc_ws_0, tc_ws_i, tc_ws_l, tc_ws_r, Nat.reduceLeDiff, Nat.reduceAdd, Nat.reduceLT, true_and, and_true, if_true, if_false, tc_K, Option.toList_some, Option.toList_none, List.nil_append, List.cons_append, ite_true, ite_false, Int.cast_ofNat_Int, reduceIte, i3_add_eq, i3_sub_eq, Int.add_sub_cancel, Int.add_neg_cancel_right, il_x, hX gL25 g25, ms75 hM1, gx])
  refine hcall _ ?_
  intro L2 sh2 c2 n2 hI2
  repeat' (simp (disch := first | omega | exact Nat.le_of_ble_eq_true rfl | exact rfl | assumption | (simp (disch := omega) only [fr_ne, fr_same]; first | assumption | omega)) only [r279_582, r279_585, r279_586h, r279_586f, r279_586t, il_s, bl_s, bl_z, ll_s, is_s, bs_s, bs_z, ls_s, al_s, al_b, al_l, fr_ne, fr_same, fr_fr, Nat.reduceEqDiff, tc_gf3_s, tc_ql2_s, tc_ws_0, tc_ws_i, tc_ws_l, tc_ws_r, Nat.reduceLeDiff, Nat.reduceAdd, Nat.reduceLT, true_and, and_true, if_true, if_false, tc_K, Option.toList_some, Option.toList_none, List.nil_append, List.cons_append, ite_true, ite_false, Int.cast_ofNat_Int, reduceIte, i3_add_eq, i3_sub_eq, Int.add_sub_cancel, Int.add_neg_cancel_right, eq_self])
  exact hq L2 sh2 c2 n2 hI2
theorem m279_15 (hi : i ≤ 600) (hb : ∀ k, xs k < 2147483648) (hI : INV X xs i L sh c n) (hz : 0 ≤ z) (hz2 : z + 6 ≤ X) (hX3 : X ≤ 3072) (hq : ∀ L2 sh2 c2 n2, INV X xs (i + 1) L2 sh2 c2 n2 → tc_W 279 1075 [rf 25, rf 26, rf 75, .inl z] [] (hp L2 sh2 c2) n2 Q) : tc_W 279 587 [rf 25, rf 26, rf 75, .inl z] [] (hp L sh c) n Q := by
  obtain ⟨m, LD, s, D, ID, SS, ED, DD, hP⟩ := id hI
  have h25 := hP.2.1.1
  have hx := hP.2.1.2
  have hM := hP.mo
  have hL := hP.L115
  have hL25 : 25 < L := by omega
  have hL26 : 26 < L := by omega
  clear hP
  repeat' (simp (disch := first | omega | exact Nat.le_of_ble_eq_true rfl | exact rfl | assumption | (simp (disch := omega) only [fr_ne, fr_same]; first | assumption | omega)) only [r279_587, r279_588, r279_589, r279_590, r279_591, r279_592, r279_593, v279_593_10, il_s, bl_s, bl_z, ll_s, is_s, bs_s, bs_z, ls_s, al_s, al_b, al_l, fr_ne, fr_same, fr_fr, Nat.reduceEqDiff, tc_gf3_s, tc_ql2_s, tc_ws_0, tc_ws_i, tc_ws_l, tc_ws_r, Nat.reduceLeDiff, Nat.reduceAdd, Nat.reduceLT, true_and, and_true, if_true, if_false, tc_K, Option.toList_some, Option.toList_none, List.nil_append, List.cons_append, ite_true, ite_false, Int.cast_ofNat_Int, reduceIte, i3_add_eq, i3_sub_eq, Int.add_sub_cancel, Int.add_neg_cancel_right, il_x, hX hL25 h25, hO hL26 hM.1, hx])
  refine step_15 hi L sh c n _ hI ?_
  intro v L1 sh1 c1 n1 hM1 g25 gx hcall
  have gL := hM1.1
  have gL25 : 25 < L1 := by omega
  repeat' (simp (disch := first | omega | exact Nat.le_of_ble_eq_true rfl | exact rfl | assumption | (simp (disch := omega) only [fr_ne, fr_same]; first | assumption | omega)) only [r279_596, r279_597, r279_598, r279_599, r279_600, r279_601, r279_602, v279_602_11, il_s, bl_s, bl_z, ll_s, is_s, bs_s, bs_z, ls_s, al_s, al_b, al_l, fr_ne, fr_same, fr_fr, Nat.reduceEqDiff, tc_gf3_s, tc_ql2_s, tc_ws_0, tc_ws_i, tc_ws_l, tc_ws_r, Nat.reduceLeDiff, Nat.reduceAdd, Nat.reduceLT, true_and, and_true, if_true, if_false, tc_K, Option.toList_some, Option.toList_none, List.nil_append, List.cons_append, ite_true, ite_false, Int.cast_ofNat_Int, reduceIte, i3_add_eq, i3_sub_eq, Int.add_sub_cancel, Int.add_neg_cancel_right, il_x, hX gL25 g25, ms75 hM1, gx])
  refine hcall _ ?_
  intro L2 sh2 c2 n2 hI2
  repeat' (simp (disch := first | omega | exact Nat.le_of_ble_eq_true rfl | exact rfl | assumption | (simp (disch := omega) only [fr_ne, fr_same]; first | assumption | omega)) only [r279_605, r279_608, r279_609h, r279_609f, r279_609t, il_s, bl_s, bl_z, ll_s, is_s, bs_s, bs_z, ls_s, al_s, al_b, al_l, fr_ne, fr_same, fr_fr, Nat.reduceEqDiff, tc_gf3_s, tc_ql2_s, tc_ws_0, tc_ws_i, tc_ws_l, tc_ws_r, Nat.reduceLeDiff, Nat.reduceAdd, Nat.reduceLT, true_and, and_true, if_true, if_false, tc_K, Option.toList_some, Option.toList_none, List.nil_append, List.cons_append, ite_true, ite_false, Int.cast_ofNat_Int, reduceIte, i3_add_eq, i3_sub_eq, Int.add_sub_cancel, Int.add_neg_cancel_right, eq_self])
  exact hq L2 sh2 c2 n2 hI2
theorem m279_16 (hi : i ≤ 600) (hb : ∀ k, xs k < 2147483648) (hI : INV X xs i L sh c n) (hz : 0 ≤ z) (hz2 : z + 6 ≤ X) (hX3 : X ≤ 3072) (hq : ∀ L2 sh2 c2 n2, INV X xs (i + 1) L2 sh2 c2 n2 → tc_W 279 1075 [rf 25, rf 26, rf 75, .inl z] [] (hp L2 sh2 c2) n2 Q) : tc_W 279 610 [rf 25, rf 26, rf 75, .inl z] [] (hp L sh c) n Q := by
  obtain ⟨m, LD, s, D, ID, SS, ED, DD, hP⟩ := id hI
  have h25 := hP.2.1.1
  have hx := hP.2.1.2
  have hM := hP.mo
  have hL := hP.L115
  have hL25 : 25 < L := by omega
  have hL26 : 26 < L := by omega
  clear hP
  repeat' (simp (disch := first | omega | exact Nat.le_of_ble_eq_true rfl | exact rfl | assumption | (simp (disch := omega) only [fr_ne, fr_same]; first | assumption | omega)) only [r279_610, r279_611, r279_612, r279_613, r279_614, r279_615, r279_616, r279_617, r279_618, r279_619, r279_620, r279_621, r279_622, r279_623, r279_624, r279_625, r279_626, v279_626_10, il_s, bl_s, bl_z, ll_s, is_s, bs_s, bs_z, ls_s, al_s, al_b, al_l, fr_ne, fr_same, fr_fr, Nat.reduceEqDiff, tc_gf3_s, tc_ql2_s, tc_ws_0, tc_ws_i, tc_ws_l, tc_ws_r, Nat.reduceLeDiff, Nat.reduceAdd, Nat.reduceLT, true_and, and_true, if_true, if_false, tc_K, Option.toList_some, Option.toList_none, List.nil_append, List.cons_append, ite_true, ite_false, Int.cast_ofNat_Int, reduceIte, i3_add_eq, i3_sub_eq, Int.add_sub_cancel, Int.add_neg_cancel_right, il_x, hX hL25 h25, hO hL26 hM.1, hx])
  refine step_16 hi L sh c n _ hI ?_
  intro v L1 sh1 c1 n1 hM1 g25 gx hcall
  have gL := hM1.1
  have gL25 : 25 < L1 := by omega
  repeat' (simp (disch := first | omega | exact Nat.le_of_ble_eq_true rfl | exact rfl | assumption | (simp (disch := omega) only [fr_ne, fr_same]; first | assumption | omega)) only [r279_629, r279_630, r279_631, r279_632, r279_633, r279_634, r279_635, r279_636, r279_637, r279_638, r279_639, r279_640, r279_641, r279_642, r279_643, r279_644, r279_645, v279_645_11, il_s, bl_s, bl_z, ll_s, is_s, bs_s, bs_z, ls_s, al_s, al_b, al_l, fr_ne, fr_same, fr_fr, Nat.reduceEqDiff, tc_gf3_s, tc_ql2_s, tc_ws_0, tc_ws_i, tc_ws_l, tc_ws_r, Nat.reduceLeDiff, Nat.reduceAdd, Nat.reduceLT, true_and, and_true, if_true, if_false, tc_K, Option.toList_some, Option.toList_none, List.nil_append, List.cons_append, ite_true, ite_false, Int.cast_ofNat_Int, reduceIte, i3_add_eq, i3_sub_eq, Int.add_sub_cancel, Int.add_neg_cancel_right, il_x, hX gL25 g25, ms75 hM1, gx])
  refine hcall _ ?_
  intro L2 sh2 c2 n2 hI2
  repeat' (simp (disch := first | omega | exact Nat.le_of_ble_eq_true rfl | exact rfl | assumption | (simp (disch := omega) only [fr_ne, fr_same]; first | assumption | omega)) only [r279_648, r279_651, r279_652h, r279_652f, r279_652t, il_s, bl_s, bl_z, ll_s, is_s, bs_s, bs_z, ls_s, al_s, al_b, al_l, fr_ne, fr_same, fr_fr, Nat.reduceEqDiff, tc_gf3_s, tc_ql2_s, tc_ws_0, tc_ws_i, tc_ws_l, tc_ws_r, Nat.reduceLeDiff, Nat.reduceAdd, Nat.reduceLT, true_and, and_true, if_true, if_false, tc_K, Option.toList_some, Option.toList_none, List.nil_append, List.cons_append, ite_true, ite_false, Int.cast_ofNat_Int, reduceIte, i3_add_eq, i3_sub_eq, Int.add_sub_cancel, Int.add_neg_cancel_right, eq_self])
  exact hq L2 sh2 c2 n2 hI2
theorem m279_17 (hi : i ≤ 600) (hb : ∀ k, xs k < 2147483648) (hI : INV X xs i L sh c n) (hz : 0 ≤ z) (hz2 : z + 6 ≤ X) (hX3 : X ≤ 3072) (hq : ∀ L2 sh2 c2 n2, INV X xs (i + 1) L2 sh2 c2 n2 → tc_W 279 1075 [rf 25, rf 26, rf 75, .inl z] [] (hp L2 sh2 c2) n2 Q) : tc_W 279 653 [rf 25, rf 26, rf 75, .inl z] [] (hp L sh c) n Q := by
  obtain ⟨m, LD, s, D, ID, SS, ED, DD, hP⟩ := id hI
  have h25 := hP.2.1.1
  have hx := hP.2.1.2
  have hM := hP.mo
  have hL := hP.L115
  have hL25 : 25 < L := by omega
  have hL26 : 26 < L := by omega
  clear hP
  repeat' (simp (disch := first | omega | exact Nat.le_of_ble_eq_true rfl | exact rfl | assumption | (simp (disch := omega) only [fr_ne, fr_same]; first | assumption | omega)) only [r279_653, r279_654, r279_655, r279_656, r279_657, r279_658, r279_659, r279_660, r279_661, r279_662, r279_663, r279_664, v279_664_10, il_s, bl_s, bl_z, ll_s, is_s, bs_s, bs_z, ls_s, al_s, al_b, al_l, fr_ne, fr_same, fr_fr, Nat.reduceEqDiff, tc_gf3_s, tc_ql2_s, tc_ws_0, tc_ws_i, tc_ws_l, tc_ws_r, Nat.reduceLeDiff, Nat.reduceAdd, Nat.reduceLT, true_and, and_true, if_true, if_false, tc_K, Option.toList_some, Option.toList_none, List.nil_append, List.cons_append, ite_true, ite_false, Int.cast_ofNat_Int, reduceIte, i3_add_eq, i3_sub_eq, Int.add_sub_cancel, Int.add_neg_cancel_right, il_x, hX hL25 h25, hO hL26 hM.1, hx])
  refine step_17 hi L sh c n _ hI ?_
  intro v L1 sh1 c1 n1 hM1 g25 gx hcall
  have gL := hM1.1
  have gL25 : 25 < L1 := by omega
  repeat' (simp (disch := first | omega | exact Nat.le_of_ble_eq_true rfl | exact rfl | assumption | (simp (disch := omega) only [fr_ne, fr_same]; first | assumption | omega)) only [r279_667, r279_668, r279_669, r279_670, r279_671, r279_672, r279_673, r279_674, r279_675, r279_676, r279_677, r279_678, v279_678_11, il_s, bl_s, bl_z, ll_s, is_s, bs_s, bs_z, ls_s, al_s, al_b, al_l, fr_ne, fr_same, fr_fr, Nat.reduceEqDiff, tc_gf3_s, tc_ql2_s, tc_ws_0, tc_ws_i, tc_ws_l, tc_ws_r, Nat.reduceLeDiff, Nat.reduceAdd, Nat.reduceLT, true_and, and_true, if_true, if_false, tc_K, Option.toList_some, Option.toList_none, List.nil_append, List.cons_append, ite_true, ite_false, Int.cast_ofNat_Int, reduceIte, i3_add_eq, i3_sub_eq, Int.add_sub_cancel, Int.add_neg_cancel_right, il_x, hX gL25 g25, ms75 hM1, gx])
  refine hcall _ ?_
  intro L2 sh2 c2 n2 hI2
  repeat' (simp (disch := first | omega | exact Nat.le_of_ble_eq_true rfl | exact rfl | assumption | (simp (disch := omega) only [fr_ne, fr_same]; first | assumption | omega)) only [r279_681, r279_684, r279_685h, r279_685f, r279_685t, il_s, bl_s, bl_z, ll_s, is_s, bs_s, bs_z, ls_s, al_s, al_b, al_l, fr_ne, fr_same, fr_fr, Nat.reduceEqDiff, tc_gf3_s, tc_ql2_s, tc_ws_0, tc_ws_i, tc_ws_l, tc_ws_r, Nat.reduceLeDiff, Nat.reduceAdd, Nat.reduceLT, true_and, and_true, if_true, if_false, tc_K, Option.toList_some, Option.toList_none, List.nil_append, List.cons_append, ite_true, ite_false, Int.cast_ofNat_Int, reduceIte, i3_add_eq, i3_sub_eq, Int.add_sub_cancel, Int.add_neg_cancel_right, eq_self])
  exact hq L2 sh2 c2 n2 hI2
theorem m279_18 (hi : i ≤ 600) (hb : ∀ k, xs k < 2147483648) (hI : INV X xs i L sh c n) (hz : 0 ≤ z) (hz2 : z + 6 ≤ X) (hX3 : X ≤ 3072) (hq : ∀ L2 sh2 c2 n2, INV X xs (i + 1) L2 sh2 c2 n2 → tc_W 279 1075 [rf 25, rf 26, rf 75, .inl z] [] (hp L2 sh2 c2) n2 Q) : tc_W 279 686 [rf 25, rf 26, rf 75, .inl z] [] (hp L sh c) n Q := by
  obtain ⟨m, LD, s, D, ID, SS, ED, DD, hP⟩ := id hI
  have h25 := hP.2.1.1
  have hx := hP.2.1.2
  have hM := hP.mo
  have hL := hP.L115
  have hL25 : 25 < L := by omega
  have hL26 : 26 < L := by omega
  clear hP
  repeat' (simp (disch := first | omega | exact Nat.le_of_ble_eq_true rfl | exact rfl | assumption | (simp (disch := omega) only [fr_ne, fr_same]; first | assumption | omega)) only [r279_686, r279_687, r279_688, r279_689, r279_690, r279_691, r279_692, r279_693, r279_694, r279_695, r279_696, r279_697, v279_697_10, il_s, bl_s, bl_z, ll_s, is_s, bs_s, bs_z, ls_s, al_s, al_b, al_l, fr_ne, fr_same, fr_fr, Nat.reduceEqDiff, tc_gf3_s, tc_ql2_s, tc_ws_0, tc_ws_i, tc_ws_l, tc_ws_r, Nat.reduceLeDiff, Nat.reduceAdd, Nat.reduceLT, true_and, and_true, if_true, if_false, tc_K, Option.toList_some, Option.toList_none, List.nil_append, List.cons_append, ite_true, ite_false, Int.cast_ofNat_Int, reduceIte, i3_add_eq, i3_sub_eq, Int.add_sub_cancel, Int.add_neg_cancel_right, il_x, hX hL25 h25, hO hL26 hM.1, hx])
  refine step_18 L sh c n _ hI ?_
  intro v L1 sh1 c1 n1 hM1 g25 gx hcall
  have gL := hM1.1
  have gL25 : 25 < L1 := by omega
  repeat' (simp (disch := first | omega | exact Nat.le_of_ble_eq_true rfl | exact rfl | assumption | (simp (disch := omega) only [fr_ne, fr_same]; first | assumption | omega)) only [r279_700, r279_701, r279_702, r279_703, r279_704, r279_705, r279_706, r279_707, r279_708, r279_709, r279_710, r279_711, v279_711_11, il_s, bl_s, bl_z, ll_s, is_s, bs_s, bs_z, ls_s, al_s, al_b, al_l, fr_ne, fr_same, fr_fr, Nat.reduceEqDiff, tc_gf3_s, tc_ql2_s, tc_ws_0, tc_ws_i, tc_ws_l, tc_ws_r, Nat.reduceLeDiff, Nat.reduceAdd, Nat.reduceLT, true_and, and_true, if_true, if_false, tc_K, Option.toList_some, Option.toList_none, List.nil_append, List.cons_append, ite_true, ite_false, Int.cast_ofNat_Int, reduceIte, i3_add_eq, i3_sub_eq, Int.add_sub_cancel, Int.add_neg_cancel_right, il_x, hX gL25 g25, ms75 hM1, gx])
  refine hcall _ ?_
  intro L2 sh2 c2 n2 hI2
  repeat' (simp (disch := first | omega | exact Nat.le_of_ble_eq_true rfl | exact rfl | assumption | (simp (disch := omega) only [fr_ne, fr_same]; first | assumption | omega)) only [r279_714, r279_717, r279_718h, r279_718f, r279_718t, il_s, bl_s, bl_z, ll_s, is_s, bs_s, bs_z, ls_s, al_s, al_b, al_l, fr_ne, fr_same, fr_fr, Nat.reduceEqDiff, tc_gf3_s, tc_ql2_s, tc_ws_0, tc_ws_i, tc_ws_l, tc_ws_r, Nat.reduceLeDiff, Nat.reduceAdd, Nat.reduceLT, true_and, and_true, if_true, if_false, tc_K, Option.toList_some, Option.toList_none, List.nil_append, List.cons_append, ite_true, ite_false, Int.cast_ofNat_Int, reduceIte, i3_add_eq, i3_sub_eq, Int.add_sub_cancel, Int.add_neg_cancel_right, eq_self])
  exact hq L2 sh2 c2 n2 hI2
theorem m279_19 (hi : i ≤ 600) (hb : ∀ k, xs k < 2147483648) (hI : INV X xs i L sh c n) (hz : 0 ≤ z) (hz2 : z + 6 ≤ X) (hX3 : X ≤ 3072) (hq : ∀ L2 sh2 c2 n2, INV X xs (i + 1) L2 sh2 c2 n2 → tc_W 279 1075 [rf 25, rf 26, rf 75, .inl z] [] (hp L2 sh2 c2) n2 Q) : tc_W 279 719 [rf 25, rf 26, rf 75, .inl z] [] (hp L sh c) n Q := by
  obtain ⟨m, LD, s, D, ID, SS, ED, DD, hP⟩ := id hI
  have h25 := hP.2.1.1
  have hx := hP.2.1.2
  have hM := hP.mo
  have hL := hP.L115
  have hL25 : 25 < L := by omega
  have hL26 : 26 < L := by omega
  clear hP
  repeat' (simp (disch := first | omega | exact Nat.le_of_ble_eq_true rfl | exact rfl | assumption | (simp (disch := omega) only [fr_ne, fr_same]; first | assumption | omega)) only [r279_719, r279_720, r279_721, r279_722, r279_723, r279_724, r279_725, r279_726, r279_727, r279_728, r279_729, r279_730, v279_730_10, il_s, bl_s, bl_z, ll_s, is_s, bs_s, bs_z, ls_s, al_s, al_b, al_l, fr_ne, fr_same, fr_fr, Nat.reduceEqDiff, tc_gf3_s, tc_ql2_s, tc_ws_0, tc_ws_i, tc_ws_l, tc_ws_r, Nat.reduceLeDiff, Nat.reduceAdd, Nat.reduceLT, true_and, and_true, if_true, if_false, tc_K, Option.toList_some, Option.toList_none, List.nil_append, List.cons_append, ite_true, ite_false, Int.cast_ofNat_Int, reduceIte, i3_add_eq, i3_sub_eq, Int.add_sub_cancel, Int.add_neg_cancel_right, il_x, hX hL25 h25, hO hL26 hM.1, hx])
  refine step_19 L sh c n _ hI ?_
  intro v L1 sh1 c1 n1 hM1 g25 gx hcall
  have gL := hM1.1
  have gL25 : 25 < L1 := by omega
  repeat' (simp (disch := first | omega | exact Nat.le_of_ble_eq_true rfl | exact rfl | assumption | (simp (disch := omega) only [fr_ne, fr_same]; first | assumption | omega)) only [r279_733, r279_734, r279_735, r279_736, r279_737, r279_738, r279_739, r279_740, r279_741, r279_742, r279_743, r279_744, v279_744_11, il_s, bl_s, bl_z, ll_s, is_s, bs_s, bs_z, ls_s, al_s, al_b, al_l, fr_ne, fr_same, fr_fr, Nat.reduceEqDiff, tc_gf3_s, tc_ql2_s, tc_ws_0, tc_ws_i, tc_ws_l, tc_ws_r, Nat.reduceLeDiff, Nat.reduceAdd, Nat.reduceLT, true_and, and_true, if_true, if_false, tc_K, Option.toList_some, Option.toList_none, List.nil_append, List.cons_append, ite_true, ite_false, Int.cast_ofNat_Int, reduceIte, i3_add_eq, i3_sub_eq, Int.add_sub_cancel, Int.add_neg_cancel_right, il_x, hX gL25 g25, ms75 hM1, gx])
  refine hcall _ ?_
  intro L2 sh2 c2 n2 hI2
  repeat' (simp (disch := first | omega | exact Nat.le_of_ble_eq_true rfl | exact rfl | assumption | (simp (disch := omega) only [fr_ne, fr_same]; first | assumption | omega)) only [r279_747, r279_750, r279_751h, r279_751f, r279_751t, il_s, bl_s, bl_z, ll_s, is_s, bs_s, bs_z, ls_s, al_s, al_b, al_l, fr_ne, fr_same, fr_fr, Nat.reduceEqDiff, tc_gf3_s, tc_ql2_s, tc_ws_0, tc_ws_i, tc_ws_l, tc_ws_r, Nat.reduceLeDiff, Nat.reduceAdd, Nat.reduceLT, true_and, and_true, if_true, if_false, tc_K, Option.toList_some, Option.toList_none, List.nil_append, List.cons_append, ite_true, ite_false, Int.cast_ofNat_Int, reduceIte, i3_add_eq, i3_sub_eq, Int.add_sub_cancel, Int.add_neg_cancel_right, eq_self])
  exact hq L2 sh2 c2 n2 hI2
theorem m279_20 (hi : i ≤ 600) (hb : ∀ k, xs k < 2147483648) (hI : INV X xs i L sh c n) (hz : 0 ≤ z) (hz2 : z + 6 ≤ X) (hX3 : X ≤ 3072) (hq : ∀ L2 sh2 c2 n2, INV X xs (i + 1) L2 sh2 c2 n2 → tc_W 279 1075 [rf 25, rf 26, rf 75, .inl z] [] (hp L2 sh2 c2) n2 Q) : tc_W 279 752 [rf 25, rf 26, rf 75, .inl z] [] (hp L sh c) n Q := by
  obtain ⟨m, LD, s, D, ID, SS, ED, DD, hP⟩ := id hI
  have h25 := hP.2.1.1
  have hx := hP.2.1.2
  have hM := hP.mo
  have hL := hP.L115
  have hL25 : 25 < L := by omega
  have hL26 : 26 < L := by omega
  clear hP
  repeat' (simp (disch := first | omega | exact Nat.le_of_ble_eq_true rfl | exact rfl | assumption | (simp (disch := omega) only [fr_ne, fr_same]; first | assumption | omega)) only [r279_752, r279_753, r279_754, r279_755, r279_756, r279_757, r279_758, r279_759, r279_760, r279_761, r279_762, r279_763, v279_763_10, il_s, bl_s, bl_z, ll_s, is_s, bs_s, bs_z, ls_s, al_s, al_b, al_l, fr_ne, fr_same, fr_fr, Nat.reduceEqDiff, tc_gf3_s, tc_ql2_s, tc_ws_0, tc_ws_i, tc_ws_l, tc_ws_r, Nat.reduceLeDiff, Nat.reduceAdd, Nat.reduceLT, true_and, and_true, if_true, if_false, tc_K, Option.toList_some, Option.toList_none, List.nil_append, List.cons_append, ite_true, ite_false, Int.cast_ofNat_Int, reduceIte, i3_add_eq, i3_sub_eq, Int.add_sub_cancel, Int.add_neg_cancel_right, il_x, hX hL25 h25, hO hL26 hM.1, hx])
  refine step_20 hi L sh c n _ hI ?_
  intro v L1 sh1 c1 n1 hM1 g25 gx hcall
  have gL := hM1.1
  have gL25 : 25 < L1 := by omega
  repeat' (simp (disch := first | omega | exact Nat.le_of_ble_eq_true rfl | exact rfl | assumption | (simp (disch := omega) only [fr_ne, fr_same]; first | assumption | omega)) only [r279_766, r279_767, r279_768, r279_769, r279_770, r279_771, r279_772, r279_773, r279_774, r279_775, r279_776, r279_777, v279_777_11, il_s, bl_s, bl_z, ll_s, is_s, bs_s, bs_z, ls_s, al_s, al_b, al_l, fr_ne, fr_same, fr_fr, Nat.reduceEqDiff, tc_gf3_s, tc_ql2_s, tc_ws_0, tc_ws_i, tc_ws_l, tc_ws_r, Nat.reduceLeDiff, Nat.reduceAdd, Nat.reduceLT, true_and, and_true, if_true, if_false, tc_K, Option.toList_some, Option.toList_none, List.nil_append, List.cons_append, ite_true, ite_false, Int.cast_ofNat_Int, reduceIte, i3_add_eq, i3_sub_eq, Int.add_sub_cancel, Int.add_neg_cancel_right, il_x, hX gL25 g25, ms75 hM1, gx])
  refine hcall _ ?_
  intro L2 sh2 c2 n2 hI2
  repeat' (simp (disch := first | omega | exact Nat.le_of_ble_eq_true rfl | exact rfl | assumption | (simp (disch := omega) only [fr_ne, fr_same]; first | assumption | omega)) only [r279_780, r279_783, r279_784h, r279_784f, r279_784t, il_s, bl_s, bl_z, ll_s, is_s, bs_s, bs_z, ls_s, al_s, al_b, al_l, fr_ne, fr_same, fr_fr, Nat.reduceEqDiff, tc_gf3_s, tc_ql2_s, tc_ws_0, tc_ws_i, tc_ws_l, tc_ws_r, Nat.reduceLeDiff, Nat.reduceAdd, Nat.reduceLT, true_and, and_true, if_true, if_false, tc_K, Option.toList_some, Option.toList_none, List.nil_append, List.cons_append, ite_true, ite_false, Int.cast_ofNat_Int, reduceIte, i3_add_eq, i3_sub_eq, Int.add_sub_cancel, Int.add_neg_cancel_right, eq_self])
  exact hq L2 sh2 c2 n2 hI2
theorem m279_21 (hi : i ≤ 600) (hb : ∀ k, xs k < 2147483648) (hI : INV X xs i L sh c n) (hz : 0 ≤ z) (hz2 : z + 6 ≤ X) (hX3 : X ≤ 3072) (hq : ∀ L2 sh2 c2 n2, INV X xs (i + 1) L2 sh2 c2 n2 → tc_W 279 1075 [rf 25, rf 26, rf 75, .inl z] [] (hp L2 sh2 c2) n2 Q) : tc_W 279 785 [rf 25, rf 26, rf 75, .inl z] [] (hp L sh c) n Q := by
  obtain ⟨m, LD, s, D, ID, SS, ED, DD, hP⟩ := id hI
  have h25 := hP.2.1.1
  have hx := hP.2.1.2
  have hM := hP.mo
  have hL := hP.L115
  have hL25 : 25 < L := by omega
  have hL26 : 26 < L := by omega
  clear hP
  repeat' (simp (disch := first | omega | exact Nat.le_of_ble_eq_true rfl | exact rfl | assumption | (simp (disch := omega) only [fr_ne, fr_same]; first | assumption | omega)) only [r279_785, r279_786, r279_787, r279_788, r279_789, r279_790, r279_791, r279_792, r279_793, r279_794, r279_795, r279_796, v279_796_10, il_s, bl_s, bl_z, ll_s, is_s, bs_s, bs_z, ls_s, al_s, al_b, al_l, fr_ne, fr_same, fr_fr, Nat.reduceEqDiff, tc_gf3_s, tc_ql2_s, tc_ws_0, tc_ws_i, tc_ws_l, tc_ws_r, Nat.reduceLeDiff, Nat.reduceAdd, Nat.reduceLT, true_and, and_true, if_true, if_false, tc_K, Option.toList_some, Option.toList_none, List.nil_append, List.cons_append, ite_true, ite_false, Int.cast_ofNat_Int, reduceIte, i3_add_eq, i3_sub_eq, Int.add_sub_cancel, Int.add_neg_cancel_right, il_x, hX hL25 h25, hO hL26 hM.1, hx])
  refine step_21 hi L sh c n _ hI ?_
  intro v L1 sh1 c1 n1 hM1 g25 gx hcall
  have gL := hM1.1
  have gL25 : 25 < L1 := by omega
  repeat' (simp (disch := first | omega | exact Nat.le_of_ble_eq_true rfl | exact rfl | assumption | (simp (disch := omega) only [fr_ne, fr_same]; first | assumption | omega)) only [r279_799, r279_800, r279_801, r279_802, r279_803, r279_804, r279_805, r279_806, r279_807, r279_808, r279_809, r279_810, v279_810_11, il_s, bl_s, bl_z, ll_s, is_s, bs_s, bs_z, ls_s, al_s, al_b, al_l, fr_ne, fr_same, fr_fr, Nat.reduceEqDiff, tc_gf3_s, tc_ql2_s, tc_ws_0, tc_ws_i, tc_ws_l, tc_ws_r, Nat.reduceLeDiff, Nat.reduceAdd, Nat.reduceLT, true_and, and_true, if_true, if_false, tc_K, Option.toList_some, Option.toList_none, List.nil_append, List.cons_append, ite_true, ite_false, Int.cast_ofNat_Int, reduceIte, i3_add_eq, i3_sub_eq, Int.add_sub_cancel, Int.add_neg_cancel_right, il_x, hX gL25 g25, ms75 hM1, gx])
  refine hcall _ ?_
  intro L2 sh2 c2 n2 hI2
  repeat' (simp (disch := first | omega | exact Nat.le_of_ble_eq_true rfl | exact rfl | assumption | (simp (disch := omega) only [fr_ne, fr_same]; first | assumption | omega)) only [r279_813, r279_816, r279_817h, r279_817f, r279_817t, il_s, bl_s, bl_z, ll_s, is_s, bs_s, bs_z, ls_s, al_s, al_b, al_l, fr_ne, fr_same, fr_fr, Nat.reduceEqDiff, tc_gf3_s, tc_ql2_s, tc_ws_0, tc_ws_i, tc_ws_l, tc_ws_r, Nat.reduceLeDiff, Nat.reduceAdd, Nat.reduceLT, true_and, and_true, if_true, if_false, tc_K, Option.toList_some, Option.toList_none, List.nil_append, List.cons_append, ite_true, ite_false, Int.cast_ofNat_Int, reduceIte, i3_add_eq, i3_sub_eq, Int.add_sub_cancel, Int.add_neg_cancel_right, eq_self])
  exact hq L2 sh2 c2 n2 hI2
theorem m279_22 (hi : i ≤ 600) (hb : ∀ k, xs k < 2147483648) (hI : INV X xs i L sh c n) (hz : 0 ≤ z) (hz2 : z + 6 ≤ X) (hX3 : X ≤ 3072) (hq : ∀ L2 sh2 c2 n2, INV X xs (i + 1) L2 sh2 c2 n2 → tc_W 279 1075 [rf 25, rf 26, rf 75, .inl z] [] (hp L2 sh2 c2) n2 Q) : tc_W 279 818 [rf 25, rf 26, rf 75, .inl z] [] (hp L sh c) n Q := by
  obtain ⟨m, LD, s, D, ID, SS, ED, DD, hP⟩ := id hI
  have h25 := hP.2.1.1
  have hx := hP.2.1.2
  have hM := hP.mo
  have hL := hP.L115
  have hL25 : 25 < L := by omega
  have hL26 : 26 < L := by omega
  clear hP
  repeat' (simp (disch := first | omega | exact Nat.le_of_ble_eq_true rfl | exact rfl | assumption | (simp (disch := omega) only [fr_ne, fr_same]; first | assumption | omega)) only [r279_818, r279_819, r279_820, r279_821, r279_822, r279_823, r279_824, v279_824_10, il_s, bl_s, bl_z, ll_s, is_s, bs_s, bs_z, ls_s, al_s, al_b, al_l, fr_ne, fr_same, fr_fr, Nat.reduceEqDiff, tc_gf3_s, tc_ql2_s, tc_ws_0, tc_ws_i, tc_ws_l, tc_ws_r, Nat.reduceLeDiff, Nat.reduceAdd, Nat.reduceLT, true_and, and_true, if_true, if_false, tc_K, Option.toList_some, Option.toList_none, List.nil_append, List.cons_append, ite_true, ite_false, Int.cast_ofNat_Int, reduceIte, i3_add_eq, i3_sub_eq, Int.add_sub_cancel, Int.add_neg_cancel_right, il_x, hX hL25 h25, hO hL26 hM.1, hx])
  refine step_22 hi L sh c n _ hI ?_
  intro v L1 sh1 c1 n1 hM1 g25 gx hcall
  have gL := hM1.1
  have gL25 : 25 < L1 := by omega
  repeat' (simp (disch := first | omega | exact Nat.le_of_ble_eq_true rfl | exact rfl | assumption | (simp (disch := omega) only [fr_ne, fr_same]; first | assumption | omega)) only [r279_827, r279_828, r279_829, r279_830, r279_831, r279_832, r279_833, v279_833_11, il_s, bl_s, bl_z, ll_s, is_s, bs_s, bs_z, ls_s, al_s, al_b, al_l, fr_ne, fr_same, fr_fr, Nat.reduceEqDiff, tc_gf3_s, tc_ql2_s, tc_ws_0, tc_ws_i, tc_ws_l, tc_ws_r, Nat.reduceLeDiff, Nat.reduceAdd, Nat.reduceLT, true_and, and_true, if_true, if_false, tc_K, Option.toList_some, Option.toList_none, List.nil_append, List.cons_append, ite_true, ite_false, Int.cast_ofNat_Int, reduceIte, i3_add_eq, i3_sub_eq, Int.add_sub_cancel, Int.add_neg_cancel_right, il_x, hX gL25 g25, ms75 hM1, gx])
  refine hcall _ ?_
  intro L2 sh2 c2 n2 hI2
  repeat' (simp (disch := first | omega | exact Nat.le_of_ble_eq_true rfl | exact rfl | assumption | (simp (disch := omega) only [fr_ne, fr_same]; first | assumption | omega)) only [r279_836, r279_839, r279_840h, r279_840f, r279_840t, il_s, bl_s, bl_z, ll_s, is_s, bs_s, bs_z, ls_s, al_s, al_b, al_l, fr_ne, fr_same, fr_fr, Nat.reduceEqDiff, tc_gf3_s, tc_ql2_s, tc_ws_0, tc_ws_i, tc_ws_l, tc_ws_r, Nat.reduceLeDiff, Nat.reduceAdd, Nat.reduceLT, true_and, and_true, if_true, if_false, tc_K, Option.toList_some, Option.toList_none, List.nil_append, List.cons_append, ite_true, ite_false, Int.cast_ofNat_Int, reduceIte, i3_add_eq, i3_sub_eq, Int.add_sub_cancel, Int.add_neg_cancel_right, eq_self])
  exact hq L2 sh2 c2 n2 hI2
theorem m279_23 (hi : i ≤ 600) (hb : ∀ k, xs k < 2147483648) (hI : INV X xs i L sh c n) (hz : 0 ≤ z) (hz2 : z + 6 ≤ X) (hX3 : X ≤ 3072) (hq : ∀ L2 sh2 c2 n2, INV X xs (i + 1) L2 sh2 c2 n2 → tc_W 279 1075 [rf 25, rf 26, rf 75, .inl z] [] (hp L2 sh2 c2) n2 Q) : tc_W 279 841 [rf 25, rf 26, rf 75, .inl z] [] (hp L sh c) n Q := by
  obtain ⟨m, LD, s, D, ID, SS, ED, DD, hP⟩ := id hI
  have h25 := hP.2.1.1
  have hx := hP.2.1.2
  have hM := hP.mo
  have hL := hP.L115
  have hL25 : 25 < L := by omega
  have hL26 : 26 < L := by omega
  clear hP
  repeat' (simp (disch := first | omega | exact Nat.le_of_ble_eq_true rfl | exact rfl | assumption | (simp (disch := omega) only [fr_ne, fr_same]; first | assumption | omega)) only [r279_841, r279_842, r279_843, r279_844, r279_845, r279_846, r279_847, r279_848, r279_849, r279_850, r279_851, r279_852, r279_853, r279_854, r279_855, r279_856, r279_857, v279_857_10, il_s, bl_s, bl_z, ll_s, is_s, bs_s, bs_z, ls_s, al_s, al_b, al_l, fr_ne, fr_same, fr_fr, Nat.reduceEqDiff, tc_gf3_s, tc_ql2_s, tc_ws_0, tc_ws_i, tc_ws_l, tc_ws_r, Nat.reduceLeDiff, Nat.reduceAdd, Nat.reduceLT, true_and, and_true, if_true, if_false, tc_K, Option.toList_some, Option.toList_none, List.nil_append, List.cons_append, ite_true, ite_false, Int.cast_ofNat_Int, reduceIte, i3_add_eq, i3_sub_eq, Int.add_sub_cancel, Int.add_neg_cancel_right, il_x, hX hL25 h25, hO hL26 hM.1, hx])
  refine step_23 L sh c n _ hI ?_
  intro v L1 sh1 c1 n1 hM1 g25 gx hcall
  have gL := hM1.1
  have gL25 : 25 < L1 := by omega
  repeat' (simp (disch := first | omega | exact Nat.le_of_ble_eq_true rfl | exact rfl | assumption | (simp (disch := omega) only [fr_ne, fr_same]; first | assumption | omega)) only [r279_860, r279_861, r279_862, r279_863, r279_864, r279_865, r279_866, r279_867, r279_868, r279_869, r279_870, r279_871, r279_872, r279_873, r279_874, r279_875, r279_876, v279_876_11, il_s, bl_s, bl_z, ll_s, is_s, bs_s, bs_z, ls_s, al_s, al_b, al_l, fr_ne, fr_same, fr_fr, Nat.reduceEqDiff, tc_gf3_s, tc_ql2_s, tc_ws_0, tc_ws_i, tc_ws_l, tc_ws_r, Nat.reduceLeDiff, Nat.reduceAdd, Nat.reduceLT, true_and, and_true, if_true, if_false, tc_K, Option.toList_some, Option.toList_none, List.nil_append, List.cons_append, ite_true, ite_false, Int.cast_ofNat_Int, reduceIte, i3_add_eq, i3_sub_eq, Int.add_sub_cancel, Int.add_neg_cancel_right, il_x, hX gL25 g25, ms75 hM1, gx])
  refine hcall _ ?_
  intro L2 sh2 c2 n2 hI2
  repeat' (simp (disch := first | omega | exact Nat.le_of_ble_eq_true rfl | exact rfl | assumption | (simp (disch := omega) only [fr_ne, fr_same]; first | assumption | omega)) only [r279_879, r279_882, r279_883h, r279_883f, r279_883t, il_s, bl_s, bl_z, ll_s, is_s, bs_s, bs_z, ls_s, al_s, al_b, al_l, fr_ne, fr_same, fr_fr, Nat.reduceEqDiff, tc_gf3_s, tc_ql2_s, tc_ws_0, tc_ws_i, tc_ws_l, tc_ws_r, Nat.reduceLeDiff, Nat.reduceAdd, Nat.reduceLT, true_and, and_true, if_true, if_false, tc_K, Option.toList_some, Option.toList_none, List.nil_append, List.cons_append, ite_true, ite_false, Int.cast_ofNat_Int, reduceIte, i3_add_eq, i3_sub_eq, Int.add_sub_cancel, Int.add_neg_cancel_right, eq_self])
  exact hq L2 sh2 c2 n2 hI2
theorem m279_24 (hi : i ≤ 600) (hb : ∀ k, xs k < 2147483648) (hI : INV X xs i L sh c n) (hz : 0 ≤ z) (hz2 : z + 6 ≤ X) (hX3 : X ≤ 3072) (hq : ∀ L2 sh2 c2 n2, INV X xs (i + 1) L2 sh2 c2 n2 → tc_W 279 1075 [rf 25, rf 26, rf 75, .inl z] [] (hp L2 sh2 c2) n2 Q) : tc_W 279 884 [rf 25, rf 26, rf 75, .inl z] [] (hp L sh c) n Q := by
  obtain ⟨m, LD, s, D, ID, SS, ED, DD, hP⟩ := id hI
  have h25 := hP.2.1.1
  have hx := hP.2.1.2
  have hM := hP.mo
  have hL := hP.L115
  have hL25 : 25 < L := by omega
  have hL26 : 26 < L := by omega
  clear hP
  repeat' (simp (disch := first | omega | exact Nat.le_of_ble_eq_true rfl | exact rfl | assumption | (simp (disch := omega) only [fr_ne, fr_same]; first | assumption | omega)) only [r279_884, r279_885, r279_886, r279_887, r279_888, r279_889, r279_890, v279_890_10, il_s, bl_s, bl_z, ll_s, is_s, bs_s, bs_z, ls_s, al_s, al_b, al_l, fr_ne, fr_same, fr_fr, Nat.reduceEqDiff, tc_gf3_s, tc_ql2_s, tc_ws_0, tc_ws_i, tc_ws_l, tc_ws_r, Nat.reduceLeDiff, Nat.reduceAdd, Nat.reduceLT, true_and, and_true, if_true, if_false, tc_K, Option.toList_some, Option.toList_none, List.nil_append, List.cons_append, ite_true, ite_false, Int.cast_ofNat_Int, reduceIte, i3_add_eq, i3_sub_eq, Int.add_sub_cancel, Int.add_neg_cancel_right, il_x, hX hL25 h25, hO hL26 hM.1, hx])
  refine step_24 L sh c n _ hI ?_
  intro v L1 sh1 c1 n1 hM1 g25 gx hcall
  have gL := hM1.1
  have gL25 : 25 < L1 := by omega
  repeat' (simp (disch := first | omega | exact Nat.le_of_ble_eq_true rfl | exact rfl | assumption | (simp (disch := omega) only [fr_ne, fr_same]; first | assumption | omega)) only [r279_893, r279_894, r279_895, r279_896, r279_897, r279_898, r279_899, v279_899_11, il_s, bl_s, bl_z, ll_s, is_s, bs_s, bs_z, ls_s, al_s, al_b, al_l, fr_ne, fr_same, fr_fr, Nat.reduceEqDiff, tc_gf3_s, tc_ql2_s, tc_ws_0, tc_ws_i, tc_ws_l, tc_ws_r, Nat.reduceLeDiff, Nat.reduceAdd, Nat.reduceLT, true_and, and_true, if_true, if_false, tc_K, Option.toList_some, Option.toList_none, List.nil_append, List.cons_append, ite_true, ite_false, Int.cast_ofNat_Int, reduceIte, i3_add_eq, i3_sub_eq, Int.add_sub_cancel, Int.add_neg_cancel_right, il_x, hX gL25 g25, ms75 hM1, gx])
  refine hcall _ ?_
  intro L2 sh2 c2 n2 hI2
  repeat' (simp (disch := first | omega | exact Nat.le_of_ble_eq_true rfl | exact rfl | assumption | (simp (disch := omega) only [fr_ne, fr_same]; first | assumption | omega)) only [r279_902, r279_905, r279_906h, r279_906f, r279_906t, il_s, bl_s, bl_z, ll_s, is_s, bs_s, bs_z, ls_s, al_s, al_b, al_l, fr_ne, fr_same, fr_fr, Nat.reduceEqDiff, tc_gf3_s, tc_ql2_s, tc_ws_0, tc_ws_i, tc_ws_l, tc_ws_r, Nat.reduceLeDiff, Nat.reduceAdd, Nat.reduceLT, true_and, and_true, if_true, if_false, tc_K, Option.toList_some, Option.toList_none, List.nil_append, List.cons_append, ite_true, ite_false, Int.cast_ofNat_Int, reduceIte, i3_add_eq, i3_sub_eq, Int.add_sub_cancel, Int.add_neg_cancel_right, eq_self])
  exact hq L2 sh2 c2 n2 hI2
theorem m279_25 (hi : i ≤ 600) (hb : ∀ k, xs k < 2147483648) (hI : INV X xs i L sh c n) (hz : 0 ≤ z) (hz2 : z + 6 ≤ X) (hX3 : X ≤ 3072) (hq : ∀ L2 sh2 c2 n2, INV X xs (i + 1) L2 sh2 c2 n2 → tc_W 279 1075 [rf 25, rf 26, rf 75, .inl z] [] (hp L2 sh2 c2) n2 Q) : tc_W 279 907 [rf 25, rf 26, rf 75, .inl z] [] (hp L sh c) n Q := by
  obtain ⟨m, LD, s, D, ID, SS, ED, DD, hP⟩ := id hI
  have h25 := hP.2.1.1
  have hx := hP.2.1.2
  have hM := hP.mo
  have hL := hP.L115
  have hL25 : 25 < L := by omega
  have hL26 : 26 < L := by omega
  clear hP
  repeat' (simp (disch := first | omega | exact Nat.le_of_ble_eq_true rfl | exact rfl | assumption | (simp (disch := omega) only [fr_ne, fr_same]; first | assumption | omega)) only [r279_907, r279_908, r279_909, r279_910, r279_911, r279_912, r279_913, r279_914, r279_915, r279_916, r279_917, r279_918, v279_918_10, il_s, bl_s, bl_z, ll_s, is_s, bs_s, bs_z, ls_s, al_s, al_b, al_l, fr_ne, fr_same, fr_fr, Nat.reduceEqDiff, tc_gf3_s, tc_ql2_s, tc_ws_0, tc_ws_i, tc_ws_l, tc_ws_r, Nat.reduceLeDiff, Nat.reduceAdd, Nat.reduceLT, true_and, and_true, if_true, if_false, tc_K, Option.toList_some, Option.toList_none, List.nil_append, List.cons_append, ite_true, ite_false, Int.cast_ofNat_Int, reduceIte, i3_add_eq, i3_sub_eq, Int.add_sub_cancel, Int.add_neg_cancel_right, il_x, hX hL25 h25, hO hL26 hM.1, hx])
  refine step_25 L sh c n _ hI ?_
  intro v L1 sh1 c1 n1 hM1 g25 gx hcall
  have gL := hM1.1
  have gL25 : 25 < L1 := by omega
  repeat' (simp (disch := first | omega | exact Nat.le_of_ble_eq_true rfl | exact rfl | assumption | (simp (disch := omega) only [fr_ne, fr_same]; first | assumption | omega)) only [r279_921, r279_922, r279_923, r279_924, r279_925, r279_926, r279_927, r279_928, r279_929, r279_930, r279_931, r279_932, v279_932_11, il_s, bl_s, bl_z, ll_s, is_s, bs_s, bs_z, ls_s, al_s, al_b, al_l, fr_ne, fr_same, fr_fr, Nat.reduceEqDiff, tc_gf3_s, tc_ql2_s, tc_ws_0, tc_ws_i, tc_ws_l, tc_ws_r, Nat.reduceLeDiff, Nat.reduceAdd, Nat.reduceLT, true_and, and_true, if_true, if_false, tc_K, Option.toList_some, Option.toList_none, List.nil_append, List.cons_append, ite_true, ite_false, Int.cast_ofNat_Int, reduceIte, i3_add_eq, i3_sub_eq, Int.add_sub_cancel, Int.add_neg_cancel_right, il_x, hX gL25 g25, ms75 hM1, gx])
  refine hcall _ ?_
  intro L2 sh2 c2 n2 hI2
  repeat' (simp (disch := first | omega | exact Nat.le_of_ble_eq_true rfl | exact rfl | assumption | (simp (disch := omega) only [fr_ne, fr_same]; first | assumption | omega)) only [r279_935, r279_938, r279_939h, r279_939f, r279_939t, il_s, bl_s, bl_z, ll_s, is_s, bs_s, bs_z, ls_s, al_s, al_b, al_l, fr_ne, fr_same, fr_fr, Nat.reduceEqDiff, tc_gf3_s, tc_ql2_s, tc_ws_0, tc_ws_i, tc_ws_l, tc_ws_r, Nat.reduceLeDiff, Nat.reduceAdd, Nat.reduceLT, true_and, and_true, if_true, if_false, tc_K, Option.toList_some, Option.toList_none, List.nil_append, List.cons_append, ite_true, ite_false, Int.cast_ofNat_Int, reduceIte, i3_add_eq, i3_sub_eq, Int.add_sub_cancel, Int.add_neg_cancel_right, eq_self])
  exact hq L2 sh2 c2 n2 hI2
theorem m279_26 (hi : i ≤ 600) (hb : ∀ k, xs k < 2147483648) (hI : INV X xs i L sh c n) (hz : 0 ≤ z) (hz2 : z + 6 ≤ X) (hX3 : X ≤ 3072) (hq : ∀ L2 sh2 c2 n2, INV X xs (i + 1) L2 sh2 c2 n2 → tc_W 279 1075 [rf 25, rf 26, rf 75, .inl z] [] (hp L2 sh2 c2) n2 Q) : tc_W 279 940 [rf 25, rf 26, rf 75, .inl z] [] (hp L sh c) n Q := by
  obtain ⟨m, LD, s, D, ID, SS, ED, DD, hP⟩ := id hI
  have h25 := hP.2.1.1
  have hx := hP.2.1.2
  have hM := hP.mo
  have hL := hP.L115
  have hL25 : 25 < L := by omega
  have hL26 : 26 < L := by omega
  clear hP
  repeat' (simp (disch := first | omega | exact Nat.le_of_ble_eq_true rfl | exact rfl | assumption | (simp (disch := omega) only [fr_ne, fr_same]; first | assumption | omega)) only [r279_940, r279_941, r279_942, r279_943, r279_944, r279_945, r279_946, v279_946_10, il_s, bl_s, bl_z, ll_s, is_s, bs_s, bs_z, ls_s, al_s, al_b, al_l, fr_ne, fr_same, fr_fr, Nat.reduceEqDiff, tc_gf3_s, tc_ql2_s, tc_ws_0, tc_ws_i, tc_ws_l, tc_ws_r, Nat.reduceLeDiff, Nat.reduceAdd, Nat.reduceLT, true_and, and_true, if_true, if_false, tc_K, Option.toList_some, Option.toList_none, List.nil_append, List.cons_append, ite_true, ite_false, Int.cast_ofNat_Int, reduceIte, i3_add_eq, i3_sub_eq, Int.add_sub_cancel, Int.add_neg_cancel_right, il_x, hX hL25 h25, hO hL26 hM.1, hx])
  refine step_26 (hb _) L sh c n _ hI ?_
  intro v L1 sh1 c1 n1 hM1 g25 gx hcall
  have gL := hM1.1
  have gL25 : 25 < L1 := by omega
  repeat' (simp (disch := first | omega | exact Nat.le_of_ble_eq_true rfl | exact rfl | assumption | (simp (disch := omega) only [fr_ne, fr_same]; first | assumption | omega)) only [r279_949, r279_950, r279_951, r279_952, r279_953, r279_954, r279_955, v279_955_11, il_s, bl_s, bl_z, ll_s, is_s, bs_s, bs_z, ls_s, al_s, al_b, al_l, fr_ne, fr_same, fr_fr, Nat.reduceEqDiff, tc_gf3_s, tc_ql2_s, tc_ws_0, tc_ws_i, tc_ws_l, tc_ws_r, Nat.reduceLeDiff, Nat.reduceAdd, Nat.reduceLT, true_and, and_true, if_true, if_false, tc_K, Option.toList_some, Option.toList_none, List.nil_append, List.cons_append, ite_true, ite_false, Int.cast_ofNat_Int, reduceIte, i3_add_eq, i3_sub_eq, Int.add_sub_cancel, Int.add_neg_cancel_right, il_x, hX gL25 g25, ms75 hM1, gx])
  refine hcall _ ?_
  intro L2 sh2 c2 n2 hI2
  repeat' (simp (disch := first | omega | exact Nat.le_of_ble_eq_true rfl | exact rfl | assumption | (simp (disch := omega) only [fr_ne, fr_same]; first | assumption | omega)) only [r279_958, r279_961, r279_962h, r279_962f, r279_962t, il_s, bl_s, bl_z, ll_s, is_s, bs_s, bs_z, ls_s, al_s, al_b, al_l, fr_ne, fr_same, fr_fr, Nat.reduceEqDiff, tc_gf3_s, tc_ql2_s, tc_ws_0, tc_ws_i, tc_ws_l, tc_ws_r, Nat.reduceLeDiff, Nat.reduceAdd, Nat.reduceLT, true_and, and_true, if_true, if_false, tc_K, Option.toList_some, Option.toList_none, List.nil_append, List.cons_append, ite_true, ite_false, Int.cast_ofNat_Int, reduceIte, i3_add_eq, i3_sub_eq, Int.add_sub_cancel, Int.add_neg_cancel_right, eq_self])
  exact hq L2 sh2 c2 n2 hI2
theorem m279_27 (hi : i ≤ 600) (hb : ∀ k, xs k < 2147483648) (hI : INV X xs i L sh c n) (hz : 0 ≤ z) (hz2 : z + 6 ≤ X) (hX3 : X ≤ 3072) (hq : ∀ L2 sh2 c2 n2, INV X xs (i + 1) L2 sh2 c2 n2 → tc_W 279 1075 [rf 25, rf 26, rf 75, .inl z] [] (hp L2 sh2 c2) n2 Q) : tc_W 279 963 [rf 25, rf 26, rf 75, .inl z] [] (hp L sh c) n Q := by
  obtain ⟨m, LD, s, D, ID, SS, ED, DD, hP⟩ := id hI
  have h25 := hP.2.1.1
  have hx := hP.2.1.2
  have hM := hP.mo
  have hL := hP.L115
  have hL25 : 25 < L := by omega
  have hL26 : 26 < L := by omega
  clear hP
  repeat' (simp (disch := first | omega | exact Nat.le_of_ble_eq_true rfl | exact rfl | assumption | (simp (disch := omega) only [fr_ne, fr_same]; first | assumption | omega)) only [r279_963, r279_964, r279_965, r279_966, r279_967, r279_968, r279_969, r279_970, r279_971, r279_972, r279_973, r279_974, r279_975, r279_976, r279_977, r279_978, r279_979, v279_979_10, il_s, bl_s, bl_z, ll_s, is_s, bs_s, bs_z, ls_s, al_s, al_b, al_l, fr_ne, fr_same, fr_fr, Nat.reduceEqDiff, tc_gf3_s, tc_ql2_s, tc_ws_0, tc_ws_i, tc_ws_l, tc_ws_r, Nat.reduceLeDiff, Nat.reduceAdd, Nat.reduceLT, true_and, and_true, if_true, if_false, tc_K, Option.toList_some, Option.toList_none, List.nil_append, List.cons_append, ite_true, ite_false, Int.cast_ofNat_Int, reduceIte, i3_add_eq, i3_sub_eq, Int.add_sub_cancel, Int.add_neg_cancel_right, il_x, hX hL25 h25, hO hL26 hM.1, hx])
  refine step_27 hi L sh c n _ hI ?_
  intro v L1 sh1 c1 n1 hM1 g25 gx hcall
  have gL := hM1.1
  have gL25 : 25 < L1 := by omega
  repeat' (simp (disch := first | omega | exact Nat.le_of_ble_eq_true rfl | exact rfl | assumption | (simp (disch := omega) only [fr_ne, fr_same]; first | assumption | omega)) only [r279_982, r279_983, r279_984, r279_985, r279_986, r279_987, r279_988, r279_989, r279_990, r279_991, r279_992, r279_993, r279_994, r279_995, r279_996, r279_997, r279_998, v279_998_11, il_s, bl_s, bl_z, ll_s, is_s, bs_s, bs_z, ls_s, al_s, al_b, al_l, fr_ne, fr_same, fr_fr, Nat.reduceEqDiff, tc_gf3_s, tc_ql2_s, tc_ws_0, tc_ws_i, tc_ws_l, tc_ws_r, Nat.reduceLeDiff, Nat.reduceAdd, Nat.reduceLT, true_and, and_true, if_true, if_false, tc_K, Option.toList_some, Option.toList_none, List.nil_append, List.cons_append, ite_true, ite_false, Int.cast_ofNat_Int, reduceIte, i3_add_eq, i3_sub_eq, Int.add_sub_cancel, Int.add_neg_cancel_right, il_x, hX gL25 g25, ms75 hM1, gx])
  refine hcall _ ?_
  intro L2 sh2 c2 n2 hI2
  repeat' (simp (disch := first | omega | exact Nat.le_of_ble_eq_true rfl | exact rfl | assumption | (simp (disch := omega) only [fr_ne, fr_same]; first | assumption | omega)) only [r279_1001, r279_1004, r279_1005h, r279_1005f, r279_1005t, il_s, bl_s, bl_z, ll_s, is_s, bs_s, bs_z, ls_s, al_s, al_b, al_l, fr_ne, fr_same, fr_fr, Nat.reduceEqDiff, tc_gf3_s, tc_ql2_s, tc_ws_0, tc_ws_i, tc_ws_l, tc_ws_r, Nat.reduceLeDiff, Nat.reduceAdd, Nat.reduceLT, true_and, and_true, if_true, if_false, tc_K, Option.toList_some, Option.toList_none, List.nil_append, List.cons_append, ite_true, ite_false, Int.cast_ofNat_Int, reduceIte, i3_add_eq, i3_sub_eq, Int.add_sub_cancel, Int.add_neg_cancel_right, eq_self])
  exact hq L2 sh2 c2 n2 hI2
theorem m279_28 (hi : i ≤ 600) (hb : ∀ k, xs k < 2147483648) (hI : INV X xs i L sh c n) (hz : 0 ≤ z) (hz2 : z + 6 ≤ X) (hX3 : X ≤ 3072) (hq : ∀ L2 sh2 c2 n2, INV X xs (i + 1) L2 sh2 c2 n2 → tc_W 279 1075 [rf 25, rf 26, rf 75, .inl z] [] (hp L2 sh2 c2) n2 Q) : tc_W 279 1006 [rf 25, rf 26, rf 75, .inl z] [] (hp L sh c) n Q := by
  obtain ⟨m, LD, s, D, ID, SS, ED, DD, hP⟩ := id hI
  have h25 := hP.2.1.1
  have hx := hP.2.1.2
  have hM := hP.mo
  have hL := hP.L115
  have hL25 : 25 < L := by omega
  have hL26 : 26 < L := by omega
  clear hP
  repeat' (simp (disch := first | omega | exact Nat.le_of_ble_eq_true rfl | exact rfl | assumption | (simp (disch := omega) only [fr_ne, fr_same]; first | assumption | omega)) only [r279_1006, r279_1007, r279_1008, r279_1009, r279_1010, r279_1011, r279_1012, v279_1012_10, il_s, bl_s, bl_z, ll_s, is_s, bs_s, bs_z, ls_s, al_s, al_b, al_l, fr_ne, fr_same, fr_fr, Nat.reduceEqDiff, tc_gf3_s, tc_ql2_s, tc_ws_0, tc_ws_i, tc_ws_l, tc_ws_r, Nat.reduceLeDiff, Nat.reduceAdd, Nat.reduceLT, true_and, and_true, if_true, if_false, tc_K, Option.toList_some, Option.toList_none, List.nil_append, List.cons_append, ite_true, ite_false, Int.cast_ofNat_Int, reduceIte, i3_add_eq, i3_sub_eq, Int.add_sub_cancel, Int.add_neg_cancel_right, il_x, hX hL25 h25, hO hL26 hM.1, hx])
  refine step_28 L sh c n _ hI ?_
  intro v L1 sh1 c1 n1 hM1 g25 gx hcall
  have gL := hM1.1
  have gL25 : 25 < L1 := by omega
  repeat' (simp (disch := first | omega | exact Nat.le_of_ble_eq_true rfl | exact rfl | assumption | (simp (disch := omega) only [fr_ne, fr_same]; first | assumption | omega)) only [r279_1015, r279_1016, r279_1017, r279_1018, r279_1019, r279_1020, r279_1021, v279_1021_11, il_s, bl_s, bl_z, ll_s, is_s, bs_s, bs_z, ls_s, al_s, al_b, al_l, fr_ne, fr_same, fr_fr, Nat.reduceEqDiff, tc_gf3_s, tc_ql2_s, tc_ws_0, tc_ws_i, tc_ws_l, tc_ws_r, Nat.reduceLeDiff, Nat.reduceAdd, Nat.reduceLT, true_and, and_true, if_true, if_false, tc_K, Option.toList_some, Option.toList_none, List.nil_append, List.cons_append, ite_true, ite_false, Int.cast_ofNat_Int, reduceIte, i3_add_eq, i3_sub_eq, Int.add_sub_cancel, Int.add_neg_cancel_right, il_x, hX gL25 g25, ms75 hM1, gx])
  refine hcall _ ?_
  intro L2 sh2 c2 n2 hI2
  repeat' (simp (disch := first | omega | exact Nat.le_of_ble_eq_true rfl | exact rfl | assumption | (simp (disch := omega) only [fr_ne, fr_same]; first | assumption | omega)) only [r279_1024, r279_1027, r279_1028h, r279_1028f, r279_1028t, il_s, bl_s, bl_z, ll_s, is_s, bs_s, bs_z, ls_s, al_s, al_b, al_l, fr_ne, fr_same, fr_fr, Nat.reduceEqDiff, tc_gf3_s, tc_ql2_s, tc_ws_0, tc_ws_i, tc_ws_l, tc_ws_r, Nat.reduceLeDiff, Nat.reduceAdd, Nat.reduceLT, true_and, and_true, if_true, if_false, tc_K, Option.toList_some, Option.toList_none, List.nil_append, List.cons_append, ite_true, ite_false, Int.cast_ofNat_Int, reduceIte, i3_add_eq, i3_sub_eq, Int.add_sub_cancel, Int.add_neg_cancel_right, eq_self])
  exact hq L2 sh2 c2 n2 hI2
theorem m279_29 (hi : i ≤ 600) (hb : ∀ k, xs k < 2147483648) (hI : INV X xs i L sh c n) (hz : 0 ≤ z) (hz2 : z + 6 ≤ X) (hX3 : X ≤ 3072) (hq : ∀ L2 sh2 c2 n2, INV X xs (i + 1) L2 sh2 c2 n2 → tc_W 279 1075 [rf 25, rf 26, rf 75, .inl z] [] (hp L2 sh2 c2) n2 Q) : tc_W 279 1029 [rf 25, rf 26, rf 75, .inl z] [] (hp L sh c) n Q := by
  obtain ⟨m, LD, s, D, ID, SS, ED, DD, hP⟩ := id hI
  have h25 := hP.2.1.1
  have hx := hP.2.1.2
  have hM := hP.mo
  have hL := hP.L115
  have hL25 : 25 < L := by omega
  have hL26 : 26 < L := by omega
  clear hP
  repeat' (simp (disch := first | omega | exact Nat.le_of_ble_eq_true rfl | exact rfl | assumption | (simp (disch := omega) only [fr_ne, fr_same]; first | assumption | omega)) only [r279_1029, r279_1030, r279_1031, r279_1032, r279_1033, r279_1034, r279_1035, v279_1035_10, il_s, bl_s, bl_z, ll_s, is_s, bs_s, bs_z, ls_s, al_s, al_b, al_l, fr_ne, fr_same, fr_fr, Nat.reduceEqDiff, tc_gf3_s, tc_ql2_s, tc_ws_0, tc_ws_i, tc_ws_l, tc_ws_r, Nat.reduceLeDiff, Nat.reduceAdd, Nat.reduceLT, true_and, and_true, if_true, if_false, tc_K, Option.toList_some, Option.toList_none, List.nil_append, List.cons_append, ite_true, ite_false, Int.cast_ofNat_Int, reduceIte, i3_add_eq, i3_sub_eq, Int.add_sub_cancel, Int.add_neg_cancel_right, il_x, hX hL25 h25, hO hL26 hM.1, hx])
  refine step_29 L sh c n _ hI ?_
  intro v L1 sh1 c1 n1 hM1 g25 gx hcall
  have gL := hM1.1
  have gL25 : 25 < L1 := by omega
  repeat' (simp (disch := first | omega | exact Nat.le_of_ble_eq_true rfl | exact rfl | assumption | (simp (disch := omega) only [fr_ne, fr_same]; first | assumption | omega)) only [r279_1038, r279_1039, r279_1040, r279_1041, r279_1042, r279_1043, r279_1044, v279_1044_11, il_s, bl_s, bl_z, ll_s, is_s, bs_s, bs_z, ls_s, al_s, al_b, al_l, fr_ne, fr_same, fr_fr, Nat.reduceEqDiff, tc_gf3_s, tc_ql2_s, tc_ws_0, tc_ws_i, tc_ws_l, tc_ws_r, Nat.reduceLeDiff, Nat.reduceAdd, Nat.reduceLT, true_and, and_true, if_true, if_false, tc_K, Option.toList_some, Option.toList_none, List.nil_append, List.cons_append, ite_true, ite_false, Int.cast_ofNat_Int, reduceIte, i3_add_eq, i3_sub_eq, Int.add_sub_cancel, Int.add_neg_cancel_right, il_x, hX gL25 g25, ms75 hM1, gx])
  refine hcall _ ?_
  intro L2 sh2 c2 n2 hI2
  repeat' (simp (disch := first | omega | exact Nat.le_of_ble_eq_true rfl | exact rfl | assumption | (simp (disch := omega) only [fr_ne, fr_same]; first | assumption | omega)) only [r279_1047, r279_1050, r279_1051h, r279_1051f, r279_1051t, il_s, bl_s, bl_z, ll_s, is_s, bs_s, bs_z, ls_s, al_s, al_b, al_l, fr_ne, fr_same, fr_fr, Nat.reduceEqDiff, tc_gf3_s, tc_ql2_s, tc_ws_0, tc_ws_i, tc_ws_l, tc_ws_r, Nat.reduceLeDiff, Nat.reduceAdd, Nat.reduceLT, true_and, and_true, if_true, if_false, tc_K, Option.toList_some, Option.toList_none, List.nil_append, List.cons_append, ite_true, ite_false, Int.cast_ofNat_Int, reduceIte, i3_add_eq, i3_sub_eq, Int.add_sub_cancel, Int.add_neg_cancel_right, eq_self])
  exact hq L2 sh2 c2 n2 hI2
theorem m279_30 (hi : i ≤ 600) (hb : ∀ k, xs k < 2147483648) (hI : INV X xs i L sh c n) (hz : 0 ≤ z) (hz2 : z + 6 ≤ X) (hX3 : X ≤ 3072) (hq : ∀ L2 sh2 c2 n2, INV X xs (i + 1) L2 sh2 c2 n2 → tc_W 279 1075 [rf 25, rf 26, rf 75, .inl z] [] (hp L2 sh2 c2) n2 Q) : tc_W 279 1052 [rf 25, rf 26, rf 75, .inl z] [] (hp L sh c) n Q := by
  obtain ⟨m, LD, s, D, ID, SS, ED, DD, hP⟩ := id hI
  have h25 := hP.2.1.1
  have hx := hP.2.1.2
  have hM := hP.mo
  have hL := hP.L115
  have hL25 : 25 < L := by omega
  have hL26 : 26 < L := by omega
  clear hP
  repeat' (simp (disch := first | omega | exact Nat.le_of_ble_eq_true rfl | exact rfl | assumption | (simp (disch := omega) only [fr_ne, fr_same]; first | assumption | omega)) only [r279_1052, r279_1053, r279_1054, r279_1055, r279_1056, r279_1057, r279_1058, v279_1058_10, il_s, bl_s, bl_z, ll_s, is_s, bs_s, bs_z, ls_s, al_s, al_b, al_l, fr_ne, fr_same, fr_fr, Nat.reduceEqDiff, tc_gf3_s, tc_ql2_s, tc_ws_0, tc_ws_i, tc_ws_l, tc_ws_r, Nat.reduceLeDiff, Nat.reduceAdd, Nat.reduceLT, true_and, and_true, if_true, if_false, tc_K, Option.toList_some, Option.toList_none, List.nil_append, List.cons_append, ite_true, ite_false, Int.cast_ofNat_Int, reduceIte, i3_add_eq, i3_sub_eq, Int.add_sub_cancel, Int.add_neg_cancel_right, il_x, hX hL25 h25, hO hL26 hM.1, hx])
  refine step_30 L sh c n _ hI ?_
  intro v L1 sh1 c1 n1 hM1 g25 gx hcall
  have gL := hM1.1
  have gL25 : 25 < L1 := by omega
  repeat' (simp (disch := first | omega | exact Nat.le_of_ble_eq_true rfl | exact rfl | assumption | (simp (disch := omega) only [fr_ne, fr_same]; first | assumption | omega)) only [r279_1061, r279_1062, r279_1063, r279_1064, r279_1065, r279_1066, r279_1067, v279_1067_11, il_s, bl_s, bl_z, ll_s, is_s, bs_s, bs_z, ls_s, al_s, al_b, al_l, fr_ne, fr_same, fr_fr, Nat.reduceEqDiff, tc_gf3_s, tc_ql2_s, tc_ws_0, tc_ws_i, tc_ws_l, tc_ws_r, Nat.reduceLeDiff, Nat.reduceAdd, Nat.reduceLT, true_and, and_true, if_true, if_false, tc_K, Option.toList_some, Option.toList_none, List.nil_append, List.cons_append, ite_true, ite_false, Int.cast_ofNat_Int, reduceIte, i3_add_eq, i3_sub_eq, Int.add_sub_cancel, Int.add_neg_cancel_right, il_x, hX gL25 g25, ms75 hM1, gx])
  refine hcall _ ?_
  intro L2 sh2 c2 n2 hI2
  repeat' (simp (disch := first | omega | exact Nat.le_of_ble_eq_true rfl | exact rfl | assumption | (simp (disch := omega) only [fr_ne, fr_same]; first | assumption | omega)) only [r279_1070, r279_1073, r279_1074h, r279_1074f, r279_1074t, il_s, bl_s, bl_z, ll_s, is_s, bs_s, bs_z, ls_s, al_s, al_b, al_l, fr_ne, fr_same, fr_fr, Nat.reduceEqDiff, tc_gf3_s, tc_ql2_s, tc_ws_0, tc_ws_i, tc_ws_l, tc_ws_r, Nat.reduceLeDiff, Nat.reduceAdd, Nat.reduceLT, true_and, and_true, if_true, if_false, tc_K, Option.toList_some, Option.toList_none, List.nil_append, List.cons_append, ite_true, ite_false, Int.cast_ofNat_Int, reduceIte, i3_add_eq, i3_sub_eq, Int.add_sub_cancel, Int.add_neg_cancel_right, eq_self])
  exact hq L2 sh2 c2 n2 hI2
end LOOPC

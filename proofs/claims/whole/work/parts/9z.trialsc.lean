/-! the class: trials begin -/
def trf (sh : Nat → SH) (s : Nat) : Nat → SH := fs sh 60 (6, 9, [some 49, some s, some 61, some 65])
section TRC
variable {L : Nat} {sh : Nat → SH} {c : Nat → Int → Int} {n : Nat} {Q : Option AV → List SC → Nat → Prop} {s : Nat} {v : Option Nat} {b σ : Nat → Int → Int} {la : Option Law}
theorem LA_trf (h : LA L sh c v la) : LA L (trf sh s) c v la := by
  rcases h with h | ⟨lr, l, h1, h2, hr, m1, k, h3, h4⟩
  · exact Or.inl h
  · exact Or.inr ⟨lr, l, h1, h2, hr, m1, k, LawS_fs h3 (by omega), h4⟩
theorem c119 (hE : SeaS L sh (some s) v) (h : CQ L sh c s v b σ la) {t1 t2 : Option Nat} (h60 : sh 60 = (6, 9, [t1, t2, some 61, some 65])) (h61 : SanS L sh 61) (h65 : SanS L sh 65) {m : Int} (hm : 1 ≤ m ∧ m ≤ 60)
    (hq : ∀ e, (∀ a, (a < 60 ∨ 64 < a) → e a = c a) → TR L (trf sh s) e s v b la → SAN True b 61 e σ → e 60 4 = m → e 60 5 = σ 4 1 + m * mrk b σ → e 60 6 = -1 → e 60 7 = -1 → e 60 8 = 0 → e 60 9 = -1 → e 60 10 = -1 → Q none (hp L (trf sh s) e) n) : tc_C 119 [rf 60, rf 49, rf 38, .inl m] (hp L sh c) n Q := by
  obtain ⟨hM, _, hSh, hs, h38, h56, _, hb, hw, hB, hσ, hl, hal⟩ := id h
  have hL := hE.1
  have hL60 : 60 < L := by omega
  have hL49 : 49 < L := by omega
  have hmk0 := hw.2.2.2
  have hrk := mrk_rng (s := σ) hb
  have hpn : 0 ≤ m * mrk b σ := Int.mul_nonneg (by omega) hrk.1
  have hpl : m * mrk b σ ≤ 60 * 300 := Int.mul_le_mul (by omega) hrk.2 hrk.1 (by omega)
  have ha : fs sh 60 (6, 9, [some 49, t2, some 61, some 65]) 60 = (6, 9, [some 49, t2, some 61, some 65]) := fs_same _ _ _
  have hb' : trf sh s 60 = (6, 9, [some 49, some s, some 61, some 65]) := fs_same _ _ _
  have ea : fs sh 60 (6, 9, [some 49, some s, some 61, some 65]) = trf sh s := rfl
  have hE1 : SeaS L (fs sh 60 (6, 9, [some 49, t2, some 61, some 65])) (some s) v := SeaS_fs hE (by omega)
  have hE2 : SeaS L (trf sh s) (some s) v := SeaS_fs hE (by omega)
  have h612 : SanS L (trf sh s) 61 := SanS_fs h61 (by omega)
  have h652 : SanS L (trf sh s) 65 := SanS_fs h65 (by omega)
  have h382 : SanS L (trf sh s) 38 := SanS_fs h38 (by omega)
  have hSh2 : ShoS L (trf sh s) s := ShoS_fs hSh (by omega)
  show tc_W 119 0 [rf 60, rf 49, rf 38, .inl m] [] _ _ Q
  repeat' (simp (disch := first | omega | exact Nat.le_of_ble_eq_true rfl | exact rfl | assumption | (simp (disch := omega) only [fr_ne, fr_same]; first | assumption | omega)) only [r119_0, r119_1, r119_2, r119_5, r119_6, r119_7, r119_10, r119_13, r119_14, r119_17, r119_18, v119_18_5, r119_21, r119_22, r119_23, r119_26, r119_27, r119_28, r119_31, r119_32, r119_33, r119_36, r119_37, r119_40, v119_40_8, r119_43, r119_44, r119_45, r119_48, r119_49, r119_50, r119_53, r119_54, r119_55, r119_58, r119_59, r119_60, r119_63, r119_64, r119_65, r119_68, r119_69, r119_70, r119_73, p9_9_9, g9_51_7, p9_15_9, g9_22_9, p9_29_9, g9_58_5, g9_15_9, g9_61_5, p9_33_9, p9_36_9, p9_39_9, p9_42_9, p9_45_9, p9_48_9, o9_len, o9_s0, o7_len, o7_g0, o9_s1, o9_g2, o9_s4, o5_len, o5_g5, o9_g1, o5_g3, o9_s5, o9_s6, o9_s7, o9_s8, o9_s9, o9_s10, il_s, bl_s, bl_z, ll_s, is_s, bs_s, bs_z, ls_s, al_s, al_b, al_l, fr_ne, fr_same, fr_fr, Nat.reduceEqDiff, tc_gf3_s, tc_ql2_s, tc_ws_0, tc_ws_i, tc_ws_l, tc_ws_r, Nat.reduceLeDiff, Nat.reduceAdd, Nat.reduceLT, true_and, and_true, if_true, if_false, tc_K, Option.toList_some, Option.toList_none, List.nil_append, List.cons_append, ite_true, ite_false, Int.cast_ofNat_Int, reduceIte, i3_add_eq, i3_sub_eq, Int.add_sub_cancel, Int.add_neg_cancel_right, hO hL60 h60, hO hL60 ha, hO hL60 hb', hOr, fr_id, fs_fs, ea, SeaS_g0 hE1, SeaS_s0 hE1, SeaS_g1 hE1, SeaS_s1 hE1, SeaS_g2 hE1, SeaS_s2 hE1, SeaS_g3 hE1, SeaS_s3 hE1, SeaS_g4 hE1, SeaS_s4 hE1, SeaS_g5 hE1, SeaS_s5 hE1, SeaS_g6 hE1, SeaS_s6 hE1, SeaS_g0 hE2, SeaS_s0 hE2, SeaS_g1 hE2, SeaS_s1 hE2, SeaS_g2 hE2, SeaS_s2 hE2, SeaS_g3 hE2, SeaS_s3 hE2, SeaS_g4 hE2, SeaS_s4 hE2, SeaS_g5 hE2, SeaS_s5 hE2, SeaS_g6 hE2, SeaS_s6 hE2, SanS_g0 h612, SanS_s0 h612, SanS_g1 h612, SanS_s1 h612, SanS_g2 h612, SanS_s2 h612, SanS_g3 h612, SanS_s3 h612])
  refine c88 (c := c) h612 h382 (by omega) ?_
  intro e g1 g2 g3 g4 g5
  have hσ61 : SAN True b 61 e σ := hσ.cp g2 g3 g4 g5
  have hBe : SHO b s e := hB.fr fun a a1 a2 => g1 a (by omega)
  have m5 : e 38 5 = σ 4 1 := by rw [g1 38 (by omega)]; exact hσ.2.2.2.2.1
  have m3 : e 38 3 = (mk (stn (σ 3)) (b 0 2).toNat : Nat) := by rw [g1 38 (by omega)]; exact hσ.2.2.1
  have h102 := fun (f : Int → Int) Q => c102b (c := fr e 60 f) (sh := trf sh s) (n := n) (Q := Q) (σ := σ) (m := e 38 3) hSh2 hb (hBe.fr fun a a1 a2 => fr_ne (by omega)) m3
  repeat' (simp (disch := first | omega | exact Nat.le_of_ble_eq_true rfl | exact rfl | assumption | (simp (disch := omega) only [fr_ne, fr_same]; first | assumption | omega)) only [r119_0, r119_1, r119_2, r119_5, r119_6, r119_7, r119_10, r119_13, r119_14, r119_17, r119_18, v119_18_5, r119_21, r119_22, r119_23, r119_26, r119_27, r119_28, r119_31, r119_32, r119_33, r119_36, r119_37, r119_40, v119_40_8, r119_43, r119_44, r119_45, r119_48, r119_49, r119_50, r119_53, r119_54, r119_55, r119_58, r119_59, r119_60, r119_63, r119_64, r119_65, r119_68, r119_69, r119_70, r119_73, p9_9_9, g9_51_7, p9_15_9, g9_22_9, p9_29_9, g9_58_5, g9_15_9, g9_61_5, p9_33_9, p9_36_9, p9_39_9, p9_42_9, p9_45_9, p9_48_9, o9_len, o9_s0, o7_len, o7_g0, o9_s1, o9_g2, o9_s4, o5_len, o5_g5, o9_g1, o5_g3, o9_s5, o9_s6, o9_s7, o9_s8, o9_s9, o9_s10, il_s, bl_s, bl_z, ll_s, is_s, bs_s, bs_z, ls_s, al_s, al_b, al_l, fr_ne, fr_same, fr_fr, Nat.reduceEqDiff, tc_gf3_s, tc_ql2_s, tc_ws_0, tc_ws_i, tc_ws_l, tc_ws_r, Nat.reduceLeDiff, Nat.reduceAdd, Nat.reduceLT, true_and, and_true, if_true, if_false, tc_K, Option.toList_some, Option.toList_none, List.nil_append, List.cons_append, ite_true, ite_false, Int.cast_ofNat_Int, reduceIte, i3_add_eq, i3_sub_eq, Int.add_sub_cancel, Int.add_neg_cancel_right, hO hL60 hb', hOs hb', SanS_g0 h382, SanS_s0 h382, SanS_g1 h382, SanS_s1 h382, SanS_g2 h382, SanS_s2 h382, SanS_g3 h382, SanS_s3 h382, ShoS_g0 hSh2, ShoS_s0 hSh2, ShoS_g1 hSh2, ShoS_s1 hSh2, ShoS_g2 hSh2, ShoS_s2 hSh2, ShoS_g3 hSh2, ShoS_s3 hSh2, ShoS_g4 hSh2, ShoS_s4 hSh2, ShoS_g5 hSh2, ShoS_s5 hSh2, ShoS_g6 hSh2, ShoS_s6 hSh2, ShoS_g7 hSh2, ShoS_s7 hSh2, m5, h102, i3_mul_eq, fu_ne, fu_same])
  refine hq _ (fun a ha => ?_) ?_ ?_ ?_ ?_ ?_ ?_ ?_ ?_ ?_
  · rw [fr_ne (by omega)]
    exact g1 a (by omega)
  · refine ⟨hE2, hSh2, hs, ⟨h612, h652, hb'⟩, hb, (LA_trf hl).of (Nat.le_refl L) (fun _ _ => rfl) (fun lr a l1 l2 l3 => ?_), hal, hBe.fr fun a a1 a2 => fr_ne (by omega)⟩
    have := hal lr l1
    rw [fr_ne (by omega)]
    exact g1 a (by omega)
  · exact hσ61.fr (fr_ne (by omega)) (fr_ne (by omega)) (fr_ne (by omega)) (fr_ne (by omega))
  all_goals
    rw [fr_same]
    simp (disch := omega) only [fu_ne, fu_same]
end TRC

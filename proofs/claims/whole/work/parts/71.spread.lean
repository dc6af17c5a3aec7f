/-! the class: STRENGTH -/
theorem cn_ins {p : Int → Bool} {a : Int} : ∀ {N : Nat}, 0 ≤ a → a < N → p a = false → cn (fun j => p j || decide (j = a)) N = cn p N + 1 := by
  intro N
  induction N with
  | zero => intro h1 h2 _; omega
  | succ k ih =>
    intro h1 h2 h3
    show cn (fun j => p j || decide (j = a)) k + (if (p k || decide ((k : Int) = a)) = true then 1 else 0) = cn p k + (if p k = true then 1 else 0) + 1
    by_cases h4 : (k : Int) = a
    · have h5 : cn (fun j => p j || decide (j = a)) k = cn p k := cn_ext fun j h6 h7 => by rw [decide_eq_false (by omega), Bool.or_false]
      rw [h5, h4, h3, decide_eq_true rfl]
      show cn p k + 1 = cn p k + 0 + 1
      omega
    · rw [ih h1 (by omega) h3, decide_eq_false h4, Bool.or_false]
      omega
theorem q_len : ∀ {q : List Int}, q.Nodup → (∀ x ∈ q, 0 ≤ x ∧ x < 25) → cn (fun j => decide (j ∈ q)) 25 = q.length := by
  intro q
  induction q with
  | nil => intro _ _; decide +kernel
  | cons a q ih =>
    intro h1 h2
    rw [List.nodup_cons] at h1
    have h3 := h2 a List.mem_cons_self
    have h4 := ih h1.2 fun x hx => h2 x (List.mem_cons_of_mem _ hx)
    have h5 : cn (fun j => decide (j ∈ a :: q)) 25 = cn (fun j => decide (j ∈ q) || decide (j = a)) 25 := cn_ext fun j _ _ => by
      rw [Bool.eq_iff_iff]
      simp only [decide_eq_true_eq, List.mem_cons, Bool.or_eq_true]
      exact Or.comm
    rw [h5, cn_ins h3.1 (by omega) (decide_eq_false h1.1), h4]
    rfl
theorem q_25 {q : List Int} (h1 : q.Nodup) (h2 : ∀ x ∈ q, 0 ≤ x ∧ x < 25) : q.length ≤ 25 := by
  have h3 := q_len h1 h2
  have h4 := (cn_rng (fun j => decide (j ∈ q)) 25).2
  omega
/-- cells that wait, as bits -/
def qm (q : List Int) : Nat := mk (fun j => decide (j ∈ q)) 25
theorem qm_add {q : List Int} {x : Int} (h0 : 0 ≤ x) (h1 : x < 25) : i3_or (qm q : Nat) (i3_shl 1 x) = ((qm (q ++ [x]) : Nat) : Int) := by
  unfold qm
  rw [mk_set (N := 25) (by decide) h0 h1]
  congr 1
  refine mk_ext fun j _ _ => ?_
  rw [Bool.eq_iff_iff]
  simp only [decide_eq_true_eq, List.mem_append, List.mem_singleton, Bool.or_eq_true]
theorem qm_del {q : List Int} {x : Int} (h0 : 0 ≤ x) (h1 : x < 25) (hn : ¬ x ∈ q) : i3_and (qm (x :: q) : Nat) (i3_xor (i3_shl 1 x) (-1)) = ((qm q : Nat) : Int) := by
  unfold qm
  rw [mk_clear (N := 25) (by decide) h0 (by omega)]
  congr 1
  refine mk_ext fun j _ _ => ?_
  rw [Bool.eq_iff_iff]
  simp only [decide_eq_true_eq, List.mem_cons, Bool.and_eq_true, Bool.not_eq_true', decide_eq_false_iff_not]
  constructor
  · rintro ⟨h2 | h2, h3⟩
    · exact absurd h2 h3
    · exact h2
  · intro h2
    exact ⟨Or.inr h2, fun h3 => hn (h3 ▸ h2)⟩
theorem qm_has {q : List Int} {x : Int} (h0 : 0 ≤ x) (h1 : x < 25) : i3_and (i3_shr (qm q : Nat) x) 1 = if x ∈ q then 1 else 0 := by
  unfold qm
  rw [mk_i3bit (N := 25) (by decide) h0 (by omega)]
  by_cases h : x ∈ q
  · rw [if_pos ⟨h1, decide_eq_true h⟩, if_pos h]
  · rw [if_neg (fun q => h (decide_eq_true_eq.mp q.2)), if_neg h]
theorem i3_and31 {t : Int} (h0 : 0 ≤ t) (h1 : t < 2147483648) : i3_and t 31 = t % 32 := by
  have h := i3_and_nat (a := t.toNat) (b := 31) (by omega) (by omega)
  rw [Int.toNat_of_nonneg h0] at h
  rw [show i3_and t 31 = ((t.toNat &&& 31 : Nat) : Int) from h, show (31 : Nat) = 2 ^ 5 - 1 from rfl, Nat.and_two_pow_sub_one_eq_mod]
  omega
/-- a ring that holds the waiting cells from a place on -/
def RQ (g : Int → Int) (hd : Int) (q : List Int) : Prop := ∀ i : Nat, ∀ x, q[i]? = some x → g ((hd + i) % 32) = x
theorem RQ.add {g : Int → Int} {hd x : Int} {q : List Int} (h : RQ g hd q) (hl : q.length ≤ 25) : RQ (fu g ((hd + q.length) % 32) x) hd (q ++ [x]) := by
  intro i y hy
  by_cases hi : i < q.length
  · rw [List.getElem?_append_left hi] at hy
    rw [fu_ne (by omega)]
    exact h i y hy
  · rw [List.getElem?_append_right (by omega)] at hy
    have : i = q.length := by
      rcases hk : i - q.length with _ | k
      · omega
      · rw [hk] at hy; cases hy
    subst this
    rw [Nat.sub_self] at hy
    cases hy
    exact fu_same _ _ _
theorem RQ.tl {g : Int → Int} {hd x : Int} {q : List Int} (h : RQ g hd (x :: q)) : RQ g (hd + 1) q := by
  intro i y hy
  have := h (i + 1) y hy
  rw [show (hd + 1 + (i : Int)) = hd + ((i + 1 : Nat) : Int) by omega]
  exact this
theorem RQ.hd {g : Int → Int} {hd x : Int} {q : List Int} (h : RQ g hd (x :: q)) : g (hd % 32) = x := by
  have := h 0 x rfl
  rw [show hd + ((0 : Nat) : Int) = hd by omega] at this
  exact this
/-- the shore tells what lies beside -/
def SB (c : Nat → Int → Int) (s : Nat) (W D : Int) : Prop := c s 0 = W ∧ c s 2 = W * D ∧ ∀ x d, 0 ≤ x → x < W * D → 0 ≤ d → d < 4 → c (s + 7) (4 * x + d) = bes W (W * D) x d
/-- all that comes from y has come -/
def rl (W N : Int) (ht s : Int → Int) (y e : Int) : Prop := ¬ bes W N y e = -1 → fce ht s (bes W N y e) y ≤ s (bes W N y e)
theorem fce_le {ht s : Int → Int} {x y : Int} (h : s y ≤ 1) : fce ht s x y ≤ 0 := by
  unfold fce
  split
  · omega
  · split <;> omega
/-- what is known while cells wait -/
def WQ (W N : Int) (ht : Int → Int) (F : Int) (g s : Int → Int) (tail : Int) (q : List Int) : Prop := StI W N ht F g s ∧ q.Nodup ∧ (∀ x ∈ q, 0 ≤ x ∧ x < N) ∧ tail ≤ sm s N.toNat
def ini (W N : Int) (ht : Int → Int) (F x : Int) : Int := if 0 < fse W N ht F x then fse W N ht F x else 0
section SPR
variable {L : Nat} {sh : Nat → SH} {c : Nat → Int → Int} {n : Nat} {Q : Option AV → List SC → Nat → Prop} {s hr : Nat} {la : Option Nat}
theorem c79 (hE : SeaS L sh (some s) la) (hH : sh hr = (0, 25, [])) (hL : hr < L) {x y : Int} (hx : 0 ≤ x ∧ x < 25) (hy : 0 ≤ y ∧ y < 25) (h1 : 0 ≤ c hr x ∧ c hr x ≤ 9) (h2 : 0 ≤ c hr y ∧ c hr y ≤ 9) (h3 : 0 ≤ c 50 x ∧ c 50 x ≤ 100) : tc_C 79 [rf 49, rf hr, .inl x, .inl y] (hp L sh c) n Q = Q (some (.inl (c 50 x - 1 - (if c hr x < c hr y then c hr y - c hr x else 0)))) (hp L sh c) n := tc_det fun Q hq => by
  show tc_W 79 0 [rf 49, rf hr, .inl x, .inl y, tc_nil] [] _ _ Q
  repeat' (first | (simp (disch := first | omega | exact Nat.le_of_ble_eq_true rfl | exact rfl | assumption | (simp only [fr_at, Nat.reduceEqDiff, if_false, if_true, reduceIte]; first | assumption | omega)) only [r79_0, r79_1, r79_2, r79_3, r79_4, r79_5, r79_6, r79_7i, r79_9, r79_14, r79_15, r79_18, r79_19, r79_20, r79_21, r79_22, r79_24, r79_25, r79_28, r79_29, r79_32, r79_33, r79_34, r79_35, r79_36, g7_19_7, o7_len, o7_g2, il_s, bl_s, bl_z, ll_s, is_s, bs_s, bs_z, ls_s, al_s, al_b, al_l, fr_at, fr_fr, Nat.reduceEqDiff, tc_gf3_s, tc_ql2_s, tc_ws_0, tc_ws_i, tc_ws_l, tc_ws_r, Nat.reduceLeDiff, Nat.reduceAdd, Nat.reduceLT, true_and, and_true, if_true, if_false, tc_K, Option.toList_some, Option.toList_none, List.nil_append, List.cons_append, ite_true, ite_false, Int.cast_ofNat_Int, reduceIte, i3_add_eq, i3_sub_eq, Int.add_sub_cancel, Int.add_neg_cancel_right, SeaS_g0 hE, SeaS_s0 hE, SeaS_g1 hE, SeaS_s1 hE, SeaS_g2 hE, SeaS_s2 hE, SeaS_g3 hE, SeaS_s3 hE, SeaS_g4 hE, SeaS_s4 hE, SeaS_g5 hE, SeaS_s5 hE, SeaS_g6 hE, SeaS_s6 hE, hI hL hH]) | (simp only [r79_11, i6_lt0, i6_0lt, i6_0le, i6_le0, i6_eq0, b10_0, ite_not, Int.reduceLT, Int.reduceLE, Int.reduceEq, Int.reduceNeg, if_true, if_false, ite_true, ite_false, reduceIte, eq_self, not_true, not_false_eq_true]; try refine tc_ite (fun _ => ?_) (fun _ => ?_) <;> try (exfalso; omega)))
  all_goals first | exact hq | exact q_i (by omega) hq | (simp (disch := omega) only [if_pos, if_neg] at hq; exact hq)
/-- what the sea's rows hold, and all else as it was -/
def RI (W N : Int) (ht : Int → Int) (F : Int) (c e : Nat → Int → Int) (hd : Int) (q : List Int) : Prop := (∀ a, ¬ a = 50 → ¬ a = 53 → e a = c a) ∧ WQ W N ht F (c 50) (e 50) (hd + q.length) q ∧ RQ (e 53) hd q
theorem RI.len {W N F hd : Int} {ht : Int → Int} {c e : Nat → Int → Int} {q : List Int} (h : RI W N ht F c e hd q) (hN : N ≤ 25) : q.length ≤ 25 := q_25 h.2.1.2.1 fun x hx => by have := h.2.1.2.2.1 x hx; omega
theorem c77_i (hE : SeaS L sh (some s) la) (hO : ShoS L sh s) (hs : s = 30 ∨ 115 ≤ s) (hH : sh hr = (0, 25, [])) (hL : hr < L) (hr2 : ¬ hr = 50 ∧ ¬ hr = 53) {W D F : Int} (hW : 2 ≤ W ∧ W ≤ 5) (hD : 0 ≤ W * D ∧ W * D ≤ 25) (hB : SB c s W D) (hh : HT (W * D) (c hr)) (hF : 0 ≤ F ∧ F ≤ 60) {x hd t : Int} (hx : 0 ≤ x) (hx2 : x < W * D) (hd0 : 0 ≤ hd ∧ hd ≤ 2000)
    (hk : ∀ e q (a10 a11 : AV), RI W (W * D) (c hr) F c e hd q → (∀ y, 0 ≤ y → y < W * D → ¬ y ∈ q → ∀ k, 0 ≤ k → k < 4 → rl W (W * D) (c hr) (e 50) y k) → tc_W 77 267 [rf 49, rf hr, .inl F, .inl (W * D), .inl (hd + q.length), .inl (qm q : Nat), .inl hd, .inl t, .inl x, .inl 4, a10, a11] [] (hp L sh e) n Q) :
    ∀ (e : Nat → Int → Int) (q : List Int) (a10 a11 : AV), RI W (W * D) (c hr) F c e hd q → (∀ y, 0 ≤ y → y < W * D → ¬ y ∈ q → ¬ y = x → ∀ k, 0 ≤ k → k < 4 → rl W (W * D) (c hr) (e 50) y k) → tc_W 77 150 [rf 49, rf hr, .inl F, .inl (W * D), .inl (hd + q.length), .inl (qm q : Nat), .inl hd, .inl t, .inl x, .inl 0, a10, a11] [] (hp L sh e) n Q := by
  intro e q a10 a11 h1 h2
  refine lq_4 (N := 4) (P := fun d e q a10 a11 => tc_W 77 150 [rf 49, rf hr, .inl F, .inl (W * D), .inl (hd + q.length), .inl (qm q : Nat), .inl hd, .inl t, .inl x, .inl d, a10, a11] [] (hp L sh e) n Q)
    (I := fun d e q _ _ => RI W (W * D) (c hr) F c e hd q ∧ (∀ y, 0 ≤ y → y < W * D → ¬ y ∈ q → ¬ y = x → ∀ k, 0 ≤ k → k < 4 → rl W (W * D) (c hr) (e 50) y k) ∧ ∀ k, 0 ≤ k → k < d → rl W (W * D) (c hr) (e 50) x k) ?_ ?_ 0 e q a10 a11 (by omega) (by omega) ⟨h1, h2, fun k h3 h4 => by omega⟩
  · intro d e q a10 a11 hd1 hd2 ⟨hI, hI2, hI3⟩ ih
    have hlen := hI.len hD.2
    have es := hI.1 s (by omega) (by omega)
    have es7 := hI.1 (s + 7) (by omega) (by omega)
    have ehr := hI.1 hr hr2.1 hr2.2
    have hbs := hB.2.2 x d hx hx2 hd1 hd2
    have hrg := bes_rng hW hx hx2 hd1 hd2
    have hne := bes_ne hW hx hx2 hd1 hd2
    have hst : ∀ y, 0 ≤ y → y < W * D → 0 ≤ e 50 y ∧ e 50 y ≤ 60 := fun y h3 h4 => ⟨(hI.2.1.1.2.1 y h3 h4).1, by have := hI.2.1.1.1.le hh hF.1 h3 h4; omega⟩
    have hsx := hst x hx hx2
    have hhx := hh x hx hx2
    simp only [r77_150]
    by_cases hn : bes W (W * D) x d = -1
    · repeat' (first | (simp (disch := first | omega | exact Nat.le_of_ble_eq_true rfl | exact rfl | assumption | (simp only [fr_at, Nat.reduceEqDiff, if_false, if_true, reduceIte]; first | assumption | omega)) only [r77_0, r77_1, r77_4, r77_7i, r77_8, r77_9i, r77_11, r77_12i, r77_14, r77_15i, r77_19, r77_23, r77_25, r77_26, r77_27, r77_30, r77_33, r77_37, r77_38, r77_39, r77_40, r77_41, r77_43, r77_44, r77_45, r77_48, r77_49i, r77_51, r77_52, r77_55, r77_57, r77_58, r77_60, r77_63, r77_64, r77_66, r77_70, r77_71, r77_74, r77_76, r77_78, r77_79, r77_81, r77_82i, r77_85, r77_87, r77_88, r77_90, r77_91, r77_92i, r77_94i, r77_97, r77_100, r77_101i, r77_103, r77_104i, r77_108, r77_113, r77_115, r77_121, r77_122, r77_125, r77_127, r77_129, r77_130, r77_131i, r77_133i, r77_136, r77_138, r77_139, r77_141, r77_142, r77_143, r77_144, r77_145i, r77_147, r77_148i, r77_152, r77_156, r77_157, r77_160, r77_163, r77_164, r77_166, r77_167, r77_169, r77_170, r77_171i, r77_173, r77_175, r77_179, r77_180, r77_183, r77_184, r77_185, r77_187, r77_189, v77_189_7, r77_192i, r77_194, r77_196, r77_200, r77_202, r77_203, r77_206, r77_208, r77_212, r77_213, r77_216, r77_218, r77_220, r77_221, r77_223, r77_227, r77_229, r77_231, r77_232, r77_233, r77_237, r77_238, r77_241, r77_243, r77_245, r77_246, r77_248, r77_249i, r77_252, r77_254, r77_255, r77_257, r77_258, r77_259i, r77_261i, r77_264, r77_267i, r77_270, r77_273, g7_9_7, g7_41_8, g7_47_8, g7_19_7, g7_29_7, g7_56_8, o7_len, o7_g0, o8_len, o8_g2, o8_g0, o7_g2, o7_g5, o8_g11, il_s, bl_s, bl_z, ll_s, is_s, bs_s, bs_z, ls_s, al_s, al_b, al_l, fr_at, fr_fr, Nat.reduceEqDiff, tc_gf3_s, tc_ql2_s, tc_ws_0, tc_ws_i, tc_ws_l, tc_ws_r, Nat.reduceLeDiff, Nat.reduceAdd, Nat.reduceLT, true_and, and_true, if_true, if_false, tc_K, Option.toList_some, Option.toList_none, List.nil_append, List.cons_append, ite_true, ite_false, Int.cast_ofNat_Int, reduceIte, i3_add_eq, i3_sub_eq, Int.add_sub_cancel, Int.add_neg_cancel_right, SeaS_g0 hE, SeaS_s0 hE, SeaS_g1 hE, SeaS_s1 hE, SeaS_g2 hE, SeaS_s2 hE, SeaS_g3 hE, SeaS_s3 hE, SeaS_g4 hE, SeaS_s4 hE, SeaS_g5 hE, SeaS_s5 hE, SeaS_g6 hE, SeaS_s6 hE, ShoS_g0 hO, ShoS_s0 hO, ShoS_g1 hO, ShoS_s1 hO, ShoS_g2 hO, ShoS_s2 hO, ShoS_g3 hO, ShoS_s3 hO, ShoS_g4 hO, ShoS_s4 hO, ShoS_g5 hO, ShoS_s5 hO, ShoS_g6 hO, ShoS_s6 hO, ShoS_g7 hO, ShoS_s7 hO, es, es7, ehr, hbs, hn, i3_mul_eq]) | (simp only [r77_20, r77_34, r77_67, r77_110, r77_118, r77_153, r77_176, r77_197, r77_209, r77_224, r77_234, i6_lt0, i6_0lt, i6_0le, i6_le0, i6_eq0, b10_0, ite_not, Int.reduceLT, Int.reduceLE, Int.reduceEq, Int.reduceNeg, if_true, if_false, ite_true, ite_false, reduceIte, eq_self, not_true, not_false_eq_true]; try refine tc_ite (fun _ => ?_) (fun _ => ?_) <;> try (exfalso; omega)))
      refine ih e q _ _ ⟨hI, hI2, fun k h3 h4 => ?_⟩
      by_cases h5 : k = d
      · rw [h5]
        exact fun h => absurd hn h
      · exact hI3 k h3 (by omega)
    · have hsb := hst (bes W (W * D) x d) (by omega) (by omega)
      have hhb := hh (bes W (W * D) x d) (by omega) (by omega)
      have h79 := fun Q => c79 (c := e) (n := n) (Q := Q) hE hH hL (x := x) (y := bes W (W * D) x d) (by omega) (by omega) (by rw [ehr]; exact hhx) (by rw [ehr]; exact hhb) (by omega)
      simp only [ehr] at h79
      by_cases hgt : e 50 (bes W (W * D) x d) < e 50 x - 1 - (if c hr x < c hr (bes W (W * D) x d) then c hr (bes W (W * D) x d) - c hr x else 0)
      · have hfc : fce (c hr) (e 50) (bes W (W * D) x d) x = e 50 x - 1 - (if c hr x < c hr (bes W (W * D) x d) then c hr (bes W (W * D) x d) - c hr x else 0) := by
          unfold fce
          rw [if_neg (by split at hgt <;> omega)]
        simp only [← hfc] at h79
        generalize hvv : e 50 x - 1 - (if c hr x < c hr (bes W (W * D) x d) then c hr (bes W (W * D) x d) - c hr x else 0) = v at hgt hfc
        have hvr : v ≤ 60 := by split at hvv <;> omega
        rw [hfc] at h79
        have hup := hI.2.1.1.up (x := bes W (W * D) x d) (d := opp d) hW (by omega) (by omega) (opp_rng hd1 hd2).1 (opp_rng hd1 hd2).2 (by rw [bes_opp hW hx hx2 hd1 hd2 hn]; omega) (by rw [bes_opp hW hx hx2 hd1 hd2 hn, hfc]; exact hgt)
        rw [bes_opp hW hx hx2 hd1 hd2 hn, hfc] at hup
        have hsm : sm (fu (e 50) (bes W (W * D) x d) v) (W * D).toNat = sm (e 50) (W * D).toNat + (v - e 50 (bes W (W * D) x d)) := by
          rw [sm_fu, if_pos (by omega)]
        have hmono : ∀ y k, 0 ≤ y → y < W * D → 0 ≤ k → k < 4 → ¬ y = bes W (W * D) x d → rl W (W * D) (c hr) (e 50) y k → rl W (W * D) (c hr) (fu (e 50) (bes W (W * D) x d) v) y k := by
          intro y k h3 h4 h5 h6 h7 h8 h9
          have h10 := h8 h9
          have e10 : fce (c hr) (fu (e 50) (bes W (W * D) x d) v) (bes W (W * D) y k) y = fce (c hr) (e 50) (bes W (W * D) y k) y := fce_ext rfl rfl (fu_ne h7)
          rw [e10]
          by_cases h11 : bes W (W * D) y k = bes W (W * D) x d
          · rw [h11] at h10 ⊢
            rw [fu_same]
            omega
          · rw [fu_ne h11]
            exact h10
        have htl := hI.2.1.2.2.2
        have hmx := sm_le (s := fu (e 50) (bes W (W * D) x d) v) (F := 60) (by omega) (W * D).toNat fun y h3 h4 => by
          have := hup.1.le hh hF.1 h3 (by omega)
          omega
        by_cases hv1 : v ≤ 1
        · have hst1 : ∀ y k, 0 ≤ y → y < W * D → 0 ≤ k → k < 4 → y = bes W (W * D) x d → rl W (W * D) (c hr) (fu (e 50) (bes W (W * D) x d) v) y k := by
            intro y k h3 h4 h5 h6 h7 h9
            have hrg2 := bes_rng hW h3 h4 h5 h6
            have h12 := (hup.2.1 (bes W (W * D) y k) (by omega) (by omega)).1
            have h11 : fce (c hr) (fu (e 50) (bes W (W * D) x d) v) (bes W (W * D) y k) y ≤ 0 := fce_le (by rw [h7, fu_same]; exact hv1)
            omega
          repeat' (first | (simp (disch := first | omega | exact Nat.le_of_ble_eq_true rfl | exact rfl | assumption | (simp only [fr_at, Nat.reduceEqDiff, if_false, if_true, reduceIte]; first | assumption | omega)) only [r77_0, r77_1, r77_4, r77_7i, r77_8, r77_9i, r77_11, r77_12i, r77_14, r77_15i, r77_19, r77_23, r77_25, r77_26, r77_27, r77_30, r77_33, r77_37, r77_38, r77_39, r77_40, r77_41, r77_43, r77_44, r77_45, r77_48, r77_49i, r77_51, r77_52, r77_55, r77_57, r77_58, r77_60, r77_63, r77_64, r77_66, r77_70, r77_71, r77_74, r77_76, r77_78, r77_79, r77_81, r77_82i, r77_85, r77_87, r77_88, r77_90, r77_91, r77_92i, r77_94i, r77_97, r77_100, r77_101i, r77_103, r77_104i, r77_108, r77_113, r77_115, r77_121, r77_122, r77_125, r77_127, r77_129, r77_130, r77_131i, r77_133i, r77_136, r77_138, r77_139, r77_141, r77_142, r77_143, r77_144, r77_145i, r77_147, r77_148i, r77_152, r77_156, r77_157, r77_160, r77_163, r77_164, r77_166, r77_167, r77_169, r77_170, r77_171i, r77_173, r77_175, r77_179, r77_180, r77_183, r77_184, r77_185, r77_187, r77_189, v77_189_7, r77_192i, r77_194, r77_196, r77_200, r77_202, r77_203, r77_206, r77_208, r77_212, r77_213, r77_216, r77_218, r77_220, r77_221, r77_223, r77_227, r77_229, r77_231, r77_232, r77_233, r77_237, r77_238, r77_241, r77_243, r77_245, r77_246, r77_248, r77_249i, r77_252, r77_254, r77_255, r77_257, r77_258, r77_259i, r77_261i, r77_264, r77_267i, r77_270, r77_273, g7_9_7, g7_41_8, g7_47_8, g7_19_7, g7_29_7, g7_56_8, o7_len, o7_g0, o8_len, o8_g2, o8_g0, o7_g2, o7_g5, o8_g11, il_s, bl_s, bl_z, ll_s, is_s, bs_s, bs_z, ls_s, al_s, al_b, al_l, fr_at, fr_fr, Nat.reduceEqDiff, tc_gf3_s, tc_ql2_s, tc_ws_0, tc_ws_i, tc_ws_l, tc_ws_r, Nat.reduceLeDiff, Nat.reduceAdd, Nat.reduceLT, true_and, and_true, if_true, if_false, tc_K, Option.toList_some, Option.toList_none, List.nil_append, List.cons_append, ite_true, ite_false, Int.cast_ofNat_Int, reduceIte, i3_add_eq, i3_sub_eq, Int.add_sub_cancel, Int.add_neg_cancel_right, SeaS_g0 hE, SeaS_s0 hE, SeaS_g1 hE, SeaS_s1 hE, SeaS_g2 hE, SeaS_s2 hE, SeaS_g3 hE, SeaS_s3 hE, SeaS_g4 hE, SeaS_s4 hE, SeaS_g5 hE, SeaS_s5 hE, SeaS_g6 hE, SeaS_s6 hE, ShoS_g0 hO, ShoS_s0 hO, ShoS_g1 hO, ShoS_s1 hO, ShoS_g2 hO, ShoS_s2 hO, ShoS_g3 hO, ShoS_s3 hO, ShoS_g4 hO, ShoS_s4 hO, ShoS_g5 hO, ShoS_s5 hO, ShoS_g6 hO, ShoS_s6 hO, ShoS_g7 hO, ShoS_s7 hO, es, es7, ehr, hbs, i3_mul_eq, h79]) | (simp only [r77_20, r77_34, r77_67, r77_110, r77_118, r77_153, r77_176, r77_197, r77_209, r77_224, r77_234, i6_lt0, i6_0lt, i6_0le, i6_le0, i6_eq0, b10_0, ite_not, Int.reduceLT, Int.reduceLE, Int.reduceEq, Int.reduceNeg, if_true, if_false, ite_true, ite_false, reduceIte, eq_self, not_true, not_false_eq_true]; try refine tc_ite (fun _ => ?_) (fun _ => ?_) <;> try (exfalso; omega)))
          refine ih _ q _ _ ⟨⟨fun a h3 h4 => ?_, ⟨?_, hI.2.1.2.1, hI.2.1.2.2.1, ?_⟩, ?_⟩, fun y h3 h4 h5 h6 k h7 h8 => ?_, fun k h3 h4 => ?_⟩
          · rw [fr_ne h3]
            exact hI.1 a h3 h4
          · rw [fr_same]
            exact hup
          · rw [fr_same, hsm]
            omega
          · exact hI.2.2
          · rw [fr_same]
            by_cases h9 : y = bes W (W * D) x d
            · exact hst1 y k h3 h4 h7 h8 h9
            · exact hmono y k h3 h4 h7 h8 h9 (hI2 y h3 h4 h5 h6 k h7 h8)
          · rw [fr_same]
            by_cases h9 : k = d
            · rw [h9]
              intro _
              rw [fce_ext rfl rfl (fu_ne (by omega)), hfc, fu_same]
              omega
            · exact hmono x k hx hx2 h3 (by omega) (by omega) (hI3 k h3 (by omega))
        · by_cases hin : bes W (W * D) x d ∈ q
          · have hqh : i3_and (i3_shr (qm q : Nat) (bes W (W * D) x d)) 1 = 1 := by rw [qm_has (by omega) (by omega), if_pos hin]
            repeat' (first | (simp (disch := first | omega | exact Nat.le_of_ble_eq_true rfl | exact rfl | assumption | (simp only [fr_at, Nat.reduceEqDiff, if_false, if_true, reduceIte]; first | assumption | omega)) only [r77_0, r77_1, r77_4, r77_7i, r77_8, r77_9i, r77_11, r77_12i, r77_14, r77_15i, r77_19, r77_23, r77_25, r77_26, r77_27, r77_30, r77_33, r77_37, r77_38, r77_39, r77_40, r77_41, r77_43, r77_44, r77_45, r77_48, r77_49i, r77_51, r77_52, r77_55, r77_57, r77_58, r77_60, r77_63, r77_64, r77_66, r77_70, r77_71, r77_74, r77_76, r77_78, r77_79, r77_81, r77_82i, r77_85, r77_87, r77_88, r77_90, r77_91, r77_92i, r77_94i, r77_97, r77_100, r77_101i, r77_103, r77_104i, r77_108, r77_113, r77_115, r77_121, r77_122, r77_125, r77_127, r77_129, r77_130, r77_131i, r77_133i, r77_136, r77_138, r77_139, r77_141, r77_142, r77_143, r77_144, r77_145i, r77_147, r77_148i, r77_152, r77_156, r77_157, r77_160, r77_163, r77_164, r77_166, r77_167, r77_169, r77_170, r77_171i, r77_173, r77_175, r77_179, r77_180, r77_183, r77_184, r77_185, r77_187, r77_189, v77_189_7, r77_192i, r77_194, r77_196, r77_200, r77_202, r77_203, r77_206, r77_208, r77_212, r77_213, r77_216, r77_218, r77_220, r77_221, r77_223, r77_227, r77_229, r77_231, r77_232, r77_233, r77_237, r77_238, r77_241, r77_243, r77_245, r77_246, r77_248, r77_249i, r77_252, r77_254, r77_255, r77_257, r77_258, r77_259i, r77_261i, r77_264, r77_267i, r77_270, r77_273, g7_9_7, g7_41_8, g7_47_8, g7_19_7, g7_29_7, g7_56_8, o7_len, o7_g0, o8_len, o8_g2, o8_g0, o7_g2, o7_g5, o8_g11, il_s, bl_s, bl_z, ll_s, is_s, bs_s, bs_z, ls_s, al_s, al_b, al_l, fr_at, fr_fr, Nat.reduceEqDiff, tc_gf3_s, tc_ql2_s, tc_ws_0, tc_ws_i, tc_ws_l, tc_ws_r, Nat.reduceLeDiff, Nat.reduceAdd, Nat.reduceLT, true_and, and_true, if_true, if_false, tc_K, Option.toList_some, Option.toList_none, List.nil_append, List.cons_append, ite_true, ite_false, Int.cast_ofNat_Int, reduceIte, i3_add_eq, i3_sub_eq, Int.add_sub_cancel, Int.add_neg_cancel_right, SeaS_g0 hE, SeaS_s0 hE, SeaS_g1 hE, SeaS_s1 hE, SeaS_g2 hE, SeaS_s2 hE, SeaS_g3 hE, SeaS_s3 hE, SeaS_g4 hE, SeaS_s4 hE, SeaS_g5 hE, SeaS_s5 hE, SeaS_g6 hE, SeaS_s6 hE, ShoS_g0 hO, ShoS_s0 hO, ShoS_g1 hO, ShoS_s1 hO, ShoS_g2 hO, ShoS_s2 hO, ShoS_g3 hO, ShoS_s3 hO, ShoS_g4 hO, ShoS_s4 hO, ShoS_g5 hO, ShoS_s5 hO, ShoS_g6 hO, ShoS_s6 hO, ShoS_g7 hO, ShoS_s7 hO, es, es7, ehr, hbs, i3_mul_eq, h79, hqh]) | (simp only [r77_20, r77_34, r77_67, r77_110, r77_118, r77_153, r77_176, r77_197, r77_209, r77_224, r77_234, i6_lt0, i6_0lt, i6_0le, i6_le0, i6_eq0, b10_0, ite_not, Int.reduceLT, Int.reduceLE, Int.reduceEq, Int.reduceNeg, if_true, if_false, ite_true, ite_false, reduceIte, eq_self, not_true, not_false_eq_true]; try refine tc_ite (fun _ => ?_) (fun _ => ?_) <;> try (exfalso; omega)))
            refine ih _ q _ _ ⟨⟨fun a h3 h4 => ?_, ⟨?_, hI.2.1.2.1, hI.2.1.2.2.1, ?_⟩, ?_⟩, fun y h3 h4 h5 h6 k h7 h8 => ?_, fun k h3 h4 => ?_⟩
            · rw [fr_ne h3]
              exact hI.1 a h3 h4
            · rw [fr_same]
              exact hup
            · rw [fr_same, hsm]
              omega
            · exact hI.2.2
            · rw [fr_same]
              by_cases h9 : y = bes W (W * D) x d
              · exact absurd (h9 ▸ hin) h5
              · exact hmono y k h3 h4 h7 h8 h9 (hI2 y h3 h4 h5 h6 k h7 h8)
            · rw [fr_same]
              by_cases h9 : k = d
              · rw [h9]
                intro _
                rw [fce_ext rfl rfl (fu_ne (by omega)), hfc, fu_same]
                omega
              · exact hmono x k hx hx2 h3 (by omega) (by omega) (hI3 k h3 (by omega))
          · have hqh : i3_and (i3_shr (qm q : Nat) (bes W (W * D) x d)) 1 = 0 := by rw [qm_has (by omega) (by omega), if_neg hin]
            repeat' (first | (simp (disch := first | omega | exact Nat.le_of_ble_eq_true rfl | exact rfl | assumption | (simp only [fr_at, Nat.reduceEqDiff, if_false, if_true, reduceIte]; first | assumption | omega)) only [r77_0, r77_1, r77_4, r77_7i, r77_8, r77_9i, r77_11, r77_12i, r77_14, r77_15i, r77_19, r77_23, r77_25, r77_26, r77_27, r77_30, r77_33, r77_37, r77_38, r77_39, r77_40, r77_41, r77_43, r77_44, r77_45, r77_48, r77_49i, r77_51, r77_52, r77_55, r77_57, r77_58, r77_60, r77_63, r77_64, r77_66, r77_70, r77_71, r77_74, r77_76, r77_78, r77_79, r77_81, r77_82i, r77_85, r77_87, r77_88, r77_90, r77_91, r77_92i, r77_94i, r77_97, r77_100, r77_101i, r77_103, r77_104i, r77_108, r77_113, r77_115, r77_121, r77_122, r77_125, r77_127, r77_129, r77_130, r77_131i, r77_133i, r77_136, r77_138, r77_139, r77_141, r77_142, r77_143, r77_144, r77_145i, r77_147, r77_148i, r77_152, r77_156, r77_157, r77_160, r77_163, r77_164, r77_166, r77_167, r77_169, r77_170, r77_171i, r77_173, r77_175, r77_179, r77_180, r77_183, r77_184, r77_185, r77_187, r77_189, v77_189_7, r77_192i, r77_194, r77_196, r77_200, r77_202, r77_203, r77_206, r77_208, r77_212, r77_213, r77_216, r77_218, r77_220, r77_221, r77_223, r77_227, r77_229, r77_231, r77_232, r77_233, r77_237, r77_238, r77_241, r77_243, r77_245, r77_246, r77_248, r77_249i, r77_252, r77_254, r77_255, r77_257, r77_258, r77_259i, r77_261i, r77_264, r77_267i, r77_270, r77_273, g7_9_7, g7_41_8, g7_47_8, g7_19_7, g7_29_7, g7_56_8, o7_len, o7_g0, o8_len, o8_g2, o8_g0, o7_g2, o7_g5, o8_g11, il_s, bl_s, bl_z, ll_s, is_s, bs_s, bs_z, ls_s, al_s, al_b, al_l, fr_at, fr_fr, Nat.reduceEqDiff, tc_gf3_s, tc_ql2_s, tc_ws_0, tc_ws_i, tc_ws_l, tc_ws_r, Nat.reduceLeDiff, Nat.reduceAdd, Nat.reduceLT, true_and, and_true, if_true, if_false, tc_K, Option.toList_some, Option.toList_none, List.nil_append, List.cons_append, ite_true, ite_false, Int.cast_ofNat_Int, reduceIte, i3_add_eq, i3_sub_eq, Int.add_sub_cancel, Int.add_neg_cancel_right, SeaS_g0 hE, SeaS_s0 hE, SeaS_g1 hE, SeaS_s1 hE, SeaS_g2 hE, SeaS_s2 hE, SeaS_g3 hE, SeaS_s3 hE, SeaS_g4 hE, SeaS_s4 hE, SeaS_g5 hE, SeaS_s5 hE, SeaS_g6 hE, SeaS_s6 hE, ShoS_g0 hO, ShoS_s0 hO, ShoS_g1 hO, ShoS_s1 hO, ShoS_g2 hO, ShoS_s2 hO, ShoS_g3 hO, ShoS_s3 hO, ShoS_g4 hO, ShoS_s4 hO, ShoS_g5 hO, ShoS_s5 hO, ShoS_g6 hO, ShoS_s6 hO, ShoS_g7 hO, ShoS_s7 hO, es, es7, ehr, hbs, i3_mul_eq, h79, hqh, i3_and31]) | (simp only [r77_20, r77_34, r77_67, r77_110, r77_118, r77_153, r77_176, r77_197, r77_209, r77_224, r77_234, i6_lt0, i6_0lt, i6_0le, i6_le0, i6_eq0, b10_0, ite_not, Int.reduceLT, Int.reduceLE, Int.reduceEq, Int.reduceNeg, if_true, if_false, ite_true, ite_false, reduceIte, eq_self, not_true, not_false_eq_true]; try refine tc_ite (fun _ => ?_) (fun _ => ?_) <;> try (exfalso; omega)))
            have el : ((q ++ [bes W (W * D) x d]).length : Int) = q.length + 1 := by
              rw [List.length_append]
              rfl
            have hih := fun e' a10 a11 hi => ih e' (q ++ [bes W (W * D) x d]) a10 a11 hi
            rw [el, ← Int.add_assoc, ← qm_add (by omega) (by omega)] at hih
            refine hih _ _ _ ⟨⟨fun a h3 h4 => ?_, ⟨?_, ?_, ?_, ?_⟩, ?_⟩, fun y h3 h4 h5 h6 k h7 h8 => ?_, fun k h3 h4 => ?_⟩
            · rw [fr_ne h4, fr_ne h3]
              exact hI.1 a h3 h4
            · exact hup
            · rw [List.nodup_append]
              refine ⟨hI.2.1.2.1, List.nodup_cons.mpr ⟨List.not_mem_nil, List.nodup_nil⟩, fun a ha b hb h => ?_⟩
              rw [List.mem_singleton] at hb
              exact hin (hb ▸ h ▸ ha)
            · intro y hy
              rw [List.mem_append, List.mem_singleton] at hy
              rcases hy with hy | hy
              · exact hI.2.1.2.2.1 y hy
              · omega
            · show _ ≤ sm (fu (e 50) (bes W (W * D) x d) v) _
              rw [hsm, el]
              omega
            · rw [fr_same]
              exact hI.2.2.add hlen
            · show rl _ _ _ (fu (e 50) (bes W (W * D) x d) v) _ _
              rw [List.mem_append, List.mem_singleton] at h5
              by_cases h9 : y = bes W (W * D) x d
              · exact absurd (Or.inr h9) h5
              · exact hmono y k h3 h4 h7 h8 h9 (hI2 y h3 h4 (fun h => h5 (Or.inl h)) h6 k h7 h8)
            · show rl _ _ _ (fu (e 50) (bes W (W * D) x d) v) _ _
              by_cases h9 : k = d
              · rw [h9]
                intro _
                rw [fce_ext rfl rfl (fu_ne (by omega)), hfc, fu_same]
                omega
              · exact hmono x k hx hx2 h3 (by omega) (by omega) (hI3 k h3 (by omega))
      · have hle : fce (c hr) (e 50) (bes W (W * D) x d) x ≤ e 50 (bes W (W * D) x d) := by
          unfold fce
          split
          · omega
          · omega
        repeat' (first | (simp (disch := first | omega | exact Nat.le_of_ble_eq_true rfl | exact rfl | assumption | (simp only [fr_at, Nat.reduceEqDiff, if_false, if_true, reduceIte]; first | assumption | omega)) only [r77_0, r77_1, r77_4, r77_7i, r77_8, r77_9i, r77_11, r77_12i, r77_14, r77_15i, r77_19, r77_23, r77_25, r77_26, r77_27, r77_30, r77_33, r77_37, r77_38, r77_39, r77_40, r77_41, r77_43, r77_44, r77_45, r77_48, r77_49i, r77_51, r77_52, r77_55, r77_57, r77_58, r77_60, r77_63, r77_64, r77_66, r77_70, r77_71, r77_74, r77_76, r77_78, r77_79, r77_81, r77_82i, r77_85, r77_87, r77_88, r77_90, r77_91, r77_92i, r77_94i, r77_97, r77_100, r77_101i, r77_103, r77_104i, r77_108, r77_113, r77_115, r77_121, r77_122, r77_125, r77_127, r77_129, r77_130, r77_131i, r77_133i, r77_136, r77_138, r77_139, r77_141, r77_142, r77_143, r77_144, r77_145i, r77_147, r77_148i, r77_152, r77_156, r77_157, r77_160, r77_163, r77_164, r77_166, r77_167, r77_169, r77_170, r77_171i, r77_173, r77_175, r77_179, r77_180, r77_183, r77_184, r77_185, r77_187, r77_189, v77_189_7, r77_192i, r77_194, r77_196, r77_200, r77_202, r77_203, r77_206, r77_208, r77_212, r77_213, r77_216, r77_218, r77_220, r77_221, r77_223, r77_227, r77_229, r77_231, r77_232, r77_233, r77_237, r77_238, r77_241, r77_243, r77_245, r77_246, r77_248, r77_249i, r77_252, r77_254, r77_255, r77_257, r77_258, r77_259i, r77_261i, r77_264, r77_267i, r77_270, r77_273, g7_9_7, g7_41_8, g7_47_8, g7_19_7, g7_29_7, g7_56_8, o7_len, o7_g0, o8_len, o8_g2, o8_g0, o7_g2, o7_g5, o8_g11, il_s, bl_s, bl_z, ll_s, is_s, bs_s, bs_z, ls_s, al_s, al_b, al_l, fr_at, fr_fr, Nat.reduceEqDiff, tc_gf3_s, tc_ql2_s, tc_ws_0, tc_ws_i, tc_ws_l, tc_ws_r, Nat.reduceLeDiff, Nat.reduceAdd, Nat.reduceLT, true_and, and_true, if_true, if_false, tc_K, Option.toList_some, Option.toList_none, List.nil_append, List.cons_append, ite_true, ite_false, Int.cast_ofNat_Int, reduceIte, i3_add_eq, i3_sub_eq, Int.add_sub_cancel, Int.add_neg_cancel_right, SeaS_g0 hE, SeaS_s0 hE, SeaS_g1 hE, SeaS_s1 hE, SeaS_g2 hE, SeaS_s2 hE, SeaS_g3 hE, SeaS_s3 hE, SeaS_g4 hE, SeaS_s4 hE, SeaS_g5 hE, SeaS_s5 hE, SeaS_g6 hE, SeaS_s6 hE, ShoS_g0 hO, ShoS_s0 hO, ShoS_g1 hO, ShoS_s1 hO, ShoS_g2 hO, ShoS_s2 hO, ShoS_g3 hO, ShoS_s3 hO, ShoS_g4 hO, ShoS_s4 hO, ShoS_g5 hO, ShoS_s5 hO, ShoS_g6 hO, ShoS_s6 hO, ShoS_g7 hO, ShoS_s7 hO, es, es7, ehr, hbs, i3_mul_eq, h79]) | (simp only [r77_20, r77_34, r77_67, r77_110, r77_118, r77_153, r77_176, r77_197, r77_209, r77_224, r77_234, i6_lt0, i6_0lt, i6_0le, i6_le0, i6_eq0, b10_0, ite_not, Int.reduceLT, Int.reduceLE, Int.reduceEq, Int.reduceNeg, if_true, if_false, ite_true, ite_false, reduceIte, eq_self, not_true, not_false_eq_true]; try refine tc_ite (fun _ => ?_) (fun _ => ?_) <;> try (exfalso; omega)))
        refine ih e q _ _ ⟨hI, hI2, fun k h3 h4 => ?_⟩
        by_cases h5 : k = d
        · rw [h5]
          exact fun _ => hle
        · exact hI3 k h3 (by omega)
  · intro e q a10 a11 ⟨hI, hI2, hI3⟩
    simp only [r77_150]
    repeat' (first | (simp (disch := first | omega | exact Nat.le_of_ble_eq_true rfl | exact rfl | assumption | (simp only [fr_at, Nat.reduceEqDiff, if_false, if_true, reduceIte]; first | assumption | omega)) only [r77_0, r77_1, r77_4, r77_7i, r77_8, r77_9i, r77_11, r77_12i, r77_14, r77_15i, r77_19, r77_23, r77_25, r77_26, r77_27, r77_30, r77_33, r77_37, r77_38, r77_39, r77_40, r77_41, r77_43, r77_44, r77_45, r77_48, r77_49i, r77_51, r77_52, r77_55, r77_57, r77_58, r77_60, r77_63, r77_64, r77_66, r77_70, r77_71, r77_74, r77_76, r77_78, r77_79, r77_81, r77_82i, r77_85, r77_87, r77_88, r77_90, r77_91, r77_92i, r77_94i, r77_97, r77_100, r77_101i, r77_103, r77_104i, r77_108, r77_113, r77_115, r77_121, r77_122, r77_125, r77_127, r77_129, r77_130, r77_131i, r77_133i, r77_136, r77_138, r77_139, r77_141, r77_142, r77_143, r77_144, r77_145i, r77_147, r77_148i, r77_152, r77_156, r77_157, r77_160, r77_163, r77_164, r77_166, r77_167, r77_169, r77_170, r77_171i, r77_173, r77_175, r77_179, r77_180, r77_183, r77_184, r77_185, r77_187, r77_189, v77_189_7, r77_192i, r77_194, r77_196, r77_200, r77_202, r77_203, r77_206, r77_208, r77_212, r77_213, r77_216, r77_218, r77_220, r77_221, r77_223, r77_227, r77_229, r77_231, r77_232, r77_233, r77_237, r77_238, r77_241, r77_243, r77_245, r77_246, r77_248, r77_249i, r77_252, r77_254, r77_255, r77_257, r77_258, r77_259i, r77_261i, r77_264, r77_270, r77_273, g7_9_7, g7_41_8, g7_47_8, g7_19_7, g7_29_7, g7_56_8, o7_len, o7_g0, o8_len, o8_g2, o8_g0, o7_g2, o7_g5, o8_g11, il_s, bl_s, bl_z, ll_s, is_s, bs_s, bs_z, ls_s, al_s, al_b, al_l, fr_at, fr_fr, Nat.reduceEqDiff, tc_gf3_s, tc_ql2_s, tc_ws_0, tc_ws_i, tc_ws_l, tc_ws_r, Nat.reduceLeDiff, Nat.reduceAdd, Nat.reduceLT, true_and, and_true, if_true, if_false, tc_K, Option.toList_some, Option.toList_none, List.nil_append, List.cons_append, ite_true, ite_false, Int.cast_ofNat_Int, reduceIte, i3_add_eq, i3_sub_eq, Int.add_sub_cancel, Int.add_neg_cancel_right]) | (simp only [r77_20, r77_34, r77_67, r77_110, r77_118, r77_153, r77_176, r77_197, r77_209, r77_224, r77_234, i6_lt0, i6_0lt, i6_0le, i6_le0, i6_eq0, b10_0, ite_not, Int.reduceLT, Int.reduceLE, Int.reduceEq, Int.reduceNeg, if_true, if_false, ite_true, ite_false, reduceIte, eq_self, not_true, not_false_eq_true]; try refine tc_ite (fun _ => ?_) (fun _ => ?_) <;> try (exfalso; omega)))
    refine hk e q _ _ hI fun y h3 h4 h5 k h6 h7 => ?_
    by_cases h8 : y = x
    · rw [h8]
      exact hI3 k h6 h7
    · exact hI2 y h3 h4 h5 h8 k h6 h7
theorem c77_o (hE : SeaS L sh (some s) la) (hO : ShoS L sh s) (hs : s = 30 ∨ 115 ≤ s) (hH : sh hr = (0, 25, [])) (hL : hr < L) (hr2 : ¬ hr = 50 ∧ ¬ hr = 53) {W D F : Int} (hW : 2 ≤ W ∧ W ≤ 5) (hD : 0 ≤ W * D ∧ W * D ≤ 25) (hB : SB c s W D) (hh : HT (W * D) (c hr)) (hF : 0 ≤ F ∧ F ≤ 60)
    (hq : ∀ e, (∀ a, ¬ a = 50 → ¬ a = 53 → e a = c a) → e 50 = lay (W * D) (stg W (W * D) (c hr) F) (c 50) → Q none (hp L sh e) n) :
    ∀ (m : Nat) (hd : Int) (e : Nat → Int → Int) (q : List Int) (a8 a9 a10 a11 : AV), 0 ≤ hd → 1500 - hd < m → RI W (W * D) (c hr) F c e hd q → (∀ y, 0 ≤ y → y < W * D → ¬ y ∈ q → ∀ k, 0 ≤ k → k < 4 → rl W (W * D) (c hr) (e 50) y k) → tc_W 77 106 [rf 49, rf hr, .inl F, .inl (W * D), .inl (hd + q.length), .inl (qm q : Nat), .inl hd, .inl hd, a8, a9, a10, a11] [] (hp L sh e) n Q := by
  intro m
  induction m with
  | zero =>
    intro hd e q a8 a9 a10 a11 hd0 hm hI hI2
    exfalso
    have h1 := hI.2.1.2.2.2
    have h2 := sm_le (s := e 50) (F := 60) (by omega) (W * D).toNat fun y h3 h4 => by
      have := hI.2.1.1.1.le hh hF.1 h3 (by omega)
      omega
    omega
  | succ m ih =>
    intro hd e q a8 a9 a10 a11 hd0 hm hI hI2
    have h1 := hI.2.1.2.2.2
    have h2 := sm_le (s := e 50) (F := 60) (by omega) (W * D).toNat fun y h3 h4 => by
      have := hI.2.1.1.1.le hh hF.1 h3 (by omega)
      omega
    have hlen := hI.len hD.2
    cases q with
    | nil =>
      simp only [r77_106]
      have e0 : hd + (([] : List Int).length : Int) = hd := by
        show hd + 0 = hd
        omega
      rw [e0]
      repeat' (first | (simp (disch := first | omega | exact Nat.le_of_ble_eq_true rfl | exact rfl | assumption | (simp only [fr_at, Nat.reduceEqDiff, if_false, if_true, reduceIte]; first | assumption | omega)) only [r77_0, r77_1, r77_4, r77_7i, r77_8, r77_9i, r77_11, r77_12i, r77_14, r77_15i, r77_19, r77_23, r77_25, r77_26, r77_27, r77_30, r77_33, r77_37, r77_38, r77_39, r77_40, r77_41, r77_43, r77_44, r77_45, r77_48, r77_49i, r77_51, r77_52, r77_55, r77_57, r77_58, r77_60, r77_63, r77_64, r77_66, r77_70, r77_71, r77_74, r77_76, r77_78, r77_79, r77_81, r77_82i, r77_85, r77_87, r77_88, r77_90, r77_91, r77_92i, r77_94i, r77_97, r77_100, r77_101i, r77_103, r77_104i, r77_108, r77_113, r77_115, r77_121, r77_122, r77_125, r77_127, r77_129, r77_130, r77_131i, r77_133i, r77_136, r77_138, r77_139, r77_141, r77_142, r77_143, r77_144, r77_145i, r77_147, r77_148i, r77_152, r77_156, r77_157, r77_160, r77_163, r77_164, r77_166, r77_167, r77_169, r77_170, r77_171i, r77_173, r77_175, r77_179, r77_180, r77_183, r77_184, r77_185, r77_187, r77_189, v77_189_7, r77_192i, r77_194, r77_196, r77_200, r77_202, r77_203, r77_206, r77_208, r77_212, r77_213, r77_216, r77_218, r77_220, r77_221, r77_223, r77_227, r77_229, r77_231, r77_232, r77_233, r77_237, r77_238, r77_241, r77_243, r77_245, r77_246, r77_248, r77_249i, r77_252, r77_254, r77_255, r77_257, r77_258, r77_259i, r77_261i, r77_264, r77_267i, r77_270, r77_273, g7_9_7, g7_41_8, g7_47_8, g7_19_7, g7_29_7, g7_56_8, o7_len, o7_g0, o8_len, o8_g2, o8_g0, o7_g2, o7_g5, o8_g11, il_s, bl_s, bl_z, ll_s, is_s, bs_s, bs_z, ls_s, al_s, al_b, al_l, fr_at, fr_fr, Nat.reduceEqDiff, tc_gf3_s, tc_ql2_s, tc_ws_0, tc_ws_i, tc_ws_l, tc_ws_r, Nat.reduceLeDiff, Nat.reduceAdd, Nat.reduceLT, true_and, and_true, if_true, if_false, tc_K, Option.toList_some, Option.toList_none, List.nil_append, List.cons_append, ite_true, ite_false, Int.cast_ofNat_Int, reduceIte, i3_add_eq, i3_sub_eq, Int.add_sub_cancel, Int.add_neg_cancel_right]) | (simp only [r77_20, r77_34, r77_67, r77_110, r77_118, r77_153, r77_176, r77_197, r77_209, r77_224, r77_234, i6_lt0, i6_0lt, i6_0le, i6_le0, i6_eq0, b10_0, ite_not, Int.reduceLT, Int.reduceLE, Int.reduceEq, Int.reduceNeg, if_true, if_false, ite_true, ite_false, reduceIte, eq_self, not_true, not_false_eq_true]; try refine tc_ite (fun _ => ?_) (fun _ => ?_) <;> try (exfalso; omega)))
      have hcl : Cl W (W * D) (c hr) F (e 50) := fun x hx hx2 => ⟨hI.2.1.1.2.1 x hx hx2, fun d h3 h4 h5 => by
        have h6 := bes_rng hW hx hx2 h3 h4
        have h7 := opp_rng h3 h4
        have h8 := hI2 (bes W (W * D) x d) (by omega) (by omega) List.not_mem_nil (opp d) h7.1 h7.2 (by rw [bes_opp hW hx hx2 h3 h4 h5]; omega)
        rw [bes_opp hW hx hx2 h3 h4 h5] at h8
        exact h8⟩
      refine hq e hI.1 ?_
      funext x
      by_cases hx : 0 ≤ x ∧ x < W * D
      · rw [lay_in hx]
        exact St.eq (s := e 50) ⟨hcl, hI.2.1.1.1⟩ hx.1 hx.2
      · rw [lay_out hx, hI.2.1.1.2.2 x hx]
    | cons x q =>
      have hle : ((x :: q).length : Int) = q.length + 1 := rfl
      have hxq := hI.2.1.2.2.1 x List.mem_cons_self
      have hnd := List.nodup_cons.mp hI.2.1.2.1
      have hrg := hI.2.2.hd
      rw [hle] at h1
      simp only [r77_106]
      rw [hle]
      repeat' (first | (simp (disch := first | omega | exact Nat.le_of_ble_eq_true rfl | exact rfl | assumption | (simp only [fr_at, Nat.reduceEqDiff, if_false, if_true, reduceIte]; first | assumption | omega)) only [r77_0, r77_1, r77_4, r77_7i, r77_8, r77_9i, r77_11, r77_12i, r77_14, r77_15i, r77_19, r77_23, r77_25, r77_26, r77_27, r77_30, r77_33, r77_37, r77_38, r77_39, r77_40, r77_41, r77_43, r77_44, r77_45, r77_48, r77_49i, r77_51, r77_52, r77_55, r77_57, r77_58, r77_60, r77_63, r77_64, r77_66, r77_70, r77_71, r77_74, r77_76, r77_78, r77_79, r77_81, r77_82i, r77_85, r77_87, r77_88, r77_90, r77_91, r77_92i, r77_94i, r77_97, r77_100, r77_101i, r77_103, r77_104i, r77_108, r77_113, r77_115, r77_121, r77_122, r77_125, r77_127, r77_129, r77_130, r77_131i, r77_133i, r77_136, r77_138, r77_139, r77_141, r77_142, r77_143, r77_144, r77_145i, r77_147, r77_148i, r77_152, r77_156, r77_157, r77_160, r77_163, r77_164, r77_166, r77_167, r77_169, r77_170, r77_171i, r77_173, r77_175, r77_179, r77_180, r77_183, r77_184, r77_185, r77_187, r77_189, v77_189_7, r77_192i, r77_194, r77_196, r77_200, r77_202, r77_203, r77_206, r77_208, r77_212, r77_213, r77_216, r77_218, r77_220, r77_221, r77_223, r77_227, r77_229, r77_231, r77_232, r77_233, r77_237, r77_238, r77_241, r77_243, r77_245, r77_246, r77_248, r77_249i, r77_252, r77_254, r77_255, r77_257, r77_258, r77_259i, r77_261i, r77_264, r77_267i, r77_270, r77_273, g7_9_7, g7_41_8, g7_47_8, g7_19_7, g7_29_7, g7_56_8, o7_len, o7_g0, o8_len, o8_g2, o8_g0, o7_g2, o7_g5, o8_g11, il_s, bl_s, bl_z, ll_s, is_s, bs_s, bs_z, ls_s, al_s, al_b, al_l, fr_at, fr_fr, Nat.reduceEqDiff, tc_gf3_s, tc_ql2_s, tc_ws_0, tc_ws_i, tc_ws_l, tc_ws_r, Nat.reduceLeDiff, Nat.reduceAdd, Nat.reduceLT, true_and, and_true, if_true, if_false, tc_K, Option.toList_some, Option.toList_none, List.nil_append, List.cons_append, ite_true, ite_false, Int.cast_ofNat_Int, reduceIte, i3_add_eq, i3_sub_eq, Int.add_sub_cancel, Int.add_neg_cancel_right, SeaS_g0 hE, SeaS_s0 hE, SeaS_g1 hE, SeaS_s1 hE, SeaS_g2 hE, SeaS_s2 hE, SeaS_g3 hE, SeaS_s3 hE, SeaS_g4 hE, SeaS_s4 hE, SeaS_g5 hE, SeaS_s5 hE, SeaS_g6 hE, SeaS_s6 hE, i3_and31, hrg]) | (simp only [r77_20, r77_34, r77_67, r77_110, r77_118, r77_153, r77_176, r77_197, r77_209, r77_224, r77_234, i6_lt0, i6_0lt, i6_0le, i6_le0, i6_eq0, b10_0, ite_not, Int.reduceLT, Int.reduceLE, Int.reduceEq, Int.reduceNeg, if_true, if_false, ite_true, ite_false, reduceIte, eq_self, not_true, not_false_eq_true]; try refine tc_ite (fun _ => ?_) (fun _ => ?_) <;> try (exfalso; omega)))
      rw [qm_del hxq.1 (by omega) hnd.1, show hd + (q.length + 1 : Int) = hd + 1 + q.length by omega]
      refine c77_i (hd := hd + 1) (t := hd) hE hO hs hH hL hr2 hW hD hB hh hF hxq.1 hxq.2 (by omega) ?_ e q _ _ ⟨hI.1, ⟨hI.2.1.1, hnd.2, fun y hy => hI.2.1.2.2.1 y (List.mem_cons_of_mem _ hy), by omega⟩, hI.2.2.tl⟩ ?_
      · intro e q a10 a11 hI hI2
        repeat' (first | (simp (disch := first | omega | exact Nat.le_of_ble_eq_true rfl | exact rfl | assumption | (simp only [fr_at, Nat.reduceEqDiff, if_false, if_true, reduceIte]; first | assumption | omega)) only [r77_0, r77_1, r77_4, r77_7i, r77_8, r77_9i, r77_11, r77_12i, r77_14, r77_15i, r77_19, r77_23, r77_25, r77_26, r77_27, r77_30, r77_33, r77_37, r77_38, r77_39, r77_40, r77_41, r77_43, r77_44, r77_45, r77_48, r77_49i, r77_51, r77_52, r77_55, r77_57, r77_58, r77_60, r77_63, r77_64, r77_66, r77_70, r77_71, r77_74, r77_76, r77_78, r77_79, r77_81, r77_82i, r77_85, r77_87, r77_88, r77_90, r77_91, r77_92i, r77_94i, r77_97, r77_100, r77_101i, r77_103, r77_104i, r77_108, r77_113, r77_115, r77_121, r77_122, r77_125, r77_127, r77_129, r77_130, r77_131i, r77_133i, r77_136, r77_138, r77_139, r77_141, r77_142, r77_143, r77_144, r77_145i, r77_147, r77_148i, r77_152, r77_156, r77_157, r77_160, r77_163, r77_164, r77_166, r77_167, r77_169, r77_170, r77_171i, r77_173, r77_175, r77_179, r77_180, r77_183, r77_184, r77_185, r77_187, r77_189, v77_189_7, r77_192i, r77_194, r77_196, r77_200, r77_202, r77_203, r77_206, r77_208, r77_212, r77_213, r77_216, r77_218, r77_220, r77_221, r77_223, r77_227, r77_229, r77_231, r77_232, r77_233, r77_237, r77_238, r77_241, r77_243, r77_245, r77_246, r77_248, r77_249i, r77_252, r77_254, r77_255, r77_257, r77_258, r77_259i, r77_261i, r77_264, r77_267i, r77_270, r77_273, g7_9_7, g7_41_8, g7_47_8, g7_19_7, g7_29_7, g7_56_8, o7_len, o7_g0, o8_len, o8_g2, o8_g0, o7_g2, o7_g5, o8_g11, il_s, bl_s, bl_z, ll_s, is_s, bs_s, bs_z, ls_s, al_s, al_b, al_l, fr_at, fr_fr, Nat.reduceEqDiff, tc_gf3_s, tc_ql2_s, tc_ws_0, tc_ws_i, tc_ws_l, tc_ws_r, Nat.reduceLeDiff, Nat.reduceAdd, Nat.reduceLT, true_and, and_true, if_true, if_false, tc_K, Option.toList_some, Option.toList_none, List.nil_append, List.cons_append, ite_true, ite_false, Int.cast_ofNat_Int, reduceIte, i3_add_eq, i3_sub_eq, Int.add_sub_cancel, Int.add_neg_cancel_right]) | (simp only [r77_20, r77_34, r77_67, r77_110, r77_118, r77_153, r77_176, r77_197, r77_209, r77_224, r77_234, i6_lt0, i6_0lt, i6_0le, i6_le0, i6_eq0, b10_0, ite_not, Int.reduceLT, Int.reduceLE, Int.reduceEq, Int.reduceNeg, if_true, if_false, ite_true, ite_false, reduceIte, eq_self, not_true, not_false_eq_true]; try refine tc_ite (fun _ => ?_) (fun _ => ?_) <;> try (exfalso; omega)))
        exact ih (hd + 1) e q _ _ _ _ (by omega) (by omega) hI hI2
      · intro y h3 h4 h5 h6 k h7 h8
        refine hI2 y h3 h4 (fun h => ?_) k h7 h8
        rcases List.mem_cons.mp h with h | h
        · exact h6 h
        · exact h5 h
theorem c77 (hE : SeaS L sh (some s) la) (hO : ShoS L sh s) (hs : s = 30 ∨ 115 ≤ s) (hH : sh hr = (0, 25, [])) (hL : hr < L) (hr2 : ¬ hr = 50 ∧ ¬ hr = 53) {W D F : Int} (hW : 2 ≤ W ∧ W ≤ 5) (hD : 0 ≤ W * D ∧ W * D ≤ 25) (hB : SB c s W D) (hh : HT (W * D) (c hr)) (hF : 0 ≤ F ∧ F ≤ 60)
    (hq : ∀ e, (∀ a, ¬ a = 50 → ¬ a = 53 → e a = c a) → e 50 = lay (W * D) (stg W (W * D) (c hr) F) (c 50) → Q none (hp L sh e) n) : tc_C 77 [rf 49, rf hr, .inl F] (hp L sh c) n Q := by
  show tc_W 77 0 [rf 49, rf hr, .inl F, tc_nil, tc_nil, tc_nil, tc_nil, tc_nil, tc_nil, tc_nil, tc_nil, tc_nil] [] _ _ Q
  have hc0 := hB.1
  have hc2 := hB.2.1
  repeat' (first | (simp (disch := first | omega | exact Nat.le_of_ble_eq_true rfl | exact rfl | assumption | (simp only [fr_at, Nat.reduceEqDiff, if_false, if_true, reduceIte]; first | assumption | omega)) only [r77_0, r77_1, r77_4, r77_7i, r77_8, r77_9i, r77_11, r77_12i, r77_14, r77_15i, r77_19, r77_23, r77_25, r77_26, r77_27, r77_30, r77_33, r77_37, r77_38, r77_39, r77_40, r77_41, r77_43, r77_44, r77_45, r77_48, r77_49i, r77_51, r77_52, r77_55, r77_57, r77_58, r77_60, r77_63, r77_64, r77_66, r77_70, r77_71, r77_74, r77_76, r77_78, r77_79, r77_81, r77_82i, r77_85, r77_87, r77_88, r77_90, r77_91, r77_92i, r77_94i, r77_97, r77_100, r77_101i, r77_103, r77_104i, r77_108, r77_113, r77_115, r77_121, r77_122, r77_125, r77_127, r77_129, r77_130, r77_131i, r77_133i, r77_136, r77_138, r77_139, r77_141, r77_142, r77_143, r77_144, r77_145i, r77_147, r77_148i, r77_152, r77_156, r77_157, r77_160, r77_163, r77_164, r77_166, r77_167, r77_169, r77_170, r77_171i, r77_173, r77_175, r77_179, r77_180, r77_183, r77_184, r77_185, r77_187, r77_189, v77_189_7, r77_192i, r77_194, r77_196, r77_200, r77_202, r77_203, r77_206, r77_208, r77_212, r77_213, r77_216, r77_218, r77_220, r77_221, r77_223, r77_227, r77_229, r77_231, r77_232, r77_233, r77_237, r77_238, r77_241, r77_243, r77_245, r77_246, r77_248, r77_249i, r77_252, r77_254, r77_255, r77_257, r77_258, r77_259i, r77_261i, r77_264, r77_267i, r77_270, r77_273, g7_9_7, g7_41_8, g7_47_8, g7_19_7, g7_29_7, g7_56_8, o7_len, o7_g0, o8_len, o8_g2, o8_g0, o7_g2, o7_g5, o8_g11, il_s, bl_s, bl_z, ll_s, is_s, bs_s, bs_z, ls_s, al_s, al_b, al_l, fr_at, fr_fr, Nat.reduceEqDiff, tc_gf3_s, tc_ql2_s, tc_ws_0, tc_ws_i, tc_ws_l, tc_ws_r, Nat.reduceLeDiff, Nat.reduceAdd, Nat.reduceLT, true_and, and_true, if_true, if_false, tc_K, Option.toList_some, Option.toList_none, List.nil_append, List.cons_append, ite_true, ite_false, Int.cast_ofNat_Int, reduceIte, i3_add_eq, i3_sub_eq, Int.add_sub_cancel, Int.add_neg_cancel_right, SeaS_g0 hE, SeaS_s0 hE, SeaS_g1 hE, SeaS_s1 hE, SeaS_g2 hE, SeaS_s2 hE, SeaS_g3 hE, SeaS_s3 hE, SeaS_g4 hE, SeaS_s4 hE, SeaS_g5 hE, SeaS_s5 hE, SeaS_g6 hE, SeaS_s6 hE, ShoS_g0 hO, ShoS_s0 hO, ShoS_g1 hO, ShoS_s1 hO, ShoS_g2 hO, ShoS_s2 hO, ShoS_g3 hO, ShoS_s3 hO, ShoS_g4 hO, ShoS_s4 hO, ShoS_g5 hO, ShoS_s5 hO, ShoS_g6 hO, ShoS_s6 hO, ShoS_g7 hO, ShoS_s7 hO, hc2]) | (simp only [r77_20, r77_34, r77_67, r77_110, r77_118, r77_153, r77_176, r77_197, r77_209, r77_224, r77_234, i6_lt0, i6_0lt, i6_0le, i6_le0, i6_eq0, b10_0, ite_not, Int.reduceLT, Int.reduceLE, Int.reduceEq, Int.reduceNeg, if_true, if_false, ite_true, ite_false, reduceIte, eq_self, not_true, not_false_eq_true]; try refine tc_ite (fun _ => ?_) (fun _ => ?_) <;> try (exfalso; omega)))
  have h0 : qm [] = 0 := by decide +kernel
  have hloop := lq_3 (N := W * D) (P := fun k (e : Nat → Int → Int) (q : List Int) (a7 : AV) => tc_W 77 17 [rf 49, rf hr, .inl F, .inl (W * D), .inl (q.length : Int), .inl (qm q : Nat), .inl k, a7, tc_nil, tc_nil, tc_nil, tc_nil] [] (hp L sh e) n Q)
    (I := fun k e q _ => (∀ a, ¬ a = 50 → ¬ a = 53 → e a = c a) ∧ e 50 = lay k (ini W (W * D) (c hr) F) (c 50) ∧ RQ (e 53) 0 q ∧ q.Nodup ∧ (∀ x ∈ q, 0 ≤ x ∧ x < k) ∧ (∀ x, 0 ≤ x → x < k → ¬ x ∈ q → fse W (W * D) (c hr) F x ≤ 1) ∧ (q.length : Int) ≤ sm (ini W (W * D) (c hr) F) k.toNat) ?_ ?_ 0 c [] tc_nil (by omega) hD.1 ⟨fun _ _ _ => rfl, by rw [lay_0], fun i x hx => (by cases hx), List.nodup_nil, fun x hx => (by cases hx), fun x h1 h2 => (by omega), Int.le_refl 0⟩
  · rw [h0] at hloop
    exact hloop
  · intro k e q a7 hk hk2 ⟨hI1, hI2, hI3, hI4, hI5, hI6, hI7⟩ ih
    have es := hI1 s (by omega) (by omega)
    have ehr := hI1 hr hr2.1 hr2.2
    have hhk := hh k hk hk2
    have hlen : q.length ≤ 25 := q_25 hI4 fun x hx => by have := hI5 x hx; omega
    have esm := sm_up (s := ini W (W * D) (c hr) F) hk
    have ein : ini W (W * D) (c hr) F k = if 0 < fse W (W * D) (c hr) F k then fse W (W * D) (c hr) F k else 0 := rfl
    have efs : fse W (W * D) (c hr) F k = if W * D - W ≤ k then F - 1 - c hr k else 0 := rfl
    have hkq : ¬ k ∈ q := fun h => by have := hI5 k h; omega
    have el : ((q ++ [k]).length : Int) = q.length + 1 := by
      rw [List.length_append]
      rfl
    have ihp := fun e' a7 hi => ih e' (q ++ [k]) a7 hi
    rw [el, ← qm_add hk (by omega)] at ihp
    simp only [r77_17]
    generalize hv : fse W (W * D) (c hr) F k = v at efs ein
    by_cases hlast : W * D - W ≤ k
    · rw [if_pos hlast] at efs
      repeat' (first | (simp (disch := first | omega | exact Nat.le_of_ble_eq_true rfl | exact rfl | assumption | (simp only [fr_at, Nat.reduceEqDiff, if_false, if_true, reduceIte]; first | assumption | omega)) only [r77_0, r77_1, r77_4, r77_7i, r77_8, r77_9i, r77_11, r77_12i, r77_14, r77_15i, r77_19, r77_23, r77_25, r77_26, r77_27, r77_30, r77_33, r77_37, r77_38, r77_39, r77_40, r77_41, r77_43, r77_44, r77_45, r77_48, r77_49i, r77_51, r77_52, r77_55, r77_57, r77_58, r77_60, r77_63, r77_64, r77_66, r77_70, r77_71, r77_74, r77_76, r77_78, r77_79, r77_81, r77_82i, r77_85, r77_87, r77_88, r77_90, r77_91, r77_92i, r77_94i, r77_97, r77_100, r77_101i, r77_103, r77_104i, r77_108, r77_113, r77_115, r77_121, r77_122, r77_125, r77_127, r77_129, r77_130, r77_131i, r77_133i, r77_136, r77_138, r77_139, r77_141, r77_142, r77_143, r77_144, r77_145i, r77_147, r77_148i, r77_152, r77_156, r77_157, r77_160, r77_163, r77_164, r77_166, r77_167, r77_169, r77_170, r77_171i, r77_173, r77_175, r77_179, r77_180, r77_183, r77_184, r77_185, r77_187, r77_189, v77_189_7, r77_192i, r77_194, r77_196, r77_200, r77_202, r77_203, r77_206, r77_208, r77_212, r77_213, r77_216, r77_218, r77_220, r77_221, r77_223, r77_227, r77_229, r77_231, r77_232, r77_233, r77_237, r77_238, r77_241, r77_243, r77_245, r77_246, r77_248, r77_249i, r77_252, r77_254, r77_255, r77_257, r77_258, r77_259i, r77_261i, r77_264, r77_267i, r77_270, r77_273, g7_9_7, g7_41_8, g7_47_8, g7_19_7, g7_29_7, g7_56_8, o7_len, o7_g0, o8_len, o8_g2, o8_g0, o7_g2, o7_g5, o8_g11, il_s, bl_s, bl_z, ll_s, is_s, bs_s, bs_z, ls_s, al_s, al_b, al_l, fr_at, fr_fr, Nat.reduceEqDiff, tc_gf3_s, tc_ql2_s, tc_ws_0, tc_ws_i, tc_ws_l, tc_ws_r, Nat.reduceLeDiff, Nat.reduceAdd, Nat.reduceLT, true_and, and_true, if_true, if_false, tc_K, Option.toList_some, Option.toList_none, List.nil_append, List.cons_append, ite_true, ite_false, Int.cast_ofNat_Int, reduceIte, i3_add_eq, i3_sub_eq, Int.add_sub_cancel, Int.add_neg_cancel_right, SeaS_g0 hE, SeaS_s0 hE, SeaS_g1 hE, SeaS_s1 hE, SeaS_g2 hE, SeaS_s2 hE, SeaS_g3 hE, SeaS_s3 hE, SeaS_g4 hE, SeaS_s4 hE, SeaS_g5 hE, SeaS_s5 hE, SeaS_g6 hE, SeaS_s6 hE, ShoS_g0 hO, ShoS_s0 hO, ShoS_g1 hO, ShoS_s1 hO, ShoS_g2 hO, ShoS_s2 hO, ShoS_g3 hO, ShoS_s3 hO, ShoS_g4 hO, ShoS_s4 hO, ShoS_g5 hO, ShoS_s5 hO, ShoS_g6 hO, ShoS_s6 hO, ShoS_g7 hO, ShoS_s7 hO, es, ehr, hc0, hI2, hI hL hH, ← efs, i3_and31]) | (simp only [r77_20, r77_34, r77_67, r77_110, r77_118, r77_153, r77_176, r77_197, r77_209, r77_224, r77_234, i6_lt0, i6_0lt, i6_0le, i6_le0, i6_eq0, b10_0, ite_not, Int.reduceLT, Int.reduceLE, Int.reduceEq, Int.reduceNeg, if_true, if_false, ite_true, ite_false, reduceIte, eq_self, not_true, not_false_eq_true]; try refine tc_ite (fun _ => ?_) (fun _ => ?_) <;> try (exfalso; omega)))
      · refine ih _ q _ ⟨fun a h1 h2 => ?_, ?_, hI3, hI4, fun x hx => ?_, fun x h1 h2 h3 => ?_, ?_⟩
        · rw [fr_ne h1]
          exact hI1 a h1 h2
        · rw [fr_same]
          exact lay_upv hk ein.symm
        · have := hI5 x hx
          omega
        · by_cases h4 : x = k
          · rw [h4, hv]
            assumption
          · exact hI6 x h1 (by omega) h3
        · rw [esm, ein]
          split <;> omega
      · refine ihp _ _ ⟨fun a h1 h2 => ?_, ?_, ?_, ?_, fun x hx => ?_, fun x h1 h2 h3 => ?_, ?_⟩
        · rw [fr_ne h2, fr_ne h1]
          exact hI1 a h1 h2
        · show fu _ _ _ = _
          exact lay_upv hk ein.symm
        · rw [fr_same]
          have := hI3.add (x := k) hlen
          rw [Int.zero_add] at this
          exact this
        · rw [List.nodup_append]
          refine ⟨hI4, List.nodup_cons.mpr ⟨List.not_mem_nil, List.nodup_nil⟩, fun a ha b hb h => ?_⟩
          rw [List.mem_singleton] at hb
          exact hkq (hb ▸ h ▸ ha)
        · rw [List.mem_append, List.mem_singleton] at hx
          rcases hx with hx | hx
          · have := hI5 x hx
            omega
          · omega
        · rw [List.mem_append, List.mem_singleton] at h3
          exact hI6 x h1 (by have : ¬ x = k := fun h => h3 (Or.inr h); omega) fun h => h3 (Or.inl h)
        · rw [esm, ein, if_pos (by omega)]
          omega
    · rw [if_neg hlast] at efs
      repeat' (first | (simp (disch := first | omega | exact Nat.le_of_ble_eq_true rfl | exact rfl | assumption | (simp only [fr_at, Nat.reduceEqDiff, if_false, if_true, reduceIte]; first | assumption | omega)) only [r77_0, r77_1, r77_4, r77_7i, r77_8, r77_9i, r77_11, r77_12i, r77_14, r77_15i, r77_19, r77_23, r77_25, r77_26, r77_27, r77_30, r77_33, r77_37, r77_38, r77_39, r77_40, r77_41, r77_43, r77_44, r77_45, r77_48, r77_49i, r77_51, r77_52, r77_55, r77_57, r77_58, r77_60, r77_63, r77_64, r77_66, r77_70, r77_71, r77_74, r77_76, r77_78, r77_79, r77_81, r77_82i, r77_85, r77_87, r77_88, r77_90, r77_91, r77_92i, r77_94i, r77_97, r77_100, r77_101i, r77_103, r77_104i, r77_108, r77_113, r77_115, r77_121, r77_122, r77_125, r77_127, r77_129, r77_130, r77_131i, r77_133i, r77_136, r77_138, r77_139, r77_141, r77_142, r77_143, r77_144, r77_145i, r77_147, r77_148i, r77_152, r77_156, r77_157, r77_160, r77_163, r77_164, r77_166, r77_167, r77_169, r77_170, r77_171i, r77_173, r77_175, r77_179, r77_180, r77_183, r77_184, r77_185, r77_187, r77_189, v77_189_7, r77_192i, r77_194, r77_196, r77_200, r77_202, r77_203, r77_206, r77_208, r77_212, r77_213, r77_216, r77_218, r77_220, r77_221, r77_223, r77_227, r77_229, r77_231, r77_232, r77_233, r77_237, r77_238, r77_241, r77_243, r77_245, r77_246, r77_248, r77_249i, r77_252, r77_254, r77_255, r77_257, r77_258, r77_259i, r77_261i, r77_264, r77_267i, r77_270, r77_273, g7_9_7, g7_41_8, g7_47_8, g7_19_7, g7_29_7, g7_56_8, o7_len, o7_g0, o8_len, o8_g2, o8_g0, o7_g2, o7_g5, o8_g11, il_s, bl_s, bl_z, ll_s, is_s, bs_s, bs_z, ls_s, al_s, al_b, al_l, fr_at, fr_fr, Nat.reduceEqDiff, tc_gf3_s, tc_ql2_s, tc_ws_0, tc_ws_i, tc_ws_l, tc_ws_r, Nat.reduceLeDiff, Nat.reduceAdd, Nat.reduceLT, true_and, and_true, if_true, if_false, tc_K, Option.toList_some, Option.toList_none, List.nil_append, List.cons_append, ite_true, ite_false, Int.cast_ofNat_Int, reduceIte, i3_add_eq, i3_sub_eq, Int.add_sub_cancel, Int.add_neg_cancel_right, SeaS_g0 hE, SeaS_s0 hE, SeaS_g1 hE, SeaS_s1 hE, SeaS_g2 hE, SeaS_s2 hE, SeaS_g3 hE, SeaS_s3 hE, SeaS_g4 hE, SeaS_s4 hE, SeaS_g5 hE, SeaS_s5 hE, SeaS_g6 hE, SeaS_s6 hE, ShoS_g0 hO, ShoS_s0 hO, ShoS_g1 hO, ShoS_s1 hO, ShoS_g2 hO, ShoS_s2 hO, ShoS_g3 hO, ShoS_s3 hO, ShoS_g4 hO, ShoS_s4 hO, ShoS_g5 hO, ShoS_s5 hO, ShoS_g6 hO, ShoS_s6 hO, ShoS_g7 hO, ShoS_s7 hO, es, ehr, hc0, hI2, i3_and31]) | (simp only [r77_20, r77_34, r77_67, r77_110, r77_118, r77_153, r77_176, r77_197, r77_209, r77_224, r77_234, i6_lt0, i6_0lt, i6_0le, i6_le0, i6_eq0, b10_0, ite_not, Int.reduceLT, Int.reduceLE, Int.reduceEq, Int.reduceNeg, if_true, if_false, ite_true, ite_false, reduceIte, eq_self, not_true, not_false_eq_true]; try refine tc_ite (fun _ => ?_) (fun _ => ?_) <;> try (exfalso; omega)))
      refine ih _ q _ ⟨fun a h1 h2 => ?_, ?_, hI3, hI4, fun x hx => ?_, fun x h1 h2 h3 => ?_, ?_⟩
      · rw [fr_ne h1]
        exact hI1 a h1 h2
      · rw [fr_same]
        refine lay_upv hk ?_
        rw [ein, if_neg (by omega)]
      · have := hI5 x hx
        omega
      · by_cases h4 : x = k
        · rw [h4, hv]
          omega
        · exact hI6 x h1 (by omega) h3
      · rw [esm, ein, if_neg (by omega)]
        omega
  · intro e q a7 ⟨hI1, hI2, hI3, hI4, hI5, hI6, hI7⟩
    simp only [r77_17]
    repeat' (first | (simp (disch := first | omega | exact Nat.le_of_ble_eq_true rfl | exact rfl | assumption | (simp only [fr_at, Nat.reduceEqDiff, if_false, if_true, reduceIte]; first | assumption | omega)) only [r77_0, r77_1, r77_4, r77_7i, r77_8, r77_9i, r77_11, r77_12i, r77_14, r77_15i, r77_19, r77_23, r77_25, r77_26, r77_27, r77_30, r77_33, r77_37, r77_38, r77_39, r77_40, r77_41, r77_43, r77_44, r77_45, r77_48, r77_49i, r77_51, r77_52, r77_55, r77_57, r77_58, r77_60, r77_63, r77_64, r77_66, r77_70, r77_71, r77_74, r77_76, r77_78, r77_79, r77_81, r77_82i, r77_85, r77_87, r77_88, r77_90, r77_91, r77_92i, r77_94i, r77_97, r77_100, r77_101i, r77_103, r77_104i, r77_108, r77_113, r77_115, r77_121, r77_122, r77_125, r77_127, r77_129, r77_130, r77_131i, r77_133i, r77_136, r77_138, r77_139, r77_141, r77_142, r77_143, r77_144, r77_145i, r77_147, r77_148i, r77_152, r77_156, r77_157, r77_160, r77_163, r77_164, r77_166, r77_167, r77_169, r77_170, r77_171i, r77_173, r77_175, r77_179, r77_180, r77_183, r77_184, r77_185, r77_187, r77_189, v77_189_7, r77_192i, r77_194, r77_196, r77_200, r77_202, r77_203, r77_206, r77_208, r77_212, r77_213, r77_216, r77_218, r77_220, r77_221, r77_223, r77_227, r77_229, r77_231, r77_232, r77_233, r77_237, r77_238, r77_241, r77_243, r77_245, r77_246, r77_248, r77_249i, r77_252, r77_254, r77_255, r77_257, r77_258, r77_259i, r77_261i, r77_264, r77_267i, r77_270, r77_273, g7_9_7, g7_41_8, g7_47_8, g7_19_7, g7_29_7, g7_56_8, o7_len, o7_g0, o8_len, o8_g2, o8_g0, o7_g2, o7_g5, o8_g11, il_s, bl_s, bl_z, ll_s, is_s, bs_s, bs_z, ls_s, al_s, al_b, al_l, fr_at, fr_fr, Nat.reduceEqDiff, tc_gf3_s, tc_ql2_s, tc_ws_0, tc_ws_i, tc_ws_l, tc_ws_r, Nat.reduceLeDiff, Nat.reduceAdd, Nat.reduceLT, true_and, and_true, if_true, if_false, tc_K, Option.toList_some, Option.toList_none, List.nil_append, List.cons_append, ite_true, ite_false, Int.cast_ofNat_Int, reduceIte, i3_add_eq, i3_sub_eq, Int.add_sub_cancel, Int.add_neg_cancel_right]) | (simp only [r77_20, r77_34, r77_67, r77_110, r77_118, r77_153, r77_176, r77_197, r77_209, r77_224, r77_234, i6_lt0, i6_0lt, i6_0le, i6_le0, i6_eq0, b10_0, ite_not, Int.reduceLT, Int.reduceLE, Int.reduceEq, Int.reduceNeg, if_true, if_false, ite_true, ite_false, reduceIte, eq_self, not_true, not_false_eq_true]; try refine tc_ite (fun _ => ?_) (fun _ => ?_) <;> try (exfalso; omega)))
    have hz : StI W (W * D) (c hr) F (c 50) (e 50) := by
      rw [hI2]
      exact StI.z hD.1
    have hgo := c77_o (c := c) (n := n) (Q := Q) hE hO hs hH hL hr2 hW hD hB hh hF hq 1502 0 e q tc_nil tc_nil tc_nil tc_nil (by omega) (by omega) ⟨hI1, ⟨hz, hI4, hI5, ?_⟩, hI3⟩ ?_
    · rw [Int.zero_add] at hgo
      exact hgo
    · rw [Int.zero_add, hI2]
      rw [sm_ext (t := ini W (W * D) (c hr) F) fun x h1 h2 => lay_in ⟨h1, by omega⟩]
      exact hI7
    · intro y h1 h2 h3 k h4 h5 h6
      have h7 := hI6 y h1 h2 h3
      have h8 := bes_rng hW h1 h2 h4 h5
      have h9 := (hz.2.1 (bes W (W * D) y k) (by omega) (by omega)).1
      have h10 : fce (c hr) (e 50) (bes W (W * D) y k) y ≤ 0 := fce_le (by
        rw [hI2, lay_in ⟨h1, h2⟩]
        unfold ini
        split <;> omega)
      omega
end SPR

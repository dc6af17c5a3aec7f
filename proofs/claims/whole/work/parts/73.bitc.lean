/-! bits counted four at a time -/
theorem ush_32 : ∀ k : Fin 32, ((tc_3 (k.val : Int)).toUInt32 &&& Int32.toUInt32 31).toNat % 32 = k.val := by decide +kernel
theorem i3_ushr_nat {a k : Nat} (ha : a < 2147483648) (hk : k < 32) : i3_ushr a k = ((a >>> k : Nat) : Int) := by
  show (((tc_3 a).toUInt32 >>> ((tc_3 k).toUInt32 &&& Int32.toUInt32 31)).toBitVec).toInt = _
  have h4 : a >>> k ≤ a := by rw [Nat.shiftRight_eq_div_pow]; exact Nat.div_le_self _ _
  have h1 : (tc_3 a).toUInt32.toNat = a := by
    show (tc_3 a).toBitVec.toNat = a
    rw [ni_3, BitVec.toNat_ofNat, Nat.mod_eq_of_lt (by omega)]
  have h5 : ((tc_3 a).toUInt32 >>> ((tc_3 k).toUInt32 &&& Int32.toUInt32 31)).toBitVec.toNat = a >>> k := by
    show ((tc_3 a).toUInt32 >>> ((tc_3 k).toUInt32 &&& Int32.toUInt32 31)).toNat = a >>> k
    rw [UInt32.toNat_shiftRight, h1, ush_32 ⟨k, hk⟩]
  rw [BitVec.toInt_eq_toNat_of_lt (by rw [h5]; omega), h5]
theorem and_cat {a b r s : Nat} (hr : r < 16) (hs : s < 16) : (r + 16 * a) &&& (s + 16 * b) = (r &&& s) + 16 * (a &&& b) := by
  have e : ∀ x y : Nat, x + 16 * y = 2 ^ 4 * y + x := fun x y => by omega
  have h1 : r < 2 ^ 4 := hr
  have h2 : s < 2 ^ 4 := hs
  apply Nat.eq_of_testBit_eq
  intro j
  rw [e, e, e, Nat.testBit_and, Nat.testBit_two_pow_mul_add _ h1, Nat.testBit_two_pow_mul_add _ h2, Nat.testBit_two_pow_mul_add _ (Nat.and_lt_two_pow r h2)]
  by_cases hj : j < 4
  · rw [if_pos hj, if_pos hj, if_pos hj, Nat.testBit_and]
  · rw [if_neg hj, if_neg hj, if_neg hj, Nat.testBit_and]
theorem nb_1 : ∀ d : Fin 16, ∀ b : Fin 2, ((d.val / 2 + 8 * b.val) &&& 5) = (d.val / 2 &&& 5) := by decide +kernel
theorem nb_2 : ∀ d : Fin 16, ∀ b : Fin 4, ((d.val / 4 + 4 * b.val) &&& 3) = (d.val / 4 &&& 3) := by decide +kernel
theorem nb_3 : ∀ d : Fin 16, (d.val / 2 &&& 5) ≤ d.val ∧ ((d.val - (d.val / 2 &&& 5)) &&& 3) + ((d.val - (d.val / 2 &&& 5)) / 4 &&& 3) = d.val % 2 + d.val / 2 % 2 + d.val / 4 % 2 + d.val / 8 % 2 := by decide +kernel
theorem nb_4 : ∀ d : Fin 16, (d.val &&& 15) = d.val ∧ (d.val &&& 0) = 0 := by decide +kernel
theorem sw_1 {d a m : Nat} (hd : d < 16) : ((d + 16 * a) / 2 &&& (5 + 16 * m)) = (d / 2 &&& 5) + 16 * (a / 2 &&& m) := by
  rw [show (d + 16 * a) / 2 = (d / 2 + 8 * (a % 2)) + 16 * (a / 2) by omega, and_cat (by omega) (by omega), nb_1 ⟨d, hd⟩ ⟨a % 2, by omega⟩]
theorem sw_2 {d a m : Nat} (hd : d < 16) : ((d + 16 * a) / 4 &&& (3 + 16 * m)) = (d / 4 &&& 3) + 16 * (a / 4 &&& m) := by
  rw [show (d + 16 * a) / 4 = (d / 4 + 4 * (a % 4)) + 16 * (a / 4) by omega, and_cat (by omega) (by omega), nb_2 ⟨d, hd⟩ ⟨a % 4, by omega⟩]
/-- the bits of a small number -/
def pcn (d : Nat) : Nat := d % 2 + d / 2 % 2 + d / 4 % 2 + d / 8 % 2
def swA (x : Nat) : Nat := x - (x / 2 &&& 1431655765)
def swB (y : Nat) : Nat := (y &&& 858993459) + (y / 4 &&& 858993459)
def swC (z : Nat) : Nat := (z + z / 16) &&& 252645135
theorem swA_c {d a : Nat} {m : Nat} (hd : d < 16) (h : (a / 2 &&& m) ≤ a) : (d + 16 * a) - ((d + 16 * a) / 2 &&& (5 + 16 * m)) = (d - (d / 2 &&& 5)) + 16 * (a - (a / 2 &&& m)) ∧ ((d + 16 * a) / 2 &&& (5 + 16 * m)) ≤ d + 16 * a := by
  have h1 := (nb_3 ⟨d, hd⟩).1
  simp only at h1
  rw [sw_1 hd]
  omega
theorem swB_c {d a : Nat} {m : Nat} (hd : d < 16) : ((d + 16 * a) &&& (3 + 16 * m)) + ((d + 16 * a) / 4 &&& (3 + 16 * m)) = ((d &&& 3) + (d / 4 &&& 3)) + 16 * ((a &&& m) + (a / 4 &&& m)) := by
  rw [sw_2 hd, and_cat hd (by omega)]
  omega
def nb7 (d0 d1 d2 d3 d4 d5 d6 : Nat) : Nat := d0 + 16 * (d1 + 16 * (d2 + 16 * (d3 + 16 * (d4 + 16 * (d5 + 16 * (d6 + 16 * 0))))))
theorem sw_AB {d0 d1 d2 d3 d4 d5 d6 : Nat} (h0 : d0 < 16) (h1 : d1 < 16) (h2 : d2 < 16) (h3 : d3 < 16) (h4 : d4 < 16) (h5 : d5 < 16) (h6 : d6 < 16) : (nb7 d0 d1 d2 d3 d4 d5 d6 / 2 &&& 1431655765) ≤ nb7 d0 d1 d2 d3 d4 d5 d6 ∧ swB (swA (nb7 d0 d1 d2 d3 d4 d5 d6)) = nb7 (pcn d0) (pcn d1) (pcn d2) (pcn d3) (pcn d4) (pcn d5) (pcn d6) := by
  have z : (0 / 2 &&& 5) ≤ 0 := by decide
  have a6 := swA_c (d := d6) (a := 0) (m := 5) h6 z
  have a5 := swA_c (d := d5) h5 a6.2
  have a4 := swA_c (d := d4) h4 a5.2
  have a3 := swA_c (d := d3) h3 a4.2
  have a2 := swA_c (d := d2) h2 a3.2
  have a1 := swA_c (d := d1) h1 a2.2
  have a0 := swA_c (d := d0) h0 a1.2
  refine ⟨a0.2, ?_⟩
  have e : swA (nb7 d0 d1 d2 d3 d4 d5 d6) = (d0 - (d0 / 2 &&& 5)) + 16 * ((d1 - (d1 / 2 &&& 5)) + 16 * ((d2 - (d2 / 2 &&& 5)) + 16 * ((d3 - (d3 / 2 &&& 5)) + 16 * ((d4 - (d4 / 2 &&& 5)) + 16 * ((d5 - (d5 / 2 &&& 5)) + 16 * ((d6 - (d6 / 2 &&& 5)) + 16 * 0)))))) := by
    refine a0.1.trans ?_
    rw [a1.1, a2.1, a3.1, a4.1, a5.1, a6.1]
    rfl
  rw [e]
  have b6 := swB_c (d := d6 - (d6 / 2 &&& 5)) (a := 0) (m := 3) (by omega)
  have b5 := swB_c (d := d5 - (d5 / 2 &&& 5)) (a := (d6 - (d6 / 2 &&& 5)) + 16 * 0) (m := 3 + 16 * 3) (by omega)
  have b4 := swB_c (d := d4 - (d4 / 2 &&& 5)) (a := (d5 - (d5 / 2 &&& 5)) + 16 * ((d6 - (d6 / 2 &&& 5)) + 16 * 0)) (m := 3 + 16 * (3 + 16 * 3)) (by omega)
  have b3 := swB_c (d := d3 - (d3 / 2 &&& 5)) (a := (d4 - (d4 / 2 &&& 5)) + 16 * ((d5 - (d5 / 2 &&& 5)) + 16 * ((d6 - (d6 / 2 &&& 5)) + 16 * 0))) (m := 3 + 16 * (3 + 16 * (3 + 16 * 3))) (by omega)
  have b2 := swB_c (d := d2 - (d2 / 2 &&& 5)) (a := (d3 - (d3 / 2 &&& 5)) + 16 * ((d4 - (d4 / 2 &&& 5)) + 16 * ((d5 - (d5 / 2 &&& 5)) + 16 * ((d6 - (d6 / 2 &&& 5)) + 16 * 0)))) (m := 3 + 16 * (3 + 16 * (3 + 16 * (3 + 16 * 3)))) (by omega)
  have b1 := swB_c (d := d1 - (d1 / 2 &&& 5)) (a := (d2 - (d2 / 2 &&& 5)) + 16 * ((d3 - (d3 / 2 &&& 5)) + 16 * ((d4 - (d4 / 2 &&& 5)) + 16 * ((d5 - (d5 / 2 &&& 5)) + 16 * ((d6 - (d6 / 2 &&& 5)) + 16 * 0))))) (m := 3 + 16 * (3 + 16 * (3 + 16 * (3 + 16 * (3 + 16 * 3))))) (by omega)
  have b0 := swB_c (d := d0 - (d0 / 2 &&& 5)) (a := (d1 - (d1 / 2 &&& 5)) + 16 * ((d2 - (d2 / 2 &&& 5)) + 16 * ((d3 - (d3 / 2 &&& 5)) + 16 * ((d4 - (d4 / 2 &&& 5)) + 16 * ((d5 - (d5 / 2 &&& 5)) + 16 * ((d6 - (d6 / 2 &&& 5)) + 16 * 0)))))) (m := 3 + 16 * (3 + 16 * (3 + 16 * (3 + 16 * (3 + 16 * (3 + 16 * 3)))))) (by omega)
  refine b0.trans ?_
  rw [b1, b2, b3, b4, b5, b6, (nb_3 ⟨d0, h0⟩).2, (nb_3 ⟨d1, h1⟩).2, (nb_3 ⟨d2, h2⟩).2, (nb_3 ⟨d3, h3⟩).2, (nb_3 ⟨d4, h4⟩).2, (nb_3 ⟨d5, h5⟩).2, (nb_3 ⟨d6, h6⟩).2]
  rfl
theorem sw_C {q0 q1 q2 q3 q4 q5 q6 : Nat} (h0 : q0 ≤ 4) (h1 : q1 ≤ 4) (h2 : q2 ≤ 4) (h3 : q3 ≤ 4) (h4 : q4 ≤ 4) (h5 : q5 ≤ 4) (h6 : q6 ≤ 4) : swC (nb7 q0 q1 q2 q3 q4 q5 q6) = (q0 + q1) + 256 * (q2 + q3) + 65536 * (q4 + q5) + 16777216 * q6 := by
  have e : nb7 q0 q1 q2 q3 q4 q5 q6 + nb7 q0 q1 q2 q3 q4 q5 q6 / 16 = (q0 + q1) + 16 * ((q1 + q2) + 16 * ((q2 + q3) + 16 * ((q3 + q4) + 16 * ((q4 + q5) + 16 * ((q5 + q6) + 16 * (q6 + 16 * 0)))))) := by
    unfold nb7
    omega
  unfold swC
  rw [e, show (252645135 : Nat) = 15 + 16 * (0 + 16 * (15 + 16 * (0 + 16 * (15 + 16 * (0 + 16 * (15 + 16 * 0)))))) from rfl]
  rw [and_cat (by omega) (by omega), and_cat (by omega) (by omega), and_cat (by omega) (by omega), and_cat (by omega) (by omega), and_cat (by omega) (by omega), and_cat (by omega) (by omega), and_cat (by omega) (by omega)]
  rw [(nb_4 ⟨q0 + q1, by omega⟩).1, (nb_4 ⟨q1 + q2, by omega⟩).2, (nb_4 ⟨q2 + q3, by omega⟩).1, (nb_4 ⟨q3 + q4, by omega⟩).2, (nb_4 ⟨q4 + q5, by omega⟩).1, (nb_4 ⟨q5 + q6, by omega⟩).2, (nb_4 ⟨q6, by omega⟩).1]
  rw [show (0 : Nat) &&& 0 = 0 from rfl]
  simp only
  omega
theorem sw_D {q0 q1 q2 q3 q4 q5 q6 w : Nat} (h0 : q0 ≤ 4) (h1 : q1 ≤ 4) (h2 : q2 ≤ 4) (h3 : q3 ≤ 4) (h4 : q4 ≤ 4) (h5 : q5 ≤ 4) (h6 : q6 ≤ 4) (hw : w = (q0 + q1) + 256 * (q2 + q3) + 65536 * (q4 + q5) + 16777216 * q6) : (w + w / 256 + (w + w / 256) / 65536) % 64 = q0 + q1 + q2 + q3 + q4 + q5 + q6 ∧ w < 134217728 := by
  have e1 : w / 256 = (q2 + q3) + 256 * (q4 + q5) + 65536 * q6 := by omega
  have e2 : w + w / 256 = (q0 + q1 + q2 + q3) + 256 * (q2 + q3 + q4 + q5) + 65536 * (q4 + q5 + q6) + 16777216 * q6 := by omega
  have e3 : (w + w / 256) / 65536 = (q4 + q5 + q6) + 256 * q6 := by omega
  rw [e3, e2]
  omega
theorem pcn_le (d : Nat) : pcn d ≤ 4 := by
  unfold pcn
  omega
/-- the bits of a mask, four by four -/
theorem mk_4 (p : Int → Bool) (k : Nat) : ∃ d, d < 16 ∧ mk p (k + 4) = mk p k + 2 ^ k * d ∧ cn p (k + 4) = cn p k + pcn d := by
  have e : ∀ j, mk p (j + 1) = mk p j + 2 ^ j * (if p j = true then 1 else 0) := fun j => by
    show mk p j + (if p j = true then 2 ^ j else 0) = _
    split <;> omega
  have e2 : ∀ j, cn p (j + 1) = cn p j + (if p j = true then 1 else 0) := fun _ => rfl
  have e3 : ∀ j, 2 ^ (j + 1) = 2 * 2 ^ j := fun j => by rw [Nat.pow_succ]; omega
  refine ⟨(if p k = true then 1 else 0) + 2 * (if p (k + 1 : Nat) = true then 1 else 0) + 4 * (if p (k + 2 : Nat) = true then 1 else 0) + 8 * (if p (k + 3 : Nat) = true then 1 else 0), ?_, ?_, ?_⟩
  · split <;> split <;> split <;> split <;> omega
  · rw [e (k + 3), e (k + 2), e (k + 1), e k, e3 (k + 2), e3 (k + 1), e3 k]
    split <;> split <;> split <;> split <;> omega
  · rw [e2 (k + 3), e2 (k + 2), e2 (k + 1), e2 k]
    unfold pcn
    split <;> split <;> split <;> split <;> omega
theorem mk_7 (p : Int → Bool) : ∃ d0 d1 d2 d3 d4 d5 d6, (d0 < 16 ∧ d1 < 16 ∧ d2 < 16 ∧ d3 < 16 ∧ d4 < 16 ∧ d5 < 16 ∧ d6 < 16) ∧ mk p 28 = nb7 d0 d1 d2 d3 d4 d5 d6 ∧ cn p 28 = ((pcn d0 + pcn d1 + pcn d2 + pcn d3 + pcn d4 + pcn d5 + pcn d6 : Nat) : Int) := by
  obtain ⟨d0, h0, a0, b0⟩ := mk_4 p 0
  obtain ⟨d1, h1, a1, b1⟩ := mk_4 p 4
  obtain ⟨d2, h2, a2, b2⟩ := mk_4 p 8
  obtain ⟨d3, h3, a3, b3⟩ := mk_4 p 12
  obtain ⟨d4, h4, a4, b4⟩ := mk_4 p 16
  obtain ⟨d5, h5, a5, b5⟩ := mk_4 p 20
  obtain ⟨d6, h6, a6, b6⟩ := mk_4 p 24
  refine ⟨d0, d1, d2, d3, d4, d5, d6, ⟨h0, h1, h2, h3, h4, h5, h6⟩, ?_, ?_⟩
  · have z : mk p 0 = 0 := rfl
    unfold nb7
    simp only [Nat.reduceAdd, Nat.reducePow] at a0 a1 a2 a3 a4 a5 a6
    omega
  · have z : cn p 0 = 0 := rfl
    simp only [Nat.reduceAdd] at b0 b1 b2 b3 b4 b5 b6
    omega
theorem mk_up {p : Int → Bool} {N M : Nat} (h : N ≤ M) : mk p N = mk (fun j => p j && decide (j < N)) M ∧ cn p N = cn (fun j => p j && decide (j < N)) M := by
  constructor
  · refine mk_uq fun j => ?_
    rw [mk_bit]
    by_cases h1 : j < N
    · rw [decide_eq_true h1, decide_eq_true (by omega), decide_eq_true (by omega), Bool.and_true]
    · rw [decide_eq_false h1, decide_eq_false (by omega : ¬ (j : Int) < (N : Int)), Bool.and_false, Bool.and_false, Bool.false_and]
  · rw [cn_more (N := N) (M := M) h fun j h1 _ => by rw [decide_eq_false (by omega), Bool.and_false]]
    exact cn_ext fun j _ h2 => by rw [decide_eq_true h2, Bool.and_true]
theorem c103 {n : Nat} {Q : Option AV → List SC → Nat → Prop} {h : List SC} {p : Int → Bool} {N : Nat} (hN : N ≤ 28) : tc_C 103 [.inl (mk p N : Nat)] h n Q = Q (some (.inl (cn p N))) h n := tc_det fun Q hq => by
  have hu := mk_up (p := p) hN
  rw [hu.2] at hq
  rw [hu.1]
  generalize (fun j => p j && decide (j < (N : Int))) = r at hq
  obtain ⟨d0, d1, d2, d3, d4, d5, d6, ⟨h0, h1, h2, h3, h4, h5, h6⟩, e1, e2⟩ := mk_7 r
  have hlt : mk r 28 < 268435456 := mk_lt r 28
  have hAB := sw_AB h0 h1 h2 h3 h4 h5 h6
  have hC := sw_C (pcn_le d0) (pcn_le d1) (pcn_le d2) (pcn_le d3) (pcn_le d4) (pcn_le d5) (pcn_le d6)
  have q0 := pcn_le d0
  have q1 := pcn_le d1
  have q2 := pcn_le d2
  have q3 := pcn_le d3
  have q4 := pcn_le d4
  have q5 := pcn_le d5
  have q6 := pcn_le d6
  have hD := sw_D q0 q1 q2 q3 q4 q5 q6 hC
  rw [e2] at hq
  rw [e1] at hlt ⊢
  generalize nb7 d0 d1 d2 d3 d4 d5 d6 = x at hlt hAB
  generalize pcn d0 = p0 at hq hAB hD q0
  generalize pcn d1 = p1 at hq hAB hD q1
  generalize pcn d2 = p2 at hq hAB hD q2
  generalize pcn d3 = p3 at hq hAB hD q3
  generalize pcn d4 = p4 at hq hAB hD q4
  generalize pcn d5 = p5 at hq hAB hD q5
  generalize pcn d6 = p6 at hq hAB hD q6
  have f1 : i3_and (i3_ushr (x : Nat) 1) 1431655765 = ((x / 2 &&& 1431655765 : Nat) : Int) := by
    rw [show i3_ushr (x : Nat) 1 = ((x >>> 1 : Nat) : Int) from i3_ushr_nat (k := 1) (by omega) (by omega), Nat.shiftRight_eq_div_pow]
    exact i3_and_nat (b := 1431655765) (by omega) (by omega)
  have f2 : i3_sub (x : Nat) ((x / 2 &&& 1431655765 : Nat) : Int) = (swA x : Nat) := by
    rw [i3_sub_eq (by omega) (by omega)]
    unfold swA
    omega
  have hA : swA x ≤ x := Nat.sub_le _ _
  generalize swA x = y at hA hAB f2
  have f3 : i3_and (y : Nat) 858993459 = ((y &&& 858993459 : Nat) : Int) := i3_and_nat (b := 858993459) (by omega) (by omega)
  have f4 : i3_and (i3_ushr (y : Nat) 2) 858993459 = ((y / 4 &&& 858993459 : Nat) : Int) := by
    rw [show i3_ushr (y : Nat) 2 = ((y >>> 2 : Nat) : Int) from i3_ushr_nat (k := 2) (by omega) (by omega), Nat.shiftRight_eq_div_pow]
    exact i3_and_nat (b := 858993459) (by omega) (by omega)
  have g1 : y &&& 858993459 ≤ y := Nat.and_le_left
  have g2 : y / 4 &&& 858993459 ≤ y / 4 := Nat.and_le_left
  have f5 : i3_add ((y &&& 858993459 : Nat) : Int) ((y / 4 &&& 858993459 : Nat) : Int) = (swB y : Nat) := by
    rw [i3_add_eq (by omega) (by omega)]
    rfl
  rw [hAB.2] at f5
  have hz : nb7 p0 p1 p2 p3 p4 p5 p6 < 134217728 := by
    unfold nb7
    omega
  generalize nb7 p0 p1 p2 p3 p4 p5 p6 = z at hD f5 hz
  have f6 : i3_ushr (z : Nat) 4 = ((z / 16 : Nat) : Int) := by
    rw [show i3_ushr (z : Nat) 4 = ((z >>> 4 : Nat) : Int) from i3_ushr_nat (k := 4) (by omega) (by omega), Nat.shiftRight_eq_div_pow]
  have f7 : i3_and (i3_add (z : Nat) ((z / 16 : Nat) : Int)) 252645135 = (swC z : Nat) := by
    rw [i3_add_eq (by omega) (by omega), show (z : Int) + ((z / 16 : Nat) : Int) = ((z + z / 16 : Nat) : Int) by omega]
    exact i3_and_nat (b := 252645135) (by omega) (by omega)
  generalize swC z = w at hD f7
  have f8 : i3_ushr (w : Nat) 8 = ((w / 256 : Nat) : Int) := by
    rw [show i3_ushr (w : Nat) 8 = ((w >>> 8 : Nat) : Int) from i3_ushr_nat (k := 8) (by omega) (by omega), Nat.shiftRight_eq_div_pow]
  have f9 : i3_add (w : Nat) ((w / 256 : Nat) : Int) = ((w + w / 256 : Nat) : Int) := by
    rw [i3_add_eq (by omega) (by omega)]
    omega
  have f10 : i3_ushr ((w + w / 256 : Nat) : Int) 16 = (((w + w / 256) / 65536 : Nat) : Int) := by
    rw [show i3_ushr ((w + w / 256 : Nat) : Int) 16 = (((w + w / 256) >>> 16 : Nat) : Int) from i3_ushr_nat (k := 16) (by omega) (by omega), Nat.shiftRight_eq_div_pow]
  have f11 : i3_and (i3_add ((w + w / 256 : Nat) : Int) (((w + w / 256) / 65536 : Nat) : Int)) 63 = ((p0 + p1 + p2 + p3 + p4 + p5 + p6 : Nat) : Int) := by
    rw [i3_add_eq (by omega) (by omega), show ((w + w / 256 : Nat) : Int) + (((w + w / 256) / 65536 : Nat) : Int) = ((w + w / 256 + (w + w / 256) / 65536 : Nat) : Int) by omega]
    refine (i3_and_nat (b := 63) (by omega) (by omega)).trans ?_
    rw [show (63 : Nat) = 2 ^ 6 - 1 from rfl, Nat.and_two_pow_sub_one_eq_mod, show (2 ^ 6 : Nat) = 64 from rfl, hD.1]
  show tc_W 103 0 [.inl (x : Nat)] [] _ _ Q
  simp only [r103_0, r103_1, r103_2, r103_3, r103_4, r103_7, r103_8, r103_9, r103_10, r103_11, r103_14, r103_15, r103_16, r103_17, r103_18, r103_21, r103_22, r103_23, r103_24, r103_25, r103_26, r103_27, r103_28, r103_29, r103_32, r103_33, r103_34, r103_35, r103_36, r103_38, r103_39, r103_40, r103_41, r103_42, r103_43, r103_45, r103_46, r103_47, r103_48, r103_49, r103_51, r103_52]
  rw [f1, f2, f3, f4, f5, f6, f7, f8, f9, f10, f11]
  exact hq

/-! sets of cells and flags as bits -/
def mk (p : Int → Bool) : Nat → Nat
  | 0 => 0
  | k + 1 => mk p k + (if p k then 2 ^ k else 0)
theorem mk_lt (p : Int → Bool) : ∀ k, mk p k < 2 ^ k := by
  intro k
  induction k with
  | zero => exact Nat.one_pos
  | succ k ih =>
    show mk p k + (if p k then 2 ^ k else 0) < 2 ^ (k + 1)
    rw [Nat.pow_succ]
    split <;> omega
theorem mk_bit (p : Int → Bool) (j : Nat) : ∀ k, (mk p k).testBit j = (decide (j < k) && p j) := by
  intro k
  induction k with
  | zero => show Nat.testBit 0 j = _; rw [Nat.zero_testBit, decide_eq_false (by omega)]; rfl
  | succ k ih =>
    show (mk p k + (if p k then 2 ^ k else 0)).testBit j = _
    by_cases h : p k = true
    · rw [if_pos h, Nat.add_comm]
      rcases Nat.lt_trichotomy j k with h1 | h1 | h1
      · rw [Nat.testBit_two_pow_add_gt h1, ih, decide_eq_true h1, decide_eq_true (by omega)]
      · subst h1
        rw [Nat.testBit_two_pow_add_eq, ih, decide_eq_false (by omega), decide_eq_true (by omega), h]
        rfl
      · have h2 := mk_lt p k
        have h3 : 2 ^ (k + 1) ≤ 2 ^ j := Nat.pow_le_pow_right (by omega) h1
        rw [Nat.pow_succ] at h3
        rw [Nat.testBit_lt_two_pow (by omega), decide_eq_false (by omega)]
        rfl
    · rw [if_neg h, Nat.add_zero, ih]
      by_cases h1 : j = k
      · subst h1
        rw [decide_eq_false (by omega), decide_eq_true (by omega)]
        rw [Bool.not_eq_true] at h
        rw [h]
        rfl
      · by_cases h2 : j < k
        · rw [decide_eq_true h2, decide_eq_true (by omega)]
        · rw [decide_eq_false h2, decide_eq_false (by omega)]
theorem mk_uq {p : Int → Bool} {N m : Nat} (h : ∀ j, m.testBit j = (decide (j < N) && p j)) : m = mk p N := Nat.eq_of_testBit_eq fun j => by rw [h, mk_bit]
theorem mk_ext {p q : Int → Bool} {N : Nat} (h : ∀ j : Int, 0 ≤ j → j < N → p j = q j) : mk p N = mk q N := mk_uq fun j => by
  rw [mk_bit]
  by_cases h1 : j < N
  · rw [h j (by omega) (by omega)]
  · rw [decide_eq_false h1]
    rfl
theorem mk_31 {p : Int → Bool} {N : Nat} (hN : N ≤ 31) : mk p N < 2147483648 := Nat.lt_of_lt_of_le (mk_lt p N) (Nat.pow_le_pow_right (n := 2) (by omega) hN)
theorem ni_3 (a : Nat) : (tc_3 (a : Int)).toBitVec = BitVec.ofNat 32 a := by
  show BitVec.ofInt 32 (a : Int) = _
  exact BitVec.ofInt_natCast 32 a
theorem i3_or_nat {a b : Nat} (ha : a < 2147483648) (hb : b < 2147483648) : i3_or a b = ((a ||| b : Nat) : Int) := by
  have h1 : a ||| b < 2 ^ 31 := Nat.or_lt_two_pow ha hb
  show (tc_3 a ||| tc_3 b).toBitVec.toInt = _
  have h2 : (BitVec.ofNat 32 a ||| BitVec.ofNat 32 b).toNat = a ||| b := by
    rw [BitVec.toNat_or, BitVec.toNat_ofNat, BitVec.toNat_ofNat, Nat.mod_eq_of_lt (by omega), Nat.mod_eq_of_lt (by omega)]
  rw [Int32.toBitVec_or, ni_3, ni_3, BitVec.toInt_eq_toNat_of_lt (by rw [h2]; omega), h2]
theorem i3_and_nat {a b : Nat} (ha : a < 2147483648) (hb : b < 2147483648) : i3_and a b = ((a &&& b : Nat) : Int) := by
  have h1 : a &&& b < 2 ^ 31 := Nat.and_lt_two_pow a hb
  show (tc_3 a &&& tc_3 b).toBitVec.toInt = _
  have h2 : (BitVec.ofNat 32 a &&& BitVec.ofNat 32 b).toNat = a &&& b := by
    rw [BitVec.toNat_and, BitVec.toNat_ofNat, BitVec.toNat_ofNat, Nat.mod_eq_of_lt (by omega), Nat.mod_eq_of_lt (by omega)]
  rw [Int32.toBitVec_and, ni_3, ni_3, BitVec.toInt_eq_toNat_of_lt (by rw [h2]; omega), h2]
theorem sh_31 : ∀ k : Fin 32, ((tc_3 (k.val : Int) &&& 31).toBitVec.smod 32).toNat = k.val := by decide +kernel
theorem i3_shr_nat {a k : Nat} (ha : a < 2147483648) (hk : k < 32) : i3_shr a k = ((a >>> k : Nat) : Int) := by
  show (tc_3 a >>> (tc_3 k &&& 31)).toBitVec.toInt = _
  have e : (tc_3 a >>> (tc_3 k &&& 31)).toBitVec = (tc_3 a).toBitVec.sshiftRight k := by
    rw [Int32.toBitVec_shiftRight]
    show (tc_3 a).toBitVec.sshiftRight ((tc_3 k &&& 31).toBitVec.smod 32).toNat = _
    rw [sh_31 ⟨k, hk⟩]
  have h2 : (BitVec.ofNat 32 a).toNat = a := by rw [BitVec.toNat_ofNat, Nat.mod_eq_of_lt (by omega)]
  have h3 : (BitVec.ofNat 32 a).msb = false := BitVec.msb_eq_false_iff_two_mul_lt.mpr (by rw [h2]; omega)
  have h4 : a >>> k ≤ a := by rw [Nat.shiftRight_eq_div_pow]; exact Nat.div_le_self _ _
  have h5 : ((BitVec.ofNat 32 a).sshiftRight k).toNat = a >>> k := by
    rw [BitVec.toNat_sshiftRight_of_msb_false h3, h2]
  rw [e, ni_3, BitVec.toInt_eq_toNat_of_lt (by rw [h5]; omega), h5]
theorem shl_31 : ∀ k : Fin 31, i3_shl 1 (k.val : Int) = ((2 ^ k.val : Nat) : Int) := by decide +kernel
theorem i3_shl_1 {k : Nat} (hk : k < 31) : i3_shl 1 k = ((2 ^ k : Nat) : Int) := shl_31 ⟨k, hk⟩
theorem i3_shl_1i {k : Int} (h0 : 0 ≤ k) (hk : k < 31) : i3_shl 1 k = ((2 ^ k.toNat : Nat) : Int) := by
  rw [← i3_shl_1 (by omega), Int.toNat_of_nonneg h0]
theorem p2_31 {k : Nat} (hk : k < 31) : 2 ^ k < 2147483648 := Nat.lt_of_le_of_lt (Nat.pow_le_pow_right (n := 2) (by omega) (by omega : k ≤ 30)) (by omega)
/-- one bit -/
theorem i3_bit {a : Nat} {k : Int} (ha : a < 2147483648) (h0 : 0 ≤ k) (hk : k < 32) : i3_and (i3_shr a k) 1 = if a.testBit k.toNat then 1 else 0 := by
  have h4 : a >>> k.toNat ≤ a := by rw [Nat.shiftRight_eq_div_pow]; exact Nat.div_le_self _ _
  have e : i3_shr a k = ((a >>> k.toNat : Nat) : Int) := by rw [← i3_shr_nat ha (by omega), Int.toNat_of_nonneg h0]
  rw [e]
  have := i3_and_nat (a := a >>> k.toNat) (b := 1) (by omega) (by omega)
  rw [show i3_and ((a >>> k.toNat : Nat) : Int) 1 = ((a >>> k.toNat &&& 1 : Nat) : Int) from this, Nat.and_one_is_mod, Nat.testBit_eq_decide_div_mod_eq, Nat.shiftRight_eq_div_pow]
  by_cases h : a / 2 ^ k.toNat % 2 = 1
  · rw [decide_eq_true h, h]
    rfl
  · rw [decide_eq_false h, show a / 2 ^ k.toNat % 2 = 0 by omega]
    rfl
theorem mk_i3bit {p : Int → Bool} {N : Nat} {k : Int} (hN : N ≤ 31) (h0 : 0 ≤ k) (hk : k < 32) : i3_and (i3_shr (mk p N : Nat) k) 1 = if k < N ∧ p k = true then 1 else 0 := by
  rw [i3_bit (mk_31 hN) h0 hk, mk_bit, Int.toNat_of_nonneg h0]
  by_cases h : k < N
  · rw [decide_eq_true (by omega : k.toNat < N), Bool.true_and]
    by_cases h2 : p k = true
    · rw [if_pos h2, if_pos ⟨h, h2⟩]
    · rw [if_neg h2, if_neg (fun q => h2 q.2)]
  · rw [decide_eq_false (by omega : ¬ k.toNat < N), Bool.false_and, if_neg (by decide)]
    exact (if_neg (fun q => h q.1)).symm
/-- the next bit is set -/
theorem mk_or {p : Int → Bool} {k : Int} (h0 : 0 ≤ k) (hk : k < 31) (hp' : p k = true) : i3_or (mk p k.toNat : Nat) (i3_shl 1 k) = ((mk p (k + 1).toNat : Nat) : Int) := by
  rw [i3_shl_1i h0 hk, i3_or_nat (mk_31 (by omega)) (p2_31 (by omega))]
  congr 1
  refine mk_uq fun j => ?_
  rw [Nat.testBit_or, mk_bit, Nat.testBit_two_pow]
  by_cases h1 : k.toNat = j
  · subst h1
    rw [decide_eq_true rfl, Bool.or_true, decide_eq_true (by omega), Int.toNat_of_nonneg h0, hp']
    rfl
  · rw [decide_eq_false h1, Bool.or_false]
    by_cases h2 : j < k.toNat
    · rw [decide_eq_true h2, decide_eq_true (by omega)]
    · rw [decide_eq_false h2, decide_eq_false (by omega)]
theorem mk_no {p : Int → Bool} {k : Int} (h0 : 0 ≤ k) (hp' : p k = false) : mk p (k + 1).toNat = mk p k.toNat := by
  rw [show (k + 1).toNat = k.toNat + 1 by omega]
  show mk p k.toNat + (if p (k.toNat : Int) = true then 2 ^ k.toNat else 0) = _
  rw [Int.toNat_of_nonneg h0, hp', if_neg (by decide), Nat.add_zero]
theorem i3_or_0 {a : Nat} (ha : a < 2147483648) : i3_or a 0 = a := by
  have := i3_or_nat (a := a) (b := 0) ha (by omega)
  rw [Nat.or_zero] at this
  exact this
theorem xor_31 : ∀ k : Fin 31, i3_xor (i3_shl 1 (k.val : Int)) (-1) = -1 - ((2 ^ k.val : Nat) : Int) := by decide +kernel
theorem not_31 : ∀ k : Fin 31, (tc_3 (-1 - ((2 ^ k.val : Nat) : Int))).toBitVec = BitVec.ofNat 32 (2 ^ 32 - (2 ^ k.val + 1)) := by decide +kernel
/-- a bit goes out -/
theorem i3_clear {a : Nat} {k : Int} (ha : a < 2147483648) (h0 : 0 ≤ k) (hk : k < 31) : i3_and a (i3_xor (i3_shl 1 k) (-1)) = ((a &&& (2 ^ 32 - (2 ^ k.toNat + 1)) : Nat) : Int) := by
  have e1 := xor_31 ⟨k.toNat, by omega⟩
  have e2 := not_31 ⟨k.toNat, by omega⟩
  simp only [Int.toNat_of_nonneg h0] at e1
  simp only at e2
  rw [e1]
  show (tc_3 a &&& tc_3 _).toBitVec.toInt = _
  have h1 : a &&& (2 ^ 32 - (2 ^ k.toNat + 1)) ≤ a := Nat.and_le_left
  have h2 : (BitVec.ofNat 32 a &&& BitVec.ofNat 32 (2 ^ 32 - (2 ^ k.toNat + 1))).toNat = a &&& (2 ^ 32 - (2 ^ k.toNat + 1)) := by
    rw [BitVec.toNat_and, BitVec.toNat_ofNat, BitVec.toNat_ofNat, Nat.mod_eq_of_lt (by omega), Nat.mod_eq_of_lt (Nat.sub_lt (by decide) (Nat.succ_pos _))]
  rw [Int32.toBitVec_and, ni_3, e2, BitVec.toInt_eq_toNat_of_lt (by rw [h2]; omega), h2]
theorem mk_clear {p : Int → Bool} {N : Nat} {k : Int} (hN : N ≤ 31) (h0 : 0 ≤ k) (hk : k < 31) : i3_and (mk p N : Nat) (i3_xor (i3_shl 1 k) (-1)) = ((mk (fun j => p j && !decide (j = k)) N : Nat) : Int) := by
  rw [i3_clear (mk_31 hN) h0 hk]
  congr 1
  refine mk_uq fun j => ?_
  rw [Nat.testBit_and, mk_bit, Nat.testBit_two_pow_sub_succ (by have := p2_31 (k := k.toNat) (by omega); omega), Nat.testBit_two_pow]
  by_cases h1 : j < N
  · rw [decide_eq_true h1, decide_eq_true (by omega), Bool.true_and, Bool.true_and, Bool.true_and]
    by_cases h2 : k.toNat = j
    · rw [decide_eq_true h2, decide_eq_true (by omega)]
    · rw [decide_eq_false h2, decide_eq_false (by omega)]
  · rw [decide_eq_false h1]
    rfl
/-- a bit comes in -/
theorem mk_set {p : Int → Bool} {N : Nat} {k : Int} (hN : N ≤ 31) (h0 : 0 ≤ k) (hk : k < N) : i3_or (mk p N : Nat) (i3_shl 1 k) = ((mk (fun j => p j || decide (j = k)) N : Nat) : Int) := by
  rw [i3_shl_1i h0 (by omega), i3_or_nat (mk_31 hN) (p2_31 (by omega))]
  congr 1
  refine mk_uq fun j => ?_
  rw [Nat.testBit_or, mk_bit, Nat.testBit_two_pow]
  by_cases h1 : j < N
  · rw [decide_eq_true h1, Bool.true_and, Bool.true_and]
    by_cases h2 : k.toNat = j
    · rw [decide_eq_true h2, decide_eq_true (by omega)]
    · rw [decide_eq_false h2, decide_eq_false (by omega)]
  · rw [decide_eq_false h1, decide_eq_false (by omega)]
    rfl
/-- how many -/
def cn (p : Int → Bool) : Nat → Int
  | 0 => 0
  | k + 1 => cn p k + (if p k = true then 1 else 0)
theorem cn_rng (p : Int → Bool) : ∀ k : Nat, 0 ≤ cn p k ∧ cn p k ≤ k := by
  intro k
  induction k with
  | zero => exact ⟨Int.le_refl 0, Int.le_refl 0⟩
  | succ k ih =>
    show 0 ≤ cn p k + (if p k = true then 1 else 0) ∧ cn p k + (if p k = true then 1 else 0) ≤ ((k + 1 : Nat) : Int)
    split <;> omega
theorem cn_ext {p q : Int → Bool} : ∀ {N : Nat}, (∀ j : Int, 0 ≤ j → j < N → p j = q j) → cn p N = cn q N := by
  intro N
  induction N with
  | zero => intro _; rfl
  | succ k ih =>
    intro h
    show cn p k + (if p k = true then 1 else 0) = cn q k + (if q k = true then 1 else 0)
    rw [ih (fun j h1 h2 => h j h1 (by omega)), h k (by omega) (by omega)]
theorem cn_more {p : Int → Bool} {N : Nat} : ∀ {M : Nat}, N ≤ M → (∀ j : Int, N ≤ j → j < M → p j = false) → cn p M = cn p N := by
  intro M
  induction M with
  | zero => intro h _; rw [show N = 0 by omega]
  | succ k ih =>
    intro h h1
    by_cases h2 : N = k + 1
    · rw [h2]
    · show cn p k + (if p k = true then 1 else 0) = _
      rw [ih (by omega) (fun j a b => h1 j a (by omega)), h1 k (by omega) (by omega)]
      show cn p N + 0 = _
      omega

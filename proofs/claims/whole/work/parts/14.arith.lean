/-! numbers of the small machine -/
theorem tc_inc_of {pc k : Nat} {ls st : List AV} {c z : Int} (hz : ls[k]? = some (.inl z)) (hk : k < ls.length) (hl : tc_kill ls k = ls) : tc_A (.iinc k c) 3 pc ls st = some (pc + 3, ls.set k (.inl (i3_add z c)), st) := by
  show tc_inc (pc + 3) ls k c st = _
  unfold tc_inc
  rw [hz]
  exact tc_s1_of hk hl
theorem i3_add_eq {a b : Int} (h1 : -2147483648 ≤ a + b) (h2 : a + b < 2147483648) : i3_add a b = a + b := by
  unfold i3_add
  rw [show tc_3 a + tc_3 b = tc_3 (a + b) from (Int32.ofInt_add a b).symm, tc_3_to ⟨h1, h2⟩]
theorem i3_sub_eq {a b : Int} (h1 : -2147483648 ≤ a - b) (h2 : a - b < 2147483648) : i3_sub a b = a - b := by
  unfold i3_sub
  rw [show tc_3 a - tc_3 b = tc_3 (a - b) from (Int32.ofInt_sub a b).symm, tc_3_to ⟨h1, h2⟩]
theorem i3_mul_eq {a b : Int} (h1 : -2147483648 ≤ a * b) (h2 : a * b < 2147483648) : i3_mul a b = a * b := by
  unfold i3_mul
  rw [show tc_3 a * tc_3 b = tc_3 (a * b) from (Int32.ofInt_mul a b).symm, tc_3_to ⟨h1, h2⟩]
theorem i3_neg_eq {a : Int} (h1 : -2147483648 < a) (h2 : a < 2147483648) : i3_neg a = -a := by
  unfold i3_neg
  rw [show -(tc_3 a) = tc_3 (-a) from (Int32.ofInt_neg a).symm, tc_3_to ⟨by omega, by omega⟩]
theorem i3_div_eq {a b : Int} (ha : -2147483648 ≤ a) (ha2 : a < 2147483648) (hb : 0 < b) (hb2 : b < 2147483648) : i3_div a b = a.tdiv b := by
  unfold i3_div
  rw [Int32.toInt_div_of_ne_right (tc_3 a) (tc_3 b) (fun h => by
    have h2 : tc_3 b = tc_3 (-1) := h
    rw [tc_3_eq ⟨by omega, hb2⟩ ⟨by omega, by omega⟩] at h2
    omega), tc_3_to ⟨ha, ha2⟩, tc_3_to ⟨by omega, hb2⟩]
theorem i3_div_nn {a b : Int} (ha : 0 ≤ a) (ha2 : a < 2147483648) (hb : 0 < b) (hb2 : b < 2147483648) : i3_div a b = a / b := by
  rw [i3_div_eq (by omega) ha2 hb hb2, Int.tdiv_eq_ediv_of_nonneg ha]
theorem i3_rem_nn {a b : Int} (ha : 0 ≤ a) (ha2 : a < 2147483648) (hb : 0 < b) (hb2 : b < 2147483648) : i3_rem a b = a % b := by
  unfold i3_rem
  have h1 : tc_3 a / tc_3 b = tc_3 (a / b) := by
    have := i3_div_nn ha ha2 hb hb2
    unfold i3_div at this
    rw [← this, tc_3_of]
  have h2 : 0 ≤ a / b := Int.ediv_nonneg ha (by omega)
  have h3 : a / b * b ≤ a := Int.ediv_mul_le a (by omega)
  have h4 : a % b = a - a / b * b := by
    have := Int.emod_add_mul_ediv a b
    rw [Int.mul_comm] at this
    omega
  have h5 : 0 ≤ a % b := Int.emod_nonneg a (by omega)
  have h6 : a % b < b := Int.emod_lt_of_pos a hb
  rw [h1, show tc_3 (a / b) * tc_3 b = tc_3 (a / b * b) from (Int32.ofInt_mul _ _).symm, show tc_3 a - tc_3 (a / b * b) = tc_3 (a - a / b * b) from (Int32.ofInt_sub _ _).symm, tc_3_to ⟨by omega, by omega⟩, h4]
theorem tc_isL_i (z : Int) : tc_isL (.inl z) = false := rfl
theorem tc_isL_r (r : Option Nat) : tc_isL (.inr (.inr (.inl r))) = false := rfl
theorem tc_isL_n : tc_isL tc_nil = false := rfl
theorem tc_ws_0 : tc_ws [] = 0 := rfl
theorem tc_ws_i (z : Int) (st : List AV) : tc_ws (.inl z :: st) = 1 + tc_ws st := rfl
theorem tc_ws_l (z : Int) (st : List AV) : tc_ws (.inr (.inl z) :: st) = 2 + tc_ws st := rfl
theorem tc_ws_r (r : Option Nat) (st : List AV) : tc_ws (.inr (.inr (.inl r)) :: st) = 1 + tc_ws st := rfl
theorem tc_gf3_s {K pc n : Nat} {ls st : List AV} {h : List SC} {Q : Option AV → List SC → Nat → Prop} (v : AV) : tc_gf3 K pc ls st h n Q (some v) = tc_W K pc ls (v :: st) h n Q := rfl
theorem tc_il2_s {K pc n : Nat} {ls st : List AV} {h : List SC} {Q : Option AV → List SC → Nat → Prop} (v : Int) : tc_il2 K pc ls st h n Q (some v) = tc_W K pc ls (.inl v :: st) h n Q := rfl
theorem tc_ll2_s {K pc n : Nat} {ls st : List AV} {h : List SC} {Q : Option AV → List SC → Nat → Prop} (v : Int) : tc_ll2 K pc ls st h n Q (some v) = tc_W K pc ls (.inr (.inl v) :: st) h n Q := rfl
theorem tc_ql2_s {K pc n : Nat} {ls st : List AV} {h : List SC} {Q : Option AV → List SC → Nat → Prop} (v : Option Nat) : tc_ql2 K pc ls st h n Q (some v) = tc_W K pc ls (.inr (.inr (.inl v)) :: st) h n Q := rfl
theorem tc_al_i {K pc n k : Nat} {ls st : List AV} {h : List SC} {Q : Option AV → List SC → Nat → Prop} {l : List Int} (hk : k = 0 ∨ k = 1 ∨ k = 2 ∨ k = 5) : tc_al K pc ls st h n Q (some (.inl (k, l))) = tc_W K pc ls (.inl l.length :: st) h n Q := if_pos hk
/-- a read of an int array, in range -/
theorem tc_il_s {K pc n : Nat} {ls st : List AV} {h : List SC} {Q : Option AV → List SC → Nat → Prop} {z : Int} {l : List Int} (hz : 0 ≤ z) : tc_il K pc ls st h n Q z (some (.inl (0, l))) = tc_il2 K pc ls st h n Q l[z.toNat]? := if_pos ⟨Or.inl rfl, hz⟩
theorem tc_il_x {K pc n : Nat} {ls st : List AV} {h : List SC} {Q : Option AV → List SC → Nat → Prop} {z : Int} {l : List Int} (hz : 0 ≤ z) : tc_il K pc ls st h n Q z (some (.inl (5, l))) = tc_il2 K pc ls st h n Q l[z.toNat]? := if_pos ⟨Or.inr rfl, hz⟩
theorem tc_bl_s {K pc n : Nat} {ls st : List AV} {h : List SC} {Q : Option AV → List SC → Nat → Prop} {z : Int} {l : List Int} (hz : 0 ≤ z) : tc_bl K pc ls st h n Q z (some (.inl (1, l))) = tc_il2 K pc ls st h n Q l[z.toNat]? := if_pos ⟨Or.inl rfl, hz⟩
theorem tc_bl_z {K pc n : Nat} {ls st : List AV} {h : List SC} {Q : Option AV → List SC → Nat → Prop} {z : Int} {l : List Int} (hz : 0 ≤ z) : tc_bl K pc ls st h n Q z (some (.inl (2, l))) = tc_il2 K pc ls st h n Q l[z.toNat]? := if_pos ⟨Or.inr rfl, hz⟩
theorem tc_ll_s {K pc n : Nat} {ls st : List AV} {h : List SC} {Q : Option AV → List SC → Nat → Prop} {z : Int} {l : List Int} (hz : 0 ≤ z) : tc_ll1 K pc ls st h n Q z (some (.inr (.inl l))) = tc_ll2 K pc ls st h n Q l[z.toNat]? := if_pos hz
theorem tc_ql_s {K pc n k : Nat} {ls st : List AV} {h : List SC} {Q : Option AV → List SC → Nat → Prop} {z : Int} {l : List (Option Nat)} (hz : 0 ≤ z) : tc_ql K pc ls st h n Q z (some (.inr (.inr (.inl (k, l))))) = tc_ql2 K pc ls st h n Q l[z.toNat]? := if_pos hz
theorem tc_is_s {K pc n a : Nat} {ls st : List AV} {h : List SC} {Q : Option AV → List SC → Nat → Prop} {z x : Int} {l : List Int} (hz : 0 ≤ z) (hl : z.toNat < l.length) : tc_ist K pc ls st h n Q a z x (some (.inl (0, l))) = tc_W K pc ls st (h.set a (.inl (0, l.set z.toNat x))) n Q := if_pos ⟨rfl, hz, hl⟩
theorem tc_bs_s {K pc n a : Nat} {ls st : List AV} {h : List SC} {Q : Option AV → List SC → Nat → Prop} {z x : Int} {l : List Int} (hz : 0 ≤ z) (hl : z.toNat < l.length) : tc_bst K pc ls st h n Q a z x (some (.inl (1, l))) = tc_W K pc ls st (h.set a (.inl (1, l.set z.toNat (i3_b x)))) n Q := if_pos ⟨rfl, hz, hl⟩
theorem tc_ls_s {K pc n a : Nat} {ls st : List AV} {h : List SC} {Q : Option AV → List SC → Nat → Prop} {z x : Int} {l : List Int} (hz : 0 ≤ z) (hl : z.toNat < l.length) : tc_lst K pc ls st h n Q a z x (some (.inr (.inl l))) = tc_W K pc ls st (h.set a (.inr (.inl (l.set z.toNat x)))) n Q := if_pos ⟨hz, hl⟩

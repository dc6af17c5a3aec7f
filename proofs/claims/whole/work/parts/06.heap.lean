/-! the small machine's heap stands for the great one's -/
/-- where a cell lies: 25 Strings, the script, then the cells in the order of their making from B on -/
def tc_tr (B bs : Nat) (ak : Nat → Nat) (r : Nat) : Nat := if r < 25 then ak r else if r = 25 then bs else B + (r - 26)
def tc_ce (tr : Nat → Nat) (cy : Nat → ClassId) (c : SC) : va_E := match c with
  | .inl q => .inl (cy q.1, q.2.length, .inl (fun j => tc_3 (q.2.getD j 0)))
  | .inr (.inl l) => .inl (cy 3, l.length, .inr (.inl (fun j => tc_6 (l.getD j 0))))
  | .inr (.inr (.inl q)) => .inl (cy (10 + q.1), q.2.length, .inr (.inr (.inr (.inr (fun j => (q.2.getD j none).map tr)))))
  | .inr (.inr (.inr q)) => .inr (q.1, q.2.map (tc_cv tr))
def tc_okc (c : SC) : Prop := match c with
  | .inl q => q.1 ≤ 2 ∧ q.2.length ≤ 100000 ∧ ∀ z ∈ q.2, tc_r3 z
  | .inr (.inl l) => l.length ≤ 100000 ∧ ∀ z ∈ l, tc_r6 z
  | .inr (.inr (.inl q)) => (q.1 = 1 ∨ q.1 = 5 ∨ q.1 = 6) ∧ q.2.length ≤ 100000
  | .inr (.inr (.inr q)) => q.1 < 12 ∧ q.2.length = tc_N q.1 ∧ tc_oks q.2
def tc_wO (B : Nat) (tr : Nat → Nat) (cy : Nat → ClassId) (h : List SC) : va_W := (h.drop 26).mapIdx fun j c => (B + j, tc_ce tr cy c)
theorem tc_wO_at (B : Nat) (tr : Nat → Nat) (cy : Nat → ClassId) (h : List SC) (j : Nat) : (tc_wO B tr cy h)[j]? = (h[26 + j]?).map fun c => (B + j, tc_ce tr cy c) := by
  unfold tc_wO
  rw [List.getElem?_mapIdx, List.getElem?_drop]
theorem tc_wO_set (B : Nat) (tr : Nat → Nat) (cy : Nat → ClassId) (h : List SC) {a : Nat} (ha : 26 ≤ a) (c : SC) : tc_wO B tr cy (h.set a c) = (tc_wO B tr cy h).set (a - 26) (B + (a - 26), tc_ce tr cy c) := by
  apply List.ext_getElem?
  intro j
  rw [tc_wO_at]
  by_cases hj : j = a - 26
  · subst hj
    rw [show 26 + (a - 26) = a by omega]
    by_cases hl : a < h.length
    · rw [List.getElem?_set_self hl, List.getElem?_set_self (by rw [tc_wO, List.length_mapIdx, List.length_drop]; omega)]
      rfl
    · rw [List.getElem?_eq_none (by rw [List.length_set]; omega), List.getElem?_eq_none (by rw [List.length_set, tc_wO, List.length_mapIdx, List.length_drop]; omega)]
      rfl
  · rw [List.getElem?_set_ne (by omega), List.getElem?_set_ne (Ne.symm hj), tc_wO_at]
theorem tc_wO_app (B : Nat) (tr : Nat → Nat) (cy : Nat → ClassId) (h : List SC) (hl : 26 ≤ h.length) (c : SC) : tc_wO B tr cy (h ++ [c]) = tc_wO B tr cy h ++ [(B + (h.length - 26), tc_ce tr cy c)] := by
  unfold tc_wO
  rw [List.drop_append_of_le_length hl, List.mapIdx_append]
  simp
theorem tc_wO_len (B : Nat) (tr : Nat → Nat) (cy : Nat → ClassId) (h : List SC) : (tc_wO B tr cy h).length = h.length - 26 := by
  rw [tc_wO, List.length_mapIdx, List.length_drop]
theorem tc_wO_D (B : Nat) (tr : Nat → Nat) (cy : Nat → ClassId) (h : List SC) : va_D (fun q => B ≤ q) (tc_wO B tr cy h) := by
  refine ⟨fun i j x y hi hj hxy => ?_, fun k q hk => ?_⟩
  · rw [tc_wO_at] at hi hj
    obtain ⟨c1, -, h1⟩ := Option.map_eq_some_iff.mp hi
    obtain ⟨c2, -, h2⟩ := Option.map_eq_some_iff.mp hj
    rw [← h1, ← h2] at hxy
    simp only at hxy
    omega
  · rw [tc_wO_at] at hk
    obtain ⟨c1, -, h1⟩ := Option.map_eq_some_iff.mp hk
    rw [← h1]
    exact Nat.le_add_right _ _
def tc_HR (B bs : Nat) (ak : Nat → Nat) (D : va_G) (cy : Nat → ClassId) (xl : List Int) (h : List SC) (H : Heap) : Prop :=
  (∀ i, i < 25 → h[i]? = some (.inl (9, tc_chs.getD i []))) ∧ h[25]? = some (.inl (5, xl)) ∧ (∀ j c, h[26 + j]? = some c → tc_okc c) ∧ va_P D tc_cl (tc_wO B (tc_tr B bs ak) cy h) H
def tc_own (c : SC) : Prop := match c with
  | .inl q => q.1 ≠ 5 ∧ q.1 ≠ 9
  | _ => True
section TCH
variable {B bs : Nat} {ak : Nat → Nat} {D : va_G} {cy : Nat → ClassId} {xl : List Int} {h : List SC} {H H1 : Heap} {a : Nat} {c c1 : SC}
theorem tc_HR_len (hR : tc_HR B bs ak D cy xl h H) : 26 ≤ h.length := by
  have := (List.getElem?_eq_some_iff.mp hR.2.1).1
  omega
theorem tc_HR_26 (hR : tc_HR B bs ak D cy xl h H) (hc : h[a]? = some c) (ho : tc_own c) : 26 ≤ a := by
  by_cases h1 : a < 25
  · have h2 := hR.1 a h1
    rw [hc] at h2
    cases h2
    exact absurd rfl ho.2
  · by_cases h2 : a = 25
    · subst h2
      have h2 := hR.2.1
      rw [hc] at h2
      cases h2
      exact absurd rfl ho.1
    · omega
theorem tc_tr_26 (ha : 26 ≤ a) : tc_tr B bs ak a = B + (a - 26) := by
  unfold tc_tr
  rw [if_neg (by omega), if_neg (by omega)]
theorem tc_HR_own (hR : tc_HR B bs ak D cy xl h H) (hc : h[a]? = some c) (ho : tc_own c) : tc_okc c ∧ (tc_wO B (tc_tr B bs ak) cy h)[a - 26]? = some (tc_tr B bs ak a, tc_ce (tc_tr B bs ak) cy c) := by
  have ha := tc_HR_26 hR hc ho
  have hc' : h[26 + (a - 26)]? = some c := by rw [show 26 + (a - 26) = a by omega]; exact hc
  refine ⟨hR.2.2.1 _ c hc', ?_⟩
  rw [tc_wO_at, hc', tc_tr_26 ha]
  rfl
theorem tc_HR_set (hR : tc_HR B bs ak D cy xl h H) (hc : h[a]? = some c) (ho : tc_own c) (hok : tc_okc c1) (hP : va_P D tc_cl ((tc_wO B (tc_tr B bs ak) cy h).set (a - 26) (tc_tr B bs ak a, tc_ce (tc_tr B bs ak) cy c1)) H1) : tc_HR B bs ak D cy xl (h.set a c1) H1 := by
  have ha := tc_HR_26 hR hc ho
  refine ⟨fun i hi => ?_, ?_, fun j c2 hj => ?_, ?_⟩
  · rw [List.getElem?_set_ne (by omega)]
    exact hR.1 i hi
  · rw [List.getElem?_set_ne (by omega)]
    exact hR.2.1
  · by_cases hja : a = 26 + j
    · subst hja
      rw [List.getElem?_set_self (List.getElem?_eq_some_iff.mp hc).1] at hj
      cases hj
      exact hok
    · rw [List.getElem?_set_ne hja] at hj
      exact hR.2.2.1 j c2 hj
  · rw [tc_wO_set _ _ _ _ ha, ← tc_tr_26 (bs := bs) (ak := ak) ha]
    exact hP
theorem tc_HR_app (hR : tc_HR B bs ak D cy xl h H) (hok : tc_okc c1) (hP : va_P D tc_cl (tc_wO B (tc_tr B bs ak) cy h ++ [(B + (h.length - 26), tc_ce (tc_tr B bs ak) cy c1)]) H1) : tc_HR B bs ak D cy xl (h ++ [c1]) H1 := by
  have hl := tc_HR_len hR
  refine ⟨fun i hi => ?_, ?_, fun j c2 hj => ?_, ?_⟩
  · rw [List.getElem?_append_left (by omega)]
    exact hR.1 i hi
  · rw [List.getElem?_append_left (by omega)]
    exact hR.2.1
  · by_cases hjl : 26 + j < h.length
    · rw [List.getElem?_append_left hjl] at hj
      exact hR.2.2.1 j c2 hj
    · rw [List.getElem?_append_right (by omega)] at hj
      have := List.mem_of_getElem? hj
      rw [List.mem_singleton] at this
      subst this
      exact hok
  · rw [tc_wO_app _ _ _ _ hl]
    exact hP
/-- the address that a new cell has -/
theorem tc_new_at {tr : Nat → Nat} {q n : Nat} {e : va_E} (hD : va_D (fun q => B ≤ q) (tc_wO B tr cy h ++ [(q, e)])) (hq : q < B + (h.length - 26) + 1) : q = B + (h.length - 26) := by
  have h1 : B ≤ q := hD.2 (tc_wO B tr cy h).length (q, e) (by rw [List.getElem?_append_right (Nat.le_refl _), Nat.sub_self]; rfl)
  by_cases hlt : q < B + (h.length - 26)
  · exfalso
    have hj : q - B < (tc_wO B tr cy h).length := by rw [tc_wO_len]; omega
    have hg : (tc_wO B tr cy h)[q - B]? = some (tc_wO B tr cy h)[q - B] := List.getElem?_eq_getElem hj
    have hg2 := hg
    rw [tc_wO_at] at hg2
    obtain ⟨c1, -, h2⟩ := Option.map_eq_some_iff.mp hg2
    have := hD.1 (q - B) (tc_wO B tr cy h).length _ (q, e) (by rw [List.getElem?_append_left hj]; exact hg) (by rw [List.getElem?_append_right (Nat.le_refl _), Nat.sub_self]; rfl) (by rw [← h2]; simp only; omega)
    omega
  · omega
theorem tc_ix {z : Int} (hz : 0 ≤ z) (hr : tc_r3 z) : (tc_3 z).toNatClampNeg = z.toNat := by
  show (tc_3 z).toInt.toNat = z.toNat
  rw [tc_3_to hr]
theorem tc_vp {z : Int} {n : Nat} (hz : 0 ≤ z) (hr : tc_r3 z) (hn : z.toNat < n) : vp_in (tc_3 z) n := by
  rw [vp_in_iff, tc_3_to hr]
  omega
theorem tc_upd3 {l : List Int} {k : Nat} (hk : k < l.length) (z : Int) : upd (fun j => tc_3 (l.getD j 0)) k (tc_3 z) = fun j => tc_3 ((l.set k z).getD j 0) := by
  funext j
  by_cases hj : j = k
  · subst hj
    simp [upd, List.getD_eq_getElem?_getD, hk]
  · simp [upd, hj, List.getD_eq_getElem?_getD, List.getElem?_set_ne (Ne.symm hj)]
theorem tc_upd6 {l : List Int} {k : Nat} (hk : k < l.length) (z : Int) : vp_updL (fun j => tc_6 (l.getD j 0)) k (tc_6 z) = fun j => tc_6 ((l.set k z).getD j 0) := by
  funext j
  by_cases hj : j = k
  · subst hj
    simp [vp_updL, List.getD_eq_getElem?_getD, hk]
  · simp [vp_updL, hj, List.getD_eq_getElem?_getD, List.getElem?_set_ne (Ne.symm hj)]
theorem tc_updq {tr : Nat → Nat} {l : List (Option Nat)} {k v : Nat} (hk : k < l.length) : va_up (fun j => (l.getD j none).map tr) k (some (tr v)) = fun j => ((l.set k (some v)).getD j none).map tr := by
  funext j
  by_cases hj : j = k
  · subst hj
    simp [va_up, List.getD_eq_getElem?_getD, hk]
  · simp [va_up, hj, List.getD_eq_getElem?_getD, List.getElem?_set_ne (Ne.symm hj)]
theorem tc_cpy_len {f g : List Int} {sp dp n : Nat} (h1 : sp + n ≤ f.length) (h2 : dp + n ≤ g.length) : (tc_cpy f g sp dp n).length = g.length := by
  unfold tc_cpy
  simp only [List.length_append, List.length_take, List.length_drop]
  omega
theorem tc_cpy_at {f g : List Int} {sp dp n : Nat} (h1 : sp + n ≤ f.length) (h2 : dp + n ≤ g.length) (j : Nat) : (tc_cpy f g sp dp n)[j]? = if dp ≤ j ∧ j < dp + n then f[sp + (j - dp)]? else g[j]? := by
  unfold tc_cpy
  by_cases ha : j < dp
  · rw [List.getElem?_append_left (by rw [List.length_take]; omega), List.getElem?_take, if_pos ha, if_neg (by omega)]
  · rw [List.getElem?_append_right (by rw [List.length_take]; omega), List.length_take, Nat.min_eq_left (by omega)]
    by_cases hb : j < dp + n
    · rw [List.getElem?_append_left (by rw [List.length_take, List.length_drop]; omega), List.getElem?_take, if_pos (by omega), List.getElem?_drop, if_pos (by omega)]
    · rw [List.getElem?_append_right (by rw [List.length_take, List.length_drop]; omega), List.length_take, List.length_drop, List.getElem?_drop, if_neg (by omega)]
      congr 1
      omega
theorem tc_cpy3 {f g : List Int} {sp dp n : Nat} (h1 : sp + n ≤ f.length) (h2 : dp + n ≤ g.length) : va_cpy (fun j => tc_3 (f.getD j 0)) (fun j => tc_3 (g.getD j 0)) sp dp n = fun j => tc_3 ((tc_cpy f g sp dp n).getD j 0) := by
  funext j
  unfold va_cpy
  simp only [List.getD_eq_getElem?_getD, tc_cpy_at h1 h2]
  split <;> rfl
theorem tc_cpy_ok {f g : List Int} {sp dp n : Nat} {P : Int → Prop} (hf : ∀ z ∈ f, P z) (hg : ∀ z ∈ g, P z) : ∀ z ∈ tc_cpy f g sp dp n, P z := by
  intro z hz
  unfold tc_cpy at hz
  rcases List.mem_append.mp hz with hz | hz
  · exact hg z (List.mem_of_mem_take hz)
  · rcases List.mem_append.mp hz with hz | hz
    · exact hf z (List.mem_of_mem_drop (List.mem_of_mem_take hz))
    · exact hg z (List.mem_of_mem_drop hz)
theorem tc_set_ok {α : Type} {l : List α} {k : Nat} {x : α} {P : α → Prop} (hl : ∀ z ∈ l, P z) (hx : P x) : ∀ z ∈ l.set k x, P z := fun z hz => (List.mem_or_eq_of_mem_set hz).elim (hl z) (fun e => e ▸ hx)
end TCH
/-- what the tables say of a class's fields -/
theorem tc_cls_in {ci : Nat} (hc : ci < 12) : ∀ w ∈ u_ws (tc_cn ci) (tc_T ci) (tc_N ci), w ∈ tc_TB := by
  intro w hw
  have h1 := List.all_eq_true.mp tc_ckC_ok ci (List.mem_range.mpr hc)
  obtain ⟨k, hk, rfl⟩ := List.mem_map.mp hw
  have h2 := List.all_eq_true.mp h1 k hk
  unfold tc_ckC1 at h2
  rw [Bool.and_eq_true] at h2
  exact tc_has_in h2.1
theorem tc_cls_ty {ci : Nat} (hc : ci < 12) : ∀ k, k < tc_N ci → parseFieldDescriptor (tc_T ci k).2.2.1 = some (tc_ty ci k) := by
  intro k hk
  have h1 := List.all_eq_true.mp tc_ckC_ok ci (List.mem_range.mpr hc)
  have h2 := List.all_eq_true.mp h1 k (List.mem_range.mpr hk)
  unfold tc_ckC1 at h2
  rw [Bool.and_eq_true, Bool.and_eq_true] at h2
  exact decide_eq_true_eq.mp h2.2.1
theorem tc_cls_nm {ci : Nat} (hc : ci < 12) : ∀ a, a < tc_N ci → ∀ b, b < tc_N ci → a ≠ b → (tc_T ci a).2.1 ≠ (tc_T ci b).2.1 := by
  intro a ha b hb hab
  have h1 := List.all_eq_true.mp tc_ckC_ok ci (List.mem_range.mpr hc)
  have h2 := List.all_eq_true.mp h1 b (List.mem_range.mpr hb)
  unfold tc_ckC1 at h2
  rw [Bool.and_eq_true, Bool.and_eq_true] at h2
  have h3 := List.all_eq_true.mp h2.2.2 a (List.mem_range.mpr ha)
  rw [Bool.or_eq_true] at h3
  rcases h3 with h3 | h3
  · exact absurd (by simpa using h3) hab
  · exact decide_eq_true_eq.mp h3
theorem tc_cls_at {ci : Nat} (hc : ci < 12) : tc_cl[ci]? = some (tc_cn ci, tc_T ci, tc_N ci) := by
  unfold tc_cl
  rw [List.getElem?_map, List.getElem?_range hc]
  rfl
theorem tc_fld_ok {o idx ci k : Nat} (h : tc_fld o idx ci = some k) : ∃ ref : Nat, ci < 12 ∧ k < tc_N ci ∧ Cond.fieldLink (tc_cn o) idx (tc_cn ref) (tc_T ci k).2.1 (tc_T ci k).2.2.1 ∈ tc_TB ∧ ((tc_T ci k).1 = tc_cn ref ∨ Cond.sameField (tc_cn ref) (tc_T ci k).1 (tc_T ci k).2.1 (tc_T ci k).2.2.1 ∈ tc_TB) := by
  unfold tc_fld at h
  obtain ⟨e, he, rfl⟩ := Option.map_eq_some_iff.mp h
  have hp := List.find?_some he
  have hm := List.all_eq_true.mp tc_ckF_ok e (List.mem_of_find?_eq_some he)
  simp only [Bool.and_eq_true, beq_iff_eq] at hp
  obtain ⟨h1, h2, h3⟩ := hp
  unfold tc_ckF at hm
  simp only [Bool.and_eq_true, Bool.or_eq_true, decide_eq_true_eq] at hm
  obtain ⟨g1, g2, g3, g4⟩ := hm
  rw [h1, h2] at g3
  subst h3
  exact ⟨e.2.2.1, g1, g2, tc_has_in g3, g4.imp id tc_has_in⟩

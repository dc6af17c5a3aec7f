/-! the small machine stands for the great one: values and locals -/
def tc_cv (tr : Nat → Nat) (v : AV) : Value := match v with
  | .inl z => .int (tc_3 z)
  | .inr (.inl z) => .long (tc_6 z)
  | .inr (.inr (.inl none)) => .null
  | .inr (.inr (.inl (some r))) => .ref (tr r)
  | .inr (.inr (.inr _)) => .retAddr 0
def tc_r3 (z : Int) : Prop := -2147483648 ≤ z ∧ z < 2147483648
def tc_r6 (z : Int) : Prop := -9223372036854775808 ≤ z ∧ z < 9223372036854775808
def tc_ok (v : AV) : Prop := match v with
  | .inl z => tc_r3 z
  | .inr (.inl z) => tc_r6 z
  | .inr (.inr (.inl _)) => True
  | .inr (.inr (.inr _)) => False
theorem tc_3_of (x : Int32) : tc_3 x.toInt = x := Int32.ofInt_toInt x
theorem tc_6_of (x : Int64) : tc_6 x.toInt = x := Int64.ofInt_toInt x
theorem tc_3_to {z : Int} (h : tc_r3 z) : (tc_3 z).toInt = z := Int32.toInt_ofInt_of_le h.1 h.2
theorem tc_6_to {z : Int} (h : tc_r6 z) : (tc_6 z).toInt = z := Int64.toInt_ofInt_of_le h.1 h.2
theorem tc_r3_of (x : Int32) : tc_r3 x.toInt := ⟨x.le_toInt, x.toInt_lt⟩
theorem tc_r6_of (x : Int64) : tc_r6 x.toInt := ⟨x.le_toInt, x.toInt_lt⟩
theorem tc_3_lt {a b : Int} (ha : tc_r3 a) (hb : tc_r3 b) : tc_3 a < tc_3 b ↔ a < b := by rw [Int32.lt_iff_toInt_lt, tc_3_to ha, tc_3_to hb]
theorem tc_3_le {a b : Int} (ha : tc_r3 a) (hb : tc_r3 b) : tc_3 a ≤ tc_3 b ↔ a ≤ b := by rw [Int32.le_iff_toInt_le, tc_3_to ha, tc_3_to hb]
theorem tc_3_eq {a b : Int} (ha : tc_r3 a) (hb : tc_r3 b) : tc_3 a = tc_3 b ↔ a = b := by rw [← Int32.toInt_inj, tc_3_to ha, tc_3_to hb]
theorem tc_3_0 : tc_3 0 = 0 := rfl
theorem tc_r3_0 : tc_r3 0 := ⟨by decide, by decide⟩
theorem tc_6_eq {a b : Int} (ha : tc_r6 a) (hb : tc_r6 b) : tc_6 a = tc_6 b ↔ a = b := by rw [← Int64.toInt_inj, tc_6_to ha, tc_6_to hb]
theorem tc_6_lt {a b : Int} (ha : tc_r6 a) (hb : tc_r6 b) : tc_6 a < tc_6 b ↔ a < b := by rw [Int64.lt_iff_toInt_lt, tc_6_to ha, tc_6_to hb]
theorem tc_r36 {a : Int} (ha : tc_r3 a) : tc_r6 a := ⟨by have := ha.1; omega, by have := ha.2; omega⟩
theorem tc_36 {a : Int} (ha : tc_r3 a) : (tc_3 a).toInt64 = tc_6 a := by
  rw [← Int64.toInt_inj, tc_6_to (tc_r36 ha)]
  simp [tc_3_to ha]
theorem tc_cv_cat {tr : Nat → Nat} {v : AV} (h : tc_ok v) : (tc_cv tr v).category = tc_cat v := by
  rcases v with z | z | r | u
  · rfl
  · rfl
  · cases r <;> rfl
  · exact h.elim
def tc_oks (st : List AV) : Prop := ∀ v ∈ st, tc_ok v
theorem tc_oks_c {v : AV} {st : List AV} (h : tc_ok v) (hs : tc_oks st) : tc_oks (v :: st) := fun w hw => (List.mem_cons.mp hw).elim (fun e => e ▸ h) (hs w)
theorem tc_oks_h {v : AV} {st : List AV} (h : tc_oks (v :: st)) : tc_ok v := h v List.mem_cons_self
theorem tc_oks_t {v : AV} {st : List AV} (h : tc_oks (v :: st)) : tc_oks st := fun w hw => h w (List.mem_cons_of_mem _ hw)
/-- the locals that are told -/
def tc_lv1 (tr : Nat → Nat) (j : Nat) (v : AV) : Option (Nat × Value) := match v with
  | .inr (.inr (.inr _)) => none
  | v => some (j, tc_cv tr v)
def tc_lv (tr : Nat → Nat) (ls : List AV) : List (Nat × Value) := (List.range ls.length).filterMap fun j => (ls[j]?).bind (tc_lv1 tr j)
theorem tc_lv1_eq {tr : Nat → Nat} {j : Nat} {v : AV} {q : Nat × Value} : tc_lv1 tr j v = some q ↔ v ≠ tc_nil ∧ q = (j, tc_cv tr v) := by
  rcases v with z | z | r | u
  · exact ⟨fun h => ⟨fun h => (by cases h), (Option.some.inj h).symm⟩, fun h => congrArg some h.2.symm⟩
  · exact ⟨fun h => ⟨fun h => (by cases h), (Option.some.inj h).symm⟩, fun h => congrArg some h.2.symm⟩
  · exact ⟨fun h => ⟨fun h => (by cases h), (Option.some.inj h).symm⟩, fun h => congrArg some h.2.symm⟩
  · exact ⟨fun h => (by cases h), fun h => absurd rfl h.1⟩
theorem tc_lv_mem {tr : Nat → Nat} {ls : List AV} {q : Nat × Value} : q ∈ tc_lv tr ls ↔ ∃ v, ls[q.1]? = some v ∧ v ≠ tc_nil ∧ q.2 = tc_cv tr v := by
  unfold tc_lv
  rw [List.mem_filterMap]
  constructor
  · rintro ⟨j, -, hj⟩
    cases hg : ls[j]? with
    | none => rw [hg] at hj; cases hj
    | some v =>
      rw [hg] at hj
      obtain ⟨h1, h2⟩ := tc_lv1_eq.mp (show tc_lv1 tr j v = some q from hj)
      subst h2
      exact ⟨v, hg, h1, rfl⟩
  · rintro ⟨v, h1, h2, h3⟩
    refine ⟨q.1, List.mem_range.mpr (List.getElem?_eq_some_iff.mp h1).1, ?_⟩
    rw [h1]
    exact tc_lv1_eq.mpr ⟨h2, Prod.ext rfl h3⟩
def tc_L (tr : Nat → Nat) (ls : List AV) (nL : Nat) (act : Array Slot) : Prop := ls.length = nL ∧ lv_has act nL (tc_lv tr ls) ∧ ∀ v ∈ ls, v = tc_nil ∨ tc_ok v
theorem tc_L_at {tr : Nat → Nat} {ls : List AV} {nL : Nat} {act : Array Slot} (h : tc_L tr ls nL act) {k : Nat} {v : AV} (hk : ls[k]? = some v) (hv : v ≠ tc_nil) : act[k]? = some (.val (tc_cv tr v)) ∧ tc_ok v :=
  ⟨h.2.1.2.2 (k, tc_cv tr v) (tc_lv_mem.mpr ⟨v, hk, hv, rfl⟩), (h.2.2 v (List.mem_of_getElem? hk)).resolve_left hv⟩
theorem tc_kill_len (ls : List AV) (k : Nat) : (tc_kill ls k).length = ls.length := by
  cases k with
  | zero => rfl
  | succ j =>
    unfold tc_kill
    simp only
    split
    · simp
    · rfl
theorem tc_kill_at {ls : List AV} {k j : Nat} {w : AV} (h : (tc_kill ls k)[j]? = some w) (hw : w ≠ tc_nil) : ls[j]? = some w ∧ ¬ (j + 1 = k ∧ tc_cat w = 2) := by
  cases k with
  | zero => exact ⟨h, fun q => by omega⟩
  | succ i =>
    unfold tc_kill at h
    simp only at h
    split at h
    · rename_i z hz
      by_cases hj : j = i
      · subst hj
        rw [List.getElem?_set_self (List.getElem?_eq_some_iff.mp hz).1] at h
        cases h
        exact absurd rfl hw
      · rw [List.getElem?_set_ne (Ne.symm hj)] at h
        exact ⟨h, fun q => hj (by omega)⟩
    · rename_i hz
      refine ⟨h, fun q => ?_⟩
      have hji : j = i := by omega
      subst hji
      rcases w with z | z | r | u
      · cases q.2
      · exact hz z h
      · cases q.2
      · cases q.2
theorem tc_kill_mem {ls : List AV} {k : Nat} {v : AV} (h : v ∈ tc_kill ls k) : v = tc_nil ∨ v ∈ ls := by
  cases k with
  | zero => exact Or.inr h
  | succ j =>
    unfold tc_kill at h
    simp only at h
    split at h
    · exact (List.mem_or_eq_of_mem_set h).symm.imp id id
    · exact Or.inr h
theorem tc_L_s1 {tr : Nat → Nat} {ls : List AV} {nL k : Nat} {v : AV} {act act' : Array Slot} (h : tc_L tr ls nL act) (hk : k < ls.length) (hv : tc_ok v) (ha : lv_has act' nL ((k, tc_cv tr v) :: (tc_lv tr ls).filter (fun q => !(q.1 == k) && !(q.1 + 1 == k && q.2.category == 2)))) :
    tc_L tr ((tc_kill ls k).set k v) nL act' := by
  refine ⟨by rw [List.length_set, tc_kill_len]; exact h.1, ⟨ha.1, ha.2.1, fun q hq => ?_⟩, fun w hw => ?_⟩
  · obtain ⟨w, h1, h2, h3⟩ := tc_lv_mem.mp hq
    refine ha.2.2 q ?_
    by_cases hqk : q.1 = k
    · rw [hqk, List.getElem?_set_self (by rw [tc_kill_len]; exact hk)] at h1
      cases h1
      exact List.mem_cons.mpr (Or.inl (Prod.ext hqk h3))
    · rw [List.getElem?_set_ne (Ne.symm hqk)] at h1
      obtain ⟨h4, h5⟩ := tc_kill_at h1 h2
      have hok : tc_ok w := (h.2.2 w (List.mem_of_getElem? h4)).resolve_left h2
      refine List.mem_cons_of_mem _ (List.mem_filter.mpr ⟨tc_lv_mem.mpr ⟨w, h4, h2, h3⟩, ?_⟩)
      rw [h3, tc_cv_cat hok]
      simp only [Bool.and_eq_true, Bool.not_eq_true', beq_eq_false_iff_ne, Bool.and_eq_false_iff, ne_eq]
      refine ⟨hqk, ?_⟩
      by_cases h6 : q.1 + 1 = k
      · exact Or.inr (fun h7 => h5 ⟨h6, h7⟩)
      · exact Or.inl h6
  · rcases List.mem_or_eq_of_mem_set hw with h1 | h1
    · rcases tc_kill_mem h1 with h2 | h2
      · exact Or.inl h2
      · exact h.2.2 w h2
    · exact Or.inr (h1 ▸ hv)
theorem tc_L_s2 {tr : Nat → Nat} {ls : List AV} {nL k : Nat} {v : AV} {act act' : Array Slot} (h : tc_L tr ls nL act) (hk : k + 1 < ls.length) (hv : tc_ok v) (ha : lv_has act' nL ((k, tc_cv tr v) :: (tc_lv tr ls).filter (fun q => !(q.1 == k) && (!(q.1 == k + 1) && !(q.1 + 1 == k && q.2.category == 2))))) :
    tc_L tr (((tc_kill ls k).set k v).set (k + 1) tc_nil) nL act' := by
  refine ⟨by rw [List.length_set, List.length_set, tc_kill_len]; exact h.1, ⟨ha.1, ha.2.1, fun q hq => ?_⟩, fun w hw => ?_⟩
  · obtain ⟨w, h1, h2, h3⟩ := tc_lv_mem.mp hq
    refine ha.2.2 q ?_
    by_cases hq1 : q.1 = k + 1
    · rw [hq1, List.getElem?_set_self (by rw [List.length_set, tc_kill_len]; exact hk)] at h1
      cases h1
      exact absurd rfl h2
    rw [List.getElem?_set_ne (Ne.symm hq1)] at h1
    by_cases hqk : q.1 = k
    · rw [hqk, List.getElem?_set_self (by rw [tc_kill_len]; omega)] at h1
      cases h1
      exact List.mem_cons.mpr (Or.inl (Prod.ext hqk h3))
    · rw [List.getElem?_set_ne (Ne.symm hqk)] at h1
      obtain ⟨h4, h5⟩ := tc_kill_at h1 h2
      have hok : tc_ok w := (h.2.2 w (List.mem_of_getElem? h4)).resolve_left h2
      refine List.mem_cons_of_mem _ (List.mem_filter.mpr ⟨tc_lv_mem.mpr ⟨w, h4, h2, h3⟩, ?_⟩)
      rw [h3, tc_cv_cat hok]
      simp only [Bool.and_eq_true, Bool.not_eq_true', beq_eq_false_iff_ne, Bool.and_eq_false_iff, ne_eq]
      refine ⟨hqk, hq1, ?_⟩
      by_cases h6 : q.1 + 1 = k
      · exact Or.inr (fun h7 => h5 ⟨h6, h7⟩)
      · exact Or.inl h6
  · rcases List.mem_or_eq_of_mem_set hw with h1 | h1
    · rcases List.mem_or_eq_of_mem_set h1 with h1 | h1
      · rcases tc_kill_mem h1 with h2 | h2
        · exact Or.inl h2
        · exact h.2.2 w h2
      · exact Or.inr (h1 ▸ hv)
    · exact Or.inl h1
section TCA
variable {p : Program} {l : Launch} {e : Env} {R : Room} {s : State} {m : MethodId} {args : Array Value} {below : List Frame} {meth : Method} {c : Code} {H : Heap} {locs : List Loc} {cells slots : Nat} {Q : State → Prop}
variable {cc : ByteArray} {tr : Nat → Nat} {nL pc pc' len : Nat} {ls ls' st st' : List AV} {i : Instr} {act : Array Slot}
theorem tc_pI {x : Int32} {z : Int} (hz : z = x.toInt) (k : W p l e R s m args below meth c H locs cells slots Q (F0 m pc act ((Sum.inl z :: st : List AV).map (tc_cv tr)))) : W p l e R s m args below meth c H locs cells slots Q (F0 m pc act (.int x :: st.map (tc_cv tr))) := by
  subst hz
  exact W.eq (by simp only [List.map_cons, tc_cv, tc_3_of]) k
theorem tc_pL {x : Int64} {z : Int} (hz : z = x.toInt) (k : W p l e R s m args below meth c H locs cells slots Q (F0 m pc act ((Sum.inr (Sum.inl z) :: st : List AV).map (tc_cv tr)))) : W p l e R s m args below meth c H locs cells slots Q (F0 m pc act (.long x :: st.map (tc_cv tr))) := by
  subst hz
  exact W.eq (by simp only [List.map_cons, tc_cv, tc_6_of]) k
theorem tc_jT {b : Bool} {t f : Nat} {sk : List Value} (hb : b = true) (k : W p l e R s m args below meth c H locs cells slots Q (F0 m (if b then t else f) act sk)) : W p l e R s m args below meth c H locs cells slots Q (F0 m t act sk) := by
  subst hb; exact k
theorem tc_jF {b : Bool} {t f : Nat} {sk : List Value} (hb : b = false) (k : W p l e R s m args below meth c H locs cells slots Q (F0 m (if b then t else f) act sk)) : W p l e R s m args below meth c H locs cells slots Q (F0 m f act sk) := by
  subst hb; exact k
theorem tc_cmp_eq {a b : Int} (ha : tc_r6 a) (hb : tc_r6 b) : i6_cmp a b = (lg_cmp (tc_6 a) (tc_6 b)).toInt := by
  unfold lg_cmp i6_cmp
  simp only [gt_iff_lt, tc_6_lt hb ha, tc_6_eq ha hb]
  by_cases h1 : a = b
  · subst h1
    simp
  · by_cases h2 : a < b
    · rw [if_neg h1, if_pos h2, if_neg (by omega), if_neg h1]; rfl
    · rw [if_neg h1, if_neg h2, if_pos (by omega)]; rfl
set_option maxHeartbeats 2000000 in
theorem tc_A_sound (hx : p.tables.exec = Jvm.exec) (hb : c.code = cc) (hd : decode cc pc = .ok (i, len)) (hA : tc_A i len pc ls st = some (pc', ls', st')) (hL : tc_L tr ls nL act) (hst : tc_oks st)
    (kk : ∀ act', tc_L tr ls' nL act' → tc_oks st' → W p l e R s m args below meth c H locs cells slots Q (F0 m pc' act' (st'.map (tc_cv tr)))) : W p l e R s m args below meth c H locs cells slots Q (F0 m pc act (st.map (tc_cv tr))) := by
  unfold tc_A at hA
  split at hA
  · cases hA; exact lv_iconst (v := tc_3 _) hx hb hd rfl (tc_pI rfl (kk act hL (tc_oks_c (tc_r3_of _) hst)))
  · cases hA; exact lv_bipush hx hb hd rfl (tc_pI rfl (kk act hL (tc_oks_c (tc_r3_of _) hst)))
  · cases hA; exact lv_sipush hx hb hd rfl (tc_pI rfl (kk act hL (tc_oks_c (tc_r3_of _) hst)))
  · cases hA; exact lv_lconst hx hb hd rfl (tc_pL rfl (kk act hL (tc_oks_c (tc_r6_of _) hst)))
  · cases hA; exact lv_null hx hb hd (kk act hL (tc_oks_c trivial hst))
  · unfold tc_li at hA
    split at hA
    · rename_i z hz
      cases hA
      obtain ⟨h1, h2⟩ := tc_L_at hL hz (fun h => by cases h)
      exact lv_iload hx hb hd h1 (kk act hL (tc_oks_c h2 hst))
    · cases hA
  · unfold tc_li at hA
    split at hA
    · rename_i z hz
      cases hA
      obtain ⟨h1, h2⟩ := tc_L_at hL hz (fun h => by cases h)
      exact lv_iload_n hx hb hd rfl h1 (kk act hL (tc_oks_c h2 hst))
    · cases hA
  · unfold tc_ll at hA
    split at hA
    · rename_i z hz
      cases hA
      obtain ⟨h1, h2⟩ := tc_L_at hL hz (fun h => by cases h)
      exact lv_lload hx hb hd h1 (kk act hL (tc_oks_c h2 hst))
    · cases hA
  · unfold tc_ll at hA
    split at hA
    · rename_i z hz
      cases hA
      obtain ⟨h1, h2⟩ := tc_L_at hL hz (fun h => by cases h)
      exact lv_lload_n hx hb hd rfl h1 (kk act hL (tc_oks_c h2 hst))
    · cases hA
  · unfold tc_la at hA
    split at hA
    · rename_i r hz
      cases hA
      obtain ⟨h1, h2⟩ := tc_L_at hL hz (fun h => by cases h)
      cases r with
      | none => exact lv_aloadN hx hb hd h1 (kk act hL (tc_oks_c h2 hst))
      | some r => exact lv_aload hx hb hd h1 (kk act hL (tc_oks_c h2 hst))
    · cases hA
  · unfold tc_la at hA
    split at hA
    · rename_i r hz
      cases hA
      obtain ⟨h1, h2⟩ := tc_L_at hL hz (fun h => by cases h)
      cases r with
      | none => exact lv_aload_nN hx hb hd rfl h1 (kk act hL (tc_oks_c h2 hst))
      | some r => exact lv_aload_n hx hb hd rfl h1 (kk act hL (tc_oks_c h2 hst))
    · cases hA
  · unfold tc_s1 at hA
    split at hA
    · rename_i hk
      cases hA
      exact lv_istore hx hb hd hL.2.1 (by rw [← hL.1]; exact hk) rfl (fun act' ha => kk act' (tc_L_s1 hL hk (tc_oks_h hst) ha) (tc_oks_t hst))
    · cases hA
  · unfold tc_s1 at hA
    split at hA
    · rename_i hk
      cases hA
      exact lv_istore_n hx hb hd rfl hL.2.1 (by rw [← hL.1]; exact hk) rfl (fun act' ha => kk act' (tc_L_s1 hL hk (tc_oks_h hst) ha) (tc_oks_t hst))
    · cases hA
  · unfold tc_s2 at hA
    split at hA
    · rename_i hk
      cases hA
      exact lv_lstore hx hb hd hL.2.1 (by rw [← hL.1]; exact hk) rfl (fun act' ha => kk act' (tc_L_s2 hL hk (tc_oks_h hst) ha) (tc_oks_t hst))
    · cases hA
  · unfold tc_s2 at hA
    split at hA
    · rename_i hk
      cases hA
      exact lv_lstore_n hx hb hd rfl hL.2.1 (by rw [← hL.1]; exact hk) rfl (fun act' ha => kk act' (tc_L_s2 hL hk (tc_oks_h hst) ha) (tc_oks_t hst))
    · cases hA
  · rename_i r st
    unfold tc_s1 at hA
    split at hA
    · rename_i hk
      cases hA
      cases r with
      | none => exact lv_astoreN hx hb hd hL.2.1 (by rw [← hL.1]; exact hk) rfl (fun act' ha => kk act' (tc_L_s1 hL hk (tc_oks_h hst) ha) (tc_oks_t hst))
      | some r => exact lv_astore hx hb hd hL.2.1 (by rw [← hL.1]; exact hk) rfl (fun act' ha => kk act' (tc_L_s1 hL hk (tc_oks_h hst) ha) (tc_oks_t hst))
    · cases hA
  · rename_i r st
    unfold tc_s1 at hA
    split at hA
    · rename_i hk
      cases hA
      cases r with
      | none => exact lv_astore_nN hx hb hd rfl hL.2.1 (by rw [← hL.1]; exact hk) rfl (fun act' ha => kk act' (tc_L_s1 hL hk (tc_oks_h hst) ha) (tc_oks_t hst))
      | some r => exact lv_astore_n hx hb hd rfl hL.2.1 (by rw [← hL.1]; exact hk) rfl (fun act' ha => kk act' (tc_L_s1 hL hk (tc_oks_h hst) ha) (tc_oks_t hst))
    · cases hA
  · unfold tc_inc at hA
    split at hA
    · rename_i z hz
      unfold tc_s1 at hA
      split at hA
      · rename_i hk
        cases hA
        obtain ⟨k', hk'⟩ := List.getElem?_of_mem ((tc_lv_mem (tr := tr) (q := (_, .int (tc_3 z)))).mpr ⟨.inl z, hz, fun h => (by cases h), rfl⟩)
        exact lv_iinc (v := tc_3 (i3_add z _)) hx hb hd hL.2.1 hk' (by unfold i3_add; rw [tc_3_of]; rfl) (by rw [← hL.1]; exact hk) rfl (fun act' ha => kk act' (tc_L_s1 (v := .inl (i3_add z _)) hL hk (tc_r3_of _) ha) hst)
      · cases hA
    · cases hA
  · cases hA; exact lv_iadd hx hb hd (tc_pI rfl (kk act hL (tc_oks_c (tc_r3_of _) (tc_oks_t (tc_oks_t hst)))))
  · cases hA; exact lv_isub hx hb hd (tc_pI rfl (kk act hL (tc_oks_c (tc_r3_of _) (tc_oks_t (tc_oks_t hst)))))
  · cases hA; exact lv_imul hx hb hd (tc_pI rfl (kk act hL (tc_oks_c (tc_r3_of _) (tc_oks_t (tc_oks_t hst)))))
  · split at hA
    · cases hA
    · rename_i hne
      cases hA
      exact lv_idiv hx hb hd (fun q => hne ((tc_3_eq (tc_oks_h hst) tc_r3_0).mp (q.trans tc_3_0.symm))) (tc_pI rfl (kk act hL (tc_oks_c (tc_r3_of _) (tc_oks_t (tc_oks_t hst)))))
  · split at hA
    · cases hA
    · rename_i hne
      cases hA
      exact lv_irem hx hb hd (fun q => hne ((tc_3_eq (tc_oks_h hst) tc_r3_0).mp (q.trans tc_3_0.symm))) (tc_pI rfl (kk act hL (tc_oks_c (tc_r3_of _) (tc_oks_t (tc_oks_t hst)))))
  · cases hA; exact lv_iand hx hb hd (tc_pI rfl (kk act hL (tc_oks_c (tc_r3_of _) (tc_oks_t (tc_oks_t hst)))))
  · cases hA; exact lv_ior hx hb hd (tc_pI rfl (kk act hL (tc_oks_c (tc_r3_of _) (tc_oks_t (tc_oks_t hst)))))
  · cases hA; exact lv_ixor hx hb hd (tc_pI rfl (kk act hL (tc_oks_c (tc_r3_of _) (tc_oks_t (tc_oks_t hst)))))
  · cases hA; exact lv_ishl hx hb hd (tc_pI rfl (kk act hL (tc_oks_c (tc_r3_of _) (tc_oks_t (tc_oks_t hst)))))
  · cases hA; exact lv_ishr hx hb hd (tc_pI rfl (kk act hL (tc_oks_c (tc_r3_of _) (tc_oks_t (tc_oks_t hst)))))
  · cases hA; exact lv_iushr hx hb hd rfl (tc_pI rfl (kk act hL (tc_oks_c (tc_r3_of _) (tc_oks_t (tc_oks_t hst)))))
  · cases hA; exact lv_ineg hx hb hd (tc_pI rfl (kk act hL (tc_oks_c (tc_r3_of _) (tc_oks_t hst))))
  · cases hA; exact lv_i2b hx hb hd rfl (tc_pI rfl (kk act hL (tc_oks_c (tc_r3_of _) (tc_oks_t hst))))
  · cases hA; exact lv_i2c hx hb hd rfl (tc_pI rfl (kk act hL (tc_oks_c (tc_r3_of _) (tc_oks_t hst))))
  · cases hA; exact lv_i2l hx hb hd (tc_36 (tc_oks_h hst)) (kk act hL (tc_oks_c (tc_r36 (tc_oks_h hst)) (tc_oks_t hst)))
  · cases hA; exact lv_l2i hx hb hd rfl (tc_pI rfl (kk act hL (tc_oks_c (tc_r3_of _) (tc_oks_t hst))))
  · cases hA; exact lv_ladd hx hb hd (tc_pL rfl (kk act hL (tc_oks_c (tc_r6_of _) (tc_oks_t (tc_oks_t hst)))))
  · cases hA; exact lv_lsub hx hb hd (tc_pL rfl (kk act hL (tc_oks_c (tc_r6_of _) (tc_oks_t (tc_oks_t hst)))))
  · cases hA; exact lv_lmul hx hb hd (tc_pL rfl (kk act hL (tc_oks_c (tc_r6_of _) (tc_oks_t (tc_oks_t hst)))))
  · split at hA
    · cases hA
    · rename_i hne
      cases hA
      exact lv_ldiv hx hb hd (fun q => hne ((tc_6_eq (tc_oks_h hst) (tc_r36 tc_r3_0)).mp q)) (tc_pL rfl (kk act hL (tc_oks_c (tc_r6_of _) (tc_oks_t (tc_oks_t hst)))))
  · split at hA
    · cases hA
    · rename_i hne
      cases hA
      exact lv_lrem hx hb hd (fun q => hne ((tc_6_eq (tc_oks_h hst) (tc_r36 tc_r3_0)).mp q)) (tc_pL rfl (kk act hL (tc_oks_c (tc_r6_of _) (tc_oks_t (tc_oks_t hst)))))
  · cases hA; exact lv_land hx hb hd (tc_pL rfl (kk act hL (tc_oks_c (tc_r6_of _) (tc_oks_t (tc_oks_t hst)))))
  · cases hA; exact lv_lor hx hb hd (tc_pL rfl (kk act hL (tc_oks_c (tc_r6_of _) (tc_oks_t (tc_oks_t hst)))))
  · cases hA; exact W.lcmp hx hb hd (tc_pI (tc_cmp_eq (tc_oks_h (tc_oks_t hst)) (tc_oks_h hst)) (kk act hL (tc_oks_c (by rw [tc_cmp_eq (tc_oks_h (tc_oks_t hst)) (tc_oks_h hst)]; exact tc_r3_of _) (tc_oks_t (tc_oks_t hst)))))
  · split at hA
    · rename_i hc
      cases hA
      exact lv_dup hx hb hd (by rw [tc_cv_cat (tc_oks_h hst)]; exact hc) (kk act hL (tc_oks_c (tc_oks_h hst) hst))
    · cases hA
  · split at hA
    · rename_i hc
      cases hA
      exact lv_pop hx hb hd (by rw [tc_cv_cat (tc_oks_h hst)]; exact hc) (kk act hL (tc_oks_t hst))
    · cases hA
  · split at hA
    · rename_i hc
      cases hA
      exact lv_dup2_11 hx hb hd (by rw [tc_cv_cat (tc_oks_h hst)]; exact hc.1) (by rw [tc_cv_cat (tc_oks_h (tc_oks_t hst))]; exact hc.2) (kk act hL (tc_oks_c (tc_oks_h hst) (tc_oks_c (tc_oks_h (tc_oks_t hst)) hst)))
    · cases hA
  · unfold tc_j at hA
    split at hA
    · rename_i ho
      cases hA
      have K := kk act hL (tc_oks_t (tc_oks_t hst))
      exact lv_icmp_eq hx hb hd (Int.toNat_of_nonneg ho).symm (fun q => tc_jT (decide_eq_true ((tc_3_eq (tc_oks_h (tc_oks_t hst)) (tc_oks_h hst)).mp q)) K) (fun q => tc_jF (decide_eq_false (fun z => q ((tc_3_eq (tc_oks_h (tc_oks_t hst)) (tc_oks_h hst)).mpr z))) K)
    · cases hA
  · unfold tc_j at hA
    split at hA
    · rename_i ho
      cases hA
      have K := kk act hL (tc_oks_t (tc_oks_t hst))
      exact lv_icmp_ne hx hb hd (Int.toNat_of_nonneg ho).symm (fun q => tc_jT (decide_eq_true (show _ ≠ _ from fun z => q ((tc_3_eq (tc_oks_h (tc_oks_t hst)) (tc_oks_h hst)).mpr z))) K) (fun q => tc_jF (decide_eq_false (show ¬ _ ≠ _ from fun z => z ((tc_3_eq (tc_oks_h (tc_oks_t hst)) (tc_oks_h hst)).mp q))) K)
    · cases hA
  · unfold tc_j at hA
    split at hA
    · rename_i ho
      cases hA
      have K := kk act hL (tc_oks_t (tc_oks_t hst))
      exact lv_icmp_lt hx hb hd (Int.toNat_of_nonneg ho).symm (fun q => tc_jT (decide_eq_true ((tc_3_lt (tc_oks_h (tc_oks_t hst)) (tc_oks_h hst)).mp q)) K) (fun q => tc_jF (decide_eq_false (fun z => q ((tc_3_lt (tc_oks_h (tc_oks_t hst)) (tc_oks_h hst)).mpr z))) K)
    · cases hA
  · unfold tc_j at hA
    split at hA
    · rename_i ho
      cases hA
      have K := kk act hL (tc_oks_t (tc_oks_t hst))
      exact lv_icmp_ge hx hb hd (Int.toNat_of_nonneg ho).symm (fun q => tc_jT (decide_eq_true ((tc_3_le (tc_oks_h hst) (tc_oks_h (tc_oks_t hst))).mp q)) K) (fun q => tc_jF (decide_eq_false (fun z => q ((tc_3_le (tc_oks_h hst) (tc_oks_h (tc_oks_t hst))).mpr z))) K)
    · cases hA
  · unfold tc_j at hA
    split at hA
    · rename_i ho
      cases hA
      have K := kk act hL (tc_oks_t (tc_oks_t hst))
      exact lv_icmp_gt hx hb hd (Int.toNat_of_nonneg ho).symm (fun q => tc_jT (decide_eq_true ((tc_3_lt (tc_oks_h hst) (tc_oks_h (tc_oks_t hst))).mp q)) K) (fun q => tc_jF (decide_eq_false (fun z => q ((tc_3_lt (tc_oks_h hst) (tc_oks_h (tc_oks_t hst))).mpr z))) K)
    · cases hA
  · unfold tc_j at hA
    split at hA
    · rename_i ho
      cases hA
      have K := kk act hL (tc_oks_t (tc_oks_t hst))
      exact lv_icmp_le hx hb hd (Int.toNat_of_nonneg ho).symm (fun q => tc_jT (decide_eq_true ((tc_3_le (tc_oks_h (tc_oks_t hst)) (tc_oks_h hst)).mp q)) K) (fun q => tc_jF (decide_eq_false (fun z => q ((tc_3_le (tc_oks_h (tc_oks_t hst)) (tc_oks_h hst)).mpr z))) K)
    · cases hA
  · unfold tc_j at hA
    split at hA
    · rename_i ho
      cases hA
      have K := kk act hL (tc_oks_t hst)
      exact lv_if_eq hx hb hd (Int.toNat_of_nonneg ho).symm (fun q => tc_jT (decide_eq_true ((tc_3_eq (tc_oks_h hst) tc_r3_0).mp q)) K) (fun q => tc_jF (decide_eq_false (fun z => q ((tc_3_eq (tc_oks_h hst) tc_r3_0).mpr z))) K)
    · cases hA
  · unfold tc_j at hA
    split at hA
    · rename_i ho
      cases hA
      have K := kk act hL (tc_oks_t hst)
      exact lv_if_ne hx hb hd (Int.toNat_of_nonneg ho).symm (fun q => tc_jT (decide_eq_true (show _ ≠ _ from fun z => q ((tc_3_eq (tc_oks_h hst) tc_r3_0).mpr z))) K) (fun q => tc_jF (decide_eq_false (show ¬ _ ≠ _ from fun z => z ((tc_3_eq (tc_oks_h hst) tc_r3_0).mp q))) K)
    · cases hA
  · unfold tc_j at hA
    split at hA
    · rename_i ho
      cases hA
      have K := kk act hL (tc_oks_t hst)
      exact lv_if_lt hx hb hd (Int.toNat_of_nonneg ho).symm (fun q => tc_jT (decide_eq_true ((tc_3_lt (tc_oks_h hst) tc_r3_0).mp q)) K) (fun q => tc_jF (decide_eq_false (fun z => q ((tc_3_lt (tc_oks_h hst) tc_r3_0).mpr z))) K)
    · cases hA
  · unfold tc_j at hA
    split at hA
    · rename_i ho
      cases hA
      have K := kk act hL (tc_oks_t hst)
      exact lv_if_ge hx hb hd (Int.toNat_of_nonneg ho).symm (fun q => tc_jT (decide_eq_true ((tc_3_le tc_r3_0 (tc_oks_h hst)).mp q)) K) (fun q => tc_jF (decide_eq_false (fun z => q ((tc_3_le tc_r3_0 (tc_oks_h hst)).mpr z))) K)
    · cases hA
  · unfold tc_j at hA
    split at hA
    · rename_i ho
      cases hA
      have K := kk act hL (tc_oks_t hst)
      exact lv_if_gt hx hb hd (Int.toNat_of_nonneg ho).symm (fun q => tc_jT (decide_eq_true ((tc_3_lt tc_r3_0 (tc_oks_h hst)).mp q)) K) (fun q => tc_jF (decide_eq_false (fun z => q ((tc_3_lt tc_r3_0 (tc_oks_h hst)).mpr z))) K)
    · cases hA
  · unfold tc_j at hA
    split at hA
    · rename_i ho
      cases hA
      have K := kk act hL (tc_oks_t hst)
      exact lv_if_le hx hb hd (Int.toNat_of_nonneg ho).symm (fun q => tc_jT (decide_eq_true ((tc_3_le (tc_oks_h hst) tc_r3_0).mp q)) K) (fun q => tc_jF (decide_eq_false (fun z => q ((tc_3_le (tc_oks_h hst) tc_r3_0).mpr z))) K)
    · cases hA
  · rename_i r st
    unfold tc_j at hA
    split at hA
    · rename_i ho
      cases hA
      cases r with
      | none => exact lv_ifnullN hx hb hd (Int.toNat_of_nonneg ho).symm (kk act hL (tc_oks_t hst))
      | some r => exact lv_ifnull hx hb hd (kk act hL (tc_oks_t hst))
    · cases hA
  · rename_i r st
    unfold tc_j at hA
    split at hA
    · rename_i ho
      cases hA
      cases r with
      | none => exact lv_ifnonnullN hx hb hd (kk act hL (tc_oks_t hst))
      | some r => exact lv_ifnonnull hx hb hd (Int.toNat_of_nonneg ho).symm (kk act hL (tc_oks_t hst))
    · cases hA
  · unfold tc_j at hA
    split at hA
    · rename_i ho
      cases hA
      exact lv_goto hx hb hd (Int.toNat_of_nonneg ho).symm (kk act hL hst)
    · cases hA
  · unfold tc_sw at hA
    split at hA
    · rename_i hz
      split at hA
      · rename_i ho
        cases hA
        exact lv_tableOut hx hb hd (by rw [tc_3_to (tc_oks_h hst)]; exact hz) (Int.toNat_of_nonneg ho).symm (kk act hL (tc_oks_t hst))
      · cases hA
    · rename_i hz
      split at hA
      · rename_i off hoff
        split at hA
        · rename_i ho
          cases hA
          exact lv_tableIn hx hb hd (by rw [tc_3_to (tc_oks_h hst)]; exact fun q => hz (Or.inl q)) (by rw [tc_3_to (tc_oks_h hst)]; exact fun q => hz (Or.inr q)) (by rw [tc_3_to (tc_oks_h hst)]; exact hoff) (Int.toNat_of_nonneg ho).symm (kk act hL (tc_oks_t hst))
        · cases hA
      · cases hA
  · cases hA
end TCA

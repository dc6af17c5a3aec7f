/-! a run of the small machine is a run of the great one -/
theorem tc_sl_cons (v : AV) (as : List AV) : tc_sl (v :: as) = (if tc_cat v = 2 then [v, tc_nil] else [v]) ++ tc_sl as := by
  rcases v with z | z | r | u <;> rfl
theorem tc_lg_cons (v : Value) (vs : List Value) : lg_sl (v :: vs) = (if v.category = 2 then [.val v, .second] else [.val v]) ++ lg_sl vs := rfl
theorem tc_sl_len {tr : Nat → Nat} {as : List AV} (h : tc_oks as) : (lg_sl (as.map (tc_cv tr))).length = (tc_sl as).length := by
  induction as with
  | nil => rfl
  | cons v as ih =>
    rw [tc_sl_cons, List.map_cons, tc_lg_cons, List.length_append, List.length_append, ih (tc_oks_t h), tc_cv_cat (tc_oks_h h)]
    split <;> rfl
theorem tc_sl_args {tr : Nat → Nat} : ∀ (as : List AV) (o j : Nat) (v : AV), tc_oks as → (tc_sl as)[j]? = some v → v ≠ tc_nil → (o + j, tc_cv tr v) ∈ lv_args o (as.map (tc_cv tr))
  | [], _, _, _, _, hj, _ => by cases hj
  | w :: as, o, j, v, hok, hj, hv => by
    rw [tc_sl_cons] at hj
    rw [List.map_cons]
    show _ ∈ (o, tc_cv tr w) :: lv_args (if (tc_cv tr w).category = 2 then o + 2 else o + 1) (as.map (tc_cv tr))
    rw [tc_cv_cat (tc_oks_h hok)]
    by_cases hc : tc_cat w = 2
    · rw [if_pos hc] at hj ⊢
      match j, hj with
      | 0, hj =>
        cases hj
        exact List.mem_cons_self
      | 1, hj =>
        cases hj
        exact absurd rfl hv
      | j + 2, hj =>
        have := tc_sl_args (tr := tr) as (o + 2) j v (tc_oks_t hok) hj hv
        rw [show o + 2 + j = o + (j + 2) by omega] at this
        exact List.mem_cons_of_mem _ this
    · rw [if_neg hc] at hj ⊢
      match j, hj with
      | 0, hj =>
        cases hj
        exact List.mem_cons_self
      | j + 1, hj =>
        have := tc_sl_args (tr := tr) as (o + 1) j v (tc_oks_t hok) hj hv
        rw [show o + 1 + j = o + (j + 1) by omega] at this
        exact List.mem_cons_of_mem _ this
theorem tc_sl_oks {as : List AV} (h : tc_oks as) : ∀ v ∈ tc_sl as, v = tc_nil ∨ tc_ok v := by
  induction as with
  | nil => intro v hv; cases hv
  | cons w as ih =>
    intro v hv
    rw [tc_sl_cons] at hv
    rcases List.mem_append.mp hv with hv | hv
    · split at hv
      · rcases List.mem_cons.mp hv with rfl | hv
        · exact Or.inr (tc_oks_h h)
        · exact Or.inl (List.mem_singleton.mp hv)
      · rw [List.mem_singleton] at hv
        exact Or.inr (hv ▸ tc_oks_h h)
    · exact ih (tc_oks_t h) v hv
theorem tc_ent_L {tr : Nat → Nat} {K : Nat} {as : List AV} (hok : tc_oks as) (hl : (tc_sl as).length ≤ tc_ml K) : tc_L tr (tc_ent K as) (tc_ml K) ((lg_sl (as.map (tc_cv tr)) ++ List.replicate (tc_ml K - (lg_sl (as.map (tc_cv tr))).length) Slot.unset).toArray) := by
  have he := lv_entry (as.map (tc_cv tr)) (n := tc_ml K) (by rw [tc_sl_len hok]; exact hl)
  refine ⟨by unfold tc_ent; rw [List.length_append, List.length_replicate]; omega, ⟨he.1, he.2.1, fun q hq => he.2.2 q ?_⟩, fun v hv => ?_⟩
  · obtain ⟨v, h1, h2, h3⟩ := tc_lv_mem.mp hq
    unfold tc_ent at h1
    by_cases hj : q.1 < (tc_sl as).length
    · rw [List.getElem?_append_left hj] at h1
      have := tc_sl_args (tr := tr) as 0 q.1 v hok h1 h2
      rw [Nat.zero_add, ← h3] at this
      exact this
    · rw [List.getElem?_append_right (by omega)] at h1
      exact absurd (List.eq_of_mem_replicate (List.mem_of_getElem? h1)) h2
  · unfold tc_ent at hv
    rcases List.mem_append.mp hv with hv | hv
    · exact tc_sl_oks hok v hv
    · exact Or.inl (List.eq_of_mem_replicate hv)
theorem tc_H_mono {K : Nat} {i : Instr} {len : Nat} {st : List AV} {h : List SC} {n : Nat} {st' : List AV} {h' : List SC} {n' : Nat} (hH : tc_H K i len st h n = some (st', h', n')) : h.length ≤ h'.length ∧ n ≤ n' := by
  unfold tc_H at hH
  split at hH
  all_goals (repeat' split at hH)
  all_goals first
    | (cases hH; exact ⟨Nat.le_refl _, Nat.le_refl _⟩)
    | (cases hH; exact ⟨by rw [List.length_set]; exact Nat.le_refl _, Nat.le_refl _⟩)
    | (cases hH; exact ⟨by rw [List.length_append]; exact Nat.le_add_right _ _, Nat.le_add_right _ _⟩)
    | (cases hH; done)
    | (obtain ⟨sx, hsx, hq⟩ := Option.map_eq_some_iff.mp hH
       cases hq
       exact ⟨Nat.le_refl _, Nat.le_refl _⟩)
    | (obtain ⟨sx, hsx, hq⟩ := Option.map_eq_some_iff.mp hH
       cases hq
       unfold tc_acopy at hsx
       split at hsx
       · split at hsx
         · split at hsx
           · cases hsx
             exact ⟨by rw [List.length_set]; exact Nat.le_refl _, Nat.le_refl _⟩
           · cases hsx
         · cases hsx
       · cases hsx)
theorem tc_mono : ∀ (f K pc : Nat) (ls st : List AV) (h : List SC) (n : Nat) (r : Option AV) (h' : List SC) (n' : Nat), tc_run f K pc ls st h n = some (r, h', n') → h.length ≤ h'.length ∧ n ≤ n' := by
  intro f
  induction f with
  | zero => intro K pc ls st h n r h' n' hr; cases hr
  | succ f ih =>
    intro K pc ls st h n r h' n' hr
    unfold tc_run at hr
    split at hr
    · cases hr
    · split at hr
      · cases hr
        exact ⟨Nat.le_refl _, Nat.le_refl _⟩
      · split at hr
        · split at hr
          · split at hr
            · rename_i r1 h1 n1 hr1
              have a1 := ih _ _ _ _ _ _ _ _ _ hr1
              have a2 := ih _ _ _ _ _ _ _ _ _ hr
              exact ⟨Nat.le_trans a1.1 a2.1, Nat.le_trans a1.2 a2.2⟩
            · cases hr
          · cases hr
        · split at hr
          · exact ih _ _ _ _ _ _ _ _ _ hr
          · split at hr
            · rename_i hH
              have a1 := tc_H_mono hH
              have a2 := ih _ _ _ _ _ _ _ _ _ hr
              exact ⟨Nat.le_trans a1.1 a2.1, Nat.le_trans a1.2 a2.2⟩
            · cases hr
theorem tc_ret_len {K : Nat} {i : Instr} {len : Nat} {st : List AV} {r : Option AV} (h : tc_ret K i len st = some r) : len = 1 := by
  unfold tc_ret at h
  split at h <;> first | rfl | cases h

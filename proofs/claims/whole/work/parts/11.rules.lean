/-! the small machine, goal first: each place of a method is rewritten to the next -/
theorem tc_run_more : ∀ (f K pc : Nat) (ls st : List AV) (h : List SC) (n : Nat) (x : Option AV × List SC × Nat), tc_run f K pc ls st h n = some x → tc_run (f + 1) K pc ls st h n = some x := by
  intro f
  induction f with
  | zero => intro K pc ls st h n x hr; cases hr
  | succ f ih =>
    intro K pc ls st h n x hr
    unfold tc_run at hr
    unfold tc_run
    cases hd : decode (tc_b K) pc with
    | error q => rw [hd] at hr; cases hr
    | ok q =>
      obtain ⟨i, len⟩ := q
      rw [hd] at hr
      simp only at hr ⊢
      cases h1 : tc_ret K i len st with
      | some r => rw [h1] at hr; exact hr
      | none =>
        rw [h1] at hr
        simp only at hr ⊢
        cases h2 : tc_call K i len st h with
        | some q =>
          obtain ⟨K', as, rest⟩ := q
          rw [h2] at hr
          simp only at hr ⊢
          split at hr
          · rename_i hc
            rw [if_pos hc]
            cases h3 : tc_run f K' 0 (tc_ent K' as) [] h n with
            | none => rw [h3] at hr; cases hr
            | some q =>
              rw [h3] at hr
              rw [ih _ _ _ _ _ _ _ h3]
              exact ih _ _ _ _ _ _ _ hr
          · cases hr
        | none =>
          rw [h2] at hr
          simp only at hr ⊢
          cases h3 : tc_A i len pc ls st with
          | some q => rw [h3] at hr; exact ih _ _ _ _ _ _ _ hr
          | none =>
            rw [h3] at hr
            simp only at hr ⊢
            cases h4 : tc_H K i len st h n with
            | some q => rw [h4] at hr; exact ih _ _ _ _ _ _ _ hr
            | none => rw [h4] at hr; cases hr
theorem tc_run_le {f g K pc : Nat} {ls st : List AV} {h : List SC} {n : Nat} {x : Option AV × List SC × Nat} (hfg : f ≤ g) (hr : tc_run f K pc ls st h n = some x) : tc_run g K pc ls st h n = some x := by
  induction hfg with
  | refl => exact hr
  | step _ ih => exact tc_run_more _ _ _ _ _ _ _ _ ih
/-- a call, not yet gone into -/
def tc_C (K : Nat) (as : List AV) (h : List SC) (n : Nat) (Q : Option AV → List SC → Nat → Prop) : Prop := tc_W K 0 (tc_ent K as) [] h n Q
section EQ
variable {K pc pc' len n n' : Nat} {ls ls' st st' : List AV} {h h' : List SC} {Q : Option AV → List SC → Nat → Prop} {i : Instr}
theorem tc_eR {r : Option AV} (hd : decode (tc_b K) pc = .ok (i, len)) (h1 : tc_ret K i len st = some r) : tc_W K pc ls st h n Q = Q r h n := by
  apply propext
  constructor
  · rintro ⟨f, r', h', n', hr, hq⟩
    cases f with
    | zero => cases hr
    | succ f =>
      unfold tc_run at hr
      rw [hd] at hr
      simp only [h1] at hr
      cases hr
      exact hq
  · intro hq
    refine ⟨1, r, h, n, ?_, hq⟩
    unfold tc_run
    rw [hd]
    simp only [h1]
theorem tc_eA (hd : decode (tc_b K) pc = .ok (i, len)) (h1 : tc_ret K i len st = none) (h2 : tc_call K i len st h = none) (h3 : tc_A i len pc ls st = some (pc', ls', st')) : tc_W K pc ls st h n Q = tc_W K pc' ls' st' h n Q := by
  apply propext
  constructor
  · rintro ⟨f, r', h', n', hr, hq⟩
    cases f with
    | zero => cases hr
    | succ f =>
      unfold tc_run at hr
      rw [hd] at hr
      simp only [h1, h2, h3] at hr
      exact ⟨f, r', h', n', hr, hq⟩
  · rintro ⟨f, r', h', n', hr, hq⟩
    refine ⟨f + 1, r', h', n', ?_, hq⟩
    unfold tc_run
    rw [hd]
    simp only [h1, h2, h3]
    exact hr
theorem tc_eH (hd : decode (tc_b K) pc = .ok (i, len)) (h1 : tc_ret K i len st = none) (h2 : tc_call K i len st h = none) (h3 : tc_A i len pc ls st = none) (h4 : tc_H K i len st h n = some (st', h', n')) : tc_W K pc ls st h n Q = tc_W K (pc + len) ls st' h' n' Q := by
  apply propext
  constructor
  · rintro ⟨f, r', h', n', hr, hq⟩
    cases f with
    | zero => cases hr
    | succ f =>
      unfold tc_run at hr
      rw [hd] at hr
      simp only [h1, h2, h3, h4] at hr
      exact ⟨f, r', h', n', hr, hq⟩
  · rintro ⟨f, r', h', n', hr, hq⟩
    refine ⟨f + 1, r', h', n', ?_, hq⟩
    unfold tc_run
    rw [hd]
    simp only [h1, h2, h3, h4]
    exact hr
/-- a call's goal -/
theorem tc_eC {K' : Nat} {as rest : List AV} (hd : decode (tc_b K) pc = .ok (i, len)) (h1 : tc_ret K i len st = none) (h2 : tc_call K i len st h = some (K', as, rest)) (hc : tc_fr K' + 1 ≤ tc_fr K ∧ 8 + (tc_ml K' + 11) + tc_lo K' ≤ tc_lo K ∧ tc_ws rest ≤ 8 ∧ (tc_sl as).length ≤ tc_ml K')
    (hk : tc_C K' as h n (fun r h' n' => tc_W K (pc + 3) ls (r.toList ++ rest) h' n' Q)) : tc_W K pc ls st h n Q := by
  obtain ⟨f, r, h1', n1, hr, g, r2, h2', n2, hr2, hq⟩ := hk
  refine ⟨f + g + 1, r2, h2', n2, ?_, hq⟩
  unfold tc_run
  rw [hd]
  simp only [h1, h2]
  rw [if_pos hc, tc_run_le (Nat.le_add_right f g) hr]
  exact tc_run_le (Nat.le_add_left g f) hr2
theorem tc_W.mono {Q' : Option AV → List SC → Nat → Prop} (hw : tc_W K pc ls st h n Q) (hq : ∀ r h n, Q r h n → Q' r h n) : tc_W K pc ls st h n Q' := by
  obtain ⟨f, r, h', n', hr, hq'⟩ := hw
  exact ⟨f, r, h', n', hr, hq r h' n' hq'⟩
end EQ

/-! first-order forms of what reads the heap -/
section FO
variable (K pc : Nat) (ls st : List AV) (h : List SC) (n : Nat) (Q : Option AV → List SC → Nat → Prop)
def tc_gf3 (v : Option AV) : Prop := match v with
  | some v => tc_W K pc ls (v :: st) h n Q
  | none => False
def tc_gf2 (k : Option Nat) (fs : List AV) : Prop := match k with
  | some k => tc_gf3 K pc ls st h n Q fs[k]?
  | none => False
def tc_gf (o idx : Nat) (c : Option SC) : Prop := match c with
  | some (.inr (.inr (.inr q))) => tc_gf2 K pc ls st h n Q (tc_fld o idx q.1) q.2
  | _ => False
def tc_pf2 (a ci : Nat) (fs : List AV) (v : AV) (k : Option Nat) : Prop := match k with
  | some k => if k < fs.length ∧ tc_fit (tc_ty ci k) v = true ∧ tc_may K ci k = true then tc_W K pc ls st (h.set a (.inr (.inr (.inr (ci, fs.set k v))))) n Q else False
  | none => False
def tc_pf (o idx a : Nat) (v : AV) (c : Option SC) : Prop := match c with
  | some (.inr (.inr (.inr q))) => tc_pf2 K pc ls st h n Q a q.1 q.2 v (tc_fld o idx q.1)
  | _ => False
def tc_al (c : Option SC) : Prop := match c with
  | some (.inl q) => if q.1 = 0 ∨ q.1 = 1 ∨ q.1 = 2 ∨ q.1 = 5 then tc_W K pc ls (.inl q.2.length :: st) h n Q else False
  | some (.inr (.inl l)) => tc_W K pc ls (.inl l.length :: st) h n Q
  | some (.inr (.inr (.inl q))) => tc_W K pc ls (.inl q.2.length :: st) h n Q
  | _ => False
def tc_il2 (v : Option Int) : Prop := match v with
  | some v => tc_W K pc ls (.inl v :: st) h n Q
  | none => False
def tc_il (z : Int) (c : Option SC) : Prop := match c with
  | some (.inl q) => if (q.1 = 0 ∨ q.1 = 5) ∧ 0 ≤ z then tc_il2 K pc ls st h n Q q.2[z.toNat]? else False
  | _ => False
def tc_bl (z : Int) (c : Option SC) : Prop := match c with
  | some (.inl q) => if (q.1 = 1 ∨ q.1 = 2) ∧ 0 ≤ z then tc_il2 K pc ls st h n Q q.2[z.toNat]? else False
  | _ => False
def tc_ll2 (v : Option Int) : Prop := match v with
  | some v => tc_W K pc ls (.inr (.inl v) :: st) h n Q
  | none => False
def tc_ll1 (z : Int) (c : Option SC) : Prop := match c with
  | some (.inr (.inl l)) => if 0 ≤ z then tc_ll2 K pc ls st h n Q l[z.toNat]? else False
  | _ => False
def tc_ql2 (v : Option (Option Nat)) : Prop := match v with
  | some v => tc_W K pc ls (.inr (.inr (.inl v)) :: st) h n Q
  | none => False
def tc_ql (z : Int) (c : Option SC) : Prop := match c with
  | some (.inr (.inr (.inl q))) => if 0 ≤ z then tc_ql2 K pc ls st h n Q q.2[z.toNat]? else False
  | _ => False
def tc_ist (a : Nat) (z x : Int) (c : Option SC) : Prop := match c with
  | some (.inl q) => if q.1 = 0 ∧ 0 ≤ z ∧ z.toNat < q.2.length then tc_W K pc ls st (h.set a (.inl (q.1, q.2.set z.toNat x))) n Q else False
  | _ => False
def tc_bst (a : Nat) (z x : Int) (c : Option SC) : Prop := match c with
  | some (.inl q) => if q.1 = 1 ∧ 0 ≤ z ∧ z.toNat < q.2.length then tc_W K pc ls st (h.set a (.inl (q.1, q.2.set z.toNat (i3_b x)))) n Q else if q.1 = 2 ∧ 0 ≤ z ∧ z.toNat < q.2.length ∧ (x = 0 ∨ x = 1) then tc_W K pc ls st (h.set a (.inl (q.1, q.2.set z.toNat x))) n Q else False
  | _ => False
def tc_lst (a : Nat) (z x : Int) (c : Option SC) : Prop := match c with
  | some (.inr (.inl l)) => if 0 ≤ z ∧ z.toNat < l.length then tc_W K pc ls st (h.set a (.inr (.inl (l.set z.toNat x)))) n Q else False
  | _ => False
def tc_qst (a v : Nat) (z : Int) (c d : Option SC) : Prop := match c, d with
  | some (.inr (.inr (.inl q))), some (.inr (.inr (.inr p))) => if q.1 = p.1 ∧ 0 ≤ z ∧ z.toNat < q.2.length then tc_W K pc ls st (h.set a (.inr (.inr (.inl (q.1, q.2.set z.toNat (some v)))))) n Q else False
  | _, _ => False
/-- what goes on behind a call -/
def tc_K (r : Option AV) (h' : List SC) (n' : Nat) : Prop := tc_W K pc ls (r.toList ++ st) h' n' Q
def tc_cV2 (as : List AV) (m : Nat) (K' : Option Nat) : Prop := match K' with
  | some K' => tc_np K' = m ∧ (tc_fr K' + 1 ≤ tc_fr K ∧ 8 + (tc_ml K' + 11) + tc_lo K' ≤ tc_lo K ∧ tc_ws st ≤ 8 ∧ (tc_sl as).length ≤ tc_ml K') ∧ tc_C K' as h n (tc_K K pc ls st Q)
  | none => False
def tc_cV (o idx m : Nat) (as : List AV) (c : Option SC) : Prop := match c with
  | some (.inr (.inr (.inr q))) => tc_cV2 K pc ls st h n Q as m (tc_fV o idx q.1)
  | _ => False
end FO
section FOE
variable {K pc idx len a n : Nat} {ls st : List AV} {h : List SC} {Q : Option AV → List SC → Nat → Prop} {i : Instr}
theorem tc_eN (hd : decode (tc_b K) pc = .ok (i, len)) (h1 : tc_ret K i len st = none) (h2 : tc_call K i len st h = none) (h3 : tc_A i len pc ls st = none) (h4 : tc_H K i len st h n = none) : tc_W K pc ls st h n Q = False := by
  apply propext
  constructor
  · rintro ⟨f, r', h', n', hr, hq⟩
    cases f with
    | zero => cases hr
    | succ f =>
      unfold tc_run at hr
      rw [hd] at hr
      simp only [h1, h2, h3, h4] at hr
      cases hr
  · exact False.elim
/-- a call, both ways -/
theorem tc_eCi {K' : Nat} {as rest : List AV} (hd : decode (tc_b K) pc = .ok (i, len)) (h1 : tc_ret K i len st = none) (h2 : tc_call K i len st h = some (K', as, rest)) : tc_W K pc ls st h n Q = ((tc_fr K' + 1 ≤ tc_fr K ∧ 8 + (tc_ml K' + 11) + tc_lo K' ≤ tc_lo K ∧ tc_ws rest ≤ 8 ∧ (tc_sl as).length ≤ tc_ml K') ∧ tc_C K' as h n (tc_K K (pc + 3) ls rest Q)) := by
  apply propext
  constructor
  · rintro ⟨f, r', h', n', hr, hq⟩
    cases f with
    | zero => cases hr
    | succ f =>
      unfold tc_run at hr
      rw [hd] at hr
      simp only [h1, h2] at hr
      split at hr
      · rename_i hc
        refine ⟨hc, ?_⟩
        split at hr
        · rename_i r1 h1' n1 hr1
          exact ⟨f, r1, h1', n1, hr1, f, r', h', n', hr, hq⟩
        · cases hr
      · cases hr
  · rintro ⟨hc, hk⟩
    exact tc_eC hd h1 h2 hc hk
theorem tc_gf_eq (hd : decode (tc_b K) pc = .ok (.getfield idx, 3)) : tc_W K pc ls (.inr (.inr (.inl (some a))) :: st) h n Q = tc_gf K (pc + 3) ls st h n Q (tc_o K) idx h[a]? := by
  rcases hc : h[a]? with _ | q | l | q | ⟨ci, fs⟩
  · exact tc_eN hd rfl rfl rfl (by unfold tc_H; simp only [hc])
  · exact tc_eN hd rfl rfl rfl (by unfold tc_H; simp only [hc])
  · exact tc_eN hd rfl rfl rfl (by unfold tc_H; simp only [hc])
  · exact tc_eN hd rfl rfl rfl (by unfold tc_H; simp only [hc])
  · unfold tc_gf
    simp only
    cases hk : tc_fld (tc_o K) idx ci with
    | none => exact tc_eN hd rfl rfl rfl (by unfold tc_H; simp only [hc, hk])
    | some k =>
      show _ = tc_gf3 _ _ _ _ _ _ _ fs[k]?
      cases hv : fs[k]? with
      | none => exact tc_eN hd rfl rfl rfl (by unfold tc_H; simp only [hc, hk, hv])
      | some v => exact tc_eH hd rfl rfl rfl (by unfold tc_H; simp only [hc, hk, hv])
theorem tc_pf_eq {v : AV} (hd : decode (tc_b K) pc = .ok (.putfield idx, 3)) : tc_W K pc ls (v :: .inr (.inr (.inl (some a))) :: st) h n Q = tc_pf K (pc + 3) ls st h n Q (tc_o K) idx a v h[a]? := by
  rcases hc : h[a]? with _ | q | l | q | ⟨ci, fs⟩
  · exact tc_eN hd rfl rfl rfl (by unfold tc_H; simp only [hc])
  · exact tc_eN hd rfl rfl rfl (by unfold tc_H; simp only [hc])
  · exact tc_eN hd rfl rfl rfl (by unfold tc_H; simp only [hc])
  · exact tc_eN hd rfl rfl rfl (by unfold tc_H; simp only [hc])
  · unfold tc_pf
    simp only
    cases hk : tc_fld (tc_o K) idx ci with
    | none => exact tc_eN hd rfl rfl rfl (by unfold tc_H; simp only [hc, hk])
    | some k =>
      unfold tc_pf2
      simp only
      split
      · rename_i hq
        exact tc_eH hd rfl rfl rfl (by unfold tc_H; simp only [hc, hk]; rw [if_pos hq])
      · rename_i hq
        exact tc_eN hd rfl rfl rfl (by unfold tc_H; simp only [hc, hk]; rw [if_neg hq])
theorem tc_al_eq (hd : decode (tc_b K) pc = .ok (.arraylength, 1)) : tc_W K pc ls (.inr (.inr (.inl (some a))) :: st) h n Q = tc_al K (pc + 1) ls st h n Q h[a]? := by
  rcases hc : h[a]? with _ | q | l | q | q
  · exact tc_eN hd rfl rfl rfl (by unfold tc_H; simp only [hc])
  · unfold tc_al
    simp only
    split
    · rename_i hq
      exact tc_eH hd rfl rfl rfl (by unfold tc_H; simp only [hc]; rw [if_pos hq])
    · rename_i hq
      exact tc_eN hd rfl rfl rfl (by unfold tc_H; simp only [hc]; rw [if_neg hq])
  · exact tc_eH hd rfl rfl rfl (by unfold tc_H; simp only [hc])
  · exact tc_eH hd rfl rfl rfl (by unfold tc_H; simp only [hc])
  · exact tc_eN hd rfl rfl rfl (by unfold tc_H; simp only [hc])
theorem tc_il_eq {z : Int} (hd : decode (tc_b K) pc = .ok (.iaload, 1)) : tc_W K pc ls (.inl z :: .inr (.inr (.inl (some a))) :: st) h n Q = tc_il K (pc + 1) ls st h n Q z h[a]? := by
  rcases hc : h[a]? with _ | q | l | q | q
  · exact tc_eN hd rfl rfl rfl (by unfold tc_H; simp only [hc])
  · unfold tc_il
    simp only
    split
    · rename_i hq
      cases hv : q.2[z.toNat]? with
      | none => exact tc_eN hd rfl rfl rfl (by unfold tc_H; simp only [hc, hv]; rw [if_pos hq])
      | some v => exact tc_eH hd rfl rfl rfl (by unfold tc_H; simp only [hc, hv]; rw [if_pos hq])
    · rename_i hq
      exact tc_eN hd rfl rfl rfl (by unfold tc_H; simp only [hc]; rw [if_neg hq])
  · exact tc_eN hd rfl rfl rfl (by unfold tc_H; simp only [hc])
  · exact tc_eN hd rfl rfl rfl (by unfold tc_H; simp only [hc])
  · exact tc_eN hd rfl rfl rfl (by unfold tc_H; simp only [hc])
theorem tc_bl_eq {z : Int} (hd : decode (tc_b K) pc = .ok (.baload, 1)) : tc_W K pc ls (.inl z :: .inr (.inr (.inl (some a))) :: st) h n Q = tc_bl K (pc + 1) ls st h n Q z h[a]? := by
  rcases hc : h[a]? with _ | q | l | q | q
  · exact tc_eN hd rfl rfl rfl (by unfold tc_H; simp only [hc])
  · unfold tc_bl
    simp only
    split
    · rename_i hq
      cases hv : q.2[z.toNat]? with
      | none => exact tc_eN hd rfl rfl rfl (by unfold tc_H; simp only [hc, hv]; rw [if_pos hq])
      | some v => exact tc_eH hd rfl rfl rfl (by unfold tc_H; simp only [hc, hv]; rw [if_pos hq])
    · rename_i hq
      exact tc_eN hd rfl rfl rfl (by unfold tc_H; simp only [hc]; rw [if_neg hq])
  · exact tc_eN hd rfl rfl rfl (by unfold tc_H; simp only [hc])
  · exact tc_eN hd rfl rfl rfl (by unfold tc_H; simp only [hc])
  · exact tc_eN hd rfl rfl rfl (by unfold tc_H; simp only [hc])
theorem tc_ll_eq {z : Int} (hd : decode (tc_b K) pc = .ok (.laload, 1)) : tc_W K pc ls (.inl z :: .inr (.inr (.inl (some a))) :: st) h n Q = tc_ll1 K (pc + 1) ls st h n Q z h[a]? := by
  rcases hc : h[a]? with _ | q | l | q | q
  · exact tc_eN hd rfl rfl rfl (by unfold tc_H; simp only [hc])
  · exact tc_eN hd rfl rfl rfl (by unfold tc_H; simp only [hc])
  · unfold tc_ll1
    simp only
    split
    · rename_i hq
      cases hv : l[z.toNat]? with
      | none => exact tc_eN hd rfl rfl rfl (by unfold tc_H; simp only [hc, hv]; rw [if_pos hq])
      | some v => exact tc_eH hd rfl rfl rfl (by unfold tc_H; simp only [hc, hv]; rw [if_pos hq])
    · rename_i hq
      exact tc_eN hd rfl rfl rfl (by unfold tc_H; simp only [hc]; rw [if_neg hq])
  · exact tc_eN hd rfl rfl rfl (by unfold tc_H; simp only [hc])
  · exact tc_eN hd rfl rfl rfl (by unfold tc_H; simp only [hc])
theorem tc_ql_eq {z : Int} (hd : decode (tc_b K) pc = .ok (.aaload, 1)) : tc_W K pc ls (.inl z :: .inr (.inr (.inl (some a))) :: st) h n Q = tc_ql K (pc + 1) ls st h n Q z h[a]? := by
  rcases hc : h[a]? with _ | q | l | q | q
  · exact tc_eN hd rfl rfl rfl (by unfold tc_H; simp only [hc])
  · exact tc_eN hd rfl rfl rfl (by unfold tc_H; simp only [hc])
  · exact tc_eN hd rfl rfl rfl (by unfold tc_H; simp only [hc])
  · unfold tc_ql
    simp only
    split
    · rename_i hq
      cases hv : q.2[z.toNat]? with
      | none => exact tc_eN hd rfl rfl rfl (by unfold tc_H; simp only [hc, hv]; rw [if_pos hq])
      | some v => exact tc_eH hd rfl rfl rfl (by unfold tc_H; simp only [hc, hv]; rw [if_pos hq])
    · rename_i hq
      exact tc_eN hd rfl rfl rfl (by unfold tc_H; simp only [hc]; rw [if_neg hq])
  · exact tc_eN hd rfl rfl rfl (by unfold tc_H; simp only [hc])
theorem tc_is_eq {x z : Int} (hd : decode (tc_b K) pc = .ok (.iastore, 1)) : tc_W K pc ls (.inl x :: .inl z :: .inr (.inr (.inl (some a))) :: st) h n Q = tc_ist K (pc + 1) ls st h n Q a z x h[a]? := by
  rcases hc : h[a]? with _ | q | l | q | q
  · exact tc_eN hd rfl rfl rfl (by unfold tc_H; simp only [hc])
  · unfold tc_ist
    simp only
    split
    · rename_i hq
      exact tc_eH hd rfl rfl rfl (by unfold tc_H; simp only [hc]; rw [if_pos hq])
    · rename_i hq
      exact tc_eN hd rfl rfl rfl (by unfold tc_H; simp only [hc]; rw [if_neg hq])
  · exact tc_eN hd rfl rfl rfl (by unfold tc_H; simp only [hc])
  · exact tc_eN hd rfl rfl rfl (by unfold tc_H; simp only [hc])
  · exact tc_eN hd rfl rfl rfl (by unfold tc_H; simp only [hc])
theorem tc_bs_eq {x z : Int} (hd : decode (tc_b K) pc = .ok (.bastore, 1)) : tc_W K pc ls (.inl x :: .inl z :: .inr (.inr (.inl (some a))) :: st) h n Q = tc_bst K (pc + 1) ls st h n Q a z x h[a]? := by
  rcases hc : h[a]? with _ | q | l | q | q
  · exact tc_eN hd rfl rfl rfl (by unfold tc_H; simp only [hc])
  · unfold tc_bst
    simp only
    split
    · rename_i hq
      exact tc_eH hd rfl rfl rfl (by unfold tc_H; simp only [hc]; rw [if_pos hq])
    · rename_i hq
      split
      · rename_i hq2
        exact tc_eH hd rfl rfl rfl (by unfold tc_H; simp only [hc]; rw [if_neg hq, if_pos hq2])
      · rename_i hq2
        exact tc_eN hd rfl rfl rfl (by unfold tc_H; simp only [hc]; rw [if_neg hq, if_neg hq2])
  · exact tc_eN hd rfl rfl rfl (by unfold tc_H; simp only [hc])
  · exact tc_eN hd rfl rfl rfl (by unfold tc_H; simp only [hc])
  · exact tc_eN hd rfl rfl rfl (by unfold tc_H; simp only [hc])
theorem tc_ls_eq {x z : Int} (hd : decode (tc_b K) pc = .ok (.lastore, 1)) : tc_W K pc ls (.inr (.inl x) :: .inl z :: .inr (.inr (.inl (some a))) :: st) h n Q = tc_lst K (pc + 1) ls st h n Q a z x h[a]? := by
  rcases hc : h[a]? with _ | q | l | q | q
  · exact tc_eN hd rfl rfl rfl (by unfold tc_H; simp only [hc])
  · exact tc_eN hd rfl rfl rfl (by unfold tc_H; simp only [hc])
  · unfold tc_lst
    simp only
    split
    · rename_i hq
      exact tc_eH hd rfl rfl rfl (by unfold tc_H; simp only [hc]; rw [if_pos hq])
    · rename_i hq
      exact tc_eN hd rfl rfl rfl (by unfold tc_H; simp only [hc]; rw [if_neg hq])
  · exact tc_eN hd rfl rfl rfl (by unfold tc_H; simp only [hc])
  · exact tc_eN hd rfl rfl rfl (by unfold tc_H; simp only [hc])
/-- a jump -/
theorem tc_eJ {b : Bool} {P : Prop} [Decidable P] {off : Int} {t : Nat} {ls' st' : List AV} (hd : decode (tc_b K) pc = .ok (i, 3)) (h1 : tc_ret K i 3 st = none) (h2 : tc_call K i 3 st h = none) (h3 : tc_A i 3 pc ls st = tc_j pc off b ls' st') (hb : b = decide P) (ht : (0 ≤ (pc : Int) + off ∧ ((pc : Int) + off).toNat = t)) : tc_W K pc ls st h n Q = if P then tc_W K t ls' st' h n Q else tc_W K (pc + 3) ls' st' h n Q := by
  subst hb
  have h4 : tc_A i 3 pc ls st = some (if P then t else pc + 3, ls', st') := by
    rw [h3]
    unfold tc_j
    rw [if_pos ht.1, ht.2]
    simp only [decide_eq_true_eq]
  rw [tc_eA hd h1 h2 h4]
  split <;> rfl
def tc_isL (v : AV) : Bool := match v with
  | .inr (.inl _) => true
  | _ => false
theorem tc_kill_of {k : Nat} {w : AV} (hj : ls[k]? = some w) (hw : tc_isL w = false) : tc_kill ls (k + 1) = ls := by
  unfold tc_kill
  simp only
  rw [hj]
  rcases w with z | z | r | u
  · rfl
  · cases hw
  · rfl
  · rfl
theorem tc_s1_of {k : Nat} {v : AV} (hk : k < ls.length) (hl : tc_kill ls k = ls) : tc_s1 pc ls k v st = some (pc, ls.set k v, st) := by
  unfold tc_s1
  rw [if_pos hk, hl]
end FOE

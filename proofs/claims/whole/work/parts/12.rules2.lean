section FO2
variable (K pc : Nat) (ls st : List AV) (h : List SC) (n : Nat) (Q : Option AV → List SC → Nat → Prop)
/-- a String's length, and char -/
def tc_sL (c : Option SC) : Prop := match c with
  | some (.inl q) => if q.1 = 9 ∧ tc_ws st ≤ 8 then tc_W K pc ls (.inl q.2.length :: st) h n Q else False
  | _ => False
def tc_sC (z : Int) (c : Option SC) : Prop := match c with
  | some (.inl q) => if (q.1 = 9 ∧ 0 ≤ z) ∧ tc_ws st ≤ 8 then tc_il2 K pc ls st h n Q q.2[z.toNat]? else False
  | _ => False
end FO2
section FOE2
variable {K pc idx len a n : Nat} {ls st : List AV} {h : List SC} {Q : Option AV → List SC → Nat → Prop} {i : Instr}
theorem tc_qs_eq {v : Nat} {z : Int} (hd : decode (tc_b K) pc = .ok (.aastore, 1)) : tc_W K pc ls (.inr (.inr (.inl (some v))) :: .inl z :: .inr (.inr (.inl (some a))) :: st) h n Q = tc_qst K (pc + 1) ls st h n Q a v z h[a]? h[v]? := by
  rcases hc : h[a]? with _ | q | l | q | q <;> rcases hv : h[v]? with _ | q' | l' | q' | q'
  all_goals first
    | exact tc_eN hd rfl rfl rfl (by unfold tc_H; simp only [hc, hv])
    | skip
  unfold tc_qst
  simp only
  split
  · rename_i hq
    exact tc_eH hd rfl rfl rfl (by unfold tc_H; simp only [hc, hv]; rw [if_pos hq])
  · rename_i hq
    exact tc_eN hd rfl rfl rfl (by unfold tc_H; simp only [hc, hv]; rw [if_neg hq])
theorem tc_na_eq {t : ArrayType} {z : Int} {c : SC} (hz : 0 ≤ z ∧ z ≤ 100000) (hc : tc_blank t z.toNat = some c) (hd : decode (tc_b K) pc = .ok (.newarray t, 2)) : tc_W K pc ls (.inl z :: st) h n Q = tc_W K (pc + 2) ls (.inr (.inr (.inl (some h.length))) :: st) (h ++ [c]) (n + z.toNat) Q :=
  tc_eH hd rfl rfl rfl (by unfold tc_H; simp only [hc]; rw [if_pos hz])
theorem tc_nq_eq {z : Int} {x : Nat × Nat × Nat × Nat} (hz : 0 ≤ z ∧ z ≤ 100000) (hf : (tc_tA.find? fun e => e.1 == tc_o K && e.2.1 == idx) = some x) (hd : decode (tc_b K) pc = .ok (.anewarray idx, 3)) : tc_W K pc ls (.inl z :: st) h n Q = tc_W K (pc + 3) ls (.inr (.inr (.inl (some h.length))) :: st) (h ++ [.inr (.inr (.inl (x.2.2.1, List.replicate z.toNat none)))]) (n + z.toNat) Q :=
  tc_eH hd rfl rfl rfl (by unfold tc_H; simp only [hf]; rw [if_pos hz])
theorem tc_nw_eq {x : Nat × Nat × Nat × Nat} (hf : (tc_tN.find? fun e => e.1 == tc_o K && e.2.1 == idx) = some x) (hd : decode (tc_b K) pc = .ok (.new idx, 3)) : tc_W K pc ls st h n Q = tc_W K (pc + 3) ls (.inr (.inr (.inl (some h.length))) :: st) (h ++ [.inr (.inr (.inr (x.2.2.1, (tc_tyl.getD x.2.2.1 []).map tc_dv)))]) (n + tc_N x.2.2.1) Q :=
  tc_eH hd rfl rfl rfl (by unfold tc_H; simp only [hf])
theorem tc_oi_eq {x : Nat × Nat × Nat} (hI : tc_fI (tc_o K) idx = none) (hf : (tc_tO.find? fun e => e.1 == tc_o K && e.2.1 == idx) = some x) (hk : 1 ≤ tc_fr K ∧ 20 ≤ tc_lo K) (hd : decode (tc_b K) pc = .ok (.invokespecial idx, 3)) (hs : tc_ws st ≤ 8) : tc_W K pc ls (.inr (.inr (.inl (some a))) :: st) h n Q = tc_W K (pc + 3) ls st h n Q :=
  tc_eH hd rfl (by unfold tc_call; simp only [hI]) rfl (by unfold tc_H; simp only [hf]; rw [if_pos ⟨hk.1, by omega⟩])
theorem tc_ci_eq {x : Nat × Nat × Int × Nat} (hf : (tc_tCI.find? fun e => e.1 == tc_o K && e.2.1 == idx) = some x) (hd : decode (tc_b K) pc = .ok (.ldc idx, 2)) : tc_W K pc ls st h n Q = tc_W K (pc + 2) ls (.inl x.2.2.1 :: st) h n Q :=
  tc_eH hd rfl rfl rfl (by unfold tc_H; simp only [hf])
theorem tc_cs_eq {x : Nat × Nat × Nat} (h1 : (tc_tCI.find? fun e => e.1 == tc_o K && e.2.1 == idx) = none) (hf : (tc_tCS.find? fun e => e.1 == tc_o K && e.2.1 == idx) = some x) (hd : decode (tc_b K) pc = .ok (.ldc idx, 2)) : tc_W K pc ls st h n Q = tc_W K (pc + 2) ls (.inr (.inr (.inl (some x.2.2))) :: st) h n Q :=
  tc_eH hd rfl rfl rfl (by unfold tc_H; simp only [h1, hf])
theorem tc_cw_eq {x : Nat × Nat × Int × Nat} (hf : (tc_tCI.find? fun e => e.1 == tc_o K && e.2.1 == idx) = some x) (hd : decode (tc_b K) pc = .ok (.ldc_w idx, 3)) : tc_W K pc ls st h n Q = tc_W K (pc + 3) ls (.inl x.2.2.1 :: st) h n Q :=
  tc_eH hd rfl rfl rfl (by unfold tc_H; simp only [hf])
theorem tc_cx_eq {x : Nat × Nat × Nat} (h1 : (tc_tCI.find? fun e => e.1 == tc_o K && e.2.1 == idx) = none) (hf : (tc_tCS.find? fun e => e.1 == tc_o K && e.2.1 == idx) = some x) (hd : decode (tc_b K) pc = .ok (.ldc_w idx, 3)) : tc_W K pc ls st h n Q = tc_W K (pc + 3) ls (.inr (.inr (.inl (some x.2.2))) :: st) h n Q :=
  tc_eH hd rfl rfl rfl (by unfold tc_H; simp only [h1, hf])
theorem tc_cl_eq {x : Nat × Nat × Int × Nat} (hf : (tc_tCL.find? fun e => e.1 == tc_o K && e.2.1 == idx) = some x) (hd : decode (tc_b K) pc = .ok (.ldc2_w idx, 3)) : tc_W K pc ls st h n Q = tc_W K (pc + 3) ls (.inr (.inl x.2.2.1) :: st) h n Q :=
  tc_eH hd rfl rfl rfl (by unfold tc_H; simp only [hf])
theorem tc_mi_eq {x : Nat × Nat × Nat × Nat} {st' : List AV} (hS : tc_fS (tc_o K) idx = none) (hf : (tc_tM.find? fun e => e.1 == tc_o K && e.2.1 == idx) = some x) (hk : 1 ≤ tc_fr K ∧ 23 ≤ tc_lo K) (hd : decode (tc_b K) pc = .ok (.invokestatic idx, 3)) (hm : tc_math x.2.2.1 st = some st') (hs : tc_ws (st.drop 2) ≤ 8) : tc_W K pc ls st h n Q = tc_W K (pc + 3) ls st' h n Q :=
  tc_eH hd rfl (by unfold tc_call; simp only [hS]) rfl (by unfold tc_H; simp only [hf]; rw [if_pos ⟨hk.1, hk.2, hs⟩, hm]; rfl)
theorem tc_ac_eq {x : Nat × Nat × Nat} {q : List AV × List SC} (hS : tc_fS (tc_o K) idx = none) (h1 : (tc_tM.find? fun e => e.1 == tc_o K && e.2.1 == idx) = none) (hf : (tc_tAC.find? fun e => e.1 == tc_o K && e.2.1 == idx) = some x) (hk : 1 ≤ tc_fr K ∧ 26 ≤ tc_lo K) (hd : decode (tc_b K) pc = .ok (.invokestatic idx, 3)) (hm : tc_acopy st h = some q) (hs : tc_ws (st.drop 5) ≤ 8) : tc_W K pc ls st h n Q = tc_W K (pc + 3) ls q.1 q.2 n Q :=
  tc_eH hd rfl (by unfold tc_call; simp only [hS]) rfl (by unfold tc_H; simp only [h1, hf]; rw [if_pos ⟨hk.1, hk.2, hs⟩, hm]; rfl)
theorem tc_sL_eq {x : Nat × Nat × Nat} (hV : tc_fVn (tc_o K) idx = none) (hf : (tc_tSL.find? fun e => e.1 == tc_o K && e.2.1 == idx) = some x) (hg : (tc_tCl.find? fun e => e.1 == tc_o K && e.2.1 == idx) = none) (hk : 2 ≤ tc_fr K ∧ 40 ≤ tc_lo K) (hd : decode (tc_b K) pc = .ok (.invokevirtual idx, 3)) : tc_W K pc ls (.inr (.inr (.inl (some a))) :: st) h n Q = tc_sL K (pc + 3) ls st h n Q h[a]? := by
  have hcl : tc_call K (.invokevirtual idx) 3 (.inr (.inr (.inl (some a))) :: st) h = none := by unfold tc_call; simp only [hV]
  rcases hc : h[a]? with _ | ⟨k, q⟩ | l | q | q
  · exact tc_eN hd rfl hcl rfl (by unfold tc_H; simp only [hc])
  · unfold tc_sL
    simp only
    by_cases h9 : k = 9
    · by_cases hs : tc_ws st ≤ 8
      · rw [if_pos ⟨h9, hs⟩]
        exact tc_eH hd rfl hcl rfl (by unfold tc_H; simp only [hc, hf]; rw [if_pos h9, if_pos ⟨hk.1, hk.2, hs⟩])
      · rw [if_neg (fun q => hs q.2)]
        exact tc_eN hd rfl hcl rfl (by unfold tc_H; simp only [hc, hf]; rw [if_pos h9, if_neg (fun q => hs q.2.2)])
    · rw [if_neg (fun q => h9 q.1)]
      exact tc_eN hd rfl hcl rfl (by unfold tc_H; simp only [hc, hg]; rw [if_neg h9]; split <;> rfl)
  · exact tc_eN hd rfl hcl rfl (by unfold tc_H; simp only [hc])
  · exact tc_eN hd rfl hcl rfl (by unfold tc_H; simp only [hc])
  · exact tc_eN hd rfl hcl rfl (by unfold tc_H; simp only [hc])
theorem tc_sC_eq {x : Nat × Nat × Nat} {z : Int} (hV : tc_fVn (tc_o K) idx = none) (hf : (tc_tSC.find? fun e => e.1 == tc_o K && e.2.1 == idx) = some x) (hk : 4 ≤ tc_fr K ∧ 85 ≤ tc_lo K) (hd : decode (tc_b K) pc = .ok (.invokevirtual idx, 3)) : tc_W K pc ls (.inl z :: .inr (.inr (.inl (some a))) :: st) h n Q = tc_sC K (pc + 3) ls st h n Q z h[a]? := by
  have hcl : tc_call K (.invokevirtual idx) 3 (.inl z :: .inr (.inr (.inl (some a))) :: st) h = none := by unfold tc_call; simp only [hV]
  rcases hc : h[a]? with _ | ⟨k, q⟩ | l | q | q
  · exact tc_eN hd rfl hcl rfl (by unfold tc_H; simp only [hc])
  · unfold tc_sC
    simp only
    by_cases h9 : k = 9 ∧ 0 ≤ z
    · by_cases hs : tc_ws st ≤ 8
      · rw [if_pos ⟨h9, hs⟩]
        cases hv : q[z.toNat]? with
        | none => exact tc_eN hd rfl hcl rfl (by unfold tc_H; simp only [hc, hf, hv]; rw [if_pos h9, if_pos ⟨hk.1, hk.2, hs⟩])
        | some v => exact tc_eH hd rfl hcl rfl (by unfold tc_H; simp only [hc, hf, hv]; rw [if_pos h9, if_pos ⟨hk.1, hk.2, hs⟩])
      · rw [if_neg (fun q => hs q.2)]
        exact tc_eN hd rfl hcl rfl (by unfold tc_H; simp only [hc, hf]; rw [if_pos h9, if_neg (fun q => hs q.2.2)])
    · rw [if_neg (fun q => h9 q.1)]
      exact tc_eN hd rfl hcl rfl (by unfold tc_H; simp only [hc]; rw [if_neg h9])
  · exact tc_eN hd rfl hcl rfl (by unfold tc_H; simp only [hc])
  · exact tc_eN hd rfl hcl rfl (by unfold tc_H; simp only [hc])
  · exact tc_eN hd rfl hcl rfl (by unfold tc_H; simp only [hc])
theorem tc_chk_eq {lx : List Int} (hd : decode (tc_b K) pc = .ok (.checkcast 317, 3)) (ho : tc_o K = 16) (hc : h[a]? = some (.inl (0, lx))) : tc_W K pc ls (.inr (.inr (.inl (some a))) :: st) h n Q = tc_W K (pc + 3) ls (.inr (.inr (.inl (some a))) :: st) h n Q :=
  tc_eH hd rfl rfl rfl (by unfold tc_H; simp only [hc]; rw [if_pos ⟨trivial, ho, trivial⟩])
theorem tc_clo_eq {lx : List Int} {x : Nat × Nat × Nat} (hV : tc_fVn (tc_o K) idx = none) (hf : (tc_tCl.find? fun e => e.1 == tc_o K && e.2.1 == idx) = some x) (hk : 1 ≤ tc_fr K ∧ 22 ≤ tc_lo K) (hd : decode (tc_b K) pc = .ok (.invokevirtual idx, 3)) (hc : h[a]? = some (.inl (0, lx))) (hs : tc_ws st ≤ 8) : tc_W K pc ls (.inr (.inr (.inl (some a))) :: st) h n Q = tc_W K (pc + 3) ls (.inr (.inr (.inl (some h.length))) :: st) (h ++ [.inl (0, lx)]) (n + lx.length) Q :=
  tc_eH hd rfl (by unfold tc_call; simp only [hV]) rfl (by unfold tc_H; simp only [hc, hf]; rw [if_neg (by omega), if_pos trivial, if_pos ⟨hk.1, by omega⟩])
/-- calls -/
theorem tc_cS_eq {K' : Nat} {as : List AV} (hS : tc_fS (tc_o K) idx = some K') (hn : tc_np K' = as.length) (hk : tc_fr K' + 1 ≤ tc_fr K ∧ 8 + (tc_ml K' + 11) + tc_lo K' ≤ tc_lo K) (hd : decode (tc_b K) pc = .ok (.invokestatic idx, 3)) : tc_W K pc ls (as.reverse ++ st) h n Q = ((tc_ws st ≤ 8 ∧ (tc_sl as).length ≤ tc_ml K') ∧ tc_C K' as h n (tc_K K (pc + 3) ls st Q)) := by
  rw [tc_eCi (K' := K') (as := as) (rest := st) hd rfl (by
    unfold tc_call
    simp only [hS]
    rw [if_pos (by rw [hn, List.length_append, List.length_reverse]; omega), hn, List.take_left' (List.length_reverse), List.drop_left' (List.length_reverse), List.reverse_reverse])]
  apply propext
  exact ⟨fun q => ⟨⟨q.1.2.2.1, q.1.2.2.2⟩, q.2⟩, fun q => ⟨⟨hk.1, hk.2, q.1.1, q.1.2⟩, q.2⟩⟩
theorem tc_cI_eq {K' : Nat} {as : List AV} (hI : tc_fI (tc_o K) idx = some K') (hn : tc_np K' = as.length) (hk : tc_fr K' + 1 ≤ tc_fr K ∧ 8 + (tc_ml K' + 11) + tc_lo K' ≤ tc_lo K) (hd : decode (tc_b K) pc = .ok (.invokespecial idx, 3)) : tc_W K pc ls (as.reverse ++ .inr (.inr (.inl (some a))) :: st) h n Q = ((tc_ws st ≤ 8 ∧ (tc_sl (.inr (.inr (.inl (some a))) :: as)).length ≤ tc_ml K') ∧ tc_C K' (.inr (.inr (.inl (some a))) :: as) h n (tc_K K (pc + 3) ls st Q)) := by
  rw [tc_eCi (K' := K') (as := .inr (.inr (.inl (some a))) :: as) (rest := st) hd rfl (by
    unfold tc_call
    simp only [hI]
    rw [hn, List.take_left' (List.length_reverse), List.drop_left' (List.length_reverse), List.reverse_reverse])]
  apply propext
  exact ⟨fun q => ⟨⟨q.1.2.2.1, q.1.2.2.2⟩, q.2⟩, fun q => ⟨⟨hk.1, hk.2, q.1.1, q.1.2⟩, q.2⟩⟩
theorem tc_cV_eq {m : Nat} {as : List AV} (hV : tc_fVn (tc_o K) idx = some m) (hn : m = as.length) (hd : decode (tc_b K) pc = .ok (.invokevirtual idx, 3)) (hno : ∀ h n, tc_H K (.invokevirtual idx) 3 (as.reverse ++ .inr (.inr (.inl (some a))) :: st) h n = none) : tc_W K pc ls (as.reverse ++ .inr (.inr (.inl (some a))) :: st) h n Q = tc_cV K (pc + 3) ls st h n Q (tc_o K) idx m (.inr (.inr (.inl (some a))) :: as) h[a]? := by
  subst hn
  have hcl : tc_call K (.invokevirtual idx) 3 (as.reverse ++ .inr (.inr (.inl (some a))) :: st) h = (match h[a]? with
        | some (.inr (.inr (.inr (ci, _)))) => (match tc_fV (tc_o K) idx ci with
          | some K' => if tc_np K' = as.length then some (K', .inr (.inr (.inl (some a))) :: as, st) else none
          | none => none)
        | _ => none) := by
    unfold tc_call
    simp only [hV]
    rw [List.take_left' (List.length_reverse), List.drop_left' (List.length_reverse), List.reverse_reverse]
    rfl
  rcases hc : h[a]? with _ | q | l | q | ⟨ci, fs⟩
  · exact tc_eN hd rfl (by rw [hcl, hc]) rfl (hno h n)
  · exact tc_eN hd rfl (by rw [hcl, hc]) rfl (hno h n)
  · exact tc_eN hd rfl (by rw [hcl, hc]) rfl (hno h n)
  · exact tc_eN hd rfl (by rw [hcl, hc]) rfl (hno h n)
  · unfold tc_cV
    simp only
    cases hk : tc_fV (tc_o K) idx ci with
    | none => exact tc_eN hd rfl (by rw [hcl, hc]; simp only [hk]) rfl (hno h n)
    | some K' =>
      unfold tc_cV2
      simp only
      by_cases hp : tc_np K' = as.length
      · rw [tc_eCi hd rfl (by rw [hcl, hc]; simp only [hk]; rw [if_pos hp])]
        apply propext
        exact ⟨fun q => ⟨hp, q.1, q.2⟩, fun q => ⟨q.2.1, q.2.2⟩⟩
      · rw [tc_eN hd rfl (by rw [hcl, hc]; simp only [hk]; rw [if_neg hp]) rfl (hno h n)]
        apply propext
        exact ⟨False.elim, fun q => hp q.1⟩
theorem tc_noH (h1 : (tc_tSL.find? fun e => e.1 == tc_o K && e.2.1 == idx) = none) (h2 : (tc_tSC.find? fun e => e.1 == tc_o K && e.2.1 == idx) = none) (h3 : (tc_tCl.find? fun e => e.1 == tc_o K && e.2.1 == idx) = none) (st : List AV) : ∀ h n, tc_H K (.invokevirtual idx) 3 st h n = none := by
  intro h n
  rcases st with _ | ⟨v, st⟩
  · rfl
  · rcases v with z | z | r | u
    · rcases st with _ | ⟨w, st⟩
      · rfl
      · rcases w with z | z | r | u
        · rfl
        · rfl
        · cases r with
          | none => rfl
          | some a =>
            unfold tc_H
            simp only [h2]
            repeat' split
            all_goals rfl
        · rfl
    · rfl
    · cases r with
      | none => rfl
      | some a =>
        unfold tc_H
        simp only [h1, h3]
        repeat' split
        all_goals rfl
    · rfl
theorem tc_eG {off : Int} {t : Nat} (hd : decode (tc_b K) pc = .ok (.goto off, 3)) (ht : (0 ≤ (pc : Int) + off ∧ ((pc : Int) + off).toNat = t)) : tc_W K pc ls st h n Q = tc_W K t ls st h n Q :=
  tc_eA hd rfl rfl (by show tc_j pc off true ls st = _; unfold tc_j; rw [if_pos ht.1, ht.2]; rfl)
theorem tc_eJn {b : Bool} {P : Prop} [Decidable P] {off : Int} {t : Nat} {ls' st' : List AV} (hd : decode (tc_b K) pc = .ok (i, 3)) (h1 : tc_ret K i 3 st = none) (h2 : tc_call K i 3 st h = none) (h3 : tc_A i 3 pc ls st = tc_j pc off b ls' st') (hb : b = decide (¬ P)) (ht : (0 ≤ (pc : Int) + off ∧ ((pc : Int) + off).toNat = t)) : tc_W K pc ls st h n Q = if P then tc_W K (pc + 3) ls' st' h n Q else tc_W K t ls' st' h n Q := by
  rw [tc_eJ hd h1 h2 h3 hb ht]
  by_cases hp : P
  · rw [if_pos hp, if_neg (fun q => q hp)]
  · rw [if_neg hp, if_pos hp]
theorem tc_eSi {d lo hi : Int} {offs : Array Int} {z off : Int} {t : Nat} (hd : decode (tc_b K) pc = .ok (.tableswitch d lo hi offs, len)) (h1 : ¬ (z < lo ∨ hi < z)) (h2 : offs[(z - lo).toNat]? = some off) (ht : (0 ≤ (pc : Int) + off ∧ ((pc : Int) + off).toNat = t)) : tc_W K pc ls (.inl z :: st) h n Q = tc_W K t ls st h n Q :=
  tc_eA hd rfl rfl (by show tc_sw pc d lo hi offs z ls st = _; unfold tc_sw; rw [if_neg h1]; simp only [h2]; rw [if_pos ht.1, ht.2])
theorem tc_eSo {d lo hi : Int} {offs : Array Int} {z : Int} {t : Nat} (hd : decode (tc_b K) pc = .ok (.tableswitch d lo hi offs, len)) (ht : (0 ≤ (pc : Int) + d ∧ ((pc : Int) + d).toNat = t)) (h1 : z < lo ∨ hi < z) : tc_W K pc ls (.inl z :: st) h n Q = tc_W K t ls st h n Q :=
  tc_eA hd rfl rfl (by show tc_sw pc d lo hi offs z ls st = _; unfold tc_sw; rw [if_pos h1, if_pos ht.1, ht.2])
theorem tc_eK3 {z w : Int} (hd : decode (tc_b K) pc = .ok (.iconst z, 1)) (hz : (tc_3 z).toInt = w) : tc_W K pc ls st h n Q = tc_W K (pc + 1) ls (.inl w :: st) h n Q :=
  tc_eA hd rfl rfl (by rw [← hz]; rfl)
theorem tc_eKb {z w : Int} (hd : decode (tc_b K) pc = .ok (.bipush z, 2)) (hz : ((Int8.ofInt z).toInt32).toInt = w) : tc_W K pc ls st h n Q = tc_W K (pc + 2) ls (.inl w :: st) h n Q :=
  tc_eA hd rfl rfl (by rw [← hz]; rfl)
theorem tc_eKs {z w : Int} (hd : decode (tc_b K) pc = .ok (.sipush z, 3)) (hz : ((Int16.ofInt z).toInt32).toInt = w) : tc_W K pc ls st h n Q = tc_W K (pc + 3) ls (.inl w :: st) h n Q :=
  tc_eA hd rfl rfl (by rw [← hz]; rfl)
theorem tc_eKl {z : Fin 2} {w : Int} (hd : decode (tc_b K) pc = .ok (.lconst z, 1)) (hz : (Int64.ofNat (z : Nat)).toInt = w) : tc_W K pc ls st h n Q = tc_W K (pc + 1) ls (.inr (.inl w) :: st) h n Q :=
  tc_eA hd rfl rfl (by rw [← hz]; rfl)
theorem tc_eDiv {a b : Int} (hd : decode (tc_b K) pc = .ok (.idiv, 1)) (hb : ¬ b = 0) : tc_W K pc ls (.inl b :: .inl a :: st) h n Q = tc_W K (pc + 1) ls (.inl (i3_div a b) :: st) h n Q :=
  tc_eA hd rfl rfl (if_neg hb)
theorem tc_eRem {a b : Int} (hd : decode (tc_b K) pc = .ok (.irem, 1)) (hb : ¬ b = 0) : tc_W K pc ls (.inl b :: .inl a :: st) h n Q = tc_W K (pc + 1) ls (.inl (i3_rem a b) :: st) h n Q :=
  tc_eA hd rfl rfl (if_neg hb)
theorem tc_eLDiv {a b : Int} (hd : decode (tc_b K) pc = .ok (.ldiv, 1)) (hb : ¬ b = 0) : tc_W K pc ls (.inr (.inl b) :: .inr (.inl a) :: st) h n Q = tc_W K (pc + 1) ls (.inr (.inl (i6_div a b)) :: st) h n Q :=
  tc_eA hd rfl rfl (if_neg hb)
theorem tc_eLRem {a b : Int} (hd : decode (tc_b K) pc = .ok (.lrem, 1)) (hb : ¬ b = 0) : tc_W K pc ls (.inr (.inl b) :: .inr (.inl a) :: st) h n Q = tc_W K (pc + 1) ls (.inr (.inl (i6_rem a b)) :: st) h n Q :=
  tc_eA hd rfl rfl (if_neg hb)
theorem tc_eRb {z : Int} (hd : decode (tc_b K) pc = .ok (.ireturn, 1)) (hr : tc_rt K = some .boolean) (hz : z = 0 ∨ z = 1) : tc_W K pc ls [.inl z] h n Q = Q (some (.inl z)) h n :=
  tc_eR hd (by unfold tc_ret; rw [hr]; simp only; rw [if_pos hz])
theorem tc_eRi {z : Int} (hd : decode (tc_b K) pc = .ok (.ireturn, 1)) (hr : tc_rt K = some .int) : tc_W K pc ls [.inl z] h n Q = Q (some (.inl z)) h n :=
  tc_eR hd (by unfold tc_ret; rw [hr]; rfl)
theorem tc_eRl {z : Int} (hd : decode (tc_b K) pc = .ok (.lreturn, 1)) (hr : tc_rt K = some .long) : tc_W K pc ls [.inr (.inl z)] h n Q = Q (some (.inr (.inl z))) h n :=
  tc_eR hd (by unfold tc_ret; rw [hr]; rfl)
theorem tc_eRo {z : Option Nat} {c : String} (hd : decode (tc_b K) pc = .ok (.areturn, 1)) (hr : tc_rt K = some (.object c)) : tc_W K pc ls [.inr (.inr (.inl z))] h n Q = Q (some (.inr (.inr (.inl z)))) h n :=
  tc_eR hd (by unfold tc_ret; rw [hr]; rfl)
theorem tc_eRa {z : Option Nat} {c : FieldType} (hd : decode (tc_b K) pc = .ok (.areturn, 1)) (hr : tc_rt K = some (.array c)) : tc_W K pc ls [.inr (.inr (.inl z))] h n Q = Q (some (.inr (.inr (.inl z)))) h n :=
  tc_eR hd (by unfold tc_ret; rw [hr]; rfl)
theorem tc_eRv (hd : decode (tc_b K) pc = .ok (.return_, 1)) (hr : tc_rt K = none) : tc_W K pc ls [] h n Q = Q none h n :=
  tc_eR hd (by unfold tc_ret; rw [hr]; rfl)
/-- a virtual call's class is known -/
theorem tc_cV_of {o m ci K' : Nat} {as fs : List AV} (hk : tc_fV o idx ci = some K') (hp : tc_np K' = m ∧ tc_fr K' + 1 ≤ tc_fr K ∧ 8 + (tc_ml K' + 11) + tc_lo K' ≤ tc_lo K) (hs : (tc_sl as).length ≤ tc_ml K') : tc_cV K pc ls st h n Q o idx m as (some (.inr (.inr (.inr (ci, fs))))) = (tc_ws st ≤ 8 ∧ tc_C K' as h n (tc_K K pc ls st Q)) := by
  unfold tc_cV
  simp only
  rw [hk]
  unfold tc_cV2
  simp only
  apply propext
  exact ⟨fun q => ⟨q.2.1.2.2.1, q.2.2⟩, fun q => ⟨hp.1, ⟨hp.2.1, hp.2.2, q.1, hs⟩, q.2⟩⟩
theorem tc_gf_of {o ci k : Nat} {fs : List AV} (hk : tc_fld o idx ci = some k) : tc_gf K pc ls st h n Q o idx (some (.inr (.inr (.inr (ci, fs))))) = tc_gf3 K pc ls st h n Q fs[k]? := by
  unfold tc_gf
  simp only
  rw [hk]
  rfl
theorem tc_pf_of {o ci k : Nat} {fs : List AV} {v : AV} (hk : tc_fld o idx ci = some k) (hm : tc_may K ci k = true) (hf : tc_fit (tc_ty ci k) v = true) : tc_pf K pc ls st h n Q o idx a v (some (.inr (.inr (.inr (ci, fs))))) = (k < fs.length ∧ tc_W K pc ls st (h.set a (.inr (.inr (.inr (ci, fs.set k v))))) n Q) := by
  unfold tc_pf
  simp only
  rw [hk]
  unfold tc_pf2
  simp only
  apply propext
  constructor
  · intro q
    split at q
    · rename_i hc
      exact ⟨hc.1, q⟩
    · exact q.elim
  · intro q
    rw [if_pos ⟨q.1, hf, hm⟩]
    exact q.2
theorem tc_s2_of {k : Nat} {v : AV} (hk : k + 1 < ls.length) (hl : tc_kill ls k = ls) : tc_s2 pc ls k v st = some (pc, (ls.set k v).set (k + 1) tc_nil, st) := by
  unfold tc_s2
  rw [if_pos hk, hl]
theorem tc_acopy_of {m dp sp : Int} {b : Nat} {f g : List Int} (ha : h[a]? = some (.inl (0, g))) (hb : h[b]? = some (.inl (0, f))) (hq : a ≠ b ∧ 0 ≤ m ∧ 0 ≤ dp ∧ 0 ≤ sp ∧ sp.toNat + m.toNat ≤ f.length ∧ dp.toNat + m.toNat ≤ g.length) : tc_acopy (.inl m :: .inl dp :: .inr (.inr (.inl (some a))) :: .inl sp :: .inr (.inr (.inl (some b))) :: st) h = some (st, h.set a (.inl (0, tc_cpy f g sp.toNat dp.toNat m.toNat))) := by
  unfold tc_acopy
  simp only [ha, hb]
  rw [if_pos ⟨trivial, trivial, hq⟩]
theorem tc_may_of {ci k : Nat} (hf : (tc_T ci k).2.2.2 = false) : tc_may K ci k = true := by
  unfold tc_may
  rw [hf]
  rfl
end FOE2

/-! what holds ahead of the first call -/
section INV0
variable {X : Nat} {xs : Int → Int} {sh sh0 : Nat → SH} {c c0 : Nat → Int → Int} {n : Nat}
theorem inv0 (hn : n ≤ 20000) (h25 : sh 25 = (5, X, [])) (hx : c 25 = xs) (hst : STRS sh c) (hN : NEW0 sh c) (hB : BLD 39 sh0 c0 sh c) : INV X xs 0 115 sh c n := by
  obtain ⟨a26, a27, a28, a29, a30, a38, ⟨a42, a43⟩, a44, a48, a49, a56, ⟨a60, a61, a65⟩, a69, ⟨a70, a71, a72, a73⟩, a74, ⟨e1, e3⟩, e27, ⟨e29, e29'⟩, e30, ⟨e38a, e38b, e38c, e38d⟩, e42, e44, ⟨e45, e46, e47⟩⟩ := hN
  obtain ⟨b75, _, bs, bc, b76, ⟨b21, b25, b45⟩, b30⟩ := hB
  have z76 := b76 (by omega)
  have z12 : c 76 12 = -1 := by rw [z76, fu_same]
  have z : ∀ j, ¬ j = 12 → c 76 j = 0 := fun j hj => by rw [z76, fu_ne hj]
  have b30' := b30 (by omega)
  have bz : ∀ a, 76 < a → a < 115 → c a = fun _ => 0 := fun a h1 h2 => by
    have := bc (a - 76) (by omega) (by omega)
    rw [show 76 + (a - 76) = a by omega] at this
    exact this
  have hMS : MS 115 sh := ⟨by omega, fun a h1 h2 => by
    by_cases q : a = 75
    · rw [q, b75, rsN_all]
      rfl
    · have := bs (a - 76) (by omega)
      rw [show 76 + (a - 76) = a by omega] at this
      exact this⟩
  have y0 : bm c 0 0 = 0 := z 0 (by omega)
  have y1 : bm c 0 1 = 0 := z 1 (by omega)
  have y2 : bm c 0 2 = 0 := z 2 (by omega)
  have p0 : pm c 4 0 = 0 := z 8 (by omega)
  have p1 : pm c 4 1 = 0 := z 9 (by omega)
  have hWS : WS (bm c) (pm c) := by
    unfold WS
    rw [y0, y1, y2, p0, p1]
    exact ⟨fun x h1 h2 => by omega, fun x h1 h2 => by omega, fun f h1 h2 => by omega, by omega, by omega, by omega, by omega⟩
  have hSAN : SAN True (bm c) 38 c (pm c) := by
    unfold SAN
    rw [y0, y1, y2, p0, p1]
    exact ⟨fun x h1 h2 => by omega, fun f h1 h2 => by omega, e38a, e38b, e38c, e38d⟩
  have hLGI : LGI c := by
    unfold LGI
    rw [z 10 (by omega)]
    exact ⟨by omega, by omega, fun k h1 h2 => by omega⟩
  refine ⟨0, fun _ => none, 30, fun _ => none, fun _ => none, fun _ => 0, fun _ _ => none, fun _ => c, ⟨by omega, by omega⟩, ⟨h25, hx⟩, ⟨hMS, a26, a27, ⟨none, none, a49⟩, a56, ⟨⟨none, none, a60⟩, a61, a65⟩, ⟨none, none, a69⟩, ⟨none, a70⟩, a71, a72, a73, a74⟩, hst, ⟨⟨by omega, fun j h1 h2 => ?_⟩, ?_, ?_⟩, ⟨a28, e3, b25, by omega, b30', fun r h1 h2 => by omega⟩, ⟨⟨by omega, a29, a38, ⟨by omega, by omega, a42, a43, fun i y _ h => by cases h⟩, a44, a30⟩, Or.inl rfl, fun i j y _ _ h => (by cases h), ⟨?_, ?_, ⟨?_, hLGI, fun k h1 h2 => ?_⟩, ?_, ⟨hWS, hSAN, ?_⟩, fun i hi => ?_, Or.inr ⟨⟨z 0 (by omega), z 1 (by omega), z 2 (by omega), z 3 (by omega)⟩, e30⟩⟩⟩, a48, fun k hk => ⟨fun _ => ⟨?_, fun _ => rfl⟩, fun r h => (by cases h)⟩, ⟨fun k i j y _ _ _ h => (by cases h), fun k k' i j y _ _ _ _ _ h => (by cases h), fun k r i y _ _ h => (by cases h), fun k k' r _ _ h => (by cases h)⟩⟩
  · rw [e27]
    show -128 ≤ (0 : Int) ∧ (0 : Int) ≤ 127
    omega
  · rw [bz 95 (by omega) (by omega), e27]
  · rw [b21, e1]
  · rw [e29, z12]
    omega
  · rw [e29', z 11 (by omega)]
    omega
  · rw [e44, z 10 (by omega)]
  · show c 45 k = c 84 k ∧ c 46 k = c 85 k ∧ c 47 k = c 86 k
    rw [e45, e46, e47, bz 84 (by omega) (by omega), bz 85 (by omega) (by omega), bz 86 (by omega) (by omega)]
    exact ⟨rfl, rfl, rfl⟩
  · rw [e42, b45]
    omega
  · rw [z 8 (by omega)]
    omega
  · rw [b45] at hi
    omega
  · rw [bz 114 (by omega) (by omega)]
end INV0
def shB (X : Nat) (a : Nat) : SH := if a < 25 then (9, (tc_chs.getD a []).length, []) else (5, X, [])
def cB (xs : Int → Int) (a : Nat) : Int → Int := if a < 25 then chs a else xs
theorem h0_hp (xl : List Int) : tc_h0 xl = hp 26 (shB xl.length) (cB (fun k => xl.getD k.toNat 0)) := by
  have hlen : tc_chs.length = 25 := by decide
  apply List.ext_getElem?
  intro j
  unfold tc_h0
  by_cases hj : j < 25
  · rw [List.getElem?_append_left (by rw [List.length_map, hlen]; exact hj), List.getElem?_map, hp_get (by omega)]
    unfold shB cB
    rw [if_pos hj, if_pos hj, List.getElem?_eq_getElem (by omega)]
    have e : tc_chs.getD j [] = tc_chs[j] := by rw [List.getD_eq_getElem?_getD, List.getElem?_eq_getElem (by omega)]; rfl
    have q := al_of (tc_chs[j])
    show some (Sum.inl (9, tc_chs[j])) = some (Sum.inl (9, al (tc_chs.getD j []).length (chs j)))
    unfold chs
    rw [e, ← q]
  · by_cases hk : j = 25
    · rw [List.getElem?_append_right (by rw [List.length_map, hlen]; omega), List.length_map, hlen, hk, hp_get (by omega)]
      have q := al_of xl
      show some (Sum.inl (5, xl)) = some (Sum.inl (5, al xl.length (fun k => xl.getD k.toNat 0)))
      rw [← q]
    · rw [List.getElem?_eq_none (by rw [List.length_append, List.length_map, hlen]; show 25 + 1 ≤ j; omega), List.getElem?_eq_none (by rw [hp_len]; omega)]

/-! pictures: a heap by shapes and by rows of whole numbers -/
def fu (f : Int → Int) (k : Int) (v : Int) : Int → Int := fun j => if j = k then v else f j
def fr (c : Nat → Int → Int) (a : Nat) (f : Int → Int) : Nat → Int → Int := fun b => if b = a then f else c b
def al (n : Nat) (f : Int → Int) : List Int := (List.range n).map fun k : Nat => f (k : Int)
theorem al_len (n : Nat) (f : Int → Int) : (al n f).length = n := by unfold al; rw [List.length_map, List.length_range]
theorem al_nat {n k : Nat} {f : Int → Int} (hk : k < n) : (al n f)[k]? = some (f k) := by unfold al; rw [List.getElem?_map, List.getElem?_range hk]; rfl
theorem al_get {n : Nat} {z : Int} {f : Int → Int} (h0 : 0 ≤ z) (hk : z < n) : (al n f)[z.toNat]? = some (f z) := by
  rw [al_nat (by omega), Int.toNat_of_nonneg h0]
theorem al_ext {n : Nat} {f g : Int → Int} (h : ∀ k : Int, 0 ≤ k → k < n → f k = g k) : al n f = al n g := List.map_congr_left fun k hk => h k (by omega) (by have := List.mem_range.mp hk; omega)
theorem fu_at (f : Int → Int) (k v j : Int) : fu f k v j = if j = k then v else f j := rfl
theorem fr_at (c : Nat → Int → Int) (a b : Nat) (f : Int → Int) : fr c a f b = if b = a then f else c b := rfl
theorem fu_same (f : Int → Int) (k : Int) (v : Int) : fu f k v k = v := if_pos rfl
theorem fu_ne {f : Int → Int} {k j : Int} {v : Int} (h : ¬ j = k) : fu f k v j = f j := if_neg h
theorem fu_fu (f : Int → Int) (k : Int) (v w : Int) : fu (fu f k v) k w = fu f k w := by
  funext j
  unfold fu
  split <;> rfl
theorem fr_same (c : Nat → Int → Int) (a : Nat) (f : Int → Int) : fr c a f a = f := if_pos rfl
theorem fr_ne {c : Nat → Int → Int} {a b : Nat} {f : Int → Int} (h : ¬ b = a) : fr c a f b = c b := if_neg h
theorem fr_fr (c : Nat → Int → Int) (a : Nat) (f g : Int → Int) : fr (fr c a f) a g = fr c a g := by
  funext j
  unfold fr
  split <;> rfl
theorem fr_id (c : Nat → Int → Int) (a : Nat) : fr c a (c a) = c := by
  funext j
  unfold fr
  split
  · rename_i h; rw [h]
  · rfl
theorem fr_cm {c : Nat → Int → Int} {a b : Nat} {f g : Int → Int} (h : ¬ a = b) : fr (fr c a f) b g = fr (fr c b g) a f := by
  funext j
  unfold fr
  by_cases h1 : j = b
  · rw [if_pos h1, if_neg (by omega), if_pos h1]
  · rw [if_neg h1, if_neg h1]
theorem al_setn {n k : Nat} {f : Int → Int} {v : Int} : (al n f).set k v = al n (fu f k v) := by
  apply List.ext_getElem?
  intro j
  by_cases hj : j < n
  · rw [al_nat hj]
    by_cases hk : j = k
    · subst hk
      rw [List.getElem?_set_self (by rw [al_len]; exact hj), fu_same]
    · rw [List.getElem?_set_ne (Ne.symm hk), al_nat hj, fu_ne (by omega)]
  · rw [List.getElem?_eq_none (by rw [List.length_set, al_len]; omega), List.getElem?_eq_none (by rw [al_len]; omega)]
theorem al_set {n : Nat} {z : Int} {f : Int → Int} {v : Int} (h0 : 0 ≤ z) : (al n f).set z.toNat v = al n (fu f z v) := by
  rw [al_setn, Int.toNat_of_nonneg h0]
theorem al_rep (n : Nat) (z : Int) : List.replicate n z = al n (fun _ => z) := by
  apply List.ext_getElem?
  intro j
  by_cases hj : j < n
  · rw [al_nat hj, List.getElem?_replicate, if_pos hj]
  · rw [List.getElem?_eq_none (by rw [List.length_replicate]; omega), List.getElem?_eq_none (by rw [al_len]; omega)]
/-- every list is one by its places -/
theorem al_of (l : List Int) : l = al l.length (fun k => l.getD k.toNat 0) := by
  apply List.ext_getElem?
  intro j
  by_cases hj : j < l.length
  · rw [al_nat hj, Int.toNat_natCast, List.getD_eq_getElem?_getD, List.getElem?_eq_getElem hj]
    rfl
  · rw [List.getElem?_eq_none (by omega), List.getElem?_eq_none (by rw [al_len]; omega)]
/-- a shape: (0 int, 1 byte, 2 boolean, 5 script, 9 String, length), (3 long, length), (4, class, references), (6 object, class, its references in their order) -/
abbrev SH : Type := Nat × (Nat × List (Option Nat))
abbrev rf (a : Nat) : AV := .inr (.inr (.inl (some a)))
def rq (rs : List (Option Nat)) (k : Nat) : AV := .inr (.inr (.inl (rs.getD k none)))
def ob (ci : Nat) (rs : List (Option Nat)) (f : Int → Int) : List AV := match ci with
  | 0 => [rq rs 0, .inl (f 1), .inl (f 2), .inl (f 3), .inl (f 4), rq rs 1, .inl (f 6), .inl (f 7)]
  | 1 => [rq rs 0, rq rs 1, .inl (f 2)]
  | 2 => [rq rs 0, .inl (f 1), .inl (f 2), .inl (f 3), .inl (f 4), rq rs 1, rq rs 2, rq rs 3, .inl (f 8), .inl (f 9), .inl (f 10), .inl (f 11)]
  | 3 => [rq rs 0, rq rs 1, rq rs 2, .inl (f 3)]
  | 4 => [rq rs 0, .inl (f 1)]
  | 5 => [rq rs 0, rq rs 1, rq rs 2, .inl (f 3), .inl (f 4), .inl (f 5), .inl (f 6)]
  | 6 => [rq rs 0, rq rs 1, rq rs 2, rq rs 3, .inl (f 4), .inl (f 5)]
  | 7 => [rq rs 0, rq rs 1, rq rs 2, rq rs 3, rq rs 4, rq rs 5, rq rs 6, rq rs 7]
  | 8 => [.inl (f 0), .inl (f 1), .inl (f 2), .inl (f 3), .inl (f 4), rq rs 0, rq rs 1, rq rs 2, rq rs 3, rq rs 4, rq rs 5, rq rs 6]
  | 9 => [rq rs 0, rq rs 1, rq rs 2, rq rs 3, .inl (f 4), .inl (f 5), .inl (f 6), .inl (f 7), .inl (f 8), .inl (f 9), .inl (f 10)]
  | 10 => [rq rs 0, .inl (f 1), rq rs 1, .inl (f 3), rq rs 2, rq rs 3, rq rs 4, rq rs 5, rq rs 6, rq rs 7, rq rs 8, rq rs 9]
  | 11 => [.inl (f 0), rq rs 0, rq rs 1, rq rs 2, rq rs 3, rq rs 4, rq rs 5, rq rs 6, rq rs 7, rq rs 8, rq rs 9, rq rs 10, rq rs 11, rq rs 12, rq rs 13, rq rs 14, rq rs 15, rq rs 16, rq rs 17, rq rs 18, .inl (f 20), .inl (f 21), .inl (f 22), .inl (f 23), .inl (f 24), .inl (f 25), .inl (f 26), .inl (f 27), .inl (f 28), .inl (f 29), .inl (f 30), rq rs 19, rq rs 20, rq rs 21, rq rs 22, rq rs 23, rq rs 24, rq rs 25, rq rs 26, rq rs 27, rq rs 28, rq rs 29, rq rs 30, rq rs 31, rq rs 32, .inl (f 45), .inl (f 46), .inl (f 47), rq rs 33, rq rs 34, .inl (f 50), .inl (f 51), rq rs 35, rq rs 36, rq rs 37, rq rs 38, .inl (f 56), .inl (f 57)]
  | _ => []
def px (s : SH) (f : Int → Int) : SC := match s.1 with
  | 3 => .inr (.inl (al s.2.1 f))
  | 4 => .inr (.inr (.inl (s.2.1, s.2.2)))
  | 6 => .inr (.inr (.inr (s.2.1, ob s.2.1 s.2.2 f)))
  | k => .inl (k, al s.2.1 f)
def hp (L : Nat) (sh : Nat → SH) (c : Nat → Int → Int) : List SC := (List.range L).map fun a => px (sh a) (c a)
def fs (sh : Nat → SH) (a : Nat) (s : SH) : Nat → SH := fun b => if b = a then s else sh b
theorem fs_at (sh : Nat → SH) (a b : Nat) (s : SH) : fs sh a s b = if b = a then s else sh b := rfl
theorem fs_same (sh : Nat → SH) (a : Nat) (s : SH) : fs sh a s a = s := if_pos rfl
theorem fs_ne {sh : Nat → SH} {a b : Nat} {s : SH} (h : ¬ b = a) : fs sh a s b = sh b := if_neg h
section HP
variable {L n a ci : Nat} {sh : Nat → SH} {c : Nat → Int → Int} {q rs : List (Option Nat)} {f : Int → Int} {s : SH}
theorem hp_len : (hp L sh c).length = L := by unfold hp; rw [List.length_map, List.length_range]
theorem hp_get (ha : a < L) : (hp L sh c)[a]? = some (px (sh a) (c a)) := by unfold hp; rw [List.getElem?_map, List.getElem?_range ha]; rfl
theorem hp_setS : (hp L sh c).set a (px s f) = hp L (fs sh a s) (fr c a f) := by
  apply List.ext_getElem?
  intro j
  by_cases hj : j < L
  · rw [hp_get hj]
    by_cases hk : j = a
    · subst hk
      rw [List.getElem?_set_self (by rw [hp_len]; exact hj), fs_same, fr_same]
    · rw [List.getElem?_set_ne (Ne.symm hk), hp_get hj, fs_ne hk, fr_ne hk]
  · rw [List.getElem?_eq_none (by rw [List.length_set, hp_len]; omega), List.getElem?_eq_none (by rw [hp_len]; omega)]
theorem fs_id : fs sh a (sh a) = sh := by
  funext j
  unfold fs
  split
  · rename_i h; rw [h]
  · rfl
theorem hp_set : (hp L sh c).set a (px (sh a) f) = hp L sh (fr c a f) := by rw [hp_setS, fs_id]
theorem hp_app : hp L sh c ++ [px s f] = hp (L + 1) (fs sh L s) (fr c L f) := by
  apply List.ext_getElem?
  intro j
  by_cases hj : j < L
  · rw [List.getElem?_append_left (by rw [hp_len]; exact hj), hp_get hj, hp_get (by omega), fs_ne (by omega), fr_ne (by omega)]
  · by_cases hk : j = L
    · subst hk
      rw [List.getElem?_append_right (by rw [hp_len]; omega), hp_len, Nat.sub_self, hp_get (by omega), fs_same, fr_same]
      rfl
    · rw [List.getElem?_eq_none (by rw [List.length_append, hp_len]; show L + 1 ≤ j; omega), List.getElem?_eq_none (by rw [hp_len]; omega)]
theorem hI (ha : a < L) (hs : sh a = (0, n, q)) : (hp L sh c)[a]? = some (.inl (0, al n (c a))) := by rw [hp_get ha, hs]; rfl
theorem hB (ha : a < L) (hs : sh a = (1, n, q)) : (hp L sh c)[a]? = some (.inl (1, al n (c a))) := by rw [hp_get ha, hs]; rfl
theorem hZ (ha : a < L) (hs : sh a = (2, n, q)) : (hp L sh c)[a]? = some (.inl (2, al n (c a))) := by rw [hp_get ha, hs]; rfl
theorem hT (ha : a < L) (hs : sh a = (9, n, q)) : (hp L sh c)[a]? = some (.inl (9, al n (c a))) := by rw [hp_get ha, hs]; rfl
theorem hX (ha : a < L) (hs : sh a = (5, n, q)) : (hp L sh c)[a]? = some (.inl (5, al n (c a))) := by rw [hp_get ha, hs]; rfl
theorem hL (ha : a < L) (hs : sh a = (3, n, q)) : (hp L sh c)[a]? = some (.inr (.inl (al n (c a)))) := by rw [hp_get ha, hs]; rfl
theorem hQ (ha : a < L) (hs : sh a = (4, ci, q)) : (hp L sh c)[a]? = some (.inr (.inr (.inl (ci, q)))) := by rw [hp_get ha, hs]; rfl
theorem hO (ha : a < L) (hs : sh a = (6, ci, rs)) : (hp L sh c)[a]? = some (.inr (.inr (.inr (ci, ob ci rs (c a))))) := by rw [hp_get ha, hs]; rfl
theorem hIs (hs : sh a = (0, n, q)) : (hp L sh c).set a (.inl (0, al n f)) = hp L sh (fr c a f) := by rw [← hp_set, hs]; rfl
theorem hBs (hs : sh a = (1, n, q)) : (hp L sh c).set a (.inl (1, al n f)) = hp L sh (fr c a f) := by rw [← hp_set, hs]; rfl
theorem hZs (hs : sh a = (2, n, q)) : (hp L sh c).set a (.inl (2, al n f)) = hp L sh (fr c a f) := by rw [← hp_set, hs]; rfl
theorem hLs (hs : sh a = (3, n, q)) : (hp L sh c).set a (.inr (.inl (al n f))) = hp L sh (fr c a f) := by rw [← hp_set, hs]; rfl
theorem hOs (hs : sh a = (6, ci, rs)) : (hp L sh c).set a (.inr (.inr (.inr (ci, ob ci rs f)))) = hp L sh (fr c a f) := by rw [← hp_set, hs]; rfl
theorem hQr : (hp L sh c).set a (.inr (.inr (.inl (ci, q)))) = hp L (fs sh a (4, ci, q)) (fr c a (c a)) := by rw [← hp_setS]; rfl
theorem hOr : (hp L sh c).set a (.inr (.inr (.inr (ci, ob ci rs f)))) = hp L (fs sh a (6, ci, rs)) (fr c a f) := by rw [← hp_setS]; rfl
end HP
section RD
variable {K pc n a m : Nat} {ls st : List AV} {h : List SC} {Q : Option AV → List SC → Nat → Prop} {z x : Int} {f : Int → Int}
theorem il_s (h0 : 0 ≤ z) (h1 : z < n) : tc_il K pc ls st h m Q z (some (.inl (0, al n f))) = tc_W K pc ls (.inl (f z) :: st) h m Q := by rw [tc_il_s h0, al_get h0 h1]; rfl
theorem il_x (h0 : 0 ≤ z) (h1 : z < n) : tc_il K pc ls st h m Q z (some (.inl (5, al n f))) = tc_W K pc ls (.inl (f z) :: st) h m Q := by rw [tc_il_x h0, al_get h0 h1]; rfl
theorem bl_s (h0 : 0 ≤ z) (h1 : z < n) : tc_bl K pc ls st h m Q z (some (.inl (1, al n f))) = tc_W K pc ls (.inl (f z) :: st) h m Q := by rw [tc_bl_s h0, al_get h0 h1]; rfl
theorem bl_z (h0 : 0 ≤ z) (h1 : z < n) : tc_bl K pc ls st h m Q z (some (.inl (2, al n f))) = tc_W K pc ls (.inl (f z) :: st) h m Q := by rw [tc_bl_z h0, al_get h0 h1]; rfl
theorem ll_s (h0 : 0 ≤ z) (h1 : z < n) : tc_ll1 K pc ls st h m Q z (some (.inr (.inl (al n f)))) = tc_W K pc ls (.inr (.inl (f z)) :: st) h m Q := by rw [tc_ll_s h0, al_get h0 h1]; rfl
theorem is_s (h0 : 0 ≤ z) (h1 : z < n) : tc_ist K pc ls st h m Q a z x (some (.inl (0, al n f))) = tc_W K pc ls st (h.set a (.inl (0, al n (fu f z x)))) m Q := by rw [tc_is_s h0 (by rw [al_len]; omega), al_set h0]
theorem bs_s (h0 : 0 ≤ z) (h1 : z < n) : tc_bst K pc ls st h m Q a z x (some (.inl (1, al n f))) = tc_W K pc ls st (h.set a (.inl (1, al n (fu f z (i3_b x))))) m Q := by rw [tc_bs_s h0 (by rw [al_len]; omega), al_set h0]
theorem bs_z (h0 : 0 ≤ z) (h1 : z < n) (hx : x = 0 ∨ x = 1) : tc_bst K pc ls st h m Q a z x (some (.inl (2, al n f))) = tc_W K pc ls st (h.set a (.inl (2, al n (fu f z x)))) m Q := by
  unfold tc_bst
  simp only
  rw [if_neg (by omega), if_pos ⟨trivial, h0, by rw [al_len]; omega, hx⟩, al_set h0]
theorem ls_s (h0 : 0 ≤ z) (h1 : z < n) : tc_lst K pc ls st h m Q a z x (some (.inr (.inl (al n f)))) = tc_W K pc ls st (h.set a (.inr (.inl (al n (fu f z x))))) m Q := by rw [tc_ls_s h0 (by rw [al_len]; omega), al_set h0]
theorem al_s : tc_al K pc ls st h m Q (some (.inl (0, al n f))) = tc_W K pc ls (.inl (n : Int) :: st) h m Q := by rw [tc_al_i (Or.inl rfl), al_len]
theorem al_b : tc_al K pc ls st h m Q (some (.inl (1, al n f))) = tc_W K pc ls (.inl (n : Int) :: st) h m Q := by rw [tc_al_i (Or.inr (Or.inl rfl)), al_len]
theorem al_x : tc_al K pc ls st h m Q (some (.inl (5, al n f))) = tc_W K pc ls (.inl (n : Int) :: st) h m Q := by rw [tc_al_i (Or.inr (Or.inr (Or.inr rfl))), al_len]
theorem al_l : tc_al K pc ls st h m Q (some (.inr (.inl (al n f)))) = tc_W K pc ls (.inl (n : Int) :: st) h m Q := by unfold tc_al; simp only; rw [al_len]
end RD
theorem o0_g0 {r0 r1 : Option Nat} {f : Int → Int} : (ob 0 [r0, r1] f)[0]? = some (.inr (.inr (.inl r0))) := rfl
theorem o0_s0 {r0 r1 : Option Nat} {r : Option Nat} {f : Int → Int} : (ob 0 [r0, r1] f).set 0 (.inr (.inr (.inl r))) = ob 0 [r, r1] f := rfl
theorem o0_g1 {r0 r1 : Option Nat} {f : Int → Int} : (ob 0 [r0, r1] f)[1]? = some (.inl (f 1)) := rfl
theorem o0_s1 {r0 r1 : Option Nat} {f : Int → Int} {v : Int} : (ob 0 [r0, r1] f).set 1 (.inl v) = ob 0 [r0, r1] (fu f 1 v) := rfl
theorem o0_g2 {r0 r1 : Option Nat} {f : Int → Int} : (ob 0 [r0, r1] f)[2]? = some (.inl (f 2)) := rfl
theorem o0_s2 {r0 r1 : Option Nat} {f : Int → Int} {v : Int} : (ob 0 [r0, r1] f).set 2 (.inl v) = ob 0 [r0, r1] (fu f 2 v) := rfl
theorem o0_g3 {r0 r1 : Option Nat} {f : Int → Int} : (ob 0 [r0, r1] f)[3]? = some (.inl (f 3)) := rfl
theorem o0_s3 {r0 r1 : Option Nat} {f : Int → Int} {v : Int} : (ob 0 [r0, r1] f).set 3 (.inl v) = ob 0 [r0, r1] (fu f 3 v) := rfl
theorem o0_g4 {r0 r1 : Option Nat} {f : Int → Int} : (ob 0 [r0, r1] f)[4]? = some (.inl (f 4)) := rfl
theorem o0_s4 {r0 r1 : Option Nat} {f : Int → Int} {v : Int} : (ob 0 [r0, r1] f).set 4 (.inl v) = ob 0 [r0, r1] (fu f 4 v) := rfl
theorem o0_g5 {r0 r1 : Option Nat} {f : Int → Int} : (ob 0 [r0, r1] f)[5]? = some (.inr (.inr (.inl r1))) := rfl
theorem o0_s5 {r0 r1 : Option Nat} {r : Option Nat} {f : Int → Int} : (ob 0 [r0, r1] f).set 5 (.inr (.inr (.inl r))) = ob 0 [r0, r] f := rfl
theorem o0_g6 {r0 r1 : Option Nat} {f : Int → Int} : (ob 0 [r0, r1] f)[6]? = some (.inl (f 6)) := rfl
theorem o0_s6 {r0 r1 : Option Nat} {f : Int → Int} {v : Int} : (ob 0 [r0, r1] f).set 6 (.inl v) = ob 0 [r0, r1] (fu f 6 v) := rfl
theorem o0_g7 {r0 r1 : Option Nat} {f : Int → Int} : (ob 0 [r0, r1] f)[7]? = some (.inl (f 7)) := rfl
theorem o0_s7 {r0 r1 : Option Nat} {f : Int → Int} {v : Int} : (ob 0 [r0, r1] f).set 7 (.inl v) = ob 0 [r0, r1] (fu f 7 v) := rfl
theorem o0_len {r0 r1 : Option Nat} {f : Int → Int} : (ob 0 [r0, r1] f).length = 8 := rfl
theorem o0_new : ([.inr (.inr (.inl none)), .inl 0, .inl 0, .inl 0, .inl 0, .inr (.inr (.inl none)), .inl 0, .inl 0] : List AV) = ob 0 [none, none] (fun _ => 0) := rfl
theorem o1_g0 {r0 r1 : Option Nat} {f : Int → Int} : (ob 1 [r0, r1] f)[0]? = some (.inr (.inr (.inl r0))) := rfl
theorem o1_s0 {r0 r1 : Option Nat} {r : Option Nat} {f : Int → Int} : (ob 1 [r0, r1] f).set 0 (.inr (.inr (.inl r))) = ob 1 [r, r1] f := rfl
theorem o1_g1 {r0 r1 : Option Nat} {f : Int → Int} : (ob 1 [r0, r1] f)[1]? = some (.inr (.inr (.inl r1))) := rfl
theorem o1_s1 {r0 r1 : Option Nat} {r : Option Nat} {f : Int → Int} : (ob 1 [r0, r1] f).set 1 (.inr (.inr (.inl r))) = ob 1 [r0, r] f := rfl
theorem o1_g2 {r0 r1 : Option Nat} {f : Int → Int} : (ob 1 [r0, r1] f)[2]? = some (.inl (f 2)) := rfl
theorem o1_s2 {r0 r1 : Option Nat} {f : Int → Int} {v : Int} : (ob 1 [r0, r1] f).set 2 (.inl v) = ob 1 [r0, r1] (fu f 2 v) := rfl
theorem o1_len {r0 r1 : Option Nat} {f : Int → Int} : (ob 1 [r0, r1] f).length = 3 := rfl
theorem o1_new : ([.inr (.inr (.inl none)), .inr (.inr (.inl none)), .inl 0] : List AV) = ob 1 [none, none] (fun _ => 0) := rfl
theorem o2_g0 {r0 r1 r2 r3 : Option Nat} {f : Int → Int} : (ob 2 [r0, r1, r2, r3] f)[0]? = some (.inr (.inr (.inl r0))) := rfl
theorem o2_s0 {r0 r1 r2 r3 : Option Nat} {r : Option Nat} {f : Int → Int} : (ob 2 [r0, r1, r2, r3] f).set 0 (.inr (.inr (.inl r))) = ob 2 [r, r1, r2, r3] f := rfl
theorem o2_g1 {r0 r1 r2 r3 : Option Nat} {f : Int → Int} : (ob 2 [r0, r1, r2, r3] f)[1]? = some (.inl (f 1)) := rfl
theorem o2_s1 {r0 r1 r2 r3 : Option Nat} {f : Int → Int} {v : Int} : (ob 2 [r0, r1, r2, r3] f).set 1 (.inl v) = ob 2 [r0, r1, r2, r3] (fu f 1 v) := rfl
theorem o2_g2 {r0 r1 r2 r3 : Option Nat} {f : Int → Int} : (ob 2 [r0, r1, r2, r3] f)[2]? = some (.inl (f 2)) := rfl
theorem o2_s2 {r0 r1 r2 r3 : Option Nat} {f : Int → Int} {v : Int} : (ob 2 [r0, r1, r2, r3] f).set 2 (.inl v) = ob 2 [r0, r1, r2, r3] (fu f 2 v) := rfl
theorem o2_g3 {r0 r1 r2 r3 : Option Nat} {f : Int → Int} : (ob 2 [r0, r1, r2, r3] f)[3]? = some (.inl (f 3)) := rfl
theorem o2_s3 {r0 r1 r2 r3 : Option Nat} {f : Int → Int} {v : Int} : (ob 2 [r0, r1, r2, r3] f).set 3 (.inl v) = ob 2 [r0, r1, r2, r3] (fu f 3 v) := rfl
theorem o2_g4 {r0 r1 r2 r3 : Option Nat} {f : Int → Int} : (ob 2 [r0, r1, r2, r3] f)[4]? = some (.inl (f 4)) := rfl
theorem o2_s4 {r0 r1 r2 r3 : Option Nat} {f : Int → Int} {v : Int} : (ob 2 [r0, r1, r2, r3] f).set 4 (.inl v) = ob 2 [r0, r1, r2, r3] (fu f 4 v) := rfl
theorem o2_g5 {r0 r1 r2 r3 : Option Nat} {f : Int → Int} : (ob 2 [r0, r1, r2, r3] f)[5]? = some (.inr (.inr (.inl r1))) := rfl
theorem o2_s5 {r0 r1 r2 r3 : Option Nat} {r : Option Nat} {f : Int → Int} : (ob 2 [r0, r1, r2, r3] f).set 5 (.inr (.inr (.inl r))) = ob 2 [r0, r, r2, r3] f := rfl
theorem o2_g6 {r0 r1 r2 r3 : Option Nat} {f : Int → Int} : (ob 2 [r0, r1, r2, r3] f)[6]? = some (.inr (.inr (.inl r2))) := rfl
theorem o2_s6 {r0 r1 r2 r3 : Option Nat} {r : Option Nat} {f : Int → Int} : (ob 2 [r0, r1, r2, r3] f).set 6 (.inr (.inr (.inl r))) = ob 2 [r0, r1, r, r3] f := rfl
theorem o2_g7 {r0 r1 r2 r3 : Option Nat} {f : Int → Int} : (ob 2 [r0, r1, r2, r3] f)[7]? = some (.inr (.inr (.inl r3))) := rfl
theorem o2_s7 {r0 r1 r2 r3 : Option Nat} {r : Option Nat} {f : Int → Int} : (ob 2 [r0, r1, r2, r3] f).set 7 (.inr (.inr (.inl r))) = ob 2 [r0, r1, r2, r] f := rfl
theorem o2_g8 {r0 r1 r2 r3 : Option Nat} {f : Int → Int} : (ob 2 [r0, r1, r2, r3] f)[8]? = some (.inl (f 8)) := rfl
theorem o2_s8 {r0 r1 r2 r3 : Option Nat} {f : Int → Int} {v : Int} : (ob 2 [r0, r1, r2, r3] f).set 8 (.inl v) = ob 2 [r0, r1, r2, r3] (fu f 8 v) := rfl
theorem o2_g9 {r0 r1 r2 r3 : Option Nat} {f : Int → Int} : (ob 2 [r0, r1, r2, r3] f)[9]? = some (.inl (f 9)) := rfl
theorem o2_s9 {r0 r1 r2 r3 : Option Nat} {f : Int → Int} {v : Int} : (ob 2 [r0, r1, r2, r3] f).set 9 (.inl v) = ob 2 [r0, r1, r2, r3] (fu f 9 v) := rfl
theorem o2_g10 {r0 r1 r2 r3 : Option Nat} {f : Int → Int} : (ob 2 [r0, r1, r2, r3] f)[10]? = some (.inl (f 10)) := rfl
theorem o2_s10 {r0 r1 r2 r3 : Option Nat} {f : Int → Int} {v : Int} : (ob 2 [r0, r1, r2, r3] f).set 10 (.inl v) = ob 2 [r0, r1, r2, r3] (fu f 10 v) := rfl
theorem o2_g11 {r0 r1 r2 r3 : Option Nat} {f : Int → Int} : (ob 2 [r0, r1, r2, r3] f)[11]? = some (.inl (f 11)) := rfl
theorem o2_s11 {r0 r1 r2 r3 : Option Nat} {f : Int → Int} {v : Int} : (ob 2 [r0, r1, r2, r3] f).set 11 (.inl v) = ob 2 [r0, r1, r2, r3] (fu f 11 v) := rfl
theorem o2_len {r0 r1 r2 r3 : Option Nat} {f : Int → Int} : (ob 2 [r0, r1, r2, r3] f).length = 12 := rfl
theorem o2_new : ([.inr (.inr (.inl none)), .inl 0, .inl 0, .inl 0, .inl 0, .inr (.inr (.inl none)), .inr (.inr (.inl none)), .inr (.inr (.inl none)), .inl 0, .inl 0, .inl 0, .inl 0] : List AV) = ob 2 [none, none, none, none] (fun _ => 0) := rfl
theorem o3_g0 {r0 r1 r2 : Option Nat} {f : Int → Int} : (ob 3 [r0, r1, r2] f)[0]? = some (.inr (.inr (.inl r0))) := rfl
theorem o3_s0 {r0 r1 r2 : Option Nat} {r : Option Nat} {f : Int → Int} : (ob 3 [r0, r1, r2] f).set 0 (.inr (.inr (.inl r))) = ob 3 [r, r1, r2] f := rfl
theorem o3_g1 {r0 r1 r2 : Option Nat} {f : Int → Int} : (ob 3 [r0, r1, r2] f)[1]? = some (.inr (.inr (.inl r1))) := rfl
theorem o3_s1 {r0 r1 r2 : Option Nat} {r : Option Nat} {f : Int → Int} : (ob 3 [r0, r1, r2] f).set 1 (.inr (.inr (.inl r))) = ob 3 [r0, r, r2] f := rfl
theorem o3_g2 {r0 r1 r2 : Option Nat} {f : Int → Int} : (ob 3 [r0, r1, r2] f)[2]? = some (.inr (.inr (.inl r2))) := rfl
theorem o3_s2 {r0 r1 r2 : Option Nat} {r : Option Nat} {f : Int → Int} : (ob 3 [r0, r1, r2] f).set 2 (.inr (.inr (.inl r))) = ob 3 [r0, r1, r] f := rfl
theorem o3_g3 {r0 r1 r2 : Option Nat} {f : Int → Int} : (ob 3 [r0, r1, r2] f)[3]? = some (.inl (f 3)) := rfl
theorem o3_s3 {r0 r1 r2 : Option Nat} {f : Int → Int} {v : Int} : (ob 3 [r0, r1, r2] f).set 3 (.inl v) = ob 3 [r0, r1, r2] (fu f 3 v) := rfl
theorem o3_len {r0 r1 r2 : Option Nat} {f : Int → Int} : (ob 3 [r0, r1, r2] f).length = 4 := rfl
theorem o3_new : ([.inr (.inr (.inl none)), .inr (.inr (.inl none)), .inr (.inr (.inl none)), .inl 0] : List AV) = ob 3 [none, none, none] (fun _ => 0) := rfl
theorem o4_g0 {r0 : Option Nat} {f : Int → Int} : (ob 4 [r0] f)[0]? = some (.inr (.inr (.inl r0))) := rfl
theorem o4_s0 {r0 : Option Nat} {r : Option Nat} {f : Int → Int} : (ob 4 [r0] f).set 0 (.inr (.inr (.inl r))) = ob 4 [r] f := rfl
theorem o4_g1 {r0 : Option Nat} {f : Int → Int} : (ob 4 [r0] f)[1]? = some (.inl (f 1)) := rfl
theorem o4_s1 {r0 : Option Nat} {f : Int → Int} {v : Int} : (ob 4 [r0] f).set 1 (.inl v) = ob 4 [r0] (fu f 1 v) := rfl
theorem o4_len {r0 : Option Nat} {f : Int → Int} : (ob 4 [r0] f).length = 2 := rfl
theorem o4_new : ([.inr (.inr (.inl none)), .inl 0] : List AV) = ob 4 [none] (fun _ => 0) := rfl
theorem o5_g0 {r0 r1 r2 : Option Nat} {f : Int → Int} : (ob 5 [r0, r1, r2] f)[0]? = some (.inr (.inr (.inl r0))) := rfl
theorem o5_s0 {r0 r1 r2 : Option Nat} {r : Option Nat} {f : Int → Int} : (ob 5 [r0, r1, r2] f).set 0 (.inr (.inr (.inl r))) = ob 5 [r, r1, r2] f := rfl
theorem o5_g1 {r0 r1 r2 : Option Nat} {f : Int → Int} : (ob 5 [r0, r1, r2] f)[1]? = some (.inr (.inr (.inl r1))) := rfl
theorem o5_s1 {r0 r1 r2 : Option Nat} {r : Option Nat} {f : Int → Int} : (ob 5 [r0, r1, r2] f).set 1 (.inr (.inr (.inl r))) = ob 5 [r0, r, r2] f := rfl
theorem o5_g2 {r0 r1 r2 : Option Nat} {f : Int → Int} : (ob 5 [r0, r1, r2] f)[2]? = some (.inr (.inr (.inl r2))) := rfl
theorem o5_s2 {r0 r1 r2 : Option Nat} {r : Option Nat} {f : Int → Int} : (ob 5 [r0, r1, r2] f).set 2 (.inr (.inr (.inl r))) = ob 5 [r0, r1, r] f := rfl
theorem o5_g3 {r0 r1 r2 : Option Nat} {f : Int → Int} : (ob 5 [r0, r1, r2] f)[3]? = some (.inl (f 3)) := rfl
theorem o5_s3 {r0 r1 r2 : Option Nat} {f : Int → Int} {v : Int} : (ob 5 [r0, r1, r2] f).set 3 (.inl v) = ob 5 [r0, r1, r2] (fu f 3 v) := rfl
theorem o5_g4 {r0 r1 r2 : Option Nat} {f : Int → Int} : (ob 5 [r0, r1, r2] f)[4]? = some (.inl (f 4)) := rfl
theorem o5_s4 {r0 r1 r2 : Option Nat} {f : Int → Int} {v : Int} : (ob 5 [r0, r1, r2] f).set 4 (.inl v) = ob 5 [r0, r1, r2] (fu f 4 v) := rfl
theorem o5_g5 {r0 r1 r2 : Option Nat} {f : Int → Int} : (ob 5 [r0, r1, r2] f)[5]? = some (.inl (f 5)) := rfl
theorem o5_s5 {r0 r1 r2 : Option Nat} {f : Int → Int} {v : Int} : (ob 5 [r0, r1, r2] f).set 5 (.inl v) = ob 5 [r0, r1, r2] (fu f 5 v) := rfl
theorem o5_g6 {r0 r1 r2 : Option Nat} {f : Int → Int} : (ob 5 [r0, r1, r2] f)[6]? = some (.inl (f 6)) := rfl
theorem o5_s6 {r0 r1 r2 : Option Nat} {f : Int → Int} {v : Int} : (ob 5 [r0, r1, r2] f).set 6 (.inl v) = ob 5 [r0, r1, r2] (fu f 6 v) := rfl
theorem o5_len {r0 r1 r2 : Option Nat} {f : Int → Int} : (ob 5 [r0, r1, r2] f).length = 7 := rfl
theorem o5_new : ([.inr (.inr (.inl none)), .inr (.inr (.inl none)), .inr (.inr (.inl none)), .inl 0, .inl 0, .inl 0, .inl 0] : List AV) = ob 5 [none, none, none] (fun _ => 0) := rfl
theorem o6_g0 {r0 r1 r2 r3 : Option Nat} {f : Int → Int} : (ob 6 [r0, r1, r2, r3] f)[0]? = some (.inr (.inr (.inl r0))) := rfl
theorem o6_s0 {r0 r1 r2 r3 : Option Nat} {r : Option Nat} {f : Int → Int} : (ob 6 [r0, r1, r2, r3] f).set 0 (.inr (.inr (.inl r))) = ob 6 [r, r1, r2, r3] f := rfl
theorem o6_g1 {r0 r1 r2 r3 : Option Nat} {f : Int → Int} : (ob 6 [r0, r1, r2, r3] f)[1]? = some (.inr (.inr (.inl r1))) := rfl
theorem o6_s1 {r0 r1 r2 r3 : Option Nat} {r : Option Nat} {f : Int → Int} : (ob 6 [r0, r1, r2, r3] f).set 1 (.inr (.inr (.inl r))) = ob 6 [r0, r, r2, r3] f := rfl
theorem o6_g2 {r0 r1 r2 r3 : Option Nat} {f : Int → Int} : (ob 6 [r0, r1, r2, r3] f)[2]? = some (.inr (.inr (.inl r2))) := rfl
theorem o6_s2 {r0 r1 r2 r3 : Option Nat} {r : Option Nat} {f : Int → Int} : (ob 6 [r0, r1, r2, r3] f).set 2 (.inr (.inr (.inl r))) = ob 6 [r0, r1, r, r3] f := rfl
theorem o6_g3 {r0 r1 r2 r3 : Option Nat} {f : Int → Int} : (ob 6 [r0, r1, r2, r3] f)[3]? = some (.inr (.inr (.inl r3))) := rfl
theorem o6_s3 {r0 r1 r2 r3 : Option Nat} {r : Option Nat} {f : Int → Int} : (ob 6 [r0, r1, r2, r3] f).set 3 (.inr (.inr (.inl r))) = ob 6 [r0, r1, r2, r] f := rfl
theorem o6_g4 {r0 r1 r2 r3 : Option Nat} {f : Int → Int} : (ob 6 [r0, r1, r2, r3] f)[4]? = some (.inl (f 4)) := rfl
theorem o6_s4 {r0 r1 r2 r3 : Option Nat} {f : Int → Int} {v : Int} : (ob 6 [r0, r1, r2, r3] f).set 4 (.inl v) = ob 6 [r0, r1, r2, r3] (fu f 4 v) := rfl
theorem o6_g5 {r0 r1 r2 r3 : Option Nat} {f : Int → Int} : (ob 6 [r0, r1, r2, r3] f)[5]? = some (.inl (f 5)) := rfl
theorem o6_s5 {r0 r1 r2 r3 : Option Nat} {f : Int → Int} {v : Int} : (ob 6 [r0, r1, r2, r3] f).set 5 (.inl v) = ob 6 [r0, r1, r2, r3] (fu f 5 v) := rfl
theorem o6_len {r0 r1 r2 r3 : Option Nat} {f : Int → Int} : (ob 6 [r0, r1, r2, r3] f).length = 6 := rfl
theorem o6_new : ([.inr (.inr (.inl none)), .inr (.inr (.inl none)), .inr (.inr (.inl none)), .inr (.inr (.inl none)), .inl 0, .inl 0] : List AV) = ob 6 [none, none, none, none] (fun _ => 0) := rfl
theorem o7_g0 {r0 r1 r2 r3 r4 r5 r6 r7 : Option Nat} {f : Int → Int} : (ob 7 [r0, r1, r2, r3, r4, r5, r6, r7] f)[0]? = some (.inr (.inr (.inl r0))) := rfl
theorem o7_s0 {r0 r1 r2 r3 r4 r5 r6 r7 : Option Nat} {r : Option Nat} {f : Int → Int} : (ob 7 [r0, r1, r2, r3, r4, r5, r6, r7] f).set 0 (.inr (.inr (.inl r))) = ob 7 [r, r1, r2, r3, r4, r5, r6, r7] f := rfl
theorem o7_g1 {r0 r1 r2 r3 r4 r5 r6 r7 : Option Nat} {f : Int → Int} : (ob 7 [r0, r1, r2, r3, r4, r5, r6, r7] f)[1]? = some (.inr (.inr (.inl r1))) := rfl
theorem o7_s1 {r0 r1 r2 r3 r4 r5 r6 r7 : Option Nat} {r : Option Nat} {f : Int → Int} : (ob 7 [r0, r1, r2, r3, r4, r5, r6, r7] f).set 1 (.inr (.inr (.inl r))) = ob 7 [r0, r, r2, r3, r4, r5, r6, r7] f := rfl
theorem o7_g2 {r0 r1 r2 r3 r4 r5 r6 r7 : Option Nat} {f : Int → Int} : (ob 7 [r0, r1, r2, r3, r4, r5, r6, r7] f)[2]? = some (.inr (.inr (.inl r2))) := rfl
theorem o7_s2 {r0 r1 r2 r3 r4 r5 r6 r7 : Option Nat} {r : Option Nat} {f : Int → Int} : (ob 7 [r0, r1, r2, r3, r4, r5, r6, r7] f).set 2 (.inr (.inr (.inl r))) = ob 7 [r0, r1, r, r3, r4, r5, r6, r7] f := rfl
theorem o7_g3 {r0 r1 r2 r3 r4 r5 r6 r7 : Option Nat} {f : Int → Int} : (ob 7 [r0, r1, r2, r3, r4, r5, r6, r7] f)[3]? = some (.inr (.inr (.inl r3))) := rfl
theorem o7_s3 {r0 r1 r2 r3 r4 r5 r6 r7 : Option Nat} {r : Option Nat} {f : Int → Int} : (ob 7 [r0, r1, r2, r3, r4, r5, r6, r7] f).set 3 (.inr (.inr (.inl r))) = ob 7 [r0, r1, r2, r, r4, r5, r6, r7] f := rfl
theorem o7_g4 {r0 r1 r2 r3 r4 r5 r6 r7 : Option Nat} {f : Int → Int} : (ob 7 [r0, r1, r2, r3, r4, r5, r6, r7] f)[4]? = some (.inr (.inr (.inl r4))) := rfl
theorem o7_s4 {r0 r1 r2 r3 r4 r5 r6 r7 : Option Nat} {r : Option Nat} {f : Int → Int} : (ob 7 [r0, r1, r2, r3, r4, r5, r6, r7] f).set 4 (.inr (.inr (.inl r))) = ob 7 [r0, r1, r2, r3, r, r5, r6, r7] f := rfl
theorem o7_g5 {r0 r1 r2 r3 r4 r5 r6 r7 : Option Nat} {f : Int → Int} : (ob 7 [r0, r1, r2, r3, r4, r5, r6, r7] f)[5]? = some (.inr (.inr (.inl r5))) := rfl
theorem o7_s5 {r0 r1 r2 r3 r4 r5 r6 r7 : Option Nat} {r : Option Nat} {f : Int → Int} : (ob 7 [r0, r1, r2, r3, r4, r5, r6, r7] f).set 5 (.inr (.inr (.inl r))) = ob 7 [r0, r1, r2, r3, r4, r, r6, r7] f := rfl
theorem o7_g6 {r0 r1 r2 r3 r4 r5 r6 r7 : Option Nat} {f : Int → Int} : (ob 7 [r0, r1, r2, r3, r4, r5, r6, r7] f)[6]? = some (.inr (.inr (.inl r6))) := rfl
theorem o7_s6 {r0 r1 r2 r3 r4 r5 r6 r7 : Option Nat} {r : Option Nat} {f : Int → Int} : (ob 7 [r0, r1, r2, r3, r4, r5, r6, r7] f).set 6 (.inr (.inr (.inl r))) = ob 7 [r0, r1, r2, r3, r4, r5, r, r7] f := rfl
theorem o7_g7 {r0 r1 r2 r3 r4 r5 r6 r7 : Option Nat} {f : Int → Int} : (ob 7 [r0, r1, r2, r3, r4, r5, r6, r7] f)[7]? = some (.inr (.inr (.inl r7))) := rfl
theorem o7_s7 {r0 r1 r2 r3 r4 r5 r6 r7 : Option Nat} {r : Option Nat} {f : Int → Int} : (ob 7 [r0, r1, r2, r3, r4, r5, r6, r7] f).set 7 (.inr (.inr (.inl r))) = ob 7 [r0, r1, r2, r3, r4, r5, r6, r] f := rfl
theorem o7_len {r0 r1 r2 r3 r4 r5 r6 r7 : Option Nat} {f : Int → Int} : (ob 7 [r0, r1, r2, r3, r4, r5, r6, r7] f).length = 8 := rfl
theorem o7_new : ([.inr (.inr (.inl none)), .inr (.inr (.inl none)), .inr (.inr (.inl none)), .inr (.inr (.inl none)), .inr (.inr (.inl none)), .inr (.inr (.inl none)), .inr (.inr (.inl none)), .inr (.inr (.inl none))] : List AV) = ob 7 [none, none, none, none, none, none, none, none] (fun _ => 0) := rfl
theorem o8_g0 {r0 r1 r2 r3 r4 r5 r6 : Option Nat} {f : Int → Int} : (ob 8 [r0, r1, r2, r3, r4, r5, r6] f)[0]? = some (.inl (f 0)) := rfl
theorem o8_s0 {r0 r1 r2 r3 r4 r5 r6 : Option Nat} {f : Int → Int} {v : Int} : (ob 8 [r0, r1, r2, r3, r4, r5, r6] f).set 0 (.inl v) = ob 8 [r0, r1, r2, r3, r4, r5, r6] (fu f 0 v) := rfl
theorem o8_g1 {r0 r1 r2 r3 r4 r5 r6 : Option Nat} {f : Int → Int} : (ob 8 [r0, r1, r2, r3, r4, r5, r6] f)[1]? = some (.inl (f 1)) := rfl
theorem o8_s1 {r0 r1 r2 r3 r4 r5 r6 : Option Nat} {f : Int → Int} {v : Int} : (ob 8 [r0, r1, r2, r3, r4, r5, r6] f).set 1 (.inl v) = ob 8 [r0, r1, r2, r3, r4, r5, r6] (fu f 1 v) := rfl
theorem o8_g2 {r0 r1 r2 r3 r4 r5 r6 : Option Nat} {f : Int → Int} : (ob 8 [r0, r1, r2, r3, r4, r5, r6] f)[2]? = some (.inl (f 2)) := rfl
theorem o8_s2 {r0 r1 r2 r3 r4 r5 r6 : Option Nat} {f : Int → Int} {v : Int} : (ob 8 [r0, r1, r2, r3, r4, r5, r6] f).set 2 (.inl v) = ob 8 [r0, r1, r2, r3, r4, r5, r6] (fu f 2 v) := rfl
theorem o8_g3 {r0 r1 r2 r3 r4 r5 r6 : Option Nat} {f : Int → Int} : (ob 8 [r0, r1, r2, r3, r4, r5, r6] f)[3]? = some (.inl (f 3)) := rfl
theorem o8_s3 {r0 r1 r2 r3 r4 r5 r6 : Option Nat} {f : Int → Int} {v : Int} : (ob 8 [r0, r1, r2, r3, r4, r5, r6] f).set 3 (.inl v) = ob 8 [r0, r1, r2, r3, r4, r5, r6] (fu f 3 v) := rfl
theorem o8_g4 {r0 r1 r2 r3 r4 r5 r6 : Option Nat} {f : Int → Int} : (ob 8 [r0, r1, r2, r3, r4, r5, r6] f)[4]? = some (.inl (f 4)) := rfl
theorem o8_s4 {r0 r1 r2 r3 r4 r5 r6 : Option Nat} {f : Int → Int} {v : Int} : (ob 8 [r0, r1, r2, r3, r4, r5, r6] f).set 4 (.inl v) = ob 8 [r0, r1, r2, r3, r4, r5, r6] (fu f 4 v) := rfl
theorem o8_g5 {r0 r1 r2 r3 r4 r5 r6 : Option Nat} {f : Int → Int} : (ob 8 [r0, r1, r2, r3, r4, r5, r6] f)[5]? = some (.inr (.inr (.inl r0))) := rfl
theorem o8_s5 {r0 r1 r2 r3 r4 r5 r6 : Option Nat} {r : Option Nat} {f : Int → Int} : (ob 8 [r0, r1, r2, r3, r4, r5, r6] f).set 5 (.inr (.inr (.inl r))) = ob 8 [r, r1, r2, r3, r4, r5, r6] f := rfl
theorem o8_g6 {r0 r1 r2 r3 r4 r5 r6 : Option Nat} {f : Int → Int} : (ob 8 [r0, r1, r2, r3, r4, r5, r6] f)[6]? = some (.inr (.inr (.inl r1))) := rfl
theorem o8_s6 {r0 r1 r2 r3 r4 r5 r6 : Option Nat} {r : Option Nat} {f : Int → Int} : (ob 8 [r0, r1, r2, r3, r4, r5, r6] f).set 6 (.inr (.inr (.inl r))) = ob 8 [r0, r, r2, r3, r4, r5, r6] f := rfl
theorem o8_g7 {r0 r1 r2 r3 r4 r5 r6 : Option Nat} {f : Int → Int} : (ob 8 [r0, r1, r2, r3, r4, r5, r6] f)[7]? = some (.inr (.inr (.inl r2))) := rfl
theorem o8_s7 {r0 r1 r2 r3 r4 r5 r6 : Option Nat} {r : Option Nat} {f : Int → Int} : (ob 8 [r0, r1, r2, r3, r4, r5, r6] f).set 7 (.inr (.inr (.inl r))) = ob 8 [r0, r1, r, r3, r4, r5, r6] f := rfl
theorem o8_g8 {r0 r1 r2 r3 r4 r5 r6 : Option Nat} {f : Int → Int} : (ob 8 [r0, r1, r2, r3, r4, r5, r6] f)[8]? = some (.inr (.inr (.inl r3))) := rfl
theorem o8_s8 {r0 r1 r2 r3 r4 r5 r6 : Option Nat} {r : Option Nat} {f : Int → Int} : (ob 8 [r0, r1, r2, r3, r4, r5, r6] f).set 8 (.inr (.inr (.inl r))) = ob 8 [r0, r1, r2, r, r4, r5, r6] f := rfl
theorem o8_g9 {r0 r1 r2 r3 r4 r5 r6 : Option Nat} {f : Int → Int} : (ob 8 [r0, r1, r2, r3, r4, r5, r6] f)[9]? = some (.inr (.inr (.inl r4))) := rfl
theorem o8_s9 {r0 r1 r2 r3 r4 r5 r6 : Option Nat} {r : Option Nat} {f : Int → Int} : (ob 8 [r0, r1, r2, r3, r4, r5, r6] f).set 9 (.inr (.inr (.inl r))) = ob 8 [r0, r1, r2, r3, r, r5, r6] f := rfl
theorem o8_g10 {r0 r1 r2 r3 r4 r5 r6 : Option Nat} {f : Int → Int} : (ob 8 [r0, r1, r2, r3, r4, r5, r6] f)[10]? = some (.inr (.inr (.inl r5))) := rfl
theorem o8_s10 {r0 r1 r2 r3 r4 r5 r6 : Option Nat} {r : Option Nat} {f : Int → Int} : (ob 8 [r0, r1, r2, r3, r4, r5, r6] f).set 10 (.inr (.inr (.inl r))) = ob 8 [r0, r1, r2, r3, r4, r, r6] f := rfl
theorem o8_g11 {r0 r1 r2 r3 r4 r5 r6 : Option Nat} {f : Int → Int} : (ob 8 [r0, r1, r2, r3, r4, r5, r6] f)[11]? = some (.inr (.inr (.inl r6))) := rfl
theorem o8_s11 {r0 r1 r2 r3 r4 r5 r6 : Option Nat} {r : Option Nat} {f : Int → Int} : (ob 8 [r0, r1, r2, r3, r4, r5, r6] f).set 11 (.inr (.inr (.inl r))) = ob 8 [r0, r1, r2, r3, r4, r5, r] f := rfl
theorem o8_len {r0 r1 r2 r3 r4 r5 r6 : Option Nat} {f : Int → Int} : (ob 8 [r0, r1, r2, r3, r4, r5, r6] f).length = 12 := rfl
theorem o8_new : ([.inl 0, .inl 0, .inl 0, .inl 0, .inl 0, .inr (.inr (.inl none)), .inr (.inr (.inl none)), .inr (.inr (.inl none)), .inr (.inr (.inl none)), .inr (.inr (.inl none)), .inr (.inr (.inl none)), .inr (.inr (.inl none))] : List AV) = ob 8 [none, none, none, none, none, none, none] (fun _ => 0) := rfl
theorem o9_g0 {r0 r1 r2 r3 : Option Nat} {f : Int → Int} : (ob 9 [r0, r1, r2, r3] f)[0]? = some (.inr (.inr (.inl r0))) := rfl
theorem o9_s0 {r0 r1 r2 r3 : Option Nat} {r : Option Nat} {f : Int → Int} : (ob 9 [r0, r1, r2, r3] f).set 0 (.inr (.inr (.inl r))) = ob 9 [r, r1, r2, r3] f := rfl
theorem o9_g1 {r0 r1 r2 r3 : Option Nat} {f : Int → Int} : (ob 9 [r0, r1, r2, r3] f)[1]? = some (.inr (.inr (.inl r1))) := rfl
theorem o9_s1 {r0 r1 r2 r3 : Option Nat} {r : Option Nat} {f : Int → Int} : (ob 9 [r0, r1, r2, r3] f).set 1 (.inr (.inr (.inl r))) = ob 9 [r0, r, r2, r3] f := rfl
theorem o9_g2 {r0 r1 r2 r3 : Option Nat} {f : Int → Int} : (ob 9 [r0, r1, r2, r3] f)[2]? = some (.inr (.inr (.inl r2))) := rfl
theorem o9_s2 {r0 r1 r2 r3 : Option Nat} {r : Option Nat} {f : Int → Int} : (ob 9 [r0, r1, r2, r3] f).set 2 (.inr (.inr (.inl r))) = ob 9 [r0, r1, r, r3] f := rfl
theorem o9_g3 {r0 r1 r2 r3 : Option Nat} {f : Int → Int} : (ob 9 [r0, r1, r2, r3] f)[3]? = some (.inr (.inr (.inl r3))) := rfl
theorem o9_s3 {r0 r1 r2 r3 : Option Nat} {r : Option Nat} {f : Int → Int} : (ob 9 [r0, r1, r2, r3] f).set 3 (.inr (.inr (.inl r))) = ob 9 [r0, r1, r2, r] f := rfl
theorem o9_g4 {r0 r1 r2 r3 : Option Nat} {f : Int → Int} : (ob 9 [r0, r1, r2, r3] f)[4]? = some (.inl (f 4)) := rfl
theorem o9_s4 {r0 r1 r2 r3 : Option Nat} {f : Int → Int} {v : Int} : (ob 9 [r0, r1, r2, r3] f).set 4 (.inl v) = ob 9 [r0, r1, r2, r3] (fu f 4 v) := rfl
theorem o9_g5 {r0 r1 r2 r3 : Option Nat} {f : Int → Int} : (ob 9 [r0, r1, r2, r3] f)[5]? = some (.inl (f 5)) := rfl
theorem o9_s5 {r0 r1 r2 r3 : Option Nat} {f : Int → Int} {v : Int} : (ob 9 [r0, r1, r2, r3] f).set 5 (.inl v) = ob 9 [r0, r1, r2, r3] (fu f 5 v) := rfl
theorem o9_g6 {r0 r1 r2 r3 : Option Nat} {f : Int → Int} : (ob 9 [r0, r1, r2, r3] f)[6]? = some (.inl (f 6)) := rfl
theorem o9_s6 {r0 r1 r2 r3 : Option Nat} {f : Int → Int} {v : Int} : (ob 9 [r0, r1, r2, r3] f).set 6 (.inl v) = ob 9 [r0, r1, r2, r3] (fu f 6 v) := rfl
theorem o9_g7 {r0 r1 r2 r3 : Option Nat} {f : Int → Int} : (ob 9 [r0, r1, r2, r3] f)[7]? = some (.inl (f 7)) := rfl
theorem o9_s7 {r0 r1 r2 r3 : Option Nat} {f : Int → Int} {v : Int} : (ob 9 [r0, r1, r2, r3] f).set 7 (.inl v) = ob 9 [r0, r1, r2, r3] (fu f 7 v) := rfl
theorem o9_g8 {r0 r1 r2 r3 : Option Nat} {f : Int → Int} : (ob 9 [r0, r1, r2, r3] f)[8]? = some (.inl (f 8)) := rfl
theorem o9_s8 {r0 r1 r2 r3 : Option Nat} {f : Int → Int} {v : Int} : (ob 9 [r0, r1, r2, r3] f).set 8 (.inl v) = ob 9 [r0, r1, r2, r3] (fu f 8 v) := rfl
theorem o9_g9 {r0 r1 r2 r3 : Option Nat} {f : Int → Int} : (ob 9 [r0, r1, r2, r3] f)[9]? = some (.inl (f 9)) := rfl
theorem o9_s9 {r0 r1 r2 r3 : Option Nat} {f : Int → Int} {v : Int} : (ob 9 [r0, r1, r2, r3] f).set 9 (.inl v) = ob 9 [r0, r1, r2, r3] (fu f 9 v) := rfl
theorem o9_g10 {r0 r1 r2 r3 : Option Nat} {f : Int → Int} : (ob 9 [r0, r1, r2, r3] f)[10]? = some (.inl (f 10)) := rfl
theorem o9_s10 {r0 r1 r2 r3 : Option Nat} {f : Int → Int} {v : Int} : (ob 9 [r0, r1, r2, r3] f).set 10 (.inl v) = ob 9 [r0, r1, r2, r3] (fu f 10 v) := rfl
theorem o9_len {r0 r1 r2 r3 : Option Nat} {f : Int → Int} : (ob 9 [r0, r1, r2, r3] f).length = 11 := rfl
theorem o9_new : ([.inr (.inr (.inl none)), .inr (.inr (.inl none)), .inr (.inr (.inl none)), .inr (.inr (.inl none)), .inl 0, .inl 0, .inl 0, .inl 0, .inl 0, .inl 0, .inl 0] : List AV) = ob 9 [none, none, none, none] (fun _ => 0) := rfl
theorem o10_g0 {r0 r1 r2 r3 r4 r5 r6 r7 r8 r9 : Option Nat} {f : Int → Int} : (ob 10 [r0, r1, r2, r3, r4, r5, r6, r7, r8, r9] f)[0]? = some (.inr (.inr (.inl r0))) := rfl
theorem o10_s0 {r0 r1 r2 r3 r4 r5 r6 r7 r8 r9 : Option Nat} {r : Option Nat} {f : Int → Int} : (ob 10 [r0, r1, r2, r3, r4, r5, r6, r7, r8, r9] f).set 0 (.inr (.inr (.inl r))) = ob 10 [r, r1, r2, r3, r4, r5, r6, r7, r8, r9] f := rfl
theorem o10_g1 {r0 r1 r2 r3 r4 r5 r6 r7 r8 r9 : Option Nat} {f : Int → Int} : (ob 10 [r0, r1, r2, r3, r4, r5, r6, r7, r8, r9] f)[1]? = some (.inl (f 1)) := rfl
theorem o10_s1 {r0 r1 r2 r3 r4 r5 r6 r7 r8 r9 : Option Nat} {f : Int → Int} {v : Int} : (ob 10 [r0, r1, r2, r3, r4, r5, r6, r7, r8, r9] f).set 1 (.inl v) = ob 10 [r0, r1, r2, r3, r4, r5, r6, r7, r8, r9] (fu f 1 v) := rfl
theorem o10_g2 {r0 r1 r2 r3 r4 r5 r6 r7 r8 r9 : Option Nat} {f : Int → Int} : (ob 10 [r0, r1, r2, r3, r4, r5, r6, r7, r8, r9] f)[2]? = some (.inr (.inr (.inl r1))) := rfl
theorem o10_s2 {r0 r1 r2 r3 r4 r5 r6 r7 r8 r9 : Option Nat} {r : Option Nat} {f : Int → Int} : (ob 10 [r0, r1, r2, r3, r4, r5, r6, r7, r8, r9] f).set 2 (.inr (.inr (.inl r))) = ob 10 [r0, r, r2, r3, r4, r5, r6, r7, r8, r9] f := rfl
theorem o10_g3 {r0 r1 r2 r3 r4 r5 r6 r7 r8 r9 : Option Nat} {f : Int → Int} : (ob 10 [r0, r1, r2, r3, r4, r5, r6, r7, r8, r9] f)[3]? = some (.inl (f 3)) := rfl
theorem o10_s3 {r0 r1 r2 r3 r4 r5 r6 r7 r8 r9 : Option Nat} {f : Int → Int} {v : Int} : (ob 10 [r0, r1, r2, r3, r4, r5, r6, r7, r8, r9] f).set 3 (.inl v) = ob 10 [r0, r1, r2, r3, r4, r5, r6, r7, r8, r9] (fu f 3 v) := rfl
theorem o10_g4 {r0 r1 r2 r3 r4 r5 r6 r7 r8 r9 : Option Nat} {f : Int → Int} : (ob 10 [r0, r1, r2, r3, r4, r5, r6, r7, r8, r9] f)[4]? = some (.inr (.inr (.inl r2))) := rfl
theorem o10_s4 {r0 r1 r2 r3 r4 r5 r6 r7 r8 r9 : Option Nat} {r : Option Nat} {f : Int → Int} : (ob 10 [r0, r1, r2, r3, r4, r5, r6, r7, r8, r9] f).set 4 (.inr (.inr (.inl r))) = ob 10 [r0, r1, r, r3, r4, r5, r6, r7, r8, r9] f := rfl
theorem o10_g5 {r0 r1 r2 r3 r4 r5 r6 r7 r8 r9 : Option Nat} {f : Int → Int} : (ob 10 [r0, r1, r2, r3, r4, r5, r6, r7, r8, r9] f)[5]? = some (.inr (.inr (.inl r3))) := rfl
theorem o10_s5 {r0 r1 r2 r3 r4 r5 r6 r7 r8 r9 : Option Nat} {r : Option Nat} {f : Int → Int} : (ob 10 [r0, r1, r2, r3, r4, r5, r6, r7, r8, r9] f).set 5 (.inr (.inr (.inl r))) = ob 10 [r0, r1, r2, r, r4, r5, r6, r7, r8, r9] f := rfl
theorem o10_g6 {r0 r1 r2 r3 r4 r5 r6 r7 r8 r9 : Option Nat} {f : Int → Int} : (ob 10 [r0, r1, r2, r3, r4, r5, r6, r7, r8, r9] f)[6]? = some (.inr (.inr (.inl r4))) := rfl
theorem o10_s6 {r0 r1 r2 r3 r4 r5 r6 r7 r8 r9 : Option Nat} {r : Option Nat} {f : Int → Int} : (ob 10 [r0, r1, r2, r3, r4, r5, r6, r7, r8, r9] f).set 6 (.inr (.inr (.inl r))) = ob 10 [r0, r1, r2, r3, r, r5, r6, r7, r8, r9] f := rfl
theorem o10_g7 {r0 r1 r2 r3 r4 r5 r6 r7 r8 r9 : Option Nat} {f : Int → Int} : (ob 10 [r0, r1, r2, r3, r4, r5, r6, r7, r8, r9] f)[7]? = some (.inr (.inr (.inl r5))) := rfl
theorem o10_s7 {r0 r1 r2 r3 r4 r5 r6 r7 r8 r9 : Option Nat} {r : Option Nat} {f : Int → Int} : (ob 10 [r0, r1, r2, r3, r4, r5, r6, r7, r8, r9] f).set 7 (.inr (.inr (.inl r))) = ob 10 [r0, r1, r2, r3, r4, r, r6, r7, r8, r9] f := rfl
theorem o10_g8 {r0 r1 r2 r3 r4 r5 r6 r7 r8 r9 : Option Nat} {f : Int → Int} : (ob 10 [r0, r1, r2, r3, r4, r5, r6, r7, r8, r9] f)[8]? = some (.inr (.inr (.inl r6))) := rfl
theorem o10_s8 {r0 r1 r2 r3 r4 r5 r6 r7 r8 r9 : Option Nat} {r : Option Nat} {f : Int → Int} : (ob 10 [r0, r1, r2, r3, r4, r5, r6, r7, r8, r9] f).set 8 (.inr (.inr (.inl r))) = ob 10 [r0, r1, r2, r3, r4, r5, r, r7, r8, r9] f := rfl
theorem o10_g9 {r0 r1 r2 r3 r4 r5 r6 r7 r8 r9 : Option Nat} {f : Int → Int} : (ob 10 [r0, r1, r2, r3, r4, r5, r6, r7, r8, r9] f)[9]? = some (.inr (.inr (.inl r7))) := rfl
theorem o10_s9 {r0 r1 r2 r3 r4 r5 r6 r7 r8 r9 : Option Nat} {r : Option Nat} {f : Int → Int} : (ob 10 [r0, r1, r2, r3, r4, r5, r6, r7, r8, r9] f).set 9 (.inr (.inr (.inl r))) = ob 10 [r0, r1, r2, r3, r4, r5, r6, r, r8, r9] f := rfl
theorem o10_g10 {r0 r1 r2 r3 r4 r5 r6 r7 r8 r9 : Option Nat} {f : Int → Int} : (ob 10 [r0, r1, r2, r3, r4, r5, r6, r7, r8, r9] f)[10]? = some (.inr (.inr (.inl r8))) := rfl
theorem o10_s10 {r0 r1 r2 r3 r4 r5 r6 r7 r8 r9 : Option Nat} {r : Option Nat} {f : Int → Int} : (ob 10 [r0, r1, r2, r3, r4, r5, r6, r7, r8, r9] f).set 10 (.inr (.inr (.inl r))) = ob 10 [r0, r1, r2, r3, r4, r5, r6, r7, r, r9] f := rfl
theorem o10_g11 {r0 r1 r2 r3 r4 r5 r6 r7 r8 r9 : Option Nat} {f : Int → Int} : (ob 10 [r0, r1, r2, r3, r4, r5, r6, r7, r8, r9] f)[11]? = some (.inr (.inr (.inl r9))) := rfl
theorem o10_s11 {r0 r1 r2 r3 r4 r5 r6 r7 r8 r9 : Option Nat} {r : Option Nat} {f : Int → Int} : (ob 10 [r0, r1, r2, r3, r4, r5, r6, r7, r8, r9] f).set 11 (.inr (.inr (.inl r))) = ob 10 [r0, r1, r2, r3, r4, r5, r6, r7, r8, r] f := rfl
theorem o10_len {r0 r1 r2 r3 r4 r5 r6 r7 r8 r9 : Option Nat} {f : Int → Int} : (ob 10 [r0, r1, r2, r3, r4, r5, r6, r7, r8, r9] f).length = 12 := rfl
theorem o10_new : ([.inr (.inr (.inl none)), .inl 0, .inr (.inr (.inl none)), .inl 0, .inr (.inr (.inl none)), .inr (.inr (.inl none)), .inr (.inr (.inl none)), .inr (.inr (.inl none)), .inr (.inr (.inl none)), .inr (.inr (.inl none)), .inr (.inr (.inl none)), .inr (.inr (.inl none))] : List AV) = ob 10 [none, none, none, none, none, none, none, none, none, none] (fun _ => 0) := rfl
def rsM : List (Option Nat) := [some 76, some 77, some 78, some 79, some 80, some 81, some 82, some 83, some 84, some 85, some 86, some 87, some 88, some 89, some 90, some 91, some 92, some 93, some 94, some 95, some 96, some 97, some 98, some 99, some 100, some 101, some 102, some 103, some 104, some 105, some 106, some 107, some 108, some 109, some 110, some 111, some 112, some 113, some 114]
theorem mo_g0 {f : Int → Int} : (ob 11 rsM f)[0]? = some (.inl (f 0)) := rfl
theorem mo_s0 {f : Int → Int} {v : Int} : (ob 11 rsM f).set 0 (.inl v) = ob 11 rsM (fu f 0 v) := rfl
theorem mo_g1 {f : Int → Int} : (ob 11 rsM f)[1]? = some (rf 76) := rfl
theorem mo_g2 {f : Int → Int} : (ob 11 rsM f)[2]? = some (rf 77) := rfl
theorem mo_g3 {f : Int → Int} : (ob 11 rsM f)[3]? = some (rf 78) := rfl
theorem mo_g4 {f : Int → Int} : (ob 11 rsM f)[4]? = some (rf 79) := rfl
theorem mo_g5 {f : Int → Int} : (ob 11 rsM f)[5]? = some (rf 80) := rfl
theorem mo_g6 {f : Int → Int} : (ob 11 rsM f)[6]? = some (rf 81) := rfl
theorem mo_g7 {f : Int → Int} : (ob 11 rsM f)[7]? = some (rf 82) := rfl
theorem mo_g8 {f : Int → Int} : (ob 11 rsM f)[8]? = some (rf 83) := rfl
theorem mo_g9 {f : Int → Int} : (ob 11 rsM f)[9]? = some (rf 84) := rfl
theorem mo_g10 {f : Int → Int} : (ob 11 rsM f)[10]? = some (rf 85) := rfl
theorem mo_g11 {f : Int → Int} : (ob 11 rsM f)[11]? = some (rf 86) := rfl
theorem mo_g12 {f : Int → Int} : (ob 11 rsM f)[12]? = some (rf 87) := rfl
theorem mo_g13 {f : Int → Int} : (ob 11 rsM f)[13]? = some (rf 88) := rfl
theorem mo_g14 {f : Int → Int} : (ob 11 rsM f)[14]? = some (rf 89) := rfl
theorem mo_g15 {f : Int → Int} : (ob 11 rsM f)[15]? = some (rf 90) := rfl
theorem mo_g16 {f : Int → Int} : (ob 11 rsM f)[16]? = some (rf 91) := rfl
theorem mo_g17 {f : Int → Int} : (ob 11 rsM f)[17]? = some (rf 92) := rfl
theorem mo_g18 {f : Int → Int} : (ob 11 rsM f)[18]? = some (rf 93) := rfl
theorem mo_g19 {f : Int → Int} : (ob 11 rsM f)[19]? = some (rf 94) := rfl
theorem mo_g20 {f : Int → Int} : (ob 11 rsM f)[20]? = some (.inl (f 20)) := rfl
theorem mo_s20 {f : Int → Int} {v : Int} : (ob 11 rsM f).set 20 (.inl v) = ob 11 rsM (fu f 20 v) := rfl
theorem mo_g21 {f : Int → Int} : (ob 11 rsM f)[21]? = some (.inl (f 21)) := rfl
theorem mo_s21 {f : Int → Int} {v : Int} : (ob 11 rsM f).set 21 (.inl v) = ob 11 rsM (fu f 21 v) := rfl
theorem mo_g22 {f : Int → Int} : (ob 11 rsM f)[22]? = some (.inl (f 22)) := rfl
theorem mo_s22 {f : Int → Int} {v : Int} : (ob 11 rsM f).set 22 (.inl v) = ob 11 rsM (fu f 22 v) := rfl
theorem mo_g23 {f : Int → Int} : (ob 11 rsM f)[23]? = some (.inl (f 23)) := rfl
theorem mo_s23 {f : Int → Int} {v : Int} : (ob 11 rsM f).set 23 (.inl v) = ob 11 rsM (fu f 23 v) := rfl
theorem mo_g24 {f : Int → Int} : (ob 11 rsM f)[24]? = some (.inl (f 24)) := rfl
theorem mo_s24 {f : Int → Int} {v : Int} : (ob 11 rsM f).set 24 (.inl v) = ob 11 rsM (fu f 24 v) := rfl
theorem mo_g25 {f : Int → Int} : (ob 11 rsM f)[25]? = some (.inl (f 25)) := rfl
theorem mo_s25 {f : Int → Int} {v : Int} : (ob 11 rsM f).set 25 (.inl v) = ob 11 rsM (fu f 25 v) := rfl
theorem mo_g26 {f : Int → Int} : (ob 11 rsM f)[26]? = some (.inl (f 26)) := rfl
theorem mo_s26 {f : Int → Int} {v : Int} : (ob 11 rsM f).set 26 (.inl v) = ob 11 rsM (fu f 26 v) := rfl
theorem mo_g27 {f : Int → Int} : (ob 11 rsM f)[27]? = some (.inl (f 27)) := rfl
theorem mo_s27 {f : Int → Int} {v : Int} : (ob 11 rsM f).set 27 (.inl v) = ob 11 rsM (fu f 27 v) := rfl
theorem mo_g28 {f : Int → Int} : (ob 11 rsM f)[28]? = some (.inl (f 28)) := rfl
theorem mo_s28 {f : Int → Int} {v : Int} : (ob 11 rsM f).set 28 (.inl v) = ob 11 rsM (fu f 28 v) := rfl
theorem mo_g29 {f : Int → Int} : (ob 11 rsM f)[29]? = some (.inl (f 29)) := rfl
theorem mo_s29 {f : Int → Int} {v : Int} : (ob 11 rsM f).set 29 (.inl v) = ob 11 rsM (fu f 29 v) := rfl
theorem mo_g30 {f : Int → Int} : (ob 11 rsM f)[30]? = some (.inl (f 30)) := rfl
theorem mo_s30 {f : Int → Int} {v : Int} : (ob 11 rsM f).set 30 (.inl v) = ob 11 rsM (fu f 30 v) := rfl
theorem mo_g31 {f : Int → Int} : (ob 11 rsM f)[31]? = some (rf 95) := rfl
theorem mo_g32 {f : Int → Int} : (ob 11 rsM f)[32]? = some (rf 96) := rfl
theorem mo_g33 {f : Int → Int} : (ob 11 rsM f)[33]? = some (rf 97) := rfl
theorem mo_g34 {f : Int → Int} : (ob 11 rsM f)[34]? = some (rf 98) := rfl
theorem mo_g35 {f : Int → Int} : (ob 11 rsM f)[35]? = some (rf 99) := rfl
theorem mo_g36 {f : Int → Int} : (ob 11 rsM f)[36]? = some (rf 100) := rfl
theorem mo_g37 {f : Int → Int} : (ob 11 rsM f)[37]? = some (rf 101) := rfl
theorem mo_g38 {f : Int → Int} : (ob 11 rsM f)[38]? = some (rf 102) := rfl
theorem mo_g39 {f : Int → Int} : (ob 11 rsM f)[39]? = some (rf 103) := rfl
theorem mo_g40 {f : Int → Int} : (ob 11 rsM f)[40]? = some (rf 104) := rfl
theorem mo_g41 {f : Int → Int} : (ob 11 rsM f)[41]? = some (rf 105) := rfl
theorem mo_g42 {f : Int → Int} : (ob 11 rsM f)[42]? = some (rf 106) := rfl
theorem mo_g43 {f : Int → Int} : (ob 11 rsM f)[43]? = some (rf 107) := rfl
theorem mo_g44 {f : Int → Int} : (ob 11 rsM f)[44]? = some (rf 108) := rfl
theorem mo_g45 {f : Int → Int} : (ob 11 rsM f)[45]? = some (.inl (f 45)) := rfl
theorem mo_s45 {f : Int → Int} {v : Int} : (ob 11 rsM f).set 45 (.inl v) = ob 11 rsM (fu f 45 v) := rfl
theorem mo_g46 {f : Int → Int} : (ob 11 rsM f)[46]? = some (.inl (f 46)) := rfl
theorem mo_s46 {f : Int → Int} {v : Int} : (ob 11 rsM f).set 46 (.inl v) = ob 11 rsM (fu f 46 v) := rfl
theorem mo_g47 {f : Int → Int} : (ob 11 rsM f)[47]? = some (.inl (f 47)) := rfl
theorem mo_s47 {f : Int → Int} {v : Int} : (ob 11 rsM f).set 47 (.inl v) = ob 11 rsM (fu f 47 v) := rfl
theorem mo_g48 {f : Int → Int} : (ob 11 rsM f)[48]? = some (rf 109) := rfl
theorem mo_g49 {f : Int → Int} : (ob 11 rsM f)[49]? = some (rf 110) := rfl
theorem mo_g50 {f : Int → Int} : (ob 11 rsM f)[50]? = some (.inl (f 50)) := rfl
theorem mo_s50 {f : Int → Int} {v : Int} : (ob 11 rsM f).set 50 (.inl v) = ob 11 rsM (fu f 50 v) := rfl
theorem mo_g51 {f : Int → Int} : (ob 11 rsM f)[51]? = some (.inl (f 51)) := rfl
theorem mo_s51 {f : Int → Int} {v : Int} : (ob 11 rsM f).set 51 (.inl v) = ob 11 rsM (fu f 51 v) := rfl
theorem mo_g52 {f : Int → Int} : (ob 11 rsM f)[52]? = some (rf 111) := rfl
theorem mo_g53 {f : Int → Int} : (ob 11 rsM f)[53]? = some (rf 112) := rfl
theorem mo_g54 {f : Int → Int} : (ob 11 rsM f)[54]? = some (rf 113) := rfl
theorem mo_g55 {f : Int → Int} : (ob 11 rsM f)[55]? = some (rf 114) := rfl
theorem mo_g56 {f : Int → Int} : (ob 11 rsM f)[56]? = some (.inl (f 56)) := rfl
theorem mo_s56 {f : Int → Int} {v : Int} : (ob 11 rsM f).set 56 (.inl v) = ob 11 rsM (fu f 56 v) := rfl
theorem mo_g57 {f : Int → Int} : (ob 11 rsM f)[57]? = some (.inl (f 57)) := rfl
theorem mo_s57 {f : Int → Int} {v : Int} : (ob 11 rsM f).set 57 (.inl v) = ob 11 rsM (fu f 57 v) := rfl
theorem mo_len {f : Int → Int} : (ob 11 rsM f).length = 58 := rfl
def shL : List SH := [(9, 26, []),
  (9, 5, []),
  (9, 51, []),
  (9, 3, []),
  (9, 4, []),
  (9, 4, []),
  (9, 3, []),
  (9, 5, []),
  (9, 3, []),
  (9, 4, []),
  (9, 4, []),
  (9, 5, []),
  (9, 4, []),
  (9, 4, []),
  (9, 6, []),
  (9, 8, []),
  (9, 3, []),
  (9, 5, []),
  (9, 5, []),
  (9, 3, []),
  (9, 4, []),
  (9, 2, []),
  (9, 3, []),
  (9, 3, []),
  (9, 2, []),
  (5, 0, []),
  (6, 10, [some 27, some 28, some 29, some 48, some 49, some 56, some 60, some 69, some 70, some 74]),
  (1, 400, []),
  (4, 1, [none, none, none, none, none, none]),
  (6, 6, [some 30, some 38, some 42, some 44]),
  (6, 8, [some 31, some 32, some 33, some 34, some 35, some 36, some 37]),
  (0, 25, []),
  (0, 6, []),
  (0, 6, []),
  (0, 6, []),
  (0, 12, []),
  (0, 3, []),
  (0, 100, []),
  (6, 5, [some 39, some 40, some 41]),
  (0, 25, []),
  (0, 6, []),
  (0, 6, []),
  (6, 4, [some 43]),
  (4, 5, [none, none, none, none, none, none, none, none, none, none, none, none, none, none, none, none, none, none, none, none]),
  (6, 3, [some 45, some 46, some 47]),
  (0, 10, []),
  (0, 10, []),
  (0, 10, []),
  (4, 6, [none, none, none, none]),
  (6, 7, [none, none, some 50, some 51, some 52, some 53, some 54, some 55]),
  (0, 25, []),
  (0, 25, []),
  (0, 25, []),
  (0, 32, []),
  (3, 9, []),
  (3, 60, []),
  (6, 5, [some 57, some 58, some 59]),
  (0, 25, []),
  (0, 6, []),
  (0, 6, []),
  (6, 9, [none, none, some 61, some 65]),
  (6, 5, [some 62, some 63, some 64]),
  (0, 25, []),
  (0, 6, []),
  (0, 6, []),
  (6, 5, [some 66, some 67, some 68]),
  (0, 25, []),
  (0, 6, []),
  (0, 6, []),
  (6, 0, [none, none]),
  (6, 2, [none, some 71, some 72, some 73]),
  (0, 400, []),
  (0, 25, []),
  (0, 10, []),
  (0, 250, []),
  (6, 11, rsM),
  (0, 13, []),
  (0, 25, []),
  (0, 25, []),
  (0, 6, []),
  (0, 6, []),
  (0, 6, []),
  (0, 6, []),
  (0, 12, []),
  (0, 10, []),
  (0, 10, []),
  (0, 10, []),
  (0, 25, []),
  (0, 6, []),
  (0, 8, []),
  (0, 25, []),
  (0, 6, []),
  (0, 6, []),
  (0, 6, []),
  (0, 12, []),
  (1, 400, []),
  (0, 1800, []),
  (0, 1800, []),
  (0, 6, []),
  (0, 72, []),
  (0, 72, []),
  (0, 72, []),
  (0, 402, []),
  (3, 9, []),
  (3, 300, []),
  (0, 25, []),
  (0, 25, []),
  (0, 1280, []),
  (0, 1, []),
  (0, 25, []),
  (0, 2, []),
  (0, 25, []),
  (0, 250, []),
  (0, 7500, []),
  (2, 4, [])]
def shT (a : Nat) : SH := shL.getD a (0, 0, [])
/-- the reference stands where it was made -/
def MS (L : Nat) (sh : Nat → SH) : Prop := 115 ≤ L ∧ ∀ a, 75 ≤ a → a < 115 → sh a = shT a
section MSS
variable {L : Nat} {sh : Nat → SH} {c : Nat → Int → Int} {f : Int → Int}
theorem ms75 (hS : MS L sh) : (hp L sh c)[75]? = some (.inr (.inr (.inr (11, ob 11 rsM (c 75))))) := hO (rs := rsM) (by have := hS.1; omega) ((hS.2 75 (by omega) (by omega)).trans rfl)
theorem mt75 (hS : MS L sh) : (hp L sh c).set 75 (.inr (.inr (.inr (11, ob 11 rsM f)))) = hp L sh (fr c 75 f) := hOs (rs := rsM) ((hS.2 75 (by omega) (by omega)).trans rfl)
theorem ms76 (hS : MS L sh) : (hp L sh c)[76]? = some (.inl (0, al 13 (c 76))) := hI (q := []) (by have := hS.1; omega) ((hS.2 76 (by omega) (by omega)).trans rfl)
theorem mt76 (hS : MS L sh) : (hp L sh c).set 76 (.inl (0, al 13 f)) = hp L sh (fr c 76 f) := hIs (q := []) ((hS.2 76 (by omega) (by omega)).trans rfl)
theorem ms77 (hS : MS L sh) : (hp L sh c)[77]? = some (.inl (0, al 25 (c 77))) := hI (q := []) (by have := hS.1; omega) ((hS.2 77 (by omega) (by omega)).trans rfl)
theorem mt77 (hS : MS L sh) : (hp L sh c).set 77 (.inl (0, al 25 f)) = hp L sh (fr c 77 f) := hIs (q := []) ((hS.2 77 (by omega) (by omega)).trans rfl)
theorem ms78 (hS : MS L sh) : (hp L sh c)[78]? = some (.inl (0, al 25 (c 78))) := hI (q := []) (by have := hS.1; omega) ((hS.2 78 (by omega) (by omega)).trans rfl)
theorem mt78 (hS : MS L sh) : (hp L sh c).set 78 (.inl (0, al 25 f)) = hp L sh (fr c 78 f) := hIs (q := []) ((hS.2 78 (by omega) (by omega)).trans rfl)
theorem ms79 (hS : MS L sh) : (hp L sh c)[79]? = some (.inl (0, al 6 (c 79))) := hI (q := []) (by have := hS.1; omega) ((hS.2 79 (by omega) (by omega)).trans rfl)
theorem mt79 (hS : MS L sh) : (hp L sh c).set 79 (.inl (0, al 6 f)) = hp L sh (fr c 79 f) := hIs (q := []) ((hS.2 79 (by omega) (by omega)).trans rfl)
theorem ms80 (hS : MS L sh) : (hp L sh c)[80]? = some (.inl (0, al 6 (c 80))) := hI (q := []) (by have := hS.1; omega) ((hS.2 80 (by omega) (by omega)).trans rfl)
theorem mt80 (hS : MS L sh) : (hp L sh c).set 80 (.inl (0, al 6 f)) = hp L sh (fr c 80 f) := hIs (q := []) ((hS.2 80 (by omega) (by omega)).trans rfl)
theorem ms81 (hS : MS L sh) : (hp L sh c)[81]? = some (.inl (0, al 6 (c 81))) := hI (q := []) (by have := hS.1; omega) ((hS.2 81 (by omega) (by omega)).trans rfl)
theorem mt81 (hS : MS L sh) : (hp L sh c).set 81 (.inl (0, al 6 f)) = hp L sh (fr c 81 f) := hIs (q := []) ((hS.2 81 (by omega) (by omega)).trans rfl)
theorem ms82 (hS : MS L sh) : (hp L sh c)[82]? = some (.inl (0, al 6 (c 82))) := hI (q := []) (by have := hS.1; omega) ((hS.2 82 (by omega) (by omega)).trans rfl)
theorem mt82 (hS : MS L sh) : (hp L sh c).set 82 (.inl (0, al 6 f)) = hp L sh (fr c 82 f) := hIs (q := []) ((hS.2 82 (by omega) (by omega)).trans rfl)
theorem ms83 (hS : MS L sh) : (hp L sh c)[83]? = some (.inl (0, al 12 (c 83))) := hI (q := []) (by have := hS.1; omega) ((hS.2 83 (by omega) (by omega)).trans rfl)
theorem mt83 (hS : MS L sh) : (hp L sh c).set 83 (.inl (0, al 12 f)) = hp L sh (fr c 83 f) := hIs (q := []) ((hS.2 83 (by omega) (by omega)).trans rfl)
theorem ms84 (hS : MS L sh) : (hp L sh c)[84]? = some (.inl (0, al 10 (c 84))) := hI (q := []) (by have := hS.1; omega) ((hS.2 84 (by omega) (by omega)).trans rfl)
theorem mt84 (hS : MS L sh) : (hp L sh c).set 84 (.inl (0, al 10 f)) = hp L sh (fr c 84 f) := hIs (q := []) ((hS.2 84 (by omega) (by omega)).trans rfl)
theorem ms85 (hS : MS L sh) : (hp L sh c)[85]? = some (.inl (0, al 10 (c 85))) := hI (q := []) (by have := hS.1; omega) ((hS.2 85 (by omega) (by omega)).trans rfl)
theorem mt85 (hS : MS L sh) : (hp L sh c).set 85 (.inl (0, al 10 f)) = hp L sh (fr c 85 f) := hIs (q := []) ((hS.2 85 (by omega) (by omega)).trans rfl)
theorem ms86 (hS : MS L sh) : (hp L sh c)[86]? = some (.inl (0, al 10 (c 86))) := hI (q := []) (by have := hS.1; omega) ((hS.2 86 (by omega) (by omega)).trans rfl)
theorem mt86 (hS : MS L sh) : (hp L sh c).set 86 (.inl (0, al 10 f)) = hp L sh (fr c 86 f) := hIs (q := []) ((hS.2 86 (by omega) (by omega)).trans rfl)
theorem ms87 (hS : MS L sh) : (hp L sh c)[87]? = some (.inl (0, al 25 (c 87))) := hI (q := []) (by have := hS.1; omega) ((hS.2 87 (by omega) (by omega)).trans rfl)
theorem mt87 (hS : MS L sh) : (hp L sh c).set 87 (.inl (0, al 25 f)) = hp L sh (fr c 87 f) := hIs (q := []) ((hS.2 87 (by omega) (by omega)).trans rfl)
theorem ms88 (hS : MS L sh) : (hp L sh c)[88]? = some (.inl (0, al 6 (c 88))) := hI (q := []) (by have := hS.1; omega) ((hS.2 88 (by omega) (by omega)).trans rfl)
theorem mt88 (hS : MS L sh) : (hp L sh c).set 88 (.inl (0, al 6 f)) = hp L sh (fr c 88 f) := hIs (q := []) ((hS.2 88 (by omega) (by omega)).trans rfl)
theorem ms89 (hS : MS L sh) : (hp L sh c)[89]? = some (.inl (0, al 8 (c 89))) := hI (q := []) (by have := hS.1; omega) ((hS.2 89 (by omega) (by omega)).trans rfl)
theorem mt89 (hS : MS L sh) : (hp L sh c).set 89 (.inl (0, al 8 f)) = hp L sh (fr c 89 f) := hIs (q := []) ((hS.2 89 (by omega) (by omega)).trans rfl)
theorem ms90 (hS : MS L sh) : (hp L sh c)[90]? = some (.inl (0, al 25 (c 90))) := hI (q := []) (by have := hS.1; omega) ((hS.2 90 (by omega) (by omega)).trans rfl)
theorem mt90 (hS : MS L sh) : (hp L sh c).set 90 (.inl (0, al 25 f)) = hp L sh (fr c 90 f) := hIs (q := []) ((hS.2 90 (by omega) (by omega)).trans rfl)
theorem ms91 (hS : MS L sh) : (hp L sh c)[91]? = some (.inl (0, al 6 (c 91))) := hI (q := []) (by have := hS.1; omega) ((hS.2 91 (by omega) (by omega)).trans rfl)
theorem mt91 (hS : MS L sh) : (hp L sh c).set 91 (.inl (0, al 6 f)) = hp L sh (fr c 91 f) := hIs (q := []) ((hS.2 91 (by omega) (by omega)).trans rfl)
theorem ms92 (hS : MS L sh) : (hp L sh c)[92]? = some (.inl (0, al 6 (c 92))) := hI (q := []) (by have := hS.1; omega) ((hS.2 92 (by omega) (by omega)).trans rfl)
theorem mt92 (hS : MS L sh) : (hp L sh c).set 92 (.inl (0, al 6 f)) = hp L sh (fr c 92 f) := hIs (q := []) ((hS.2 92 (by omega) (by omega)).trans rfl)
theorem ms93 (hS : MS L sh) : (hp L sh c)[93]? = some (.inl (0, al 6 (c 93))) := hI (q := []) (by have := hS.1; omega) ((hS.2 93 (by omega) (by omega)).trans rfl)
theorem mt93 (hS : MS L sh) : (hp L sh c).set 93 (.inl (0, al 6 f)) = hp L sh (fr c 93 f) := hIs (q := []) ((hS.2 93 (by omega) (by omega)).trans rfl)
theorem ms94 (hS : MS L sh) : (hp L sh c)[94]? = some (.inl (0, al 12 (c 94))) := hI (q := []) (by have := hS.1; omega) ((hS.2 94 (by omega) (by omega)).trans rfl)
theorem mt94 (hS : MS L sh) : (hp L sh c).set 94 (.inl (0, al 12 f)) = hp L sh (fr c 94 f) := hIs (q := []) ((hS.2 94 (by omega) (by omega)).trans rfl)
theorem ms95 (hS : MS L sh) : (hp L sh c)[95]? = some (.inl (1, al 400 (c 95))) := hB (q := []) (by have := hS.1; omega) ((hS.2 95 (by omega) (by omega)).trans rfl)
theorem mt95 (hS : MS L sh) : (hp L sh c).set 95 (.inl (1, al 400 f)) = hp L sh (fr c 95 f) := hBs (q := []) ((hS.2 95 (by omega) (by omega)).trans rfl)
theorem ms96 (hS : MS L sh) : (hp L sh c)[96]? = some (.inl (0, al 1800 (c 96))) := hI (q := []) (by have := hS.1; omega) ((hS.2 96 (by omega) (by omega)).trans rfl)
theorem mt96 (hS : MS L sh) : (hp L sh c).set 96 (.inl (0, al 1800 f)) = hp L sh (fr c 96 f) := hIs (q := []) ((hS.2 96 (by omega) (by omega)).trans rfl)
theorem ms97 (hS : MS L sh) : (hp L sh c)[97]? = some (.inl (0, al 1800 (c 97))) := hI (q := []) (by have := hS.1; omega) ((hS.2 97 (by omega) (by omega)).trans rfl)
theorem mt97 (hS : MS L sh) : (hp L sh c).set 97 (.inl (0, al 1800 f)) = hp L sh (fr c 97 f) := hIs (q := []) ((hS.2 97 (by omega) (by omega)).trans rfl)
theorem ms98 (hS : MS L sh) : (hp L sh c)[98]? = some (.inl (0, al 6 (c 98))) := hI (q := []) (by have := hS.1; omega) ((hS.2 98 (by omega) (by omega)).trans rfl)
theorem mt98 (hS : MS L sh) : (hp L sh c).set 98 (.inl (0, al 6 f)) = hp L sh (fr c 98 f) := hIs (q := []) ((hS.2 98 (by omega) (by omega)).trans rfl)
theorem ms99 (hS : MS L sh) : (hp L sh c)[99]? = some (.inl (0, al 72 (c 99))) := hI (q := []) (by have := hS.1; omega) ((hS.2 99 (by omega) (by omega)).trans rfl)
theorem mt99 (hS : MS L sh) : (hp L sh c).set 99 (.inl (0, al 72 f)) = hp L sh (fr c 99 f) := hIs (q := []) ((hS.2 99 (by omega) (by omega)).trans rfl)
theorem ms100 (hS : MS L sh) : (hp L sh c)[100]? = some (.inl (0, al 72 (c 100))) := hI (q := []) (by have := hS.1; omega) ((hS.2 100 (by omega) (by omega)).trans rfl)
theorem mt100 (hS : MS L sh) : (hp L sh c).set 100 (.inl (0, al 72 f)) = hp L sh (fr c 100 f) := hIs (q := []) ((hS.2 100 (by omega) (by omega)).trans rfl)
theorem ms101 (hS : MS L sh) : (hp L sh c)[101]? = some (.inl (0, al 72 (c 101))) := hI (q := []) (by have := hS.1; omega) ((hS.2 101 (by omega) (by omega)).trans rfl)
theorem mt101 (hS : MS L sh) : (hp L sh c).set 101 (.inl (0, al 72 f)) = hp L sh (fr c 101 f) := hIs (q := []) ((hS.2 101 (by omega) (by omega)).trans rfl)
theorem ms102 (hS : MS L sh) : (hp L sh c)[102]? = some (.inl (0, al 402 (c 102))) := hI (q := []) (by have := hS.1; omega) ((hS.2 102 (by omega) (by omega)).trans rfl)
theorem mt102 (hS : MS L sh) : (hp L sh c).set 102 (.inl (0, al 402 f)) = hp L sh (fr c 102 f) := hIs (q := []) ((hS.2 102 (by omega) (by omega)).trans rfl)
theorem ms103 (hS : MS L sh) : (hp L sh c)[103]? = some (.inr (.inl (al 9 (c 103)))) := hL (q := []) (by have := hS.1; omega) ((hS.2 103 (by omega) (by omega)).trans rfl)
theorem mt103 (hS : MS L sh) : (hp L sh c).set 103 (.inr (.inl (al 9 f))) = hp L sh (fr c 103 f) := hLs (q := []) ((hS.2 103 (by omega) (by omega)).trans rfl)
theorem ms104 (hS : MS L sh) : (hp L sh c)[104]? = some (.inr (.inl (al 300 (c 104)))) := hL (q := []) (by have := hS.1; omega) ((hS.2 104 (by omega) (by omega)).trans rfl)
theorem mt104 (hS : MS L sh) : (hp L sh c).set 104 (.inr (.inl (al 300 f))) = hp L sh (fr c 104 f) := hLs (q := []) ((hS.2 104 (by omega) (by omega)).trans rfl)
theorem ms105 (hS : MS L sh) : (hp L sh c)[105]? = some (.inl (0, al 25 (c 105))) := hI (q := []) (by have := hS.1; omega) ((hS.2 105 (by omega) (by omega)).trans rfl)
theorem mt105 (hS : MS L sh) : (hp L sh c).set 105 (.inl (0, al 25 f)) = hp L sh (fr c 105 f) := hIs (q := []) ((hS.2 105 (by omega) (by omega)).trans rfl)
theorem ms106 (hS : MS L sh) : (hp L sh c)[106]? = some (.inl (0, al 25 (c 106))) := hI (q := []) (by have := hS.1; omega) ((hS.2 106 (by omega) (by omega)).trans rfl)
theorem mt106 (hS : MS L sh) : (hp L sh c).set 106 (.inl (0, al 25 f)) = hp L sh (fr c 106 f) := hIs (q := []) ((hS.2 106 (by omega) (by omega)).trans rfl)
theorem ms107 (hS : MS L sh) : (hp L sh c)[107]? = some (.inl (0, al 1280 (c 107))) := hI (q := []) (by have := hS.1; omega) ((hS.2 107 (by omega) (by omega)).trans rfl)
theorem mt107 (hS : MS L sh) : (hp L sh c).set 107 (.inl (0, al 1280 f)) = hp L sh (fr c 107 f) := hIs (q := []) ((hS.2 107 (by omega) (by omega)).trans rfl)
theorem ms108 (hS : MS L sh) : (hp L sh c)[108]? = some (.inl (0, al 1 (c 108))) := hI (q := []) (by have := hS.1; omega) ((hS.2 108 (by omega) (by omega)).trans rfl)
theorem mt108 (hS : MS L sh) : (hp L sh c).set 108 (.inl (0, al 1 f)) = hp L sh (fr c 108 f) := hIs (q := []) ((hS.2 108 (by omega) (by omega)).trans rfl)
theorem ms109 (hS : MS L sh) : (hp L sh c)[109]? = some (.inl (0, al 25 (c 109))) := hI (q := []) (by have := hS.1; omega) ((hS.2 109 (by omega) (by omega)).trans rfl)
theorem mt109 (hS : MS L sh) : (hp L sh c).set 109 (.inl (0, al 25 f)) = hp L sh (fr c 109 f) := hIs (q := []) ((hS.2 109 (by omega) (by omega)).trans rfl)
theorem ms110 (hS : MS L sh) : (hp L sh c)[110]? = some (.inl (0, al 2 (c 110))) := hI (q := []) (by have := hS.1; omega) ((hS.2 110 (by omega) (by omega)).trans rfl)
theorem mt110 (hS : MS L sh) : (hp L sh c).set 110 (.inl (0, al 2 f)) = hp L sh (fr c 110 f) := hIs (q := []) ((hS.2 110 (by omega) (by omega)).trans rfl)
theorem ms111 (hS : MS L sh) : (hp L sh c)[111]? = some (.inl (0, al 25 (c 111))) := hI (q := []) (by have := hS.1; omega) ((hS.2 111 (by omega) (by omega)).trans rfl)
theorem mt111 (hS : MS L sh) : (hp L sh c).set 111 (.inl (0, al 25 f)) = hp L sh (fr c 111 f) := hIs (q := []) ((hS.2 111 (by omega) (by omega)).trans rfl)
theorem ms112 (hS : MS L sh) : (hp L sh c)[112]? = some (.inl (0, al 250 (c 112))) := hI (q := []) (by have := hS.1; omega) ((hS.2 112 (by omega) (by omega)).trans rfl)
theorem mt112 (hS : MS L sh) : (hp L sh c).set 112 (.inl (0, al 250 f)) = hp L sh (fr c 112 f) := hIs (q := []) ((hS.2 112 (by omega) (by omega)).trans rfl)
theorem ms113 (hS : MS L sh) : (hp L sh c)[113]? = some (.inl (0, al 7500 (c 113))) := hI (q := []) (by have := hS.1; omega) ((hS.2 113 (by omega) (by omega)).trans rfl)
theorem mt113 (hS : MS L sh) : (hp L sh c).set 113 (.inl (0, al 7500 f)) = hp L sh (fr c 113 f) := hIs (q := []) ((hS.2 113 (by omega) (by omega)).trans rfl)
theorem ms114 (hS : MS L sh) : (hp L sh c)[114]? = some (.inl (2, al 4 (c 114))) := hZ (q := []) (by have := hS.1; omega) ((hS.2 114 (by omega) (by omega)).trans rfl)
theorem mt114 (hS : MS L sh) : (hp L sh c).set 114 (.inl (2, al 4 f)) = hp L sh (fr c 114 f) := hZs (q := []) ((hS.2 114 (by omega) (by omega)).trans rfl)
end MSS

/-! a WAVE, as numbers. A BEACH b: b 0 the scalars (columns, rows, flags, waves, -, odds), b 1 stands, b 2 marks, b 3 forces, b 4 heights told, b 5 cells told. Sand s: s 0 heights, s 1 wet, s 2 cells of flags, s 3 fell, s 4 (wave, marks) -/
abbrev Law : Type := List (List Tk × List Tk)
def clmp (v : Int) : Int := if v < 0 then 0 else if 3 < v then 3 else v
def lev (w : Int → Int) : Law → Int
  | [] => 0
  | q :: l => if q.2 = [] ∨ (evs w q.2 []).headD 0 = 1 then clmp ((evs w q.1 []).headD 0) else lev w l
theorem clmp_rng (v : Int) : 0 ≤ clmp v ∧ clmp v ≤ 3 := by
  unfold clmp
  split
  · omega
  · split <;> omega
theorem lev_rng (w : Int → Int) : ∀ l : Law, 0 ≤ lev w l ∧ lev w l ≤ 3 := by
  intro l
  induction l with
  | nil => show (0 : Int) ≤ 0 ∧ (0 : Int) ≤ 3; omega
  | cons q l ih =>
    unfold lev
    split
    · exact clmp_rng _
    · exact ih
/-- a law as it is read -/
def LOk (l : Law) : Prop := ∀ q ∈ l, Kds q.1 [] [false] ∧ (q.2 = [] ∨ Kds q.2 [] [true])
theorem ev1_ext {w w' : Int → Int} {k v : Int} {st : List Int} {a b : List Bool} (h : ∀ k, 0 ≤ k → k ≤ 8 → w k = w' k) (hk : Kd k v a b) : ev1 w k v st = ev1 w' k v st := by
  unfold ev1
  by_cases h1 : k = 1
  · subst h1
    rcases hk with h2 | h2 | h2 | h2 | h2 | h2
    · omega
    · rw [h v h2.2.1 h2.2.2.1]
    all_goals omega
  · rw [if_neg h1, if_neg h1]
theorem evs_ext {w w' : Int → Int} (h : ∀ k, 0 ≤ k → k ≤ 8 → w k = w' k) : ∀ {ts : List Tk} {st : List Int} {a b : List Bool}, Kds ts a b → evs w ts st = evs w' ts st := by
  intro ts
  induction ts with
  | nil => intros; rfl
  | cons t ts ih =>
    intro st a b hk
    obtain ⟨m, h1, h2⟩ := hk
    show evs w ts (ev1 w t.1 t.2 st) = evs w' ts (ev1 w' t.1 t.2 st)
    rw [ev1_ext h h1]
    exact ih h2
theorem lev_ext {w w' : Int → Int} (h : ∀ k, 0 ≤ k → k ≤ 8 → w k = w' k) : ∀ {l : Law}, LOk l → lev w l = lev w' l := by
  intro l
  induction l with
  | nil => intro _; rfl
  | cons q l ih =>
    intro hl
    have h1 := hl q List.mem_cons_self
    show (if q.2 = [] ∨ (evs w q.2 []).headD 0 = 1 then clmp ((evs w q.1 []).headD 0) else lev w l) = (if q.2 = [] ∨ (evs w' q.2 []).headD 0 = 1 then clmp ((evs w' q.1 []).headD 0) else lev w' l)
    rw [ih (fun q' hq => hl q' (List.mem_cons_of_mem _ hq)), evs_ext h h1.1]
    rcases h1.2 with h2 | h2
    · rw [if_pos (Or.inl h2), if_pos (Or.inl h2)]
    · rw [evs_ext h h2]
def lwf (W N : Int) (ht : Int → Int) (x : Int) : Nat → Int
  | 0 => 10
  | d + 1 => if bes W N x d = -1 then lwf W N ht x d else if ht (bes W N x d) < lwf W N ht x d then ht (bes W N x d) else lwf W N ht x d
def hgf (W N : Int) (ht : Int → Int) (x : Int) : Nat → Int
  | 0 => -1
  | d + 1 => if bes W N x d = -1 then hgf W N ht x d else if hgf W N ht x d < ht (bes W N x d) then ht (bes W N x d) else hgf W N ht x d
section STEP
variable (b s : Nat → Int → Int) (la : Option Law) (F : Int)
def wds (g : Int → Int) (x : Int) : Int → Int := fun k => if k = 0 then x else if k = 1 then s 0 x else if k = 2 then g x else if k = 3 then s 1 x else if k = 4 then F else if k = 5 then s 4 0 else if k = 6 then cn (fin (s 3) (s 2) x) (b 0 2).toNat else if k = 7 then lwf (b 0 0) (b 0 0 * b 0 1) (s 0) x 4 else hgf (b 0 0) (b 0 0 * b 0 1) (s 0) x 4
def tks (g : Int → Int) (x : Int) : Int := if 0 < g x then (match la with
  | none => if 3 ≤ g x then 1 else 0
  | some l => lev (wds b s F g x) l) else 0
def nhs (g : Int → Int) (x : Int) : Int := if tks b s la F g x < s 0 x then s 0 x - tks b s la F g x else 0
def nws (g : Int → Int) (x : Int) : Int := if 0 < g x then 1 else 0
def nes (g : Int → Int) (f : Int) : Int := if s 3 f = -1 ∧ (b 1 f ≤ g (s 2 f) ∨ nhs b s la F g (s 2 f) = 0) then s 4 0 else s 3 f
def mks (g : Int → Int) (f : Int) : Int := if nes b s la F g f = -1 then b 2 f else 0
noncomputable def sgb : Int → Int := stg (b 0 0) (b 0 0 * b 0 1) (s 0) F
noncomputable def stp : Nat → Int → Int := fun a => if a = 0 then nhs b s la F (sgb b s F) else if a = 1 then nws (sgb b s F) else if a = 2 then s 2 else if a = 3 then nes b s la F (sgb b s F) else fun i => if i = 0 then s 4 0 + 1 else s 4 1 + sm (mks b s la F (sgb b s F)) (b 0 2).toNat
end STEP
theorem tks_rng (b s : Nat → Int → Int) (la : Option Law) (F : Int) (g : Int → Int) (x : Int) : 0 ≤ tks b s la F g x ∧ tks b s la F g x ≤ 3 := by
  unfold tks
  split
  · cases la with
    | none => show 0 ≤ (if 3 ≤ g x then (1 : Int) else 0) ∧ (if 3 ≤ g x then (1 : Int) else 0) ≤ 3; split <;> omega
    | some l => exact lev_rng _ l
  · omega
/-- a beach is as a text may tell it -/
def WB (b : Nat → Int → Int) : Prop := (2 ≤ b 0 0 ∧ b 0 0 ≤ 5 ∧ 2 ≤ b 0 1 ∧ b 0 1 ≤ 5) ∧ (0 ≤ b 0 2 ∧ b 0 2 ≤ 6 ∧ 0 ≤ b 0 3 ∧ b 0 3 ≤ 12) ∧ (0 ≤ b 0 5 ∧ b 0 5 ≤ 9 ∧ 0 ≤ b 0 6 ∧ b 0 6 ≤ 9 ∧ 0 ≤ b 0 7 ∧ b 0 7 ≤ 9 ∧ 0 < b 0 5 + b 0 6 + b 0 7) ∧ (∀ f, 0 ≤ f → f < b 0 2 → 1 ≤ b 1 f ∧ b 1 f ≤ 20 ∧ 1 ≤ b 2 f ∧ b 2 f ≤ 50 ∧ 0 ≤ b 5 f ∧ b 5 f < b 0 0 * b 0 1) ∧ (∀ k, 0 ≤ k → k < b 0 3 → 0 ≤ b 3 k ∧ b 3 k ≤ 20) ∧ HT (b 0 0 * b 0 1) (b 4)
/-- sand on it -/
def WS (b s : Nat → Int → Int) : Prop := HT (b 0 0 * b 0 1) (s 0) ∧ (∀ x, 0 ≤ x → x < b 0 0 * b 0 1 → s 1 x = 0 ∨ s 1 x = 1) ∧ (∀ f, 0 ≤ f → f < b 0 2 → 0 ≤ s 2 f ∧ s 2 f < b 0 0 * b 0 1 ∧ -1 ≤ s 3 f ∧ s 3 f ≤ 900) ∧ 0 ≤ s 4 0 ∧ s 4 0 ≤ 900 ∧ 0 ≤ s 4 1 ∧ s 4 1 ≤ 300 * s 4 0
/-- the same sand, where it counts -/
def SEq (b s t : Nat → Int → Int) : Prop := (∀ x, 0 ≤ x → x < b 0 0 * b 0 1 → s 0 x = t 0 x ∧ s 1 x = t 1 x) ∧ (∀ f, 0 ≤ f → f < b 0 2 → s 2 f = t 2 f ∧ s 3 f = t 3 f) ∧ s 4 0 = t 4 0 ∧ s 4 1 = t 4 1
theorem SEq.refl (b s : Nat → Int → Int) : SEq b s s := ⟨fun _ _ _ => ⟨rfl, rfl⟩, fun _ _ _ => ⟨rfl, rfl⟩, rfl, rfl⟩
theorem SEq.symm {b s t : Nat → Int → Int} (h : SEq b s t) : SEq b t s := ⟨fun x h1 h2 => ⟨(h.1 x h1 h2).1.symm, (h.1 x h1 h2).2.symm⟩, fun x h1 h2 => ⟨(h.2.1 x h1 h2).1.symm, (h.2.1 x h1 h2).2.symm⟩, h.2.2.1.symm, h.2.2.2.symm⟩
theorem SEq.trans {b s t u : Nat → Int → Int} (h : SEq b s t) (k : SEq b t u) : SEq b s u := ⟨fun x h1 h2 => ⟨(h.1 x h1 h2).1.trans (k.1 x h1 h2).1, (h.1 x h1 h2).2.trans (k.1 x h1 h2).2⟩, fun x h1 h2 => ⟨(h.2.1 x h1 h2).1.trans (k.2.1 x h1 h2).1, (h.2.1 x h1 h2).2.trans (k.2.1 x h1 h2).2⟩, h.2.2.1.trans k.2.2.1, h.2.2.2.trans k.2.2.2⟩
theorem WS.of {b s t : Nat → Int → Int} (h : SEq b s t) (hw : WS b s) : WS b t := by
  refine ⟨fun x h1 h2 => ?_, fun x h1 h2 => ?_, fun x h1 h2 => ?_, ?_⟩
  · rw [← (h.1 x h1 h2).1]; exact hw.1 x h1 h2
  · rw [← (h.1 x h1 h2).2]; exact hw.2.1 x h1 h2
  · rw [← (h.2.1 x h1 h2).1, ← (h.2.1 x h1 h2).2]; exact hw.2.2.1 x h1 h2
  · rw [← h.2.2.1, ← h.2.2.2]; exact hw.2.2.2
theorem fse_ext {W N F : Int} {ht ht' : Int → Int} {x : Int} (h : ht x = ht' x) : fse W N ht F x = fse W N ht' F x := by unfold fse; rw [h]
theorem fce_ext {ht ht' s s' : Int → Int} {x y : Int} (h1 : ht x = ht' x) (h2 : ht y = ht' y) (h3 : s y = s' y) : fce ht s x y = fce ht' s' x y := by unfold fce; rw [h1, h2, h3]
theorem Cl_ext {W D F : Int} {ht ht' s : Int → Int} (hW : 2 ≤ W ∧ W ≤ 5) (h : ∀ x, 0 ≤ x → x < W * D → ht x = ht' x) (hc : Cl W (W * D) ht F s) : Cl W (W * D) ht' F s := by
  intro x hx hx2
  have h1 := hc x hx hx2
  rw [fse_ext (h x hx hx2)] at h1
  refine ⟨h1.1, fun d hd hd2 hn => ?_⟩
  have hr := bes_rng hW hx hx2 hd hd2
  rw [← fce_ext (h x hx hx2) (h _ (by omega) (by omega)) rfl]
  exact h1.2 d hd hd2 hn
theorem St_ext {W D F : Int} {ht ht' s : Int → Int} (hW : 2 ≤ W ∧ W ≤ 5) (h : ∀ x, 0 ≤ x → x < W * D → ht x = ht' x) (hc : St W (W * D) ht F s) : St W (W * D) ht' F s :=
  ⟨Cl_ext hW h hc.1, fun t ht' x hx hx2 => hc.2 t (Cl_ext hW (fun x h1 h2 => (h x h1 h2).symm) ht') x hx hx2⟩
theorem stg_ext {W D F : Int} {ht ht' : Int → Int} (hW : 2 ≤ W ∧ W ≤ 5) (h : ∀ x, 0 ≤ x → x < W * D → ht x = ht' x) : stg W (W * D) ht F = stg W (W * D) ht' F := by
  unfold stg
  congr 1
  funext s
  exact propext ⟨St_ext hW h, St_ext hW fun x h1 h2 => (h x h1 h2).symm⟩
theorem lwf_ext {W D x : Int} {ht ht' : Int → Int} (hW : 2 ≤ W ∧ W ≤ 5) (hx : 0 ≤ x) (hx2 : x < W * D) (h : ∀ x, 0 ≤ x → x < W * D → ht x = ht' x) : ∀ d : Nat, d ≤ 4 → lwf W (W * D) ht x d = lwf W (W * D) ht' x d := by
  intro d
  induction d with
  | zero => intro _; rfl
  | succ d ih =>
    intro hd
    unfold lwf
    rw [ih (by omega)]
    by_cases hn : bes W (W * D) x d = -1
    · rw [if_pos hn, if_pos hn]
    · have hr := bes_rng (d := d) hW hx hx2 (by omega) (by omega)
      rw [if_neg hn, if_neg hn, h _ (by omega) (by omega)]
theorem hgf_ext {W D x : Int} {ht ht' : Int → Int} (hW : 2 ≤ W ∧ W ≤ 5) (hx : 0 ≤ x) (hx2 : x < W * D) (h : ∀ x, 0 ≤ x → x < W * D → ht x = ht' x) : ∀ d : Nat, d ≤ 4 → hgf W (W * D) ht x d = hgf W (W * D) ht' x d := by
  intro d
  induction d with
  | zero => intro _; rfl
  | succ d ih =>
    intro hd
    unfold hgf
    rw [ih (by omega)]
    by_cases hn : bes W (W * D) x d = -1
    · rw [if_pos hn, if_pos hn]
    · have hr := bes_rng (d := d) hW hx hx2 (by omega) (by omega)
      rw [if_neg hn, if_neg hn, h _ (by omega) (by omega)]
theorem sm_ext {s t : Int → Int} : ∀ {k : Nat}, (∀ x : Int, 0 ≤ x → x < k → s x = t x) → sm s k = sm t k := by
  intro k
  induction k with
  | zero => intro _; rfl
  | succ k ih =>
    intro h
    show sm s k + s k = sm t k + t k
    rw [ih (fun x h1 h2 => h x h1 (by omega)), h k (by omega) (by omega)]
section EXT
variable {b s t : Nat → Int → Int} {la : Option Law} {F : Int}
theorem tks_ext (hb : WB b) (h : SEq b s t) (hl : ∀ l, la = some l → LOk l) {g : Int → Int} {x : Int} (hx : 0 ≤ x) (hx2 : x < b 0 0 * b 0 1) : tks b s la F g x = tks b t la F g x := by
  unfold tks
  split
  · cases la with
    | none => rfl
    | some l =>
      refine lev_ext (fun k hk hk2 => ?_) (hl l rfl)
      have h1 := h.1 x hx hx2
      have h2 : cn (fin (s 3) (s 2) x) (b 0 2).toNat = cn (fin (t 3) (t 2) x) (b 0 2).toNat := cn_ext fun j h3 h4 => by
        have h5 := h.2.1 j h3 (by omega)
        unfold fin
        rw [h5.1, h5.2]
      have h3 := lwf_ext (D := b 0 1) (ht := s 0) (ht' := t 0) ⟨hb.1.1, hb.1.2.1⟩ hx hx2 (fun x a b => (h.1 x a b).1) 4 (by omega)
      have h4 := hgf_ext (D := b 0 1) (ht := s 0) (ht' := t 0) ⟨hb.1.1, hb.1.2.1⟩ hx hx2 (fun x a b => (h.1 x a b).1) 4 (by omega)
      unfold wds
      rw [h1.1, h1.2, h2, h3, h4, h.2.2.1]
  · rfl
theorem nhs_ext (hb : WB b) (h : SEq b s t) (hl : ∀ l, la = some l → LOk l) {g : Int → Int} {x : Int} (hx : 0 ≤ x) (hx2 : x < b 0 0 * b 0 1) : nhs b s la F g x = nhs b t la F g x := by
  unfold nhs
  rw [tks_ext hb h hl hx hx2, (h.1 x hx hx2).1]
theorem nes_ext (hb : WB b) (hw : WS b s) (h : SEq b s t) (hl : ∀ l, la = some l → LOk l) {g : Int → Int} {f : Int} (hf : 0 ≤ f) (hf2 : f < b 0 2) : nes b s la F g f = nes b t la F g f := by
  have h1 := h.2.1 f hf hf2
  have h2 := hw.2.2.1 f hf hf2
  unfold nes
  rw [nhs_ext hb h hl h2.1 h2.2.1, h1.1, h1.2, h.2.2.1]
theorem sgb_ext (hb : WB b) (h : SEq b s t) : sgb b s F = sgb b t F := stg_ext ⟨hb.1.1, hb.1.2.1⟩ fun x h1 h2 => (h.1 x h1 h2).1
theorem stp_ext (hb : WB b) (hw : WS b s) (h : SEq b s t) (hl : ∀ l, la = some l → LOk l) : SEq b (stp b s la F) (stp b t la F) := by
  refine ⟨fun x h1 h2 => ⟨?_, ?_⟩, fun f h1 h2 => ⟨(h.2.1 f h1 h2).1, ?_⟩, ?_, ?_⟩
  · show nhs b s la F (sgb b s F) x = nhs b t la F (sgb b t F) x
    rw [sgb_ext hb h, nhs_ext hb h hl h1 h2]
  · show nws (sgb b s F) x = nws (sgb b t F) x
    rw [sgb_ext hb h]
  · show nes b s la F (sgb b s F) f = nes b t la F (sgb b t F) f
    rw [sgb_ext hb h, nes_ext hb hw h hl h1 h2]
  · show s 4 0 + 1 = t 4 0 + 1
    rw [h.2.2.1]
  · show s 4 1 + sm (mks b s la F (sgb b s F)) (b 0 2).toNat = t 4 1 + sm (mks b t la F (sgb b t F)) (b 0 2).toNat
    rw [sgb_ext hb h, h.2.2.2]
    congr 1
    refine sm_ext fun f h1 h2 => ?_
    unfold mks
    rw [nes_ext hb hw h hl h1 (by omega)]
theorem mks_rng (hb : WB b) {g : Int → Int} {f : Int} (hf : 0 ≤ f) (hf2 : f < b 0 2) : 0 ≤ mks b s la F g f ∧ mks b s la F g f ≤ 50 := by
  have h1 := hb.2.2.2.1 f hf hf2
  unfold mks
  split <;> omega
theorem stp_ws (hb : WB b) (hw : WS b s) (h9 : s 4 0 < 900) : WS b (stp b s la F) := by
  have hmk : 0 ≤ sm (mks b s la F (sgb b s F)) (b 0 2).toNat ∧ sm (mks b s la F (sgb b s F)) (b 0 2).toNat ≤ (b 0 2).toNat * 50 := ⟨sm_ge _ fun x h1 h2 => (mks_rng hb h1 (by omega)).1, sm_le (by omega) _ fun x h1 h2 => (mks_rng hb h1 (by omega)).2⟩
  refine ⟨fun x h1 h2 => ?_, fun x h1 h2 => ?_, fun f h1 h2 => ?_, ?_⟩
  · show 0 ≤ nhs b s la F (sgb b s F) x ∧ nhs b s la F (sgb b s F) x ≤ 9
    have h3 := hw.1 x h1 h2
    have h4 := tks_rng b s la F (sgb b s F) x
    unfold nhs
    split <;> omega
  · show nws (sgb b s F) x = 0 ∨ nws (sgb b s F) x = 1
    unfold nws
    split <;> omega
  · show 0 ≤ s 2 f ∧ s 2 f < b 0 0 * b 0 1 ∧ -1 ≤ nes b s la F (sgb b s F) f ∧ nes b s la F (sgb b s F) f ≤ 900
    have h3 := hw.2.2.1 f h1 h2
    have h4 := hw.2.2.2
    unfold nes
    split <;> omega
  · show 0 ≤ s 4 0 + 1 ∧ s 4 0 + 1 ≤ 900 ∧ 0 ≤ s 4 1 + sm (mks b s la F (sgb b s F)) (b 0 2).toNat ∧ s 4 1 + sm (mks b s la F (sgb b s F)) (b 0 2).toNat ≤ 300 * (s 4 0 + 1)
    have h4 := hw.2.2.2
    have h5 := hb.2.1
    omega
end EXT

/-! loops, rows by pieces, the sides of cells, STRENGTH -/
theorem upI {P : Int → Prop} {N : Int} (hN : 0 ≤ N) (h1 : ∀ k, 0 ≤ k → k < N → P (k + 1) → P k) (h2 : P N) : P 0 := by
  have : ∀ j : Nat, (j : Int) ≤ N → P (N - j) := by
    intro j
    induction j with
    | zero => intro _; rw [show N - ((0 : Nat) : Int) = N by omega]; exact h2
    | succ j ih =>
      intro hj
      refine h1 _ (by omega) (by omega) ?_
      rw [show N - ((j + 1 : Nat) : Int) + 1 = N - j by omega]
      exact ih (by omega)
  have h := this N.toNat (by omega)
  rw [show N - (N.toNat : Int) = 0 by omega] at h
  exact h
theorem lq_1 {α : Type} {P I : Int → α → Prop} {N : Int} (h1 : ∀ k s, 0 ≤ k → k < N → I k s → (∀ s', I (k + 1) s' → P (k + 1) s') → P k s) (h2 : ∀ s, I N s → P N s) : ∀ k s, 0 ≤ k → k ≤ N → I k s → P k s := by
  have : ∀ j : Nat, (j : Int) ≤ N → ∀ s, I (N - j) s → P (N - j) s := by
    intro j
    induction j with
    | zero => intro _; rw [show N - ((0 : Nat) : Int) = N by omega]; exact h2
    | succ j ih =>
      intro hj s hs
      refine h1 _ s (by omega) (by omega) hs ?_
      rw [show N - ((j + 1 : Nat) : Int) + 1 = N - j by omega]
      exact ih (by omega)
  intro k s hk hk2 hs
  have h := this (N - k).toNat (by omega)
  rw [show N - ((N - k).toNat : Int) = k by omega] at h
  exact h s hs
theorem lq_2 {α β : Type} {P I : Int → α → β → Prop} {N : Int} (h1 : ∀ k a b, 0 ≤ k → k < N → I k a b → (∀ a b, I (k + 1) a b → P (k + 1) a b) → P k a b) (h2 : ∀ a b, I N a b → P N a b) (k : Int) (a : α) (b : β) (hk : 0 ≤ k) (hk2 : k ≤ N) (hi : I k a b) : P k a b :=
  lq_1 (P := fun k s => P k s.1 s.2) (I := fun k s => I k s.1 s.2) (fun k s q1 q2 q3 q4 => h1 k s.1 s.2 q1 q2 q3 fun a b q => q4 (a, b) q) (fun s q => h2 s.1 s.2 q) k (a, b) hk hk2 hi
theorem lq_3 {α β γ : Type} {P I : Int → α → β → γ → Prop} {N : Int} (h1 : ∀ k a b d, 0 ≤ k → k < N → I k a b d → (∀ a b d, I (k + 1) a b d → P (k + 1) a b d) → P k a b d) (h2 : ∀ a b d, I N a b d → P N a b d) (k : Int) (a : α) (b : β) (d : γ) (hk : 0 ≤ k) (hk2 : k ≤ N) (hi : I k a b d) : P k a b d :=
  lq_2 (P := fun k a s => P k a s.1 s.2) (I := fun k a s => I k a s.1 s.2) (fun k a s q1 q2 q3 q4 => h1 k a s.1 s.2 q1 q2 q3 fun a b d q => q4 a (b, d) q) (fun a s q => h2 a s.1 s.2 q) k a (b, d) hk hk2 hi
theorem lq_4 {α β γ δ : Type} {P I : Int → α → β → γ → δ → Prop} {N : Int} (h1 : ∀ k a b d e, 0 ≤ k → k < N → I k a b d e → (∀ a b d e, I (k + 1) a b d e → P (k + 1) a b d e) → P k a b d e) (h2 : ∀ a b d e, I N a b d e → P N a b d e) (k : Int) (a : α) (b : β) (d : γ) (e : δ) (hk : 0 ≤ k) (hk2 : k ≤ N) (hi : I k a b d e) : P k a b d e :=
  lq_3 (P := fun k a b s => P k a b s.1 s.2) (I := fun k a b s => I k a b s.1 s.2) (fun k a b s q1 q2 q3 q4 => h1 k a b s.1 s.2 q1 q2 q3 fun a b d e q => q4 a b (d, e) q) (fun a b s q => h2 a b s.1 s.2 q) k a b (d, e) hk hk2 hi
/-- a row that is f up to k, g beyond -/
def lay (k : Int) (f g : Int → Int) : Int → Int := fun j => if 0 ≤ j ∧ j < k then f j else g j
theorem lay_in {k j : Int} {f g : Int → Int} (h : 0 ≤ j ∧ j < k) : lay k f g j = f j := if_pos h
theorem lay_out {k j : Int} {f g : Int → Int} (h : ¬ (0 ≤ j ∧ j < k)) : lay k f g j = g j := if_neg h
theorem lay_0 (f g : Int → Int) : lay 0 f g = g := by
  funext j
  exact if_neg (by omega)
theorem lay_up {k : Int} {f g : Int → Int} (hk : 0 ≤ k) : fu (lay k f g) k (f k) = lay (k + 1) f g := by
  funext j
  unfold fu lay
  by_cases h1 : j = k
  · subst h1
    rw [if_pos rfl, if_pos (by omega)]
  · rw [if_neg h1]
    by_cases h2 : 0 ≤ j ∧ j < k
    · rw [if_pos h2, if_pos (by omega)]
    · rw [if_neg h2, if_neg (by omega)]
theorem lay_upv {k v : Int} {f g : Int → Int} (hk : 0 ≤ k) (hv : v = f k) : fu (lay k f g) k v = lay (k + 1) f g := by rw [hv, lay_up hk]
/-- a beach's sides -/
def BD (s : Int → Int) : Prop := 2 ≤ s 0 ∧ s 0 ≤ 5 ∧ 2 ≤ s 1 ∧ s 1 ≤ 5
theorem bes_rng {W D x d : Int} (hW : 2 ≤ W ∧ W ≤ 5) (hx : 0 ≤ x) (hx2 : x < W * D) (hd : 0 ≤ d) (hd2 : d < 4) : bes W (W * D) x d = -1 ∨ (0 ≤ bes W (W * D) x d ∧ bes W (W * D) x d < W * D) := by
  rcases (by omega : W = 2 ∨ W = 3 ∨ W = 4 ∨ W = 5) with rfl | rfl | rfl | rfl
  all_goals
    rcases (by omega : d = 0 ∨ d = 1 ∨ d = 2 ∨ d = 3) with rfl | rfl | rfl | rfl
    all_goals
      simp only [bes, Int.reduceEq, if_true, if_false, reduceIte]
      split <;> omega
/-- the other side -/
def opp (d : Int) : Int := if d < 2 then d + 2 else d - 2
theorem bes_opp {W D x d : Int} (hW : 2 ≤ W ∧ W ≤ 5) (hx : 0 ≤ x) (hx2 : x < W * D) (hd : 0 ≤ d) (hd2 : d < 4) (hn : ¬ bes W (W * D) x d = -1) : bes W (W * D) (bes W (W * D) x d) (opp d) = x := by
  rcases (by omega : W = 2 ∨ W = 3 ∨ W = 4 ∨ W = 5) with rfl | rfl | rfl | rfl
  all_goals
    rcases (by omega : d = 0 ∨ d = 1 ∨ d = 2 ∨ d = 3) with rfl | rfl | rfl | rfl
    all_goals
      simp only [opp, Int.reduceLT, Int.reduceAdd, Int.reduceSub, if_true, if_false, reduceIte] at hn ⊢
      simp only [bes, Int.reduceEq, if_true, if_false, reduceIte] at hn ⊢
      split at hn
      · rename_i h
        rw [if_pos h, if_pos (by omega)]
        omega
      · omega
theorem bes_ne {W D x d : Int} (hW : 2 ≤ W ∧ W ≤ 5) (hx : 0 ≤ x) (hx2 : x < W * D) (hd : 0 ≤ d) (hd2 : d < 4) : ¬ bes W (W * D) x d = x := by
  rcases (by omega : W = 2 ∨ W = 3 ∨ W = 4 ∨ W = 5) with rfl | rfl | rfl | rfl
  all_goals
    rcases (by omega : d = 0 ∨ d = 1 ∨ d = 2 ∨ d = 3) with rfl | rfl | rfl | rfl
    all_goals
      simp only [bes, Int.reduceEq, if_true, if_false, reduceIte]
      split <;> omega
theorem opp_rng {d : Int} (hd : 0 ≤ d) (hd2 : d < 4) : 0 ≤ opp d ∧ opp d < 4 := by
  unfold opp
  split <;> omega
/-- no more comes than is there -/
def Cl (W N : Int) (ht : Int → Int) (F : Int) (s : Int → Int) : Prop := ∀ x, 0 ≤ x → x < N → (0 ≤ s x ∧ fse W N ht F x ≤ s x) ∧ ∀ d, 0 ≤ d → d < 4 → ¬ bes W N x d = -1 → fce ht s x (bes W N x d) ≤ s x
def Lo (W N : Int) (ht : Int → Int) (F : Int) (s : Int → Int) : Prop := ∀ t, Cl W N ht F t → ∀ x, 0 ≤ x → x < N → s x ≤ t x
def St (W N : Int) (ht : Int → Int) (F : Int) (s : Int → Int) : Prop := Cl W N ht F s ∧ Lo W N ht F s
theorem St.uq {W N F : Int} {ht s t : Int → Int} (h1 : St W N ht F s) (h2 : St W N ht F t) {x : Int} (hx : 0 ≤ x) (hx2 : x < N) : s x = t x := by
  have a := h1.2 t h2.1 x hx hx2
  have b := h2.2 s h1.1 x hx hx2
  omega
noncomputable def stg (W N : Int) (ht : Int → Int) (F : Int) : Int → Int := Classical.epsilon (fun s => St W N ht F s)
theorem St.eq {W N F : Int} {ht s : Int → Int} (h : St W N ht F s) {x : Int} (hx : 0 ≤ x) (hx2 : x < N) : s x = stg W N ht F x := by
  exact h.uq (Classical.epsilon_spec (⟨s, h⟩ : ∃ s, St W N ht F s)) hx hx2
/-- what comes from a cell is no more than any closed row has -/
theorem Lo.ce {W D F : Int} {ht s : Int → Int} (hW : 2 ≤ W ∧ W ≤ 5) (h : Lo W (W * D) ht F s) {x d : Int} (hx : 0 ≤ x) (hx2 : x < W * D) (hd : 0 ≤ d) (hd2 : d < 4) (hn : ¬ bes W (W * D) x d = -1) {t : Int → Int} (ht' : Cl W (W * D) ht F t) : fce ht s x (bes W (W * D) x d) ≤ t x := by
  have hr := bes_rng hW hx hx2 hd hd2
  have h1 := h t ht' (bes W (W * D) x d) (by omega) (by omega)
  have h2 := (ht' x hx hx2).1.1
  have h3 := (ht' x hx hx2).2 d hd hd2 hn
  unfold fce at h3 ⊢
  by_cases h4 : s (bes W (W * D) x d) < 1
  · rw [if_pos h4]
    exact h2
  · rw [if_neg h4]
    rw [if_neg (by omega)] at h3
    omega
theorem Lo.up {W D F : Int} {ht s : Int → Int} (hW : 2 ≤ W ∧ W ≤ 5) (h : Lo W (W * D) ht F s) {x d : Int} (hx : 0 ≤ x) (hx2 : x < W * D) (hd : 0 ≤ d) (hd2 : d < 4) (hn : ¬ bes W (W * D) x d = -1) : Lo W (W * D) ht F (fu s x (fce ht s x (bes W (W * D) x d))) := by
  intro t ht' y hy hy2
  unfold fu
  split
  · rename_i h1
    rw [h1]
    exact h.ce hW hx hx2 hd hd2 hn ht'
  · exact h t ht' y hy hy2
theorem Cl.const {W N F : Int} {ht : Int → Int} (hh : HT N ht) (hF : 0 ≤ F) : Cl W N ht F (fun _ => F) := by
  intro x hx hx2
  have h1 := hh x hx hx2
  refine ⟨⟨hF, ?_⟩, ?_⟩
  · show fse W N ht F x ≤ F
    unfold fse
    split <;> omega
  · intro d _ _ _
    show (if F < 1 then 0 else F - 1 - (if ht (bes W N x d) < ht x then ht x - ht (bes W N x d) else 0)) ≤ F
    split
    · exact hF
    · split <;> omega
theorem Lo.le {W N F : Int} {ht s : Int → Int} (h : Lo W N ht F s) (hh : HT N ht) (hF : 0 ≤ F) {x : Int} (hx : 0 ≤ x) (hx2 : x < N) : s x ≤ F := h _ (Cl.const hh hF) x hx hx2
/-- the sum of a row up to k -/
def sm (s : Int → Int) : Nat → Int
  | 0 => 0
  | k + 1 => sm s k + s k
theorem sm_le {s : Int → Int} {F : Int} (hF : 0 ≤ F) : ∀ k : Nat, (∀ x : Int, 0 ≤ x → x < k → s x ≤ F) → sm s k ≤ k * F := by
  intro k
  induction k with
  | zero => intro _; show (0 : Int) ≤ 0 * F; omega
  | succ k ih =>
    intro h
    have h1 := ih (fun x hx hx2 => h x hx (by omega))
    have h2 := h k (by omega) (by omega)
    show sm s k + s k ≤ ((k + 1 : Nat) : Int) * F
    rw [Int.natCast_add, Int.add_mul]
    omega
theorem sm_ge {s : Int → Int} : ∀ k : Nat, (∀ x : Int, 0 ≤ x → x < k → 0 ≤ s x) → 0 ≤ sm s k := by
  intro k
  induction k with
  | zero => intro _; exact Int.le_refl 0
  | succ k ih =>
    intro h
    have h1 := ih (fun x hx hx2 => h x hx (by omega))
    have h2 := h k (by omega) (by omega)
    show 0 ≤ sm s k + s k
    omega
theorem sm_fu {s : Int → Int} {x v : Int} : ∀ k : Nat, sm (fu s x v) k = if 0 ≤ x ∧ x < k then sm s k + (v - s x) else sm s k := by
  intro k
  induction k with
  | zero => rw [if_neg (by omega)]; rfl
  | succ k ih =>
    show sm (fu s x v) k + fu s x v k = _
    rw [ih]
    unfold fu
    by_cases h1 : (k : Int) = x
    · rw [if_pos h1, if_neg (by omega), if_pos (by omega)]
      show _ = sm s k + s k + _
      rw [h1]
      omega
    · rw [if_neg h1]
      by_cases h2 : 0 ≤ x ∧ x < k
      · rw [if_pos h2, if_pos (by omega)]
        show _ = sm s k + s k + _
        omega
      · rw [if_neg h2, if_neg (by omega)]
        rfl

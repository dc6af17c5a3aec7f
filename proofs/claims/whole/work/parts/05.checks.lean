/-! the program's tables are the claim's words -/
def tc_TB : List Cond := lw_tbl.filter goodWord
theorem tc_ch_in (c : Nat) {w : Cond} (h : w ∈ tc_ch c) : w ∈ lw_tbl := by
  show w ∈ k2_sels lw_privs ++ (tables_1_1 ++ (tables_1_2 ++ (tables_1_3 ++ (tables_1_4 ++ (tables_1_5 ++ (tables_1_6 ++ (tables_1_7 ++ tables_1_8)))))))
  simp only [List.mem_append]
  match c, h with
  | 0, h => exact Or.inl h
  | 1, h => exact Or.inr (Or.inl h)
  | 2, h => exact Or.inr (Or.inr (Or.inl h))
  | 3, h => exact Or.inr (Or.inr (Or.inr (Or.inl h)))
  | 4, h => exact Or.inr (Or.inr (Or.inr (Or.inr (Or.inl h))))
  | 5, h => exact Or.inr (Or.inr (Or.inr (Or.inr (Or.inr (Or.inl h)))))
  | 6, h => exact Or.inr (Or.inr (Or.inr (Or.inr (Or.inr (Or.inr (Or.inl h))))))
  | 7, h => exact Or.inr (Or.inr (Or.inr (Or.inr (Or.inr (Or.inr (Or.inr (Or.inl h)))))))
  | 8, h => exact Or.inr (Or.inr (Or.inr (Or.inr (Or.inr (Or.inr (Or.inr (Or.inr h)))))))
  | _ + 9, h => cases h
def tc_is (p : Nat) (w : Cond) : Bool := decide ((tc_ch (p / 1000))[p % 1000]? = some w)
def tc_has (p : Nat) (w : Cond) : Bool := tc_is p w && goodWord w
theorem tc_is_in {p : Nat} {w : Cond} (h : tc_is p w = true) : w ∈ lw_tbl := tc_ch_in _ (List.mem_of_getElem? (decide_eq_true_eq.mp h))
theorem tc_has_in {p : Nat} {w : Cond} (h : tc_has p w = true) : w ∈ tc_TB := by
  unfold tc_has at h
  rw [Bool.and_eq_true] at h
  exact List.mem_filter.mpr ⟨tc_is_in h.1, h.2⟩
theorem tc_TB_good : GoodIn tc_TB tc_TB := fun w hw => ⟨hw, good_of_word (List.mem_filter.mp hw).2⟩
theorem tc_all {α : Type} (f : α → Bool) (n : Nat) (l : List α) (h : ∀ k, k < n → ((l.drop (30 * k)).take 30).all f = true) (hl : l.length ≤ 30 * n) : l.all f = true := by
  rw [List.all_eq_true]
  intro x hx
  obtain ⟨j, hj⟩ := List.getElem?_of_mem hx
  have hlt : j < l.length := (List.getElem?_eq_some_iff.mp hj).1
  have h1 := List.all_eq_true.mp (h (j / 30) (by omega)) x
  refine h1 (List.mem_of_getElem? (i := j % 30) ?_)
  rw [List.getElem?_take, if_pos (by omega), List.getElem?_drop, show 30 * (j / 30) + j % 30 = j by omega]
  exact hj
def tc_isNest (w : Cond) : Bool := match w with
  | .methodLinkNest _ _ _ _ => true
  | _ => false
def tc_nest : List Cond := lw_tbl.filter tc_isNest
def tc_pi (o : Nat) : Nat := tc_pIni.getD o 0
def tc_ckC1 (ci k : Nat) : Bool := tc_has ((tc_flp.getD ci []).getD k 0) (u_lay (tc_cn ci) (tc_T ci) k) && (decide (parseFieldDescriptor (tc_T ci k).2.2.1 = some (tc_ty ci k)) && ((List.range (tc_N ci)).all fun j => j == k || decide ((tc_T ci j).2.1 ≠ (tc_T ci k).2.1)))
def tc_ckC (ci : Nat) : Bool := (List.range (tc_N ci)).all (tc_ckC1 ci)
theorem tc_ckC_ok : (List.range 12).all tc_ckC = true := by decide +kernel
def tc_ckF (e : Nat × Nat × Nat × Nat × Nat × Nat × Nat) : Bool := decide (e.2.2.2.1 < 12) && (decide (e.2.2.2.2.1 < tc_N e.2.2.2.1) && (tc_has e.2.2.2.2.2.1 (.fieldLink (tc_cn e.1) e.2.1 (tc_cn e.2.2.1) (tc_T e.2.2.2.1 e.2.2.2.2.1).2.1 (tc_T e.2.2.2.1 e.2.2.2.2.1).2.2.1) && (decide ((tc_T e.2.2.2.1 e.2.2.2.2.1).1 = tc_cn e.2.2.1) || tc_has e.2.2.2.2.2.2 (.sameField (tc_cn e.2.2.1) (tc_T e.2.2.2.1 e.2.2.2.2.1).1 (tc_T e.2.2.2.1 e.2.2.2.2.1).2.1 (tc_T e.2.2.2.1 e.2.2.2.2.1).2.2.1))))
theorem tc_ckF_ok_0 : ((tc_tF.drop (30 * 0)).take 30).all tc_ckF = true := by decide +kernel
theorem tc_ckF_ok_1 : ((tc_tF.drop (30 * 1)).take 30).all tc_ckF = true := by decide +kernel
theorem tc_ckF_ok_2 : ((tc_tF.drop (30 * 2)).take 30).all tc_ckF = true := by decide +kernel
theorem tc_ckF_ok_3 : ((tc_tF.drop (30 * 3)).take 30).all tc_ckF = true := by decide +kernel
theorem tc_ckF_ok_4 : ((tc_tF.drop (30 * 4)).take 30).all tc_ckF = true := by decide +kernel
theorem tc_ckF_ok_5 : ((tc_tF.drop (30 * 5)).take 30).all tc_ckF = true := by decide +kernel
theorem tc_ckF_ok_6 : ((tc_tF.drop (30 * 6)).take 30).all tc_ckF = true := by decide +kernel
theorem tc_ckF_ok_7 : ((tc_tF.drop (30 * 7)).take 30).all tc_ckF = true := by decide +kernel
theorem tc_ckF_ok : tc_tF.all tc_ckF = true := tc_all tc_ckF 8 tc_tF (fun k hk => by
  match k, hk with
  | 0, _ => exact tc_ckF_ok_0
  | 1, _ => exact tc_ckF_ok_1
  | 2, _ => exact tc_ckF_ok_2
  | 3, _ => exact tc_ckF_ok_3
  | 4, _ => exact tc_ckF_ok_4
  | 5, _ => exact tc_ckF_ok_5
  | 6, _ => exact tc_ckF_ok_6
  | 7, _ => exact tc_ckF_ok_7
  | k + 8, hk => omega) (by decide +kernel)
theorem tc_cw_in {p : Nat} {q : MethodName × ByteArray × Nat × Option FieldType} (h : tc_cw p = some q) : Cond.code q.1 q.2.1 q.2.2.1 q.2.2.2 ∈ tc_TB := by
  unfold tc_cw at h
  split at h
  · rename_i hg
    cases h
    exact List.mem_filter.mpr ⟨tc_ch_in _ (List.mem_of_getElem? hg), rfl⟩
  · cases h
def tc_ckK (K : Nat) : Bool := K == 1 || (match tc_cw (tc_lpc.getD K 0) with
  | some q => decide (q.1 = tc_y K ∧ q.2.2.1 = tc_ml K ∧ q.2.2.2 = tc_rt K)
  | none => false) && (tc_has (tc_lpi.getD K 0) (.initialized (tc_y K).cls) && (decide ((tc_y K).cls ≠ "java/lang/invoke/MethodHandle" ∧ (tc_y K).cls ≠ "java/lang/invoke/VarHandle") && (decide ((parseMethodDescriptor (tc_y K).desc).map (fun d => d.parameters.length) = some (tc_np K)) && decide ((tc_y K).cls = tc_cn (tc_o K)))))
theorem tc_ckK_ok_0 : (((List.range 279).drop (30 * 0)).take 30).all tc_ckK = true := by decide +kernel
theorem tc_ckK_ok_1 : (((List.range 279).drop (30 * 1)).take 30).all tc_ckK = true := by decide +kernel
theorem tc_ckK_ok_2 : (((List.range 279).drop (30 * 2)).take 30).all tc_ckK = true := by decide +kernel
theorem tc_ckK_ok_3 : (((List.range 279).drop (30 * 3)).take 30).all tc_ckK = true := by decide +kernel
theorem tc_ckK_ok_4 : (((List.range 279).drop (30 * 4)).take 30).all tc_ckK = true := by decide +kernel
theorem tc_ckK_ok_5 : (((List.range 279).drop (30 * 5)).take 30).all tc_ckK = true := by decide +kernel
theorem tc_ckK_ok_6 : (((List.range 279).drop (30 * 6)).take 30).all tc_ckK = true := by decide +kernel
theorem tc_ckK_ok_7 : (((List.range 279).drop (30 * 7)).take 30).all tc_ckK = true := by decide +kernel
theorem tc_ckK_ok_8 : (((List.range 279).drop (30 * 8)).take 30).all tc_ckK = true := by decide +kernel
theorem tc_ckK_ok_9 : (((List.range 279).drop (30 * 9)).take 30).all tc_ckK = true := by decide +kernel
theorem tc_ckK_ok : (List.range 279).all tc_ckK = true := tc_all tc_ckK 10 (List.range 279) (fun k hk => by
  match k, hk with
  | 0, _ => exact tc_ckK_ok_0
  | 1, _ => exact tc_ckK_ok_1
  | 2, _ => exact tc_ckK_ok_2
  | 3, _ => exact tc_ckK_ok_3
  | 4, _ => exact tc_ckK_ok_4
  | 5, _ => exact tc_ckK_ok_5
  | 6, _ => exact tc_ckK_ok_6
  | 7, _ => exact tc_ckK_ok_7
  | 8, _ => exact tc_ckK_ok_8
  | 9, _ => exact tc_ckK_ok_9
  | k + 10, hk => omega) (by decide +kernel)
def tc_ckS (e : Nat × Nat × Nat × Nat × Nat) : Bool := decide (e.2.2.1 < 279 ∧ e.2.2.1 ≠ 1) && (plainName (tc_y e.2.2.1).cls && (tc_has e.2.2.2.1 (.methodLink (tc_cn e.1) e.2.1 (tc_y e.2.2.1)) && tc_has e.2.2.2.2 (.static (tc_y e.2.2.1))))
theorem tc_ckS_ok : tc_tS.all tc_ckS = true := by decide +kernel
def tc_ckV0 (o idx ci K pl ps pn : Nat) : Bool := tc_has pl (.methodLink (tc_cn o) idx (tc_y K)) && (tc_has ps (.selects (tc_cn ci) (tc_y K) (tc_y K)) && (tc_has pn (.instanceMethod (tc_y K)) && (decide ((tc_y K).cls = tc_cn ci) && tc_has (tc_pi ci) (.initialized (tc_cn ci)))))
def tc_ckV1 (o idx ci K xo pl ps pn pm : Nat) : Bool := tc_has pl (.methodLink (tc_cn o) idx ⟨tc_cn xo, (tc_y K).name, (tc_y K).desc⟩) && (tc_has ps (.selects (tc_cn ci) ⟨tc_cn xo, (tc_y K).name, (tc_y K).desc⟩ (tc_y K)) && (tc_has pn (.instanceMethod (tc_y K)) && tc_has pm (.sameMethod (tc_cn xo) (tc_y K).cls (tc_y K).name (tc_y K).desc)))
def tc_ckV (e : Nat × Nat × Nat × Nat × Nat × Nat × Nat × Nat × Nat × Nat) : Bool := match e with
  | (o, idx, ci, K, kd, xo, pl, ps, pn, pm) => (decide (K < 279 ∧ K ≠ 1) && plainName (tc_y K).cls) && (decide (ci < 12) && (if kd = 0 then tc_ckV0 o idx ci K pl ps pn else tc_ckV1 o idx ci K xo pl ps pn pm))
theorem tc_ckV_ok_0 : ((tc_tV.drop (30 * 0)).take 30).all tc_ckV = true := by decide +kernel
theorem tc_ckV_ok_1 : ((tc_tV.drop (30 * 1)).take 30).all tc_ckV = true := by decide +kernel
theorem tc_ckV_ok_2 : ((tc_tV.drop (30 * 2)).take 30).all tc_ckV = true := by decide +kernel
theorem tc_ckV_ok_3 : ((tc_tV.drop (30 * 3)).take 30).all tc_ckV = true := by decide +kernel
theorem tc_ckV_ok_4 : ((tc_tV.drop (30 * 4)).take 30).all tc_ckV = true := by decide +kernel
theorem tc_ckV_ok_5 : ((tc_tV.drop (30 * 5)).take 30).all tc_ckV = true := by decide +kernel
theorem tc_ckV_ok_6 : ((tc_tV.drop (30 * 6)).take 30).all tc_ckV = true := by decide +kernel
theorem tc_ckV_ok_7 : ((tc_tV.drop (30 * 7)).take 30).all tc_ckV = true := by decide +kernel
theorem tc_ckV_ok_8 : ((tc_tV.drop (30 * 8)).take 30).all tc_ckV = true := by decide +kernel
theorem tc_ckV_ok : tc_tV.all tc_ckV = true := tc_all tc_ckV 9 tc_tV (fun k hk => by
  match k, hk with
  | 0, _ => exact tc_ckV_ok_0
  | 1, _ => exact tc_ckV_ok_1
  | 2, _ => exact tc_ckV_ok_2
  | 3, _ => exact tc_ckV_ok_3
  | 4, _ => exact tc_ckV_ok_4
  | 5, _ => exact tc_ckV_ok_5
  | 6, _ => exact tc_ckV_ok_6
  | 7, _ => exact tc_ckV_ok_7
  | 8, _ => exact tc_ckV_ok_8
  | k + 9, hk => omega) (by decide +kernel)
def tc_ckI (e : Nat × Nat × Nat × Nat × Nat × Nat) : Bool := match e with
  | (o, idx, K, kd, pl, pn) => (decide (K < 279 ∧ K ≠ 1) && plainName (tc_y K).cls) && (tc_has pn (.instanceMethod (tc_y K)) && (decide ((tc_y K).name = "<init>") && (decide (tc_rt K = none) && (if kd = 0 then tc_has pl (.methodLink (tc_cn o) idx (tc_y K)) else tc_is pl (.methodLinkNest (tc_cn o) idx (tc_y K) "TideCastle")))))
theorem tc_ckI_ok : tc_tI.all tc_ckI = true := by decide +kernel
def tc_isDv (ty : FieldType) : Bool := match ty with
  | .int => true
  | .boolean => true
  | .object _ => true
  | .array _ => true
  | _ => false
def tc_ckN (e : Nat × Nat × Nat × Nat) : Bool := match e with
  | (o, idx, ci, p) => decide (ci < 12) && (tc_has p (.classLink (tc_cn o) idx (tc_cn ci)) && (tc_has (tc_pIns.getD ci 0) (.instantiable (tc_cn ci) (tc_N ci)) && (tc_has (tc_pi ci) (.initialized (tc_cn ci)) && (decide ((tc_tyl.getD ci []).length = tc_N ci) && (tc_tyl.getD ci []).all tc_isDv))))
theorem tc_ckN_ok : tc_tN.all tc_ckN = true := by decide +kernel
def tc_ckA (e : Nat × Nat × Nat × Nat) : Bool := match e with
  | (o, idx, ci, p) => (ci == 1 || (ci == 5 || ci == 6)) && tc_has p (.classLink (tc_cn o) idx (tc_cn ci))
theorem tc_ckA_ok : tc_tA.all tc_ckA = true := by decide +kernel
def tc_ckO (e : Nat × Nat × Nat) : Bool := match e with
  | (o, idx, p) => tc_has p (.methodLink (tc_cn o) idx objectInit)
theorem tc_ckO_ok : tc_tO.all tc_ckO = true := by decide +kernel
def tc_ckCI (e : Nat × Nat × Int × Nat) : Bool := match e with
  | (o, idx, v, p) => tc_has p (.constant (tc_cn o) idx (tc_3 v)) && decide (-2147483648 ≤ v ∧ v < 2147483648)
theorem tc_ckCI_ok : tc_tCI.all tc_ckCI = true := by decide +kernel
def tc_ckCL (e : Nat × Nat × Int × Nat) : Bool := match e with
  | (o, idx, v, p) => tc_has p (.constantLong (tc_cn o) idx (tc_6 v)) && decide (-9223372036854775808 ≤ v ∧ v < 9223372036854775808)
theorem tc_ckCL_ok : tc_tCL.all tc_ckCL = true := by decide +kernel
def tc_ckAC (e : Nat × Nat × Nat) : Bool := match e with
  | (o, idx, p) => tc_has p (.methodLink (tc_cn o) idx arraycopyName)
theorem tc_ckAC_ok : tc_tAC.all tc_ckAC = true := by decide +kernel
theorem tc_w_obj : tc_has 1028 (.instanceMethod objectInit) = true ∧ tc_has 1029 (.code objectInit ⟨#[0xb1]⟩ 1 none) = true := by decide +kernel
theorem tc_w_ac : tc_has 3124 (.native arraycopyName) = true ∧ tc_has 3123 (.static arraycopyName) = true ∧ tc_has 1018 (.initialized "java/lang/System") = true := by decide +kernel
theorem tc_w_cl : tc_has 3226 (.sameMethod "[I" "java/lang/Object" "clone" "()Ljava/lang/Object;") = true ∧ tc_has 3227 (.native ⟨"java/lang/Object", "clone", "()Ljava/lang/Object;"⟩) = true ∧ tc_has 3228 (.instanceMethod ⟨"java/lang/Object", "clone", "()Ljava/lang/Object;"⟩) = true ∧ tc_has 3229 (.selects "[I" ⟨"[I", "clone", "()Ljava/lang/Object;"⟩ ⟨"java/lang/Object", "clone", "()Ljava/lang/Object;"⟩) = true ∧ tc_is 3230 (.castable "[I" "java/lang/Cloneable") = true ∧ tc_has 3231 (.classLink (tc_cn 16) 317 "[I") = true := by decide +kernel
theorem tc_w_ar : tc_has 1108 (.arrayClass .int) = true ∧ tc_has 1107 (.arrayClass .byte) = true ∧ tc_has 6123 (.arrayClass .boolean) = true ∧ tc_has 2019 (.arrayClass .long) = true := by decide +kernel
theorem tc_w_ao : tc_is 1031 (.arrayOver (.object (tc_cn 1))) = true ∧ tc_is 1167 (.arrayOver (.object (tc_cn 5))) = true ∧ tc_is 1223 (.arrayOver (.object (tc_cn 6))) = true := by decide +kernel
def tc_ckCl (e : Nat × Nat × Nat) : Bool := match e with
  | (o, idx, p) => tc_has p (.methodLink (tc_cn o) idx ⟨"[I", "clone", "()Ljava/lang/Object;"⟩)
theorem tc_ckCl_ok : tc_tCl.all tc_ckCl = true := by decide +kernel
def tc_ckM (e : Nat × Nat × Nat × Nat) : Bool := match e with
  | (o, idx, k, p) => tc_has p (.methodLink (tc_cn o) idx (if k = 0 then Lib.Math.max.name else if k = 1 then Lib.Math.min.name else if k = 2 then Lib.MathLoose.max_long.x else Lib.MathLoose.min_long.x)) && decide (k < 4)
theorem tc_ckM_ok : tc_tM.all tc_ckM = true := by decide +kernel
theorem tc_w_m0 : tc_has 4057 (.static Lib.Math.max.name) = true ∧ tc_has 1013 (.initialized "java/lang/Math") = true ∧ tc_has 4058 (.code Lib.Math.max.name Lib.Math.max.code 2 (some .int)) = true := by decide +kernel
theorem tc_w_m1 : tc_has 2211 (.static Lib.Math.min.name) = true ∧ tc_has 2212 (.code Lib.Math.min.name Lib.Math.min.code 2 (some .int)) = true := by decide +kernel
theorem tc_w_m2 : tc_has 4144 (.static Lib.MathLoose.max_long.x) = true ∧ tc_has 4145 (.code Lib.MathLoose.max_long.x Lib.MathLoose.max_long.code 4 (some .long)) = true := by decide +kernel
theorem tc_w_m3 : tc_has 4141 (.static Lib.MathLoose.min_long.x) = true ∧ tc_has 4142 (.code Lib.MathLoose.min_long.x Lib.MathLoose.min_long.code 4 (some .long)) = true := by decide +kernel

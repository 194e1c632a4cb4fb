/-! WHAT THE ABSTRACT MEMORY SAYS OF THE HEAP -/
theorem eg_ci_ok (n : Int) : Int32.ofInt n = eg_ci n := by
  cases n with
  | ofNat k => rfl
  | negSucc k =>
    show Int32.ofInt (Int.negSucc k) = - nI (k + 1)
    rw [Int.negSucc_eq, Int32.ofInt_neg]
    rfl
theorem eg_bi_ok {n : Int} (h : (decide (-128 ≤ n) && decide (n < 128)) = true) : (Int8.ofInt n).toInt32 = eg_ci n := by
  rw [← eg_ci_ok]
  simp only [Bool.and_eq_true, decide_eq_true_eq] at h
  refine Int32.toInt_inj.mp ?_
  rw [Int8.toInt_toInt32, Int8.toInt_ofInt, Int32.toInt_ofInt]
  rw [Int.bmod_def, Int.bmod_def]
  simp only [show Int8.size = 256 from rfl, show Int32.size = 4294967296 from rfl]
  omega
theorem eg_si_ok {n : Int} (h : (decide (-32768 ≤ n) && decide (n < 32768)) = true) : (Int16.ofInt n).toInt32 = eg_ci n := by
  rw [← eg_ci_ok]
  simp only [Bool.and_eq_true, decide_eq_true_eq] at h
  refine Int32.toInt_inj.mp ?_
  rw [Int16.toInt_toInt32, Int16.toInt_ofInt, Int32.toInt_ofInt]
  rw [Int.bmod_def, Int.bmod_def]
  simp only [show Int16.size = 65536 from rfl, show Int32.size = 4294967296 from rfl]
  omega
theorem eg_need_of {b : Bool} {P : Prop} (h : b = true) (k : P) : eg_need b P := by subst h; exact k
theorem eg_need_out {b : Bool} {P : Prop} (h : eg_need b P) : b = true ∧ P := by
  cases b with
  | true => exact ⟨rfl, h⟩
  | false => exact h.elim
/-- a value as the machine has it -/
def eg_cv (ad adK : Nat → Nat) (v : Value) : Value := match v with
  | .ref p => .ref (ad p)
  | .retAddr k => .ref (adK k)
  | v => v
def eg_wv (N : Nat) (v : Value) : Prop := match v with
  | .ref p => p < N
  | _ => True
/-- an element of a row of references -/
def eg_ea (w : eg_W) (adK ad : Nat → Nat) (M : eg_M) (p i : Nat) : Option Nat := match (eg_sh w M p).1 with
  | 4 => (eg_gr M p i).map ad
  | 5 => (eg_ref (eg_sh w M p) M p i).map adK
  | _ => if i < (eg_sh w M p).2.1 then some (ad (p + 1 + i)) else none
def eg_ent (w : eg_W) (aC : Nat → ClassId) (adK ad : Nat → Nat) (M : eg_M) (p : Nat) : va_E := match (eg_sh w M p).1 with
  | 0 => .inr ((eg_sh w M p).2.1, (List.range (w.2.2.2 (eg_sh w M p).2.1)).map (fun k => eg_cv ad adK (eg_fld w M p (eg_sh w M p).2.1 k)))
  | 1 => .inl (aC 1, (eg_sh w M p).2.1, .inl (M.2.1 p))
  | 2 => .inl (aC 2, (eg_sh w M p).2.1, .inr (.inl (M.2.2.1 p)))
  | 3 => .inl (aC 3, (eg_sh w M p).2.1, .inl (M.2.1 p))
  | k => .inl (aC k, (eg_sh w M p).2.1, .inr (.inr (.inr (.inr (eg_ea w adK ad M p)))))
def eg_ws (w : eg_W) (aC : Nat → ClassId) (adK ad : Nat → Nat) (M : eg_M) : va_W := (List.range (eg_N w M)).map (fun p => (ad p, eg_ent w aC adK ad M p))
theorem eg_ws_get {w : eg_W} {aC : Nat → ClassId} {adK ad : Nat → Nat} {M : eg_M} {p : Nat} (h : p < eg_N w M) : (eg_ws w aC adK ad M)[p]? = some (ad p, eg_ent w aC adK ad M p) := by
  simp [eg_ws, h]
theorem eg_ws_out {w : eg_W} {aC : Nat → ClassId} {adK ad : Nat → Nat} {M : eg_M} {p : Nat} (h : ¬ p < eg_N w M) : (eg_ws w aC adK ad M)[p]? = none := by
  simp only [eg_ws, List.getElem?_map, Option.map_eq_none_iff, List.getElem?_eq_none_iff, List.length_range]
  omega
theorem eg_sh_lt {w : eg_W} {M : eg_M} {p : Nat} (h : (eg_sh w M p).1 ≠ 99) : p < eg_N w M := by
  unfold eg_sh at h
  unfold eg_N
  by_cases hb : p < w.2.1
  · omega
  · have hf : Nat.blt p w.2.1 = false := by
      rw [← Bool.not_eq_true, Nat.blt_eq]
      exact hb
    rw [hf] at h
    simp only [cond_false] at h
    by_cases hl : p - w.2.1 < M.1.length
    · omega
    · rw [List.getD_eq_getElem?_getD, List.getElem?_eq_none (by omega)] at h
      exact absurd rfl h
theorem eg_sh_of {w : eg_W} {M N : eg_M} (h : N.1 = M.1) (p : Nat) : eg_sh w N p = eg_sh w M p := by unfold eg_sh; rw [h]
theorem eg_N_of {w : eg_W} {M N : eg_M} (h : N.1 = M.1) : eg_N w N = eg_N w M := by unfold eg_N; rw [h]
/-- the same but for one place -/
theorem eg_ws_set {w : eg_W} {aC : Nat → ClassId} {adK ad : Nat → Nat} {M N : eg_M} {p : Nat} (h1 : N.1 = M.1) (h2 : ∀ q, q ≠ p → eg_ent w aC adK ad N q = eg_ent w aC adK ad M q) {x : va_E} (h3 : eg_ent w aC adK ad N p = x) : eg_ws w aC adK ad N = (eg_ws w aC adK ad M).set p (ad p, x) := by
  apply List.ext_getElem?
  intro q
  rw [List.getElem?_set]
  by_cases hq : q < eg_N w M
  · rw [eg_ws_get (by rw [eg_N_of h1]; exact hq)]
    by_cases e : p = q
    · subst e
      have hl : p < (eg_ws w aC adK ad M).length := by simp [eg_ws, hq]
      rw [if_pos rfl, if_pos hl, h3]
    · rw [if_neg e, eg_ws_get hq, h2 q (fun z => e z.symm)]
  · rw [eg_ws_out (by rw [eg_N_of h1]; exact hq)]
    by_cases e : p = q
    · subst e
      have hl : ¬ p < (eg_ws w aC adK ad M).length := by simp only [eg_ws, List.length_map, List.length_range]; exact hq
      rw [if_pos rfl, if_neg hl]
    · rw [if_neg e, eg_ws_out hq]
theorem eg_up_ne {α : Type} {f : Nat → Nat → α} {p k q : Nat} {v : α} (h : q ≠ p) : eg_up f p k v q = f q := by simp [eg_up, h]
theorem eg_up_eq {α : Type} {f : Nat → Nat → α} {p k : Nat} {v : α} : eg_up f p k v p = fun j => if j = k then v else f p j := by simp [eg_up]
theorem eg_gi_si (M : eg_M) (p k q j : Nat) (v : Int32) : eg_gi (eg_si M p k v) q j = if q = p ∧ j = k then v else eg_gi M q j := by
  simp only [eg_gi, eg_si]
  by_cases h : q = p
  · subst h
    rw [eg_up_eq]
    by_cases h2 : j = k <;> simp [h2]
  · rw [eg_up_ne h]; simp [h]
theorem eg_gl_sl (M : eg_M) (p k q j : Nat) (v : Int64) : eg_gl (eg_sl M p k v) q j = if q = p ∧ j = k then v else eg_gl M q j := by
  simp only [eg_gl, eg_sl]
  by_cases h : q = p
  · subst h
    rw [eg_up_eq]
    by_cases h2 : j = k <;> simp [h2]
  · rw [eg_up_ne h]; simp [h]
theorem eg_gr_sr (M : eg_M) (p k q j : Nat) (v : Option Nat) : eg_gr (eg_sr M p k v) q j = if q = p ∧ j = k then v else eg_gr M q j := by
  simp only [eg_gr, eg_sr]
  by_cases h : q = p
  · subst h
    rw [eg_up_eq]
    by_cases h2 : j = k <;> simp [h2]
  · rw [eg_up_ne h]; simp [h]
theorem eg_gl_si (M : eg_M) (p k q j : Nat) (v : Int32) : eg_gl (eg_si M p k v) q j = eg_gl M q j := rfl
theorem eg_gr_si (M : eg_M) (p k q j : Nat) (v : Int32) : eg_gr (eg_si M p k v) q j = eg_gr M q j := rfl
theorem eg_gi_sl (M : eg_M) (p k q j : Nat) (v : Int64) : eg_gi (eg_sl M p k v) q j = eg_gi M q j := rfl
theorem eg_gr_sl (M : eg_M) (p k q j : Nat) (v : Int64) : eg_gr (eg_sl M p k v) q j = eg_gr M q j := rfl
theorem eg_gi_sr (M : eg_M) (p k q j : Nat) (v : Option Nat) : eg_gi (eg_sr M p k v) q j = eg_gi M q j := rfl
theorem eg_gl_sr (M : eg_M) (p k q j : Nat) (v : Option Nat) : eg_gl (eg_sr M p k v) q j = eg_gl M q j := rfl
/-- an entry is told by its own rows -/
theorem eg_ent_of {w : eg_W} {aC : Nat → ClassId} {adK ad : Nat → Nat} {M N : eg_M} {q : Nat} (h1 : N.1 = M.1) (hi : N.2.1 q = M.2.1 q) (hl : N.2.2.1 q = M.2.2.1 q) (hr : N.2.2.2 q = M.2.2.2 q) : eg_ent w aC adK ad N q = eg_ent w aC adK ad M q := by
  have e1 : ∀ k, eg_gi N q k = eg_gi M q k := fun k => congrFun hi k
  have e2 : ∀ k, eg_gl N q k = eg_gl M q k := fun k => congrFun hl k
  have e3 : ∀ k, eg_gr N q k = eg_gr M q k := fun k => congrFun hr k
  have e4 : eg_ea w adK ad N q = eg_ea w adK ad M q := by
    funext i
    simp only [eg_ea, eg_sh_of h1, eg_ref, e3]
  simp only [eg_ent, eg_sh_of h1, hi, hl, e4, eg_fld, eg_ref, e1, e2, e3]
theorem eg_ws_iast {w : eg_W} {aC : Nat → ClassId} {adK ad : Nat → Nat} {M : eg_M} {p i : Nat} {v : Int32} {k : Nat} (hk : (eg_sh w M p).1 = k) (h13 : k = 1 ∨ k = 3) : eg_ws w aC adK ad (eg_si M p i v) = (eg_ws w aC adK ad M).set p (ad p, .inl (aC k, (eg_sh w M p).2.1, .inl (upd (M.2.1 p) i v))) := by
  refine eg_ws_set (M := M) (N := eg_si M p i v) rfl (fun q hq => eg_ent_of (M := M) rfl (eg_up_ne hq) rfl rfl) ?_
  have hs : eg_sh w (eg_si M p i v) p = eg_sh w M p := eg_sh_of rfl p
  have hu : (eg_si M p i v).2.1 p = upd (M.2.1 p) i v := by
    show eg_up M.2.1 p i v p = _
    rw [eg_up_eq]
    rfl
  unfold eg_ent
  rw [hs, hu, hk]
  rcases h13 with e | e <;> subst e <;> rfl
theorem eg_ws_last {w : eg_W} {aC : Nat → ClassId} {adK ad : Nat → Nat} {M : eg_M} {p i : Nat} {v : Int64} (hk : (eg_sh w M p).1 = 2) : eg_ws w aC adK ad (eg_sl M p i v) = (eg_ws w aC adK ad M).set p (ad p, .inl (aC 2, (eg_sh w M p).2.1, .inr (.inl (vp_updL (M.2.2.1 p) i v)))) := by
  refine eg_ws_set (M := M) (N := eg_sl M p i v) rfl (fun q hq => eg_ent_of (M := M) rfl rfl (eg_up_ne hq) rfl) ?_
  have hs : eg_sh w (eg_sl M p i v) p = eg_sh w M p := eg_sh_of rfl p
  have hu : (eg_sl M p i v).2.2.1 p = vp_updL (M.2.2.1 p) i v := by
    show eg_up M.2.2.1 p i v p = _
    rw [eg_up_eq]
    rfl
  unfold eg_ent
  rw [hs, hu, hk]
  rfl
theorem eg_map_set {f g : Nat → Value} {n k : Nat} {v : Value} (hne : ∀ j, j ≠ k → g j = f j) (hk : g k = v) : (List.range n).map g = ((List.range n).map f).set k v := by
  apply List.ext_getElem?
  intro j
  rw [List.getElem?_set]
  by_cases e : k = j
  · subst e
    by_cases hj : k < n
    · simp [hj, hk]
    · simp [hj]
  · by_cases hj : j < n
    · simp [hj, e, hne j (fun z => e z.symm)]
    · simp [hj, e]
/-- a field is written -/
theorem eg_ws_put {w : eg_W} {aC : Nat → ClassId} {adK ad : Nat → Nat} {M N : eg_M} {p k ci : Nat} {v : Value} (h1 : N.1 = M.1) (h2 : ∀ q, q ≠ p → N.2.1 q = M.2.1 q ∧ N.2.2.1 q = M.2.2.1 q ∧ N.2.2.2 q = M.2.2.2 q) (hk : (eg_sh w M p).1 = 0) (hc : (eg_sh w M p).2.1 = ci)
    (hne : ∀ j, j ≠ k → eg_fld w N p ci j = eg_fld w M p ci j) (he : eg_fld w N p ci k = v) : eg_ws w aC adK ad N = (eg_ws w aC adK ad M).set p (ad p, .inr (ci, ((List.range (w.2.2.2 ci)).map (fun k => eg_cv ad adK (eg_fld w M p ci k))).set k (eg_cv ad adK v))) := by
  refine eg_ws_set h1 (fun q hq => eg_ent_of h1 (h2 q hq).1 (h2 q hq).2.1 (h2 q hq).2.2) ?_
  unfold eg_ent
  rw [eg_sh_of h1, hk, hc]
  rw [eg_map_set (f := fun k => eg_cv ad adK (eg_fld w M p ci k)) (v := eg_cv ad adK v) (fun j hj => by rw [hne j hj]) (by rw [he])]
  rfl
/-! THE RELATION -/
/-- every reference lies within -/
def eg_wf (w : eg_W) (M : eg_M) : Prop :=
  (∀ p k q, (eg_sh w M p).1 = 0 → w.2.2.1 (eg_sh w M p).2.1 k = 2 → eg_ref (eg_sh w M p) M p k = some q → q < eg_N w M) ∧
  (∀ p k q, (eg_sh w M p).1 = 4 → eg_gr M p k = some q → q < eg_N w M) ∧
  (∀ p k, 6 ≤ (eg_sh w M p).1 → p < eg_N w M → k < (eg_sh w M p).2.1 → p + 1 + k < eg_N w M)
/-- the locals -/
def eg_L (ad adK : Nat → Nat) (N : Nat) (arr : Array Slot) (nL : Nat) (ls : List (Option Value)) : Prop :=
  arr.size = nL ∧ lv_wf arr ∧ ls.length = nL ∧ ∀ (i : Nat) (v : Value), ls.getD i none = some v → arr[i]? = some (.val (eg_cv ad adK v)) ∧ eg_wv N v
def eg_pr (ad adK : Nat → Nat) (ls : List (Option Value)) (nL : Nat) : List (Nat × Value) := (List.range nL).filterMap (fun i => (ls.getD i none).map (fun v => (i, eg_cv ad adK v)))
theorem eg_L.has {ad adK : Nat → Nat} {N : Nat} {arr : Array Slot} {nL : Nat} {ls : List (Option Value)} (h : eg_L ad adK N arr nL ls) : lv_has arr nL (eg_pr ad adK ls nL) := by
  obtain ⟨h1, h2, h3, h4⟩ := h
  refine ⟨h1, h2, fun q hq => ?_⟩
  obtain ⟨i, hi, he⟩ := List.mem_filterMap.mp hq
  cases hv : ls.getD i none with
  | none => rw [hv] at he; cases he
  | some v =>
    rw [hv] at he
    cases Option.some.inj he
    exact (h4 i v hv).1
theorem eg_pr_in {ad adK : Nat → Nat} {ls : List (Option Value)} {nL i : Nat} {v : Value} (hl : ls.length = nL) (h : ls.getD i none = some v) : (i, eg_cv ad adK v) ∈ eg_pr ad adK ls nL := by
  refine List.mem_filterMap.mpr ⟨i, ?_, by rw [h]; rfl⟩
  rw [List.mem_range]
  by_cases hi : i < nL
  · exact hi
  · rw [List.getD_eq_getElem?_getD, List.getElem?_eq_none (by omega)] at h
    cases h
theorem eg_cat_cv (ad adK : Nat → Nat) (v : Value) : (eg_cv ad adK v).category = v.category := by cases v <;> rfl
theorem eg_cat2_iff {v : Value} : eg_cat2 (some v) = true ↔ v.category = 2 := by cases v <;> simp [eg_cat2, Value.category]
theorem eg_set_getD {ls : List (Option Value)} {i j : Nat} {x : Option Value} : (ls.set i x).getD j none = if i = j ∧ i < ls.length then x else ls.getD j none := by
  rw [List.getD_eq_getElem?_getD, List.getD_eq_getElem?_getD, List.getElem?_set]
  by_cases e : i = j
  · subst e
    by_cases hl : i < ls.length
    · simp [hl]
    · simp [hl, List.getElem?_eq_none (Nat.le_of_not_lt hl)]
  · simp [e]
theorem eg_st1_getD {ls : List (Option Value)} {i j : Nat} {v u : Value} (hi : i < ls.length) (h : (eg_st1 ls i v).getD j none = some u) : (j = i ∧ u = v) ∨ (j ≠ i ∧ ls.getD j none = some u ∧ ¬ (j + 1 = i ∧ u.category = 2)) := by
  cases i with
  | zero =>
    unfold eg_st1 at h
    rw [eg_set_getD] at h
    by_cases e : 0 = j
    · rw [if_pos ⟨e, hi⟩] at h
      exact Or.inl ⟨e.symm, (Option.some.inj h).symm⟩
    · rw [if_neg (fun z => e z.1)] at h
      exact Or.inr ⟨fun z => e z.symm, h, fun z => by omega⟩
  | succ i =>
    unfold eg_st1 at h
    by_cases e : i + 1 = j
    · rw [eg_set_getD] at h
      have hl : i + 1 < (bif eg_cat2 (ls.getD i none) then ls.set i none else ls).length := by
        cases eg_cat2 (ls.getD i none) <;> simpa using hi
      rw [if_pos ⟨e, hl⟩] at h
      exact Or.inl ⟨e.symm, (Option.some.inj h).symm⟩
    · rw [eg_set_getD, if_neg (fun z => e z.1)] at h
      cases hc : eg_cat2 (ls.getD i none) with
      | true =>
        rw [hc, cond_true, eg_set_getD] at h
        by_cases e2 : i = j
        · subst e2
          rw [if_pos ⟨rfl, by omega⟩] at h
          cases h
        · rw [if_neg (fun z => e2 z.1)] at h
          exact Or.inr ⟨fun z => e z.symm, h, fun z => e2 (by omega)⟩
      | false =>
        rw [hc, cond_false] at h
        refine Or.inr ⟨fun z => e z.symm, h, fun z => ?_⟩
        have e2 : j = i := by omega
        subst e2
        rw [h] at hc
        rw [eg_cat2_iff.mpr z.2] at hc
        cases hc
theorem eg_st1_len {ls : List (Option Value)} {i : Nat} {v : Value} : (eg_st1 ls i v).length = ls.length := by
  cases i with
  | zero => simp [eg_st1]
  | succ i =>
    unfold eg_st1
    rw [List.length_set]
    cases eg_cat2 (ls.getD i none) with
    | true => exact List.length_set
    | false => rfl
theorem eg_st2_getD {ls : List (Option Value)} {i j : Nat} {v u : Value} (hi : i + 1 < ls.length) (h : (eg_st2 ls i v).getD j none = some u) : (j = i ∧ u = v) ∨ (j ≠ i ∧ j ≠ i + 1 ∧ ls.getD j none = some u ∧ ¬ (j + 1 = i ∧ u.category = 2)) := by
  unfold eg_st2 at h
  rw [eg_set_getD] at h
  by_cases e : i + 1 = j
  · rw [if_pos ⟨e, by rw [eg_st1_len]; exact hi⟩] at h
    cases h
  · rw [if_neg (fun z => e z.1)] at h
    rcases eg_st1_getD (by omega) h with q | q
    · exact Or.inl q
    · exact Or.inr ⟨q.1, fun z => e z.symm, q.2⟩
/-- a store of one word -/
theorem eg_L.store1 {ad adK : Nat → Nat} {N : Nat} {arr : Array Slot} {nL : Nat} {ls : List (Option Value)} (h : eg_L ad adK N arr nL ls) {i : Nat} {v : Value} (hi : i < nL) (hv : eg_wv N v) {arr' : Array Slot}
    (h' : lv_has arr' nL ((i, eg_cv ad adK v) :: (eg_pr ad adK ls nL).filter (fun q => !(q.1 == i) && !(q.1 + 1 == i && q.2.category == 2)))) : eg_L ad adK N arr' nL (eg_st1 ls i v) := by
  obtain ⟨g1, g2, g3⟩ := h'
  refine ⟨g1, g2, by rw [eg_st1_len]; exact h.2.2.1, fun j u hu => ?_⟩
  rcases eg_st1_getD (by rw [h.2.2.1]; exact hi) hu with ⟨rfl, rfl⟩ | ⟨q1, q2, q3⟩
  · exact ⟨g3 _ List.mem_cons_self, hv⟩
  · refine ⟨g3 (j, eg_cv ad adK u) (List.mem_cons_of_mem _ (List.mem_filter.mpr ⟨eg_pr_in h.2.2.1 q2, ?_⟩)), (h.2.2.2 j u q2).2⟩
    simp only [eg_cat_cv, Bool.and_eq_true, Bool.not_eq_true', beq_eq_false_iff_ne, Bool.and_eq_false_iff]
    refine ⟨q1, ?_⟩
    by_cases e : j + 1 = i
    · exact Or.inr (fun z => q3 ⟨e, z⟩)
    · exact Or.inl e
theorem eg_L.store2 {ad adK : Nat → Nat} {N : Nat} {arr : Array Slot} {nL : Nat} {ls : List (Option Value)} (h : eg_L ad adK N arr nL ls) {i : Nat} {v : Value} (hi : i + 1 < nL) (hv : eg_wv N v) {arr' : Array Slot}
    (h' : lv_has arr' nL ((i, eg_cv ad adK v) :: (eg_pr ad adK ls nL).filter (fun q => !(q.1 == i) && (!(q.1 == i + 1) && !(q.1 + 1 == i && q.2.category == 2))))) : eg_L ad adK N arr' nL (eg_st2 ls i v) := by
  obtain ⟨g1, g2, g3⟩ := h'
  refine ⟨g1, g2, by unfold eg_st2; rw [List.length_set, eg_st1_len]; exact h.2.2.1, fun j u hu => ?_⟩
  rcases eg_st2_getD (by rw [h.2.2.1]; exact hi) hu with ⟨rfl, rfl⟩ | ⟨q1, q0, q2, q3⟩
  · exact ⟨g3 _ List.mem_cons_self, hv⟩
  · refine ⟨g3 (j, eg_cv ad adK u) (List.mem_cons_of_mem _ (List.mem_filter.mpr ⟨eg_pr_in h.2.2.1 q2, ?_⟩)), (h.2.2.2 j u q2).2⟩
    simp only [eg_cat_cv, Bool.and_eq_true, Bool.not_eq_true', beq_eq_false_iff_ne, Bool.and_eq_false_iff]
    refine ⟨q1, q0, ?_⟩
    by_cases e : j + 1 = i
    · exact Or.inr (fun z => q3 ⟨e, z⟩)
    · exact Or.inl e

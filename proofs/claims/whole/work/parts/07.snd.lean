/-! THE ENGINE IS RIGHT: what it says of a run, the machine does -/
def eg_ty (er : String) (k : Nat) : FieldType := match k with
  | 1 => .int
  | 2 => .long
  | 3 => .boolean
  | 4 => .object er
  | 5 => .object "java/lang/String"
  | 6 => .array .int
  | _ => .array .long
def eg_tys (er : String) (aC : Nat → ClassId) : List (ClassId × FieldType) := [(aC 1, .int), (aC 2, .long), (aC 3, .boolean), (aC 4, .object er), (aC 5, .object "java/lang/String"), (aC 6, .array .int), (aC 7, .array .long)]
theorem eg_tys_at (er : String) (aC : Nat → ClassId) {k : Nat} (h1 : 1 ≤ k) (h7 : k ≤ 7) : (eg_tys er aC)[k - 1]? = some (aC k, eg_ty er k) := by
  rcases (show k = 1 ∨ k = 2 ∨ k = 3 ∨ k = 4 ∨ k = 5 ∨ k = 6 ∨ k = 7 by omega) with e | e | e | e | e | e | e <;> subst e <;> rfl
def eg_ft (t : FieldType) : Nat := match t with
  | .int => 0
  | .long => 1
  | .boolean => 3
  | .object _ => 2
  | .array _ => 2
  | _ => 9
/-- the addresses have only grown -/
def eg_x (ad0 : Nat → Nat) (N0 : Nat) (ad : Nat → Nat) (N : Nat) : Prop := (∀ q, q < N0 → ad q = ad0 q) ∧ N0 ≤ N
/-- the heap holds the memory -/
def eg_H (w : eg_W) (D : va_G) (cl : List vw_C) (aC : Nat → ClassId) (adK : Nat → Nat) (A : Nat → Prop) (H0 : Heap) (ad0 : Nat → Nat) (N0 : Nat) (ad : Nat → Nat) (M : eg_M) (H : Heap) (locs : List Loc) : Prop :=
  va_P D cl (eg_ws w aC adK ad M) H ∧ va_D A (eg_ws w aC adK ad M) ∧ va_S A H0 H locs ∧ eg_wf w M ∧ eg_x ad0 N0 ad (eg_N w M)
/-- what the machine owes at a point -/
def eg_G (p : Program) (l : Launch) (e : Env) (R : Room) (s : State) (m : MethodId) (args : Array Value) (below : List Frame) (meth : Method) (c : Code) (Q : State → Prop) (w : eg_W) (D : va_G) (cl : List vw_C) (aC : Nat → ClassId) (adK : Nat → Nat) (A : Nat → Prop) (nL : Nat) (ad0 : Nat → Nat) (N0 : Nat) : eg_X := fun pc cu su ls st M =>
  ∀ (ad : Nat → Nat) (H : Heap) (locs : List Loc) (arr : Array Slot), eg_H w D cl aC adK A s.heap ad0 N0 ad M H locs → eg_L ad adK (eg_N w M) arr nL ls → (∀ v ∈ st, eg_wv (eg_N w M) v) → W p l e R s m args below meth c H locs cu su Q (F0 m pc arr (st.map (eg_cv ad adK)))
/-- what a call does -/
def eg_CF (p : Program) (l : Launch) (e : Env) (R : Room) (s : State) (m : MethodId) (args : Array Value) (below : List Frame) (meth : Method) (c : Code) (Q : State → Prop) (w : eg_W) (D : va_G) (cl : List vw_C) (aC : Nat → ClassId) (adK : Nat → Nat) (A : Nat → Prop) (nL : Nat) (ad0 : Nat → Nat) (N0 : Nat) (cc : ByteArray) (i : Instr) (n kc ks : Nat) (S : eg_S) : Prop :=
  ∀ (pc cu su : Nat) (ls : List (Option Value)) (rest argv : List Value) (M : eg_M) (Qp : eg_P), decode cc pc = .ok (i, 3) → argv.length = n → eg_wt rest ≤ 8 → cu + kc ≤ R.cells → su + ks ≤ R.slots → S argv M Qp →
  ∀ (ad : Nat → Nat) (H : Heap) (locs : List Loc) (arr : Array Slot), eg_H w D cl aC adK A s.heap ad0 N0 ad M H locs → eg_L ad adK (eg_N w M) arr nL ls → (∀ v ∈ argv, eg_wv (eg_N w M) v) → (∀ v ∈ rest, eg_wv (eg_N w M) v) →
  (∀ (v : Option Value) (N : eg_M) (ad' : Nat → Nat) (H' : Heap) (locs' : List Loc), Qp (.inl v) N → eg_H w D cl aC adK A s.heap ad0 N0 ad' N H' locs' → eg_x ad (eg_N w M) ad' (eg_N w N) → (∀ u ∈ v.toList, eg_wv (eg_N w N) u) → W p l e R s m args below meth c H' locs' (cu + kc) (su + ks) Q (F0 m (pc + 3) arr ((v.toList ++ rest).map (eg_cv ad' adK)))) →
  (∀ (E : String) (N : eg_M) (ad' : Nat → Nat) (H' : Heap) (locs' : List Loc) (q : Nat) (ce : Cell), Qp (.inr E) N → eg_H w D cl aC adK A s.heap ad0 N0 ad' N H' locs' → H'[q]? = some ce → ce.vm = .none → s.vm.findClass E = some ce.cls → vx_W p l e R s m args below meth c H' locs' (cu + kc) (su + ks) Q (F0 m pc arr (rest.map (eg_cv ad' adK))) q) →
  W p l e R s m args below meth c H locs cu su Q (F0 m pc arr ((argv.reverse ++ rest).map (eg_cv ad adK)))
/-- a field that the method names -/
def eg_FL (own : String) (Ts : List Cond) (meth : Method) (cl : List vw_C) (w : eg_W) (k : Nat) (q : Nat × Nat × Bool) : Prop :=
  ∃ (C : String) (T : u_T) (N : Nat) (ty : Nat → FieldType), cl[q.1]? = some (C, T, N) ∧ w.2.2.2 q.1 = N ∧ q.2.1 < N ∧ (∀ x ∈ u_ws C T N, x ∈ Ts) ∧ Cond.fieldLink own k (T q.2.1).1 (T q.2.1).2.1 (T q.2.1).2.2.1 ∈ Ts ∧
    (∀ j, j < N → parseFieldDescriptor (T j).2.2.1 = some (ty j)) ∧ (∀ a, a < N → ∀ b, b < N → a ≠ b → (T a).2.1 ≠ (T b).2.1) ∧ w.2.2.1 q.1 q.2.1 = eg_ft (ty q.2.1) ∧
    (q.2.2 = true → (T q.2.1).2.2.2 = false ∨ ((T q.2.1).2.2.2 = true ∧ meth.name = "<init>" ∧ (T q.2.1).1 = own))
/-- a constant that the method names -/
def eg_KC (own : String) (Ts : List Cond) (adK : Nat → Nat) (s : State) (k : Nat) (v : Value) : Prop := match v with
  | .int x => Cond.constant own k x ∈ Ts
  | .long x => Cond.constantLong own k x ∈ Ts
  | .retAddr j => ∃ tx, vk_R own k tx (adK j) s
  | _ => False
section ES
variable {p : Program} {l : Launch} {e : Env} {R : Room} {s : State} {m : MethodId} {args : Array Value} {below : List Frame} {meth : Method} {c : Code} {Q : State → Prop}
variable {cc : ByteArray} {own er : String} {Ts : List Cond} {w : eg_W} {D : va_G} {cl : List vw_C} {aC : Nat → ClassId} {adK : Nat → Nat} {A : Nat → Prop} {nL N0 : Nat} {ad0 : Nat → Nat}
variable {pc cu su : Nat} {ls : List (Option Value)} {st : List Value} {M : eg_M}
/-- a jump's target -/
theorem eg_to_out {X : eg_X} {off : Int} (h : eg_to X pc off cu su ls st M) : ∃ tgt : Nat, (pc : Int) + off = (tgt : Int) ∧ X tgt cu su ls st M := by
  obtain ⟨h1, h2⟩ := eg_need_out h
  have h1 : 0 ≤ (pc : Int) + off := of_decide_eq_true h1
  exact ⟨_, by omega, h2⟩
theorem eg_br_out {X : eg_X} {op : Jvm.ClassFile.Cond} {x y : Int32} {off : Int} (h : eg_br X op x y pc off cu su ls st M) : ∃ tgt : Nat, (pc : Int) + off = (tgt : Int) ∧ eg_jc op x y (X tgt cu su ls st M) (X (pc + 3) cu su ls st M) := by
  obtain ⟨h1, h2⟩ := eg_need_out h
  have h1 : 0 ≤ (pc : Int) + off := of_decide_eq_true h1
  exact ⟨_, by omega, h2⟩
theorem eg_isO_out {p0 ci : Nat} (h : eg_isO w M p0 ci = true) : (eg_sh w M p0).1 = 0 ∧ (eg_sh w M p0).2.1 = ci := by
  simp only [eg_isO, Bool.and_eq_true, Nat.beq_eq] at h
  exact h
theorem eg_is_out {p0 k : Nat} (h : eg_is w M p0 k = true) : (eg_sh w M p0).1 = k := by
  simp only [eg_is, Nat.beq_eq] at h
  exact h
theorem eg_lt_of {p0 k : Nat} (h : (eg_sh w M p0).1 = k) (hk : k ≤ 7) : p0 < eg_N w M := eg_sh_lt (by omega)
theorem eg_ent_i {ad : Nat → Nat} {p0 : Nat} (h : (eg_sh w M p0).1 = 1) : eg_ent w aC adK ad M p0 = .inl (aC 1, eg_len w M p0, .inl (M.2.1 p0)) := by unfold eg_ent; rw [h]; rfl
theorem eg_ent_l {ad : Nat → Nat} {p0 : Nat} (h : (eg_sh w M p0).1 = 2) : eg_ent w aC adK ad M p0 = .inl (aC 2, eg_len w M p0, .inr (.inl (M.2.2.1 p0))) := by unfold eg_ent; rw [h]; rfl
theorem eg_ent_z {ad : Nat → Nat} {p0 : Nat} (h : (eg_sh w M p0).1 = 3) : eg_ent w aC adK ad M p0 = .inl (aC 3, eg_len w M p0, .inl (M.2.1 p0)) := by unfold eg_ent; rw [h]; rfl
theorem eg_ent_q {ad : Nat → Nat} {p0 k : Nat} (h : (eg_sh w M p0).1 = k) (h4 : 4 ≤ k) : eg_ent w aC adK ad M p0 = .inl (aC k, eg_len w M p0, .inr (.inr (.inr (.inr (eg_ea w adK ad M p0))))) := by
  unfold eg_ent
  rw [h]
  obtain ⟨j, rfl⟩ : ∃ j, k = j + 4 := ⟨k - 4, by omega⟩
  rfl
theorem eg_ent_o {ad : Nat → Nat} {p0 ci : Nat} (h : (eg_sh w M p0).1 = 0) (hc : (eg_sh w M p0).2.1 = ci) : eg_ent w aC adK ad M p0 = .inr (ci, (List.range (w.2.2.2 ci)).map (fun k => eg_cv ad adK (eg_fld w M p0 ci k))) := by unfold eg_ent; rw [h, hc]; rfl
theorem eg_wf_i (hw : eg_wf w M) {p0 k : Nat} {v : Int32} : eg_wf w (eg_si M p0 k v) := hw
theorem eg_wf_l (hw : eg_wf w M) {p0 k : Nat} {v : Int64} : eg_wf w (eg_sl M p0 k v) := hw
theorem eg_wf_r (hw : eg_wf w M) {p0 k x : Nat} (hx : x < eg_N w M) : eg_wf w (eg_sr M p0 k (some x)) := by
  obtain ⟨h1, h2, h3⟩ := hw
  refine ⟨fun q j z a b g => ?_, fun q j z a g => ?_, h3⟩
  · have g : eg_ref (eg_sh w M q) (eg_sr M p0 k (some x)) q j = some z := g
    by_cases e : q = p0 ∧ j = k
    · unfold eg_ref at g
      rw [eg_gr_sr, if_pos e] at g
      cases hs : (eg_sh w M q).2.2.getD j none with
      | none => rw [hs] at g; cases Option.some.inj g; exact hx
      | some y =>
        rw [hs] at g
        exact h1 q j z a b (by unfold eg_ref; rw [hs]; exact g)
    · refine h1 q j z a b ?_
      unfold eg_ref at g ⊢
      rw [eg_gr_sr, if_neg e] at g
      exact g
  · rw [eg_gr_sr] at g
    by_cases e : q = p0 ∧ j = k
    · rw [if_pos e] at g; cases Option.some.inj g; exact hx
    · rw [if_neg e] at g; exact h2 q j z a g
/-- what a field holds lies within -/
theorem eg_fld_wv (hw : eg_wf w M) {p0 ci k : Nat} (h0 : (eg_sh w M p0).1 = 0) (hc : (eg_sh w M p0).2.1 = ci) : eg_wv (eg_N w M) (eg_fld w M p0 ci k) := by
  unfold eg_fld
  split
  · trivial
  · trivial
  · rename_i h2
    cases hr : eg_ref (eg_sh w M p0) M p0 k with
    | none => trivial
    | some q => exact hw.1 p0 k q h0 (by rw [hc]; exact h2) hr
  · trivial
theorem eg_el_ok {ad : Nat → Nat} {p0 i : Nat} (h4 : 4 ≤ (eg_sh w M p0).1) (h7 : (eg_sh w M p0).1 ≤ 7) (hi : i < eg_len w M p0) (hw : eg_wf w M) : va_rf (eg_ea w adK ad M p0 i) = eg_cv ad adK (eg_el w M p0 i) ∧ eg_wv (eg_N w M) (eg_el w M p0 i) := by
  unfold eg_ea eg_el
  rcases (show (eg_sh w M p0).1 = 4 ∨ (eg_sh w M p0).1 = 5 ∨ (eg_sh w M p0).1 = 6 ∨ (eg_sh w M p0).1 = 7 by omega) with h | h | h | h
  · rw [h]
    show va_rf ((eg_gr M p0 i).map ad) = eg_cv ad adK (eg_rv (eg_gr M p0 i)) ∧ eg_wv (eg_N w M) (eg_rv (eg_gr M p0 i))
    cases hr : eg_gr M p0 i with
    | none => exact ⟨rfl, trivial⟩
    | some q => exact ⟨rfl, hw.2.1 p0 i q h hr⟩
  · rw [h]
    show va_rf ((eg_ref (eg_sh w M p0) M p0 i).map adK) = eg_cv ad adK (eg_tv (eg_ref (eg_sh w M p0) M p0 i)) ∧ eg_wv (eg_N w M) (eg_tv (eg_ref (eg_sh w M p0) M p0 i))
    cases hr : eg_ref (eg_sh w M p0) M p0 i with
    | none => exact ⟨rfl, trivial⟩
    | some q => exact ⟨rfl, trivial⟩
  · rw [h]
    show va_rf (if i < (eg_sh w M p0).2.1 then some (ad (p0 + 1 + i)) else none) = eg_cv ad adK (.ref (p0 + 1 + i)) ∧ eg_wv (eg_N w M) (.ref (p0 + 1 + i))
    rw [if_pos (show i < (eg_sh w M p0).2.1 from hi)]
    exact ⟨rfl, hw.2.2 p0 i (by rw [h]; decide) (eg_sh_lt (by rw [h]; decide)) hi⟩
  · rw [h]
    show va_rf (if i < (eg_sh w M p0).2.1 then some (ad (p0 + 1 + i)) else none) = eg_cv ad adK (.ref (p0 + 1 + i)) ∧ eg_wv (eg_N w M) (.ref (p0 + 1 + i))
    rw [if_pos (show i < (eg_sh w M p0).2.1 from hi)]
    exact ⟨rfl, hw.2.2 p0 i (by rw [h]; decide) (eg_sh_lt (by rw [h]; decide)) hi⟩
variable {n : Nat} {G : eg_X}
theorem eg_w1 {N : Nat} {v : Value} {r : List Value} (h : ∀ u ∈ v :: r, eg_wv N u) : eg_wv N v ∧ ∀ u ∈ r, eg_wv N u := List.forall_mem_cons.mp h
theorem eg_wc {N : Nat} {v : Value} {r : List Value} (h1 : eg_wv N v) (h2 : ∀ u ∈ r, eg_wv N u) : ∀ u ∈ v :: r, eg_wv N u := List.forall_mem_cons.mpr ⟨h1, h2⟩
/-- loads -/
theorem eg_s_iload (hx : p.tables.exec = Jvm.exec) (hb : c.code = cc) {i k : Nat} (hd : decode cc pc = .ok (.iload i, 2) ∨ ∃ f : Fin 4, decode cc pc = .ok (.iload_n f, 1) ∧ f.val = i) (hk : ∀ f, decode cc pc = .ok (.iload f, 2) → k = 2) (hk1 : ∀ f, decode cc pc = .ok (.iload_n f, 1) → k = 1)
    (h : eg_load (eg_G p l e R s m args below meth c Q w D cl aC adK A nL ad0 N0) 0 i (pc + k) cu su ls st M) : eg_G p l e R s m args below meth c Q w D cl aC adK A nL ad0 N0 pc cu su ls st M := by
  intro ad H locs arr hH hL hst
  unfold eg_load at h
  cases hv : ls.getD i none with
  | none => rw [hv] at h; exact h.elim
  | some v =>
    rw [hv] at h
    obtain ⟨h1, h2⟩ := eg_need_out h
    have hl := hL.2.2.2 i v hv
    cases v with
    | int x =>
      have h3 := h2 ad H locs arr hH hL (eg_wc hl.2 hst)
      rcases hd with hd | ⟨f, hd, hf⟩
      · rw [hk _ hd] at h3
        exact lv_iload hx hb hd hl.1 h3
      · rw [hk1 _ hd] at h3
        exact lv_iload_n hx hb hd hf hl.1 h3
    | _ => cases h1
theorem eg_s_lload (hx : p.tables.exec = Jvm.exec) (hb : c.code = cc) {i k : Nat} (hd : decode cc pc = .ok (.lload i, 2) ∨ ∃ f : Fin 4, decode cc pc = .ok (.lload_n f, 1) ∧ f.val = i) (hk : ∀ f, decode cc pc = .ok (.lload f, 2) → k = 2) (hk1 : ∀ f, decode cc pc = .ok (.lload_n f, 1) → k = 1)
    (h : eg_load (eg_G p l e R s m args below meth c Q w D cl aC adK A nL ad0 N0) 1 i (pc + k) cu su ls st M) : eg_G p l e R s m args below meth c Q w D cl aC adK A nL ad0 N0 pc cu su ls st M := by
  intro ad H locs arr hH hL hst
  unfold eg_load at h
  cases hv : ls.getD i none with
  | none => rw [hv] at h; exact h.elim
  | some v =>
    rw [hv] at h
    obtain ⟨h1, h2⟩ := eg_need_out h
    have hl := hL.2.2.2 i v hv
    cases v with
    | long x =>
      have h3 := h2 ad H locs arr hH hL (eg_wc hl.2 hst)
      rcases hd with hd | ⟨f, hd, hf⟩
      · rw [hk _ hd] at h3
        exact lv_lload hx hb hd hl.1 h3
      · rw [hk1 _ hd] at h3
        exact lv_lload_n hx hb hd hf hl.1 h3
    | _ => cases h1
theorem eg_s_aload (hx : p.tables.exec = Jvm.exec) (hb : c.code = cc) {i k : Nat} (hd : decode cc pc = .ok (.aload i, 2) ∨ ∃ f : Fin 4, decode cc pc = .ok (.aload_n f, 1) ∧ f.val = i) (hk : ∀ f, decode cc pc = .ok (.aload f, 2) → k = 2) (hk1 : ∀ f, decode cc pc = .ok (.aload_n f, 1) → k = 1)
    (h : eg_load (eg_G p l e R s m args below meth c Q w D cl aC adK A nL ad0 N0) 2 i (pc + k) cu su ls st M) : eg_G p l e R s m args below meth c Q w D cl aC adK A nL ad0 N0 pc cu su ls st M := by
  intro ad H locs arr hH hL hst
  unfold eg_load at h
  cases hv : ls.getD i none with
  | none => rw [hv] at h; exact h.elim
  | some v =>
    rw [hv] at h
    obtain ⟨h1, h2⟩ := eg_need_out h
    have hl := hL.2.2.2 i v hv
    cases v with
    | ref x =>
      have h3 := h2 ad H locs arr hH hL (eg_wc hl.2 hst)
      rcases hd with hd | ⟨f, hd, hf⟩
      · rw [hk _ hd] at h3
        exact lv_aload hx hb hd hl.1 h3
      · rw [hk1 _ hd] at h3
        exact lv_aload_n hx hb hd hf hl.1 h3
    | retAddr x =>
      have h3 := h2 ad H locs arr hH hL (eg_wc hl.2 hst)
      rcases hd with hd | ⟨f, hd, hf⟩
      · rw [hk _ hd] at h3
        exact lv_aload hx hb hd hl.1 h3
      · rw [hk1 _ hd] at h3
        exact lv_aload_n hx hb hd hf hl.1 h3
    | _ => cases h1
end ES

/-! A CONTRACT OUT OF THE ENGINE -/
def eg_ls0 : List Value → List (Option Value)
  | [] => []
  | v :: t => bif eg_cat2 (some v) then some v :: none :: eg_ls0 t else some v :: eg_ls0 t
def eg_lsN (n : Nat) (argv : List Value) : List (Option Value) := eg_ls0 argv ++ List.replicate (n - (eg_ls0 argv).length) none
theorem eg_cat2_f {v : Value} (h : eg_cat2 (some v) = false) : v.category = 1 := by cases v <;> first | rfl | cases h
theorem eg_ls0_in (ad adK : Nat → Nat) : ∀ (argv : List Value) (off i : Nat) (v : Value), (eg_ls0 argv).getD i none = some v → (off + i, eg_cv ad adK v) ∈ lv_args off (argv.map (eg_cv ad adK)) ∧ v ∈ argv := by
  intro argv
  induction argv with
  | nil => intro off i v h; cases i <;> cases h
  | cons a t ih =>
    intro off i v h
    unfold eg_ls0 at h
    cases hc : eg_cat2 (some a) with
    | true =>
      rw [hc, cond_true] at h
      have h2 : (eg_cv ad adK a).category = 2 := by rw [eg_cat_cv]; exact eg_cat2_iff.mp hc
      match i, h with
      | 0, h =>
        cases Option.some.inj h
        exact ⟨List.mem_cons_self, List.mem_cons_self⟩
      | 1, h => cases h
      | i + 2, h =>
        obtain ⟨g1, g2⟩ := ih (off + 2) i v h
        refine ⟨List.mem_cons_of_mem _ ?_, List.mem_cons_of_mem _ g2⟩
        rw [if_pos h2, show off + (i + 2) = off + 2 + i by omega]
        exact g1
    | false =>
      rw [hc, cond_false] at h
      have h2 : ¬ (eg_cv ad adK a).category = 2 := by rw [eg_cat_cv, eg_cat2_f hc]; decide
      match i, h with
      | 0, h =>
        cases Option.some.inj h
        exact ⟨List.mem_cons_self, List.mem_cons_self⟩
      | i + 1, h =>
        obtain ⟨g1, g2⟩ := ih (off + 1) i v h
        refine ⟨List.mem_cons_of_mem _ ?_, List.mem_cons_of_mem _ g2⟩
        rw [if_neg h2, show off + (i + 1) = off + 1 + i by omega]
        exact g1
theorem eg_ls0_len (ad adK : Nat → Nat) : ∀ argv : List Value, (lg_sl (argv.map (eg_cv ad adK))).length = (eg_ls0 argv).length := by
  intro argv
  induction argv with
  | nil => rfl
  | cons a t ih =>
    have e1 : lg_sl ((a :: t).map (eg_cv ad adK)) = (if (eg_cv ad adK a).category = 2 then [Slot.val (eg_cv ad adK a), Slot.second] else [Slot.val (eg_cv ad adK a)]) ++ lg_sl (t.map (eg_cv ad adK)) := rfl
    rw [e1, List.length_append, ih, show eg_ls0 (a :: t) = (bif eg_cat2 (some a) then some a :: none :: eg_ls0 t else some a :: eg_ls0 t) from rfl]
    cases hc : eg_cat2 (some a) with
    | true =>
      rw [if_pos (by rw [eg_cat_cv]; exact eg_cat2_iff.mp hc), cond_true]
      simp only [List.length_cons, List.length_nil]
      omega
    | false =>
      rw [if_neg (by rw [eg_cat_cv, eg_cat2_f hc]; decide), cond_false]
      simp only [List.length_cons, List.length_nil]
      omega
/-- the locals at the entry -/
theorem eg_L.entry {ad adK : Nat → Nat} {N nL : Nat} {argv : List Value} (hv : ∀ v ∈ argv, eg_wv N v) (hl : (eg_ls0 argv).length ≤ nL) : eg_L ad adK N ((lg_sl (argv.map (eg_cv ad adK)) ++ List.replicate (nL - (lg_sl (argv.map (eg_cv ad adK))).length) Slot.unset).toArray) nL (eg_lsN nL argv) := by
  obtain ⟨h1, h2, h3⟩ := lv_entry (argv.map (eg_cv ad adK)) (n := nL) (by rw [eg_ls0_len]; exact hl)
  refine ⟨h1, h2, by unfold eg_lsN; rw [List.length_append, List.length_replicate]; omega, fun i v h => ?_⟩
  unfold eg_lsN at h
  by_cases hi : i < (eg_ls0 argv).length
  · have h : (eg_ls0 argv).getD i none = some v := by
      rw [List.getD_eq_getElem?_getD, List.getElem?_append_left hi] at h
      rw [List.getD_eq_getElem?_getD]
      exact h
    obtain ⟨g1, g2⟩ := eg_ls0_in ad adK argv 0 i v h
    rw [Nat.zero_add] at g1
    exact ⟨h3 _ g1, hv v g2⟩
  · rw [List.getD_eq_getElem?_getD, List.getElem?_append_right (by omega), List.getElem?_replicate] at h
    split at h <;> cases h
section EM
variable {l : Launch} {w : eg_W} {D : va_G} {cl : List vw_C} {er : String} {aC : Nat → ClassId} {adK : Nat → Nat} {Ex : (Nat → Prop) → State → Heap → Prop}
variable {y : MethodName} {cc : ByteArray} {nL : Nat} {ret : Option FieldType} {ws ws' : List Cond} {rm : Room} {k : eg_C} {S : eg_S}
set_option maxHeartbeats 4000000 in
theorem eg_met_of (hy : plainName y.cls = true) (hw : ws = Cond.code y cc nL ret :: ws') (hrm : k.2.2.2.2.2.2.1 ≤ rm.cells ∧ k.2.2.2.2.2.2.2 ≤ rm.slots) (hrk : eg_rk k.2.2.2.2.2.1 ret) (hlen : ∀ argv M Qp, S argv M Qp → (eg_ls0 argv).length ≤ nL)
    (hdec : ∀ q ∈ k.1, decode cc q.1 = .ok q.2) (hfl : ∀ meth : Method, meth.name = y.name → ∀ q ∈ k.2.1, eg_FL y.cls ws meth cl w q.1 q.2) (hkc : ∀ (A : Nat → Prop) (s : State) (H : Heap), Ex A s H → ∀ q ∈ k.2.2.1, eg_KC y.cls ws adK s q.1 q.2)
    (hck : ∀ (p : Program) (e : Env) (s : State) (m : MethodId) (args : Array Value) (below : List Frame) (meth : Method) (c : Code) (Q : State → Prop) (A : Nat → Prop) (ad0 : Nat → Nat) (N0 : Nat), CallFix p m c cc nL s args ws y.cls → va_K D cl (eg_tys er aC) s → Ex A s s.heap → (∀ q, s.heap.size ≤ q → A q) → ∀ q ∈ k.2.2.2.1, eg_CK p l e rm s m args below meth c Q w D cl aC adK A nL ad0 N0 cc q)
    (hnk : ∀ (p : Program) (e : Env) (s : State) (m : MethodId) (args : Array Value) (below : List Frame) (meth : Method) (c : Code) (Qc : Array Value → State → Outcome → State → Prop) (XC : String → State → State → Prop) (A : Nat → Prop) (ad0 : Nat → Nat) (N0 : Nat) (P : eg_P), CallFix p m c cc nL s args ws y.cls → va_K D cl (eg_tys er aC) s → Ex A s s.heap → (∀ q, s.heap.size ≤ q → A q) → meth.locks = false → (∀ x ∈ c.exceptionTable.toList, False) →
      (∀ (E : String) (M : eg_M) (ad : Nat → Nat) (H : Heap) (locs : List Loc), P (.inr E) M → eg_H w D cl aC adK A s.heap ad0 N0 ad M H locs → ∀ t : State, t.heap = H → s.vm.Alike t.vm → XC E s t) → ∀ q ∈ k.2.2.2.2.1, eg_NK p l e rm s m args below meth c (vx_MQ below Qc XC args s k.2.2.2.2.2.2.1 k.2.2.2.2.2.2.2 A) w D cl aC adK A nL ad0 N0 cc P k q)
    (hT : ∀ argv M Qp, S argv M Qp → eg_T w k Qp 0 0 0 (eg_lsN nL argv) [] M) : eg_Met l w D cl er aC adK Ex y ws rm k.2.2.2.2.2.2.1 k.2.2.2.2.2.2.2 S := by
  intro ad argv M Qp sz hS hwf hav
  refine vx_ofW (cc := cc) (maxL := nL) (ret := ret) hy hw ?_
  intro p e s m args below meth c s₁ B hml hout hv
  obtain ⟨rfl, hsz, hP, hD0, hK, hEx⟩ := hv
  have hts := atoms_spec (ws := ws) B.pre
  have hown : s.vm.findClass y.cls = some m.cls := findClass_of_methodNamed B.named
  have hnm : meth.name = y.name := (name_of_methodNamed B.named B.method).1
  subst hsz
  have hD := hD0.self (sz := s.heap.size)
  have hA : ∀ q : Nat, s.heap.size ≤ q → va_A (eg_ws w aC adK ad M) s.heap.size q := fun q h => Or.inr h
  have hfix : CallFix p m c cc nL s (argv.map (eg_cv ad adK)).toArray ws y.cls := ⟨B.exec, B.bytes, hml, hown, hts⟩
  have hPX : ∀ (E : String) (N : eg_M) (ad' : Nat → Nat) (H : Heap) (locs : List Loc), Qp (.inr E) N → eg_H w D cl aC adK (va_A (eg_ws w aC adK ad M) s.heap.size) s.heap ad (eg_N w M) ad' N H locs → ∀ t : State, t.heap = H → s.vm.Alike t.vm → eg_XC w D cl aC adK ad M Qp s.heap.size E s t :=
    fun E N ad' H locs hQ hH t ht _ => ⟨N, ad', hQ, by rw [ht]; exact hH.1, hH.2.1, hH.2.2.2.1, hH.2.2.2.2, hH.2.2.1.F ht⟩
  have hG := eg_sound (e := e) (below := below) (R := rm) (Qc := eg_Qc w D cl aC adK ad M Qp s.heap.size) (XC := eg_XC w D cl aC adK ad M Qp s.heap.size) (A := va_A (eg_ws w aC adK ad M) s.heap.size) (ad0 := ad) (N0 := eg_N w M) (nL := nL) (P := Qp)
    B.exec B.bytes hts hown hK B.notSynchronized (by rw [B.returns]; exact hrk) hout hrm.1 hrm.2 hdec (hfl meth hnm) (hkc _ s s.heap hEx) (hck p e s m _ below meth c _ _ ad (eg_N w M) hfix hK hEx hA) (hnk p e s m _ below meth c _ _ _ ad (eg_N w M) Qp hfix hK hEx hA B.notSynchronized hout hPX)
    (fun v N ad' H locs hQ hH hvv t ht _ => ⟨v, N, ad', rfl, hQ, hvv, by rw [ht]; exact hH.1, hH.2.1, hH.2.2.2.1, hH.2.2.2.2, hH.2.2.1.F ht⟩) hPX (hT argv M Qp hS)
  rw [lg_entry_eq]
  exact hG ad s.heap [] _ ⟨hP, hD, va_S.rf, hwf, fun _ _ => rfl, Nat.le_refl _⟩ (eg_L.entry hav (hlen argv M Qp hS)) (fun v hv => by cases hv)
end EM
/-! METHODS WITHOUT LOOPS mean what their own instructions say -/
def eg_auto (w : eg_W) (k : eg_C) (nL : Nat) (ci : Option Nat) (fuel : Nat) : eg_S := fun argv M Qp => eg_need (Nat.ble (eg_ls0 argv).length nL) (match ci with
  | none => eg_run w k Qp (fun _ _ _ _ _ _ => False) [] fuel 0 0 0 (eg_lsN nL argv) [] M
  | some j => match argv with
    | .ref p0 :: _ => eg_need (eg_isO w M p0 j) (eg_run w k Qp (fun _ _ _ _ _ _ => False) [] fuel 0 0 0 (eg_lsN nL argv) [] M)
    | _ => False)
theorem eg_auto_len {w : eg_W} {k : eg_C} {nL fuel : Nat} {ci : Option Nat} : ∀ argv M Qp, eg_auto w k nL ci fuel argv M Qp → (eg_ls0 argv).length ≤ nL := fun _ _ _ h => Nat.le_of_ble_eq_true (eg_need_out h).1
theorem eg_auto_run {w : eg_W} {k : eg_C} {nL fuel : Nat} {ci : Option Nat} {argv : List Value} {M : eg_M} {Qp : eg_P} (h : eg_auto w k nL ci fuel argv M Qp) : eg_run w k Qp (fun _ _ _ _ _ _ => False) [] fuel 0 0 0 (eg_lsN nL argv) [] M := by
  replace h := (eg_need_out h).2
  cases ci with
  | none => exact h
  | some j =>
    match argv, h with
    | .ref p0 :: _, h => exact (eg_need_out h).2
theorem eg_auto_rec {w : eg_W} {k : eg_C} {nL fuel j : Nat} : ∀ argv M Qp, eg_auto w k nL (some j) fuel argv M Qp → ∃ p0 As, argv = .ref p0 :: As ∧ eg_isO w M p0 j = true := by
  intro argv M Qp h
  replace h := (eg_need_out h).2
  match argv, h with
  | .ref p0 :: As, h => exact ⟨p0, As, rfl, (eg_need_out h).1⟩
theorem eg_auto_mono {w : eg_W} {k : eg_C} {nL fuel : Nat} {ci : Option Nat} (hk : ∀ q ∈ k.2.2.2.1, eg_mono q.2.2.2.2) : eg_mono (eg_auto w k nL ci fuel) := by
  intro argv M Q Q' hQ
  refine eg_need_mono ?_
  cases ci with
  | none => exact eg_run_mono hk hQ (fun _ _ _ _ _ _ => id) fuel
  | some j =>
    dsimp only
    split
    · exact eg_need_mono (eg_run_mono hk hQ (fun _ _ _ _ _ _ => id) fuel)
    · exact id
theorem eg_auto_T {w : eg_W} {k : eg_C} {nL fuel : Nat} {ci : Option Nat} (hk : ∀ q ∈ k.2.2.2.1, eg_mono q.2.2.2.2) {argv : List Value} {M : eg_M} {Qp : eg_P} (h : eg_auto w k nL ci fuel argv M Qp) : eg_T w k Qp 0 0 0 (eg_lsN nL argv) [] M :=
  eg_T_run hk fuel (eg_run_mono hk (fun _ _ => id) (fun _ _ _ _ _ _ z => z.elim) fuel (eg_auto_run h))

/-! CONTRACTS OF METHODS THAT CATCH -/
/-- what is thrown becomes a number -/
def eg_PH (hl : List (String × Int32)) (Qp : eg_P) : eg_P := fun r N => match r with
  | .inl v => Qp (.inl v) N
  | .inr E => match hl.find? (fun q => q.1 == E) with
    | some q => Qp (.inl (some (.int q.2))) N
    | none => False
/-- how E is caught -/
def eg_CT (own : String) (args : Array Value) (s : State) (cc : ByteArray) (hh : List (Nat × Nat × Nat × Nat)) (nL pc : Nat) (E : String) (x : Int32) : Prop :=
  ∃ (pre : List ExceptionTableEntry) (z : ExceptionTableEntry) (suf : List ExceptionTableEntry) (name : String) (i ln : Nat) (v : Int), tableOf hh = pre ++ z :: suf ∧ (∀ y ∈ pre, y.catchType ≠ 0 ∧ ∃ nm : String, (Cond.classLink own y.catchType nm).before args s = true ∧ va_Nc E nm s) ∧ covers z pc = true ∧ z.catchType ≠ 0 ∧ (Cond.classLink own z.catchType name).before args s = true ∧ (Cond.castable E name).before args s = true ∧
    i < nL ∧ ((ln = 2 ∧ decode cc z.handlerPc = .ok (.astore i, 2)) ∨ (ln = 1 ∧ ∃ k : Fin 4, k.val = i ∧ decode cc z.handlerPc = .ok (.astore_n k, 1))) ∧ decode cc (z.handlerPc + ln) = .ok (.iconst v, 1) ∧ decode cc (z.handlerPc + ln + 1) = .ok (.ireturn, 1) ∧ eg_ci v = x
section EMH
variable {l : Launch} {w : eg_W} {D : va_G} {cl : List vw_C} {er : String} {aC : Nat → ClassId} {adK : Nat → Nat} {Ex : (Nat → Prop) → State → Heap → Prop}
variable {y : MethodName} {cc : ByteArray} {nL pc0 : Nat} {ws ws' : List Cond} {rm : Room} {k : eg_C} {S : eg_S} {hh : List (Nat × Nat × Nat × Nat)} {hl : List (String × Int32)}
set_option maxHeartbeats 4000000 in
theorem eg_metH (hy : plainName y.cls = true) (hw : ws = Cond.codeWith y cc nL (some .int) hh :: ws') (hrm : k.2.2.2.2.2.2.1 ≤ rm.cells ∧ k.2.2.2.2.2.2.2 ≤ rm.slots) (hrk : k.2.2.2.2.2.1 = 1) (hlen : ∀ argv M Qp, S argv M Qp → (eg_ls0 argv).length ≤ nL)
    (hdec : ∀ q ∈ k.1, decode cc q.1 = .ok q.2) (hfl : k.2.1 = []) (hkc : k.2.2.1 = [])
    (hck : ∀ (p : Program) (e : Env) (s : State) (m : MethodId) (args : Array Value) (below : List Frame) (meth : Method) (c : Code) (Q : State → Prop) (A : Nat → Prop) (ad0 : Nat → Nat) (N0 : Nat), CallFix p m c cc nL s args ws y.cls → va_K D cl (eg_tys er aC) s → Ex A s s.heap → (∀ q, s.heap.size ≤ q → A q) → ∀ q ∈ k.2.2.2.1, eg_CK p l e rm s m args below meth c Q w D cl aC adK A nL ad0 N0 cc q)
    (hnk : k.2.2.2.2.1 = []) (hpc : ∀ q ∈ k.1, eg_inv q.2.1 = true → q.1 = pc0) (hct : ∀ (s : State) (args : Array Value) (A : Nat → Prop) (H : Heap), Ex A s H → (∀ w ∈ ws, w.before args s = true) → ∀ q ∈ hl, eg_CT y.cls args s cc hh nL pc0 q.1 q.2)
    (hT : ∀ argv M Qp, S argv M Qp → eg_T w k (eg_PH hl Qp) 0 0 0 (eg_lsN nL argv) [] M) : eg_Met l w D cl er aC adK Ex y ws rm k.2.2.2.2.2.2.1 k.2.2.2.2.2.2.2 S := by
  intro ad argv M Qp sz hS hwf hav
  refine vx_ofWH (cc := cc) (maxL := nL) (ret := some .int) (hh := hh) hy hw ?_
  intro p e s m args below meth c s₁ B hml hv
  obtain ⟨rfl, hsz, hP, hD0, hK, hEx⟩ := hv
  have hts := atoms_spec (ws := ws) B.pre
  have hown : s.vm.findClass y.cls = some m.cls := findClass_of_methodNamed B.named
  subst hsz
  have hD := hD0.self (sz := s.heap.size)
  have hA : ∀ q : Nat, s.heap.size ≤ q → va_A (eg_ws w aC adK ad M) s.heap.size q := fun q h => Or.inr h
  have hfix : CallFix p m c cc nL s (argv.map (eg_cv ad adK)).toArray ws y.cls := ⟨B.exec, B.bytes, hml, hown, hts⟩
  have htab : c.exceptionTable.toList = tableOf hh := vx_table (x := y) B (hts _ (by rw [hw]; exact List.mem_cons_self))
  have hret : eg_rk k.2.2.2.2.2.1 meth.sig.returnType := by
    rw [hrk, B.returns]
    rfl
  have hPP : ∀ (v : Option Value) (N : eg_M) (ad' : Nat → Nat) (H : Heap) (locs : List Loc), Qp (.inl v) N → eg_H w D cl aC adK (va_A (eg_ws w aC adK ad M) s.heap.size) s.heap ad (eg_N w M) ad' N H locs → (∀ u ∈ v.toList, eg_wv (eg_N w N) u) → ∀ t : State, t.heap = H → s.WarmedH t.vm → eg_Qc w D cl aC adK ad M Qp s.heap.size (argv.map (eg_cv ad adK)).toArray s (.returned (v.map (eg_cv ad' adK))) t :=
    fun v N ad' H locs hQ hH hvv t ht _ => ⟨v, N, ad', rfl, hQ, hvv, by rw [ht]; exact hH.1, hH.2.1, hH.2.2.2.1, hH.2.2.2.2, hH.2.2.1.F ht⟩
  have hX : ∀ (pc : Nat) (i : Instr), eg_lq k.1 pc = some (i, 3) → eg_inv i = true → eg_HX p l e rm s m (argv.map (eg_cv ad adK)).toArray below meth c (vx_MQ below (eg_Qc w D cl aC adK ad M Qp s.heap.size) (eg_XC w D cl aC adK ad M Qp s.heap.size) (argv.map (eg_cv ad adK)).toArray s k.2.2.2.2.2.2.1 k.2.2.2.2.2.2.2 (va_A (eg_ws w aC adK ad M) s.heap.size)) w D cl aC adK (va_A (eg_ws w aC adK ad M) s.heap.size) nL ad (eg_N w M) k (eg_PH hl Qp) pc := by
    intro pc i hq hi E N ad' H locs q ce cu su arr rest hE hH ha1 ha2 hce hcv hcl hcu hsu
    have e0 : pc = pc0 := hpc _ (eg_lq_in hq) hi
    subst e0
    unfold eg_PH at hE
    dsimp only at hE
    cases hf : hl.find? (fun q => q.1 == E) with
    | none =>
      rw [hf] at hE
      exact hE.elim
    | some z =>
      rw [hf] at hE
      have hE : Qp (.inl (some (.int z.2))) N := hE
      have hz1 : z.1 = E := by simpa using List.find?_some hf
      obtain ⟨pre, x, suf, name, i9, ln, v, k1, k2, k3, k4, k5, k6, k7, k8, k9, k10, k11⟩ := hct s _ _ _ hEx hts z (List.mem_of_find?_eq_some hf)
      rw [hz1] at k2 k6
      refine vx_catch hown pre x suf (by rw [htab]; exact k1) (fun y hy => Or.inr (k2 y hy)) k3 k4 k5 k6 hce hcv hcl ?_
      have fin : ∀ ls' : Array Slot, W p l e rm s m (argv.map (eg_cv ad adK)).toArray below meth c H locs cu su (vx_MQ below (eg_Qc w D cl aC adK ad M Qp s.heap.size) (eg_XC w D cl aC adK ad M Qp s.heap.size) (argv.map (eg_cv ad adK)).toArray s k.2.2.2.2.2.2.1 k.2.2.2.2.2.2.2 (va_A (eg_ws w aC adK ad M) s.heap.size)) (F0 m (x.handlerPc + ln) ls' []) := by
        intro ls'
        refine lv_iconst B.exec B.bytes k9 (eg_ci_ok v) ?_
        refine W.widen hcu hsu (vx_ret ?_)
        refine W.iret B.exec B.bytes B.returns ?_ hH.2.2.1.2.2 k10 B.notSynchronized
        rw [k11]
        exact hPP (some (.int z.2)) N ad' H locs hE hH (fun u hu => by cases List.mem_singleton.mp hu; trivial)
      rcases k8 with ⟨rfl, k8⟩ | ⟨rfl, kf, k8a, k8⟩
      · exact lv_astore B.exec B.bytes k8 (lv := []) ⟨ha1, ha2, fun q hq => by cases hq⟩ k7 rfl (fun ls' _ => fin ls')
      · exact lv_astore_n B.exec B.bytes k8 k8a (lv := []) ⟨ha1, ha2, fun q hq => by cases hq⟩ k7 rfl (fun ls' _ => fin ls')
  have hG := eg_soundH (e := e) (below := below) (R := rm) (Qc := eg_Qc w D cl aC adK ad M Qp s.heap.size) (XC := eg_XC w D cl aC adK ad M Qp s.heap.size) (A := va_A (eg_ws w aC adK ad M) s.heap.size) (ad0 := ad) (N0 := eg_N w M) (nL := nL) (P := eg_PH hl Qp) (k := k)
    B.exec B.bytes hts hown hK B.notSynchronized hret hrm.1 hrm.2 hdec (fun q hq => by rw [hfl] at hq; cases hq) (fun q hq => by rw [hkc] at hq; cases hq) (hck p e s m _ below meth c _ _ ad (eg_N w M) hfix hK hEx hA) hnk
    (fun v N ad' H locs hQ hH hvv t ht hWm => hPP v N ad' H locs hQ hH hvv t ht hWm) hX (hT argv M Qp hS)
  rw [lg_entry_eq]
  exact hG ad s.heap [] _ ⟨hP, hD, va_S.rf, hwf, fun _ _ => rfl, Nat.le_refl _⟩ (eg_L.entry hav (hlen argv M Qp hS)) (fun v hv => by cases hv)
end EMH
theorem gt_cw : Cond.codeWith yL_charter cL_charter 6 (some .int) [(0, 12, 15, 13)] ∈ GT := by decide +kernel

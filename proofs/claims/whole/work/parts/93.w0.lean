/-! THE WORLD BEFORE ANYTHING IS MADE -/
def w0 : eg_W := ((fun _ => (99, 0, [])), 0, wd_F, wd_n)
theorem gt_aI : Cond.arrayClass .int ∈ GT := by decide +kernel
theorem gt_aJ : Cond.arrayClass .long ∈ GT := by decide +kernel
theorem gt_aZ : Cond.arrayClass .boolean ∈ GT := by decide +kernel
theorem gt_l5 : Cond.classLink RX5 9 "[[J" ∈ GT := by decide +kernel
theorem gt_l2 : Cond.classLink RX2 9 "[[I" ∈ GT := by decide +kernel
def ao_t : List FieldType := [.object RX8, .object "java/lang/String", .array .int, .array .long]
theorem ao_moved {ty : FieldType} {u U : State} (hvm : u.vm.Alike U.vm) (h : (Cond.arrayOver ty).before #[] u = true) : (Cond.arrayOver ty).before #[] U = true := by
  have h1 : (Cond.arrayOver ty).before #[] (u.setVm U.vm) = true := by
    rw [Cond.arrayOver_setVmC hvm]
    exact h
  exact h1
/-- what is known beside the world, and which rows of references are known -/
def wx0 (adK adV : Nat → Nat) : (Nat → Prop) → State → Heap → Prop := fun A U H => wx adK adV A U H ∧ ∀ ty ∈ ao_t, (Cond.arrayOver ty).before #[] U = true
theorem wx0_ok (adK adV : Nat → Nat) : eg_ExOk (wx0 adK adV) := by
  obtain ⟨h1, h2, h3⟩ := wx_ok adK adV
  exact ⟨fun A s U H hW h => ⟨h1 A s U H hW h.1, fun ty ht => ao_moved hW.alike (h.2 ty ht)⟩, fun A U H H1 h hq => ⟨h2 A U H H1 h.1 hq, h.2⟩, fun A B U H hAB h => ⟨h3 A B U H hAB h.1, h.2⟩⟩
def MT0 (g : gl_T) (y : MethodName) (cc : ByteArray) (nL : Nat) (ret : Option FieldType) (rm : Room) (mc ms : Nat) (S : eg_S) : Prop :=
  g.1.stackTraces = false → eg_Met g.1 w0 g.2.1 vwCl RX8 g.2.2.1 g.2.2.2.1 (wx0 g.2.2.2.1 g.2.2.2.2) y (Cond.code y cc nL ret :: GT) rm mc ms S
section MZ
variable {g : gl_T} {p : Program} {e : Env} {R : Room} {s : State} {m : MethodId} {args : Array Value} {below : List Frame} {meth : Method} {c : Code} {Q : State → Prop} {A : Nat → Prop} {nL N0 : Nat} {ad0 : Nat → Nat} {cc : ByteArray} {own : String} {x : Cond}
variable {y : MethodName} {bytes : ByteArray} {maxL n kc ks j ci : Nat} {ret : Option FieldType} {rm : Room} {S : eg_S} {C : String}
theorem mz_O (S0 : CallFix p m c cc nL s args (x :: GT) own) (h1 : Cond.methodLink own j Lib.objectInit ∈ GT) (hF : 1 ≤ R.frames) (hR : 20 ≤ R.locals) (hj : j < 100000) : eg_CK p g.1 e R s m args below meth c Q w0 g.2.1 vwCl g.2.2.1 g.2.2.2.1 A nL ad0 N0 cc (j + 200000, 1, 0, 0, eg_So) := by
  refine ⟨fun z => absurd z (show ¬ j + 200000 < 100000 by omega), fun _ z => absurd z (show ¬ j + 200000 < 200000 by omega), fun _ => ⟨fun _ => ?_, fun z => absurd z (show ¬ 300000 ≤ j + 200000 by omega)⟩⟩
  show eg_CF _ _ _ _ _ _ _ _ _ _ _ _ _ _ _ _ _ _ _ _ _ (.invokespecial (j + 200000 - 200000)) 1 0 0 eg_So
  rw [Nat.add_sub_cancel]
  have hts := S0.2.2.2.2
  exact eg_CF_O S0 (hts _ (List.mem_cons_of_mem _ h1)) (hts _ (List.mem_cons_of_mem _ li_obj)) (hts _ (List.mem_cons_of_mem _ lc_obj)) hF hR
theorem mz_S (hl : g.1.stackTraces = false) (S0 : CallFix p m c cc nL s args (x :: GT) own) (hK : va_K g.2.1 vwCl (eg_tys RX8 g.2.2.1) s) (hEx : wx0 g.2.2.2.1 g.2.2.2.2 A s s.heap) (hA : ∀ q, s.heap.size ≤ q → A q) (hM : MT0 g y bytes maxL ret rm kc ks S)
    (h1 : Cond.methodLink own j y ∈ GT) (h2 : Cond.static y ∈ GT) (h4 : Cond.initialized C ∈ GT) (h5 : Cond.code y bytes maxL ret ∈ GT) (hd : y.cls = C ∧ y.cls ≠ "java/lang/invoke/MethodHandle" ∧ y.cls ≠ "java/lang/invoke/VarHandle" ∧ (parseMethodDescriptor y.desc).map (fun d => d.parameters.length) = some n)
    (hr : rm.cells = kc ∧ rm.slots = ks) (hR : rm.frames + 1 ≤ R.frames ∧ 8 + (maxL + 11) + rm.locals ≤ R.locals) (hj : j < 100000) :
    eg_CK p g.1 e R s m args below meth c Q w0 g.2.1 vwCl g.2.2.1 g.2.2.2.1 A nL ad0 N0 cc (j + 100000, n, kc, ks, S) := by
  refine ⟨fun z => absurd z (show ¬ j + 100000 < 100000 by omega), fun _ _ => ?_, fun z => absurd z (show ¬ 200000 ≤ j + 100000 by omega)⟩
  show eg_CF _ _ _ _ _ _ _ _ _ _ _ _ _ _ _ _ _ _ _ _ _ (.invokestatic (j + 100000 - 100000)) n kc ks S
  rw [Nat.add_sub_cancel]
  have hts := S0.2.2.2.2
  obtain ⟨hC, hd⟩ := hd
  exact eg_CF_S S0 hK (wx0_ok _ _) hEx hA (hM hl) ⟨callB_of n hts (gt_goodIn h5) rfl hr.1 hr.2 (hts _ (List.mem_cons_of_mem _ (by rw [hC]; exact h4))) (hts _ (List.mem_cons_of_mem _ h1)) hd hR, hts _ (List.mem_cons_of_mem _ h2)⟩
theorem mz_I (hl : g.1.stackTraces = false) (S0 : CallFix p m c cc nL s args (x :: GT) own) (hK : va_K g.2.1 vwCl (eg_tys RX8 g.2.2.1) s) (hEx : wx0 g.2.2.2.1 g.2.2.2.2 A s s.heap) (hA : ∀ q, s.heap.size ≤ q → A q) (hM : MT0 g y bytes maxL none rm kc ks S)
    (hnt : ∀ argv M Qp, S argv M Qp → S argv M (fun r N => match r with
    | .inl v => Qp (.inl v) N
    | .inr _ => False)) (h1 : Cond.methodLink own j y ∈ GT) (h2 : Cond.instanceMethod y ∈ GT) (h4 : Cond.initialized C ∈ GT) (h5 : Cond.code y bytes maxL none ∈ GT) (hd : y.cls = C ∧ y.cls ≠ "java/lang/invoke/MethodHandle" ∧ y.cls ≠ "java/lang/invoke/VarHandle" ∧ (parseMethodDescriptor y.desc).map (fun d => d.parameters.length) = some n) (hi : y.name = "<init>")
    (hr : rm.cells = kc ∧ rm.slots = ks) (hR : rm.frames + 1 ≤ R.frames ∧ 8 + (maxL + 11) + rm.locals ≤ R.locals) (hrec : ∀ argv M Qp, S argv M Qp → ∃ p0 As, argv = .ref p0 :: As) (hj : j < 100000) :
    eg_CK p g.1 e R s m args below meth c Q w0 g.2.1 vwCl g.2.2.1 g.2.2.2.1 A nL ad0 N0 cc (j + 200000, n + 1, kc, ks, S) := by
  refine ⟨fun z => absurd z (show ¬ j + 200000 < 100000 by omega), fun _ z => absurd z (show ¬ j + 200000 < 200000 by omega), fun _ => ⟨fun _ => ?_, fun z => absurd z (show ¬ 300000 ≤ j + 200000 by omega)⟩⟩
  show eg_CF _ _ _ _ _ _ _ _ _ _ _ _ _ _ _ _ _ _ _ _ _ (.invokespecial (j + 200000 - 200000)) (n + 1) kc ks S
  rw [Nat.add_sub_cancel]
  have hts := S0.2.2.2.2
  obtain ⟨hC, hd⟩ := hd
  exact eg_CF_I S0 hK (wx0_ok _ _) hEx hA (hM hl) hnt ⟨callB_of n hts (gt_goodIn h5) rfl hr.1 hr.2 (hts _ (List.mem_cons_of_mem _ (by rw [hC]; exact h4))) (hts _ (List.mem_cons_of_mem _ h1)) hd hR, hi, hts _ (List.mem_cons_of_mem _ h2)⟩ hrec
theorem mz_IN (hl : g.1.stackTraces = false) (S0 : CallFix p m c cc nL s args (x :: GT) own) (hK : va_K g.2.1 vwCl (eg_tys RX8 g.2.2.1) s) (hEx : wx0 g.2.2.2.1 g.2.2.2.2 A s s.heap) (hA : ∀ q, s.heap.size ≤ q → A q) (hM : MT0 g y bytes maxL none rm kc ks S)
    (hnt : ∀ argv M Qp, S argv M Qp → S argv M (fun r N => match r with
    | .inl v => Qp (.inl v) N
    | .inr _ => False)) (h1 : (own, j, y) ∈ tx_nst) (h2 : Cond.instanceMethod y ∈ GT) (h4 : Cond.initialized C ∈ GT) (h5 : Cond.code y bytes maxL none ∈ GT) (hd : y.cls = C ∧ y.cls ≠ "java/lang/invoke/MethodHandle" ∧ y.cls ≠ "java/lang/invoke/VarHandle" ∧ (parseMethodDescriptor y.desc).map (fun d => d.parameters.length) = some n) (hi : y.name = "<init>")
    (hr : rm.cells = kc ∧ rm.slots = ks) (hR : rm.frames + 1 ≤ R.frames ∧ 8 + (maxL + 11) + rm.locals ≤ R.locals) (hrec : ∀ argv M Qp, S argv M Qp → ∃ p0 As, argv = .ref p0 :: As) (hj : j < 100000) :
    eg_CK p g.1 e R s m args below meth c Q w0 g.2.1 vwCl g.2.2.1 g.2.2.2.1 A nL ad0 N0 cc (j + 200000, n + 1, kc, ks, S) := by
  refine ⟨fun z => absurd z (show ¬ j + 200000 < 100000 by omega), fun _ z => absurd z (show ¬ j + 200000 < 200000 by omega), fun _ => ⟨fun _ => ?_, fun z => absurd z (show ¬ 300000 ≤ j + 200000 by omega)⟩⟩
  show eg_CF _ _ _ _ _ _ _ _ _ _ _ _ _ _ _ _ _ _ _ _ _ (.invokespecial (j + 200000 - 200000)) (n + 1) kc ks S
  rw [Nat.add_sub_cancel]
  have hts := S0.2.2.2.2
  obtain ⟨hC, hd⟩ := hd
  exact eg_CF_IN S0 hK (wx0_ok _ _) hEx hA (hM hl) hnt ⟨va_cnB n hts (gt_goodIn h5) rfl hr.1 hr.2 (hEx.1.2.2.2.2.2.2.2 _ h1) (hts _ (List.mem_cons_of_mem _ (by rw [hC]; exact h4))) hd hR, hi, hts _ (List.mem_cons_of_mem _ h2)⟩ hrec
theorem mz_N {T : u_T} {N : Nat} {ty : Nat → FieldType} {P : eg_P} {k : eg_C} (S0 : CallFix p m c cc nL s args (x :: GT) own) (hK : va_K g.2.1 vwCl (eg_tys RX8 g.2.2.1) s) (hA : ∀ q, s.heap.size ≤ q → A q) (h : eg_CLF ci C T N ty) (hf3 : ∀ i, i < N → wd.2.2.1 ci i ≤ 3) (hq : Cond.classLink own j C ∈ GT) (hz : Cond.instantiable C N ∈ GT) (hi : Cond.initialized C ∈ GT) (hd : ∀ q ∈ k.1, decode cc q.1 = .ok q.2) : eg_NK p g.1 e R s m args below meth c Q w0 g.2.1 vwCl g.2.2.1 g.2.2.2.1 A nL ad0 N0 cc P k (j, .inr ci) := by
  obtain ⟨h1, h2, h3, h4, h5, h6⟩ := h
  have hts := S0.2.2.2.2
  exact eg_NK_new (w := w0) S0 hK hA h1 h2 (fun x hx => List.mem_cons_of_mem _ (h3 x hx)) h4 h6 hf3 (hts _ (List.mem_cons_of_mem _ hq)) (hts _ (List.mem_cons_of_mem _ hz)) (hts _ (List.mem_cons_of_mem _ hi)) hd
theorem mz_i (S0 : CallFix p m c cc nL s args (x :: GT) own) (hK : va_K g.2.1 vwCl (eg_tys RX8 g.2.2.1) s) (hA : ∀ q, s.heap.size ≤ q → A q) : eg_CK p g.1 e R s m args below meth c Q w0 g.2.1 vwCl g.2.2.1 g.2.2.2.1 A nL ad0 N0 cc (300001, 1, 1, ks, s_newa w0 1 ks) :=
  ⟨fun z => absurd z (show ¬ 300001 < 100000 by decide), fun _ z => absurd z (show ¬ 300001 < 200000 by decide), fun _ => ⟨fun z => absurd z (show ¬ 300001 < 300000 by decide), fun _ => eg_CE_newi S0 hK hA (S0.2.2.2.2 _ (List.mem_cons_of_mem _ gt_aI))⟩⟩
theorem mz_l (S0 : CallFix p m c cc nL s args (x :: GT) own) (hK : va_K g.2.1 vwCl (eg_tys RX8 g.2.2.1) s) (hA : ∀ q, s.heap.size ≤ q → A q) : eg_CK p g.1 e R s m args below meth c Q w0 g.2.1 vwCl g.2.2.1 g.2.2.2.1 A nL ad0 N0 cc (300002, 1, 1, ks, s_newa w0 2 ks) :=
  ⟨fun z => absurd z (show ¬ 300002 < 100000 by decide), fun _ z => absurd z (show ¬ 300002 < 200000 by decide), fun _ => ⟨fun z => absurd z (show ¬ 300002 < 300000 by decide), fun _ => eg_CE_newl S0 hK hA (S0.2.2.2.2 _ (List.mem_cons_of_mem _ gt_aJ))⟩⟩
theorem mz_z (S0 : CallFix p m c cc nL s args (x :: GT) own) (hK : va_K g.2.1 vwCl (eg_tys RX8 g.2.2.1) s) (hA : ∀ q, s.heap.size ≤ q → A q) : eg_CK p g.1 e R s m args below meth c Q w0 g.2.1 vwCl g.2.2.1 g.2.2.2.1 A nL ad0 N0 cc (300003, 1, 1, ks, s_newa w0 3 ks) :=
  ⟨fun z => absurd z (show ¬ 300003 < 100000 by decide), fun _ z => absurd z (show ¬ 300003 < 200000 by decide), fun _ => ⟨fun z => absurd z (show ¬ 300003 < 300000 by decide), fun _ => eg_CE_newz S0 hK hA (S0.2.2.2.2 _ (List.mem_cons_of_mem _ gt_aZ))⟩⟩
theorem mz_q {kd : Nat} (S0 : CallFix p m c cc nL s args (x :: GT) own) (hK : va_K g.2.1 vwCl (eg_tys RX8 g.2.2.1) s) (hEx : wx0 g.2.2.2.1 g.2.2.2.2 A s s.heap) (hA : ∀ q, s.heap.size ≤ q → A q) (h1 : Cond.classLink own j C ∈ GT) (hkd : (kd = 4 ∧ C = RX8) ∨ (kd = 5 ∧ C = "java/lang/String")) (hj : j < 10000) : eg_CK p g.1 e R s m args below meth c Q w0 g.2.1 vwCl g.2.2.1 g.2.2.2.1 A nL ad0 N0 cc (j + 310000, 1, 1, ks, s_newa w0 kd ks) := by
  refine ⟨fun z => absurd z (show ¬ j + 310000 < 100000 by omega), fun _ z => absurd z (show ¬ j + 310000 < 200000 by omega), fun _ => ⟨fun z => absurd z (show ¬ j + 310000 < 300000 by omega), fun _ => ?_⟩⟩
  show eg_CE _ _ _ _ _ _ _ _ _ _ _ _ _ _ _ _ _ _ _ _ _ (eg_ik (j + 310000)).1 (eg_ik (j + 310000)).2 1 1 ks (s_newa w0 kd ks)
  rw [eg_ik_a hj]
  refine eg_CE_anew S0 hK hA (S0.2.2.2.2 _ (List.mem_cons_of_mem _ h1)) (va_AO.of (hEx.2 (.object C) ?_)) hkd
  rcases hkd with ⟨_, z⟩ | ⟨_, z⟩
  · rw [z]
    exact List.mem_of_getElem? (i := 0) rfl
  · rw [z]
    exact List.mem_of_getElem? (i := 1) rfl
theorem mz_m {ty : FieldType} {kd kr : Nat} (S0 : CallFix p m c cc nL s args (x :: GT) own) (hK : va_K g.2.1 vwCl (eg_tys RX8 g.2.2.1) s) (hEx : wx0 g.2.2.2.1 g.2.2.2.2 A s s.heap) (hA : ∀ q, s.heap.size ≤ q → A q) (h1 : Cond.classLink own j ("[" ++ (FieldType.array ty).toString) ∈ GT) (hk : (kd = 6 ∧ kr = 1 ∧ ty = .int) ∨ (kd = 7 ∧ kr = 2 ∧ ty = .long)) (hj : j < 10000) : eg_CK p g.1 e R s m args below meth c Q w0 g.2.1 vwCl g.2.2.1 g.2.2.2.1 A nL ad0 N0 cc (j + 320000, 2, kc, ks, s_mna w0 kd kr kc ks) := by
  refine ⟨fun z => absurd z (show ¬ j + 320000 < 100000 by omega), fun _ z => absurd z (show ¬ j + 320000 < 200000 by omega), fun _ => ⟨fun z => absurd z (show ¬ j + 320000 < 300000 by omega), fun _ => ?_⟩⟩
  show eg_CE _ _ _ _ _ _ _ _ _ _ _ _ _ _ _ _ _ _ _ _ _ (eg_ik (j + 320000)).1 (eg_ik (j + 320000)).2 2 kc ks (s_mna w0 kd kr kc ks)
  rw [eg_ik_m hj]
  have h2 : Cond.arrayClass ty ∈ GT ∧ FieldType.array ty ∈ ao_t := by
    rcases hk with ⟨_, _, z⟩ | ⟨_, _, z⟩
    · rw [z]
      exact ⟨gt_aI, List.mem_of_getElem? (i := 2) rfl⟩
    · rw [z]
      exact ⟨gt_aJ, List.mem_of_getElem? (i := 3) rfl⟩
  exact eg_CE_mna S0 hK hA (S0.2.2.2.2 _ (List.mem_cons_of_mem _ h1)) (hEx.2 _ h2.2) (S0.2.2.2.2 _ (List.mem_cons_of_mem _ h2.1)) hk
theorem mz_t (S0 : CallFix p m c cc nL s args (x :: GT) own) (hK : va_K g.2.1 vwCl (eg_tys RX8 g.2.2.1) s) (hEx : wx0 g.2.2.2.1 g.2.2.2.2 A s s.heap) : eg_CK p g.1 e R s m args below meth c Q w0 g.2.1 vwCl g.2.2.1 g.2.2.2.1 A nL ad0 N0 cc (330000, 3, 0, 0, s_ast5 w0) := by
  refine ⟨fun z => absurd z (show ¬ 330000 < 100000 by decide), fun _ z => absurd z (show ¬ 330000 < 200000 by decide), fun _ => ⟨fun z => absurd z (show ¬ 330000 < 300000 by decide), fun _ => ?_⟩⟩
  refine eg_CE_ast5 S0 hK (fun ad M H locs hH t ht => ?_)
  obtain ⟨cell, f1, f2, f3⟩ := vk_recv hEx.1.1 ht hH.2.2.1
  obtain ⟨kC, hkC, -⟩ := Vm.findClass_spec f3
  refine ⟨cell, f1, f2, ⟨kC, hkC⟩, fun comp h => ?_⟩
  cases f3.symm.trans h
  exact va_asg _ _
end MZ

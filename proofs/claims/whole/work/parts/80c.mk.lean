/-! what is made and its constructor, in this world -/
section MKM
variable {g : gl_T} {p : Program} {e : Env} {R : Room} {s : State} {m : MethodId} {args : Array Value} {below : List Frame} {meth : Method} {c : Code} {Q : State → Prop} {A : Nat → Prop} {nL N0 : Nat} {ad0 : Nat → Nat} {cc : ByteArray} {own : String} {x : Cond}
variable {y : MethodName} {bytes : ByteArray} {maxL n kc ks j ci : Nat} {rm : Room} {S : eg_S} {C : String}
theorem mt_I (hl : g.1.stackTraces = false) (S0 : CallFix p m c cc nL s args (x :: GT) own) (hK : va_K g.2.1 vwCl (eg_tys RX8 g.2.2.1) s) (hEx : wx g.2.2.2.1 g.2.2.2.2 A s s.heap) (hA : ∀ q, s.heap.size ≤ q → A q) (hM : MT g y bytes maxL none rm kc ks S)
    (hnt : ∀ argv M Qp, S argv M Qp → S argv M (fun r N => match r with
    | .inl v => Qp (.inl v) N
    | .inr _ => False)) (h1 : Cond.methodLink own j y ∈ GT) (h2 : Cond.instanceMethod y ∈ GT) (h4 : Cond.initialized C ∈ GT) (h5 : Cond.code y bytes maxL none ∈ GT) (hd : y.cls = C ∧ y.cls ≠ "java/lang/invoke/MethodHandle" ∧ y.cls ≠ "java/lang/invoke/VarHandle" ∧ (parseMethodDescriptor y.desc).map (fun d => d.parameters.length) = some n) (hi : y.name = "<init>")
    (hr : rm.cells = kc ∧ rm.slots = ks) (hR : rm.frames + 1 ≤ R.frames ∧ 8 + (maxL + 11) + rm.locals ≤ R.locals) (hrec : ∀ argv M Qp, S argv M Qp → ∃ p0 As, argv = .ref p0 :: As) (hj : j < 100000) :
    eg_CK p g.1 e R s m args below meth c Q wd g.2.1 vwCl g.2.2.1 g.2.2.2.1 A nL ad0 N0 cc (j + 200000, n + 1, kc, ks, S) := by
  refine ⟨fun z => absurd z (show ¬ j + 200000 < 100000 by omega), fun _ z => absurd z (show ¬ j + 200000 < 200000 by omega), fun _ => ⟨fun _ => ?_, fun z => absurd z (show ¬ 300000 ≤ j + 200000 by omega)⟩⟩
  show eg_CF _ _ _ _ _ _ _ _ _ _ _ _ _ _ _ _ _ _ _ _ _ (.invokespecial (j + 200000 - 200000)) (n + 1) kc ks S
  rw [Nat.add_sub_cancel]
  have hts := S0.2.2.2.2
  obtain ⟨hC, hd⟩ := hd
  exact eg_CF_I S0 hK (wx_ok _ _) hEx hA (hM hl) hnt ⟨callB_of n hts (gt_goodIn h5) rfl hr.1 hr.2 (hts _ (List.mem_cons_of_mem _ (by rw [hC]; exact h4))) (hts _ (List.mem_cons_of_mem _ h1)) hd hR, hi, hts _ (List.mem_cons_of_mem _ h2)⟩ hrec
theorem mt_N {T : u_T} {N : Nat} {ty : Nat → FieldType} {P : eg_P} {k : eg_C} (S0 : CallFix p m c cc nL s args (x :: GT) own) (hK : va_K g.2.1 vwCl (eg_tys RX8 g.2.2.1) s) (hA : ∀ q, s.heap.size ≤ q → A q) (h : eg_CLF ci C T N ty) (hf3 : ∀ i, i < N → wd.2.2.1 ci i ≤ 3) (hq : Cond.classLink own j C ∈ GT) (hz : Cond.instantiable C N ∈ GT) (hi : Cond.initialized C ∈ GT) (hd : ∀ q ∈ k.1, decode cc q.1 = .ok q.2) : eg_NK p g.1 e R s m args below meth c Q wd g.2.1 vwCl g.2.2.1 g.2.2.2.1 A nL ad0 N0 cc P k (j, .inr ci) := by
  obtain ⟨h1, h2, h3, h4, h5, h6⟩ := h
  have hts := S0.2.2.2.2
  exact eg_NK_new S0 hK hA h1 h2 (fun x hx => List.mem_cons_of_mem _ (h3 x hx)) h4 h6 hf3 (hts _ (List.mem_cons_of_mem _ hq)) (hts _ (List.mem_cons_of_mem _ hz)) (hts _ (List.mem_cons_of_mem _ hi)) hd
theorem mt_ast4 (S0 : CallFix p m c cc nL s args (x :: GT) own) (hK : va_K g.2.1 vwCl (eg_tys RX8 g.2.2.1) s) : eg_CK p g.1 e R s m args below meth c Q wd g.2.1 vwCl g.2.2.1 g.2.2.2.1 A nL ad0 N0 cc (330000, 3, 0, 0, s_ast4 wd 8) := by
  refine ⟨fun z => absurd z (show ¬ 330000 < 100000 by decide), fun _ z => absurd z (show ¬ 330000 < 200000 by decide), fun _ => ⟨fun z => absurd z (show ¬ 330000 < 300000 by decide), fun _ => ?_⟩⟩
  exact eg_CE_ast4 S0 hK (r := (RX8, TX8, 6)) rfl rfl
end MKM
theorem f3_X8 : ∀ i, i < 6 → wd.2.2.1 8 i ≤ 3 := by decide +kernel

/-! CALLING A WRAPPER -/
section MTX
variable {g : gl_T} {p : Program} {e : Env} {R : Room} {s : State} {m : MethodId} {args : Array Value} {below : List Frame} {meth : Method} {c : Code} {Q : State → Prop} {A : Nat → Prop} {nL N0 : Nat} {ad0 : Nat → Nat} {cc : ByteArray} {own : String} {x : Cond}
variable {y : MethodName} {bytes : ByteArray} {maxL n kc ks j : Nat} {rm : Room} {S : eg_S} {hh : List (Nat × Nat × Nat × Nat)}
theorem mt_SX (hl : g.1.stackTraces = false) (S0 : CallFix p m c cc nL s args (x :: GT) own) (hK : va_K g.2.1 vwCl (eg_tys RX8 g.2.2.1) s) (hEx : wxL g.2.2.2.1 g.2.2.2.2 A s s.heap) (hA : ∀ q, s.heap.size ≤ q → A q) (hM : MTL g y bytes maxL hh rm kc ks S)
    (h1 : Cond.methodLink own j y ∈ GT) (h2 : Cond.static y ∈ GT) (h4 : Cond.initialized y.cls ∈ GT) (h5 : Cond.codeWith y bytes maxL (some .int) hh ∈ GT) (hd : y.cls ≠ "java/lang/invoke/MethodHandle" ∧ y.cls ≠ "java/lang/invoke/VarHandle" ∧ (parseMethodDescriptor y.desc).map (fun d => d.parameters.length) = some n)
    (hr : rm.cells = kc ∧ rm.slots = ks) (hR : rm.frames + 1 ≤ R.frames ∧ 8 + (maxL + 11) + rm.locals ≤ R.locals) (hj : j < 100000) :
    eg_CK p g.1 e R s m args below meth c Q wd g.2.1 vwCl g.2.2.1 g.2.2.2.1 A nL ad0 N0 cc (j + 100000, n, kc, ks, S) := by
  refine ⟨fun z => absurd z (show ¬ j + 100000 < 100000 by omega), fun _ _ => ?_, fun z => absurd z (show ¬ 200000 ≤ j + 100000 by omega)⟩
  show eg_CF _ _ _ _ _ _ _ _ _ _ _ _ _ _ _ _ _ _ _ _ _ (.invokestatic (j + 100000 - 100000)) n kc ks S
  rw [Nat.add_sub_cancel]
  have hG : GoodIn (x :: GT) (va_wsS own j y (Cond.codeWith y bytes maxL (some .int) hh :: GT)) := fun w hw => by
    have hg : w ∈ GT := by
      unfold va_wsS at hw
      simp only [List.mem_append, List.mem_cons, List.not_mem_nil, or_false] at hw
      rcases hw with (e | e | e) | e | e
      · rw [e]; exact h1
      · rw [e]; exact h2
      · rw [e]; exact h4
      · rw [e]; exact h5
      · exact e
    exact ⟨List.mem_cons_of_mem _ hg, good_of_word (gt_good w hg)⟩
  exact eg_CF_SX S0 hK (wxL_ok _ _) hEx hA (hM hl) (vx_cwSW n S0.2.2.2.2 hG rfl hr.1 hr.2 hd hR)
end MTX

/-! CONTRACTS IN THIS WORLD -/
/-- what is given from outside: the launch, where the classes, the rows' classes, the texts and their bytes lie -/
abbrev gl_T : Type := Launch × va_G × (Nat → ClassId) × (Nat → Nat) × (Nat → Nat)
def tx_len : List Nat := [3, 3, 6, 39, 5, 6, 5, 6, 15, 11, 13, 21, 21, 24, 12, 3, 23, 39, 38, 43, 2, 6, 3, 4, 5, 5, 30, 4, 6, 6, 4, 5]
def tx_byt : List (List Int32) := [[97, 103, 101], [97, 110, 100], [99, 111, 109, 109, 111, 110], [100, 97, 121, 115, 32, 103, 111, 32, 111, 110, 44, 32, 97, 110, 100, 32, 110, 111, 116, 32, 98, 101, 121, 111, 110, 100, 32, 116, 104, 101, 32, 108, 97, 115, 116, 32, 111, 110, 101], [103, 114, 97, 110, 116], [103, 117, 101, 115, 116, 115], [109, 105, 108, 101, 115], [110, 105, 103, 104, 116, 115], [110, 111, 32, 115, 117, 99, 104, 32, 99, 104, 97, 114, 116, 101, 114], [110, 111, 32, 115, 117, 99, 104, 32, 100, 97, 121], [110, 111, 32, 115, 117, 99, 104, 32, 101, 118, 101, 110, 116], [110, 111, 32, 115, 117, 99, 104, 32, 103, 117, 101, 115, 116, 32, 111, 114, 32, 104, 111, 109, 101], [110, 111, 32, 115, 117, 99, 104, 32, 107, 105, 110, 100, 32, 111, 102, 32, 101, 118, 101, 110, 116], [110, 111, 32, 115, 117, 99, 104, 32, 116, 104, 105, 110, 103, 32, 116, 111, 32, 97, 115, 107, 32, 102, 111, 114], [110, 111, 32, 115, 117, 99, 104, 32, 116, 111, 119, 110], [110, 111, 116], [110, 111, 116, 104, 105, 110, 103, 32, 101, 108, 115, 101, 32, 105, 115, 32, 99, 111, 117, 110, 116, 101, 100], [110, 111, 116, 104, 105, 110, 103, 32, 105, 115, 32, 107, 101, 112, 116, 44, 32, 111, 114, 32, 110, 111, 32, 115, 117, 99, 104, 32, 103, 117, 101, 115, 116, 32, 105, 110, 32, 105, 116], [110, 111, 116, 104, 105, 110, 103, 32, 105, 115, 32, 107, 101, 112, 116, 44, 32, 111, 114, 32, 110, 111, 32, 115, 117, 99, 104, 32, 112, 108, 97, 110, 32, 105, 110, 32, 105, 116], [110, 111, 116, 104, 105, 110, 103, 32, 105, 115, 32, 107, 110, 111, 119, 110, 32, 111, 102, 32, 97, 32, 100, 97, 121, 32, 116, 104, 97, 116, 32, 104, 97, 115, 32, 110, 111, 116, 32, 99, 111, 109, 101], [111, 114], [112, 101, 111, 112, 108, 101], [112, 111, 116], [114, 97, 116, 101], [115, 105, 110, 99, 101], [115, 108, 101, 101, 112], [116, 104, 101, 32, 116, 97, 112, 101, 32, 104, 97, 115, 32, 110, 111, 116, 32, 115, 111, 32, 109, 97, 110, 121, 32, 98, 121, 116, 101, 115], [116, 117, 114, 110], [117, 110, 108, 101, 115, 115], [118, 105, 115, 105, 116, 115], [121, 101, 97, 114], [121, 111, 117, 110, 103]]
def tx_tab : List (String × Nat × String × Nat) := [(RX11, 84, "days go on, and not beyond the last one", 3), (RX11, 91, "no such kind of event", 12), (RX11, 132, "the tape has not so many bytes", 26), (RX11, 217, "no such guest or home", 11), (RX11, 229, "nothing is kept, or no such guest in it", 17), (RX11, 255, "nothing is kept, or no such plan in it", 18), (RX11, 288, "nothing else is counted", 16), (RX11, 290, "no such town", 14), (RX11, 292, "no such charter", 8), (RX11, 294, "no such event", 10), (RX11, 296, "no such thing to ask for", 13), (RX11, 298, "no such day", 9), (RX11, 300, "nothing is known of a day that has not come", 19), (RX7, 76, "grant", 4), (RX7, 82, "pot", 22), (RX7, 83, "sleep", 25), (RX7, 85, "rate", 23), (RX7, 93, "unless", 28), (RX7, 112, "or", 20), (RX7, 117, "and", 1), (RX7, 119, "not", 15), (RX7, 141, "guests", 5), (RX7, 143, "nights", 7), (RX7, 145, "young", 31), (RX7, 147, "miles", 6), (RX7, 149, "people", 21), (RX7, 151, "common", 2), (RX7, 153, "turn", 27), (RX7, 155, "since", 24), (RX7, 157, "age", 0), (RX7, 159, "visits", 29), (RX7, 161, "year", 30), (RX12, 9, "guests", 5), (RX12, 11, "nights", 7), (RX12, 13, "young", 31), (RX12, 15, "miles", 6), (RX12, 17, "people", 21), (RX12, 19, "common", 2), (RX12, 21, "turn", 27), (RX12, 23, "since", 24), (RX12, 25, "age", 0), (RX12, 27, "visits", 29), (RX12, 29, "year", 30), (RX12, 347, "not", 15), (RX12, 355, "and", 1), (RX12, 360, "or", 20), (RX12, 362, "grant", 4), (RX12, 363, "sleep", 25), (RX12, 365, "pot", 22), (RX12, 366, "rate", 23), (RX12, 367, "unless", 28)]
/-- words of a throw that are not good ones: they stay all the same -/
def tx_bad : List Cond := [.declares (Bundle.initS "java/lang/RuntimeException"), .declares (Bundle.initS "java/lang/Exception"), .declares (Bundle.initS Bundle.tN), .castable "java/util/NoSuchElementException" "java/util/NoSuchElementException", .castable "java/lang/IllegalArgumentException" "java/lang/IllegalArgumentException", .castable "[I" "java/lang/Cloneable"]
theorem tx_bad_face : ∀ w ∈ tx_bad, w.keepsFace = true ∧ w.onTables = true := by decide +kernel
theorem tx_bad_in : ∀ w ∈ tx_bad, w ∈ lw_tbl := by decide +kernel
/-- calls of a nest mate's private members: who, where, whom -/
def tx_nst : List (String × Nat × MethodName) := [(RX11, 11, yX3_init), (RX11, 38, yX4_init), (RX11, 45, yX6_init), (RX3, 11, yX9_init), (RX3, 20, yX0_init), (RX3, 27, yX1_init), (RX3, 34, yX10_init), (RX4, 52, yX5_init), (RX6, 48, yX11_isDay), (RX10, 29, yX7_init)]
theorem tx_nst_in : ∀ q ∈ tx_nst, Cond.methodLinkNest q.1 q.2.1 q.2.2 "TownTwins" ∈ lw_tbl := by decide +kernel
/-- what is known beside the world: the texts, the Throwable's two statics -/
def wx (adK adV : Nat → Nat) : (Nat → Prop) → State → Heap → Prop := fun A U H =>
  vk_S 32 tx_len tx_byt adK adV A U H ∧ vx_Zq Bundle.tN "UNASSIGNED_STACK" Bundle.steD A U H ∧ vx_Zq Bundle.tN "SUPPRESSED_SENTINEL" Bundle.listD A U H ∧ (∀ q ∈ tx_tab, vk_R q.1 q.2.1 q.2.2.1 (adK q.2.2.2) U) ∧ (∀ w ∈ tx_bad, w.before #[] U = true) ∧ va_Z RJ0 "COMPACT_STRINGS" "Z" (.int 1) A U H ∧ va_Zq RJ3 "SIOOBE_FORMATTER" "Ljava/util/function/BiFunction;" A U H ∧ (∀ q ∈ tx_nst, va_Nw (.methodLinkNest q.1 q.2.1 q.2.2 "TownTwins") U)
theorem wx_ok (adK adV : Nat → Nat) : eg_ExOk (wx adK adV) := by
  refine ⟨fun A s U H hW h => ?_, fun A U H H1 h hq => ?_, fun A B U H hAB h => ?_⟩
  · obtain ⟨h1, h2, h3, h4, h5, h6, h7, h8⟩ := h
    exact ⟨h1.moved hW.alike, h2.moved hW.alike, h3.moved hW.alike, fun q hq => vk_R.warm hW (h4 q hq), fun w hw => va_tabs (u := s.setVm U.vm) (tx_bad_face w hw).2 rfl (Cond.before_shiftedFace (State.Shifted.of_warmed hW) w (tx_bad_face w hw).1 (h5 w hw)), h6.moved hW.alike, h7.moved hW.alike, fun q hq => va_Nw.warmM hW (h8 q hq)⟩
  · obtain ⟨h1, h2, h3, h4, h5, h6, h7, h8⟩ := h
    exact ⟨h1.kept hq, h2.kept hq, h3.kept hq, h4, h5, h6.kept hq, h7.kept hq, h8⟩
  · obtain ⟨h1, h2, h3, h4, h5, h6, h7, h8⟩ := h
    exact ⟨h1.narrow hAB, h2.narrow hAB, h3.narrow hAB, h4, h5, h6.narrow hAB, h7.narrow hAB, h8⟩
/-- a method of this program keeps its contract -/
def MT (g : gl_T) (y : MethodName) (cc : ByteArray) (nL : Nat) (ret : Option FieldType) (rm : Room) (mc ms : Nat) (S : eg_S) : Prop :=
  g.1.stackTraces = false → eg_Met g.1 wd g.2.1 vwCl RX8 g.2.2.1 g.2.2.2.1 (wx g.2.2.2.1 g.2.2.2.2) y (Cond.code y cc nL ret :: GT) rm mc ms S
theorem gt_goodIn {x y : Cond} (hy : y ∈ GT) : GoodIn (x :: GT) (y :: GT) := fun w hw => by
  have hg : w ∈ GT := by
    rcases List.mem_cons.mp hw with e | e
    · rw [e]; exact hy
    · exact e
  exact ⟨List.mem_cons_of_mem _ hg, good_of_word (gt_good w hg)⟩
theorem fc {α : Type} {p : α → Prop} {a : α} {l : List α} (h : p a) (t : ∀ x ∈ l, p x) : ∀ x ∈ a :: l, p x := List.forall_mem_cons.mpr ⟨h, t⟩
theorem fn {α : Type} {p : α → Prop} : ∀ x ∈ ([] : List α), p x := fun _ h => absurd h List.not_mem_nil
section MTC
variable {g : gl_T} {p : Program} {e : Env} {R : Room} {s : State} {m : MethodId} {args : Array Value} {below : List Frame} {meth : Method} {c : Code} {Q : State → Prop} {A : Nat → Prop} {nL N0 : Nat} {ad0 : Nat → Nat} {cc : ByteArray} {own : String} {x : Cond}
variable {y : MethodName} {bytes : ByteArray} {maxL n kc ks j ci : Nat} {ret : Option FieldType} {rm : Room} {S : eg_S} {C : String}
def nx_rx : ByteArray := ⟨#[0x2a, 0x2b, 0xb7, 0x00, 0x0d, 0xb1]⟩
theorem mt_V (hl : g.1.stackTraces = false) (S0 : CallFix p m c cc nL s args (x :: GT) own) (hK : va_K g.2.1 vwCl (eg_tys RX8 g.2.2.1) s) (hEx : wx g.2.2.2.1 g.2.2.2.2 A s s.heap) (hA : ∀ q, s.heap.size ≤ q → A q) (hM : MT g y bytes maxL ret rm kc ks S)
    (h1 : Cond.methodLink own j y ∈ GT) (h2 : Cond.instanceMethod y ∈ GT) (h3 : Cond.selects C y y ∈ GT) (h4 : Cond.initialized C ∈ GT) (h5 : Cond.code y bytes maxL ret ∈ GT) (hd : y.cls = C ∧ y.cls ≠ "java/lang/invoke/MethodHandle" ∧ y.cls ≠ "java/lang/invoke/VarHandle" ∧ (parseMethodDescriptor y.desc).map (fun d => d.parameters.length) = some n)
    (hr : rm.cells = kc ∧ rm.slots = ks) (hR : rm.frames + 1 ≤ R.frames ∧ 8 + (maxL + 11) + rm.locals ≤ R.locals) {q0 : vw_C} (hcl : vwCl[ci]? = some q0) (hC : q0.1 = C) (hrec : ∀ argv M Qp, S argv M Qp → ∃ p0 As, argv = .ref p0 :: As ∧ eg_isO wd M p0 ci = true) (hj : j < 100000) :
    eg_CK p g.1 e R s m args below meth c Q wd g.2.1 vwCl g.2.2.1 g.2.2.2.1 A nL ad0 N0 cc (j, n + 1, kc, ks, S) := by
  refine ⟨fun _ => ?_, fun z => absurd z (Nat.not_le.mpr hj), fun z => absurd z (show ¬ 200000 ≤ j by omega)⟩
  have hG : GoodIn (x :: GT) (wsV own j C y (Cond.code y bytes maxL ret :: GT)) := fun w hw => by
    have hg : w ∈ GT := by
      unfold wsV at hw
      simp only [List.mem_append, List.mem_cons, List.not_mem_nil, or_false] at hw
      rcases hw with (e | e | e | e) | e | e
      · rw [e]; exact h1
      · rw [e]; exact h2
      · rw [e]; exact h3
      · rw [e]; exact h4
      · rw [e]; exact h5
      · exact e
    exact ⟨List.mem_cons_of_mem _ hg, good_of_word (gt_good w hg)⟩
  exact eg_CF_V S0 hK (wx_ok _ _) hEx hA (hM hl) (cwV n S0.2.2.2.2 hG rfl hr.1 hr.2 hd hR) hcl hC hrec
theorem mt_S (hl : g.1.stackTraces = false) (S0 : CallFix p m c cc nL s args (x :: GT) own) (hK : va_K g.2.1 vwCl (eg_tys RX8 g.2.2.1) s) (hEx : wx g.2.2.2.1 g.2.2.2.2 A s s.heap) (hA : ∀ q, s.heap.size ≤ q → A q) (hM : MT g y bytes maxL ret rm kc ks S)
    (h1 : Cond.methodLink own j y ∈ GT) (h2 : Cond.static y ∈ GT) (h4 : Cond.initialized C ∈ GT) (h5 : Cond.code y bytes maxL ret ∈ GT) (hd : y.cls = C ∧ y.cls ≠ "java/lang/invoke/MethodHandle" ∧ y.cls ≠ "java/lang/invoke/VarHandle" ∧ (parseMethodDescriptor y.desc).map (fun d => d.parameters.length) = some n)
    (hr : rm.cells = kc ∧ rm.slots = ks) (hR : rm.frames + 1 ≤ R.frames ∧ 8 + (maxL + 11) + rm.locals ≤ R.locals) (hj : j < 100000) :
    eg_CK p g.1 e R s m args below meth c Q wd g.2.1 vwCl g.2.2.1 g.2.2.2.1 A nL ad0 N0 cc (j + 100000, n, kc, ks, S) := by
  refine ⟨fun z => absurd z (show ¬ j + 100000 < 100000 by omega), fun _ _ => ?_, fun z => absurd z (show ¬ 200000 ≤ j + 100000 by omega)⟩
  show eg_CF _ _ _ _ _ _ _ _ _ _ _ _ _ _ _ _ _ _ _ _ _ (.invokestatic (j + 100000 - 100000)) n kc ks S
  rw [Nat.add_sub_cancel]
  have hts := S0.2.2.2.2
  obtain ⟨hC, hd⟩ := hd
  exact eg_CF_S S0 hK (wx_ok _ _) hEx hA (hM hl) ⟨callB_of n hts (gt_goodIn h5) rfl hr.1 hr.2 (hts _ (List.mem_cons_of_mem _ (by rw [hC]; exact h4))) (hts _ (List.mem_cons_of_mem _ h1)) hd hR, hts _ (List.mem_cons_of_mem _ h2)⟩
/-- throw new E("..") -/
theorem mt_T {P : eg_P} {k : eg_C} {Qc : Array Value → State → Outcome → State → Prop} {XC : String → State → State → Prop} {cls text : String} {names : List String} {ik is ic ix nt : Nat} {rx : ByteArray} (hl : g.1.stackTraces = false) (S0 : CallFix p m c cc nL s args (x :: GT) own) (hEx : wx g.2.2.2.1 g.2.2.2.2 A s s.heap) (hlk : meth.locks = false) (hout : ∀ x ∈ c.exceptionTable.toList, False)
    (hPX : ∀ (E : String) (M : eg_M) (ad : Nat → Nat) (H : Heap) (locs : List Loc), P (.inr E) M → eg_H wd g.2.1 vwCl g.2.2.1 g.2.2.2.1 A s.heap ad0 N0 ad M H locs → ∀ t : State, t.heap = H → s.vm.Alike t.vm → XC E s t)
    (x0 : decode rx 0 = .ok (.aload_n 0, 1)) (x1 : decode rx 1 = .ok (.aload_n 1, 1)) (x2 : decode rx 2 = .ok (.invokespecial ix, 3)) (x5 : decode rx 5 = .ok (.return_, 1)) (hcls : Bundle.fit cls = true) (hnames : ∀ n ∈ names, Bundle.fit n = true)
    (hk : Cond.classLink own ik cls ∈ GT) (hini : Cond.initialized cls ∈ GT) (hstr : (own, is, text, nt) ∈ tx_tab) (hgw : ∀ w ∈ (eg_atX own ic cls ix rx names).filter goodWord, w ∈ GT) (hbw : ∀ w ∈ (eg_atX own ic cls ix rx names).filter (fun w => !goodWord w), w ∈ tx_bad) (hot : ∀ w ∈ Cond.classLink own ik cls :: Cond.initialized cls :: eg_atX own ic cls ix rx names, vx_ot w = true)
    (hd : ∀ q ∈ k.1, q.2 = (Instr.new ik, 3) → decode cc q.1 = .ok (.new ik, 3) ∧ decode cc (q.1 + 3) = .ok (.dup, 1) ∧ decode cc (q.1 + 4) = .ok (.ldc is, 2) ∧ decode cc (q.1 + 6) = .ok (.invokespecial ic, 3) ∧ decode cc (q.1 + 9) = .ok (.athrow, 1))
    (hRf : names.length + 3 < R.frames) (hRl : 13 * (names.length + 1) + 43 ≤ R.locals) (hRc : k.2.2.2.2.2.2.1 ≤ R.cells) (hRs : k.2.2.2.2.2.2.2 ≤ R.slots) :
    eg_NK p g.1 e R s m args below meth c (vx_MQ below Qc XC args s k.2.2.2.2.2.2.1 k.2.2.2.2.2.2.2 A) wd g.2.1 vwCl g.2.2.1 g.2.2.2.1 A nL ad0 N0 cc P k (ik, .inl cls) := by
  intro pc cu su ls M hmem hc hs hP ad H locs arr hH hL hst
  obtain ⟨hx, hb, hml, hown, hts⟩ := S0
  obtain ⟨d0, d3, d4, d6, d9⟩ := hd _ hmem rfl
  obtain ⟨-, hU, hN, hR, hB, -⟩ := hEx
  have hat : ∀ w ∈ eg_atX own ic cls ix rx names, w.before args s = true := vx_hat (B := tx_bad) (fun w hw => hts w (List.mem_cons_of_mem _ (hgw w hw))) hbw (fun w hw => va_any (tx_bad_face w hw).2 (hB w hw))
  refine eg_throwS (rest := []) hx hb hl x0 x1 x2 x5 hown hcls hnames (hts _ (List.mem_cons_of_mem _ hk)) (hts _ (List.mem_cons_of_mem _ hini)) (hR _ hstr) hat hot hU hN hH.2.2.1 (hL.1.trans hml.symm) d0 d3 d4 d6 d9 (fun x hx => (hout x hx).elim) hRf (by simpa using hRl) (Nat.le_trans hc hRc) (Nat.le_trans hs hRs) hlk (fun t ha h1 h2 => ?_) hH.2.2.1.2.2 hc hs
  refine hPX cls M ad t.heap locs hP ⟨hH.1.kept (fun i q hq => h2 q.1 (hH.1 i q hq).lt), hH.2.1, ⟨Nat.le_trans hH.2.2.1.1 h1, fun q g1 g2 => ?_, hH.2.2.1.2.2⟩, hH.2.2.2⟩ t rfl ha
  rw [h2 q (Nat.lt_of_lt_of_le g1 hH.2.2.1.1)]
  exact hH.2.2.1.2.1 q g1 g2
/-- throw new E("..") -/
theorem mt_TW {P : eg_P} {k : eg_C} {Qc : Array Value → State → Outcome → State → Prop} {XC : String → State → State → Prop} {cls text : String} {names : List String} {ik is ic ix nt : Nat} {rx : ByteArray} (hl : g.1.stackTraces = false) (S0 : CallFix p m c cc nL s args (x :: GT) own) (hEx : wx g.2.2.2.1 g.2.2.2.2 A s s.heap) (hlk : meth.locks = false) (hout : ∀ x ∈ c.exceptionTable.toList, False)
    (hPX : ∀ (E : String) (M : eg_M) (ad : Nat → Nat) (H : Heap) (locs : List Loc), P (.inr E) M → eg_H wd g.2.1 vwCl g.2.2.1 g.2.2.2.1 A s.heap ad0 N0 ad M H locs → ∀ t : State, t.heap = H → s.vm.Alike t.vm → XC E s t)
    (x0 : decode rx 0 = .ok (.aload_n 0, 1)) (x1 : decode rx 1 = .ok (.aload_n 1, 1)) (x2 : decode rx 2 = .ok (.invokespecial ix, 3)) (x5 : decode rx 5 = .ok (.return_, 1)) (hcls : Bundle.fit cls = true) (hnames : ∀ n ∈ names, Bundle.fit n = true)
    (hk : Cond.classLink own ik cls ∈ GT) (hini : Cond.initialized cls ∈ GT) (hstr : (own, is, text, nt) ∈ tx_tab) (hgw : ∀ w ∈ (eg_atX own ic cls ix rx names).filter goodWord, w ∈ GT) (hbw : ∀ w ∈ (eg_atX own ic cls ix rx names).filter (fun w => !goodWord w), w ∈ tx_bad) (hot : ∀ w ∈ Cond.classLink own ik cls :: Cond.initialized cls :: eg_atX own ic cls ix rx names, vx_ot w = true)
    (hd : ∀ q ∈ k.1, q.2 = (Instr.new ik, 3) → decode cc q.1 = .ok (.new ik, 3) ∧ decode cc (q.1 + 3) = .ok (.dup, 1) ∧ decode cc (q.1 + 4) = .ok (.ldc_w is, 3) ∧ decode cc (q.1 + 7) = .ok (.invokespecial ic, 3) ∧ decode cc (q.1 + 10) = .ok (.athrow, 1))
    (hRf : names.length + 3 < R.frames) (hRl : 13 * (names.length + 1) + 43 ≤ R.locals) (hRc : k.2.2.2.2.2.2.1 ≤ R.cells) (hRs : k.2.2.2.2.2.2.2 ≤ R.slots) :
    eg_NK p g.1 e R s m args below meth c (vx_MQ below Qc XC args s k.2.2.2.2.2.2.1 k.2.2.2.2.2.2.2 A) wd g.2.1 vwCl g.2.2.1 g.2.2.2.1 A nL ad0 N0 cc P k (ik, .inl cls) := by
  intro pc cu su ls M hmem hc hs hP ad H locs arr hH hL hst
  obtain ⟨hx, hb, hml, hown, hts⟩ := S0
  obtain ⟨d0, d3, d4, d6, d9⟩ := hd _ hmem rfl
  obtain ⟨-, hU, hN, hR, hB, -⟩ := hEx
  have hat : ∀ w ∈ eg_atX own ic cls ix rx names, w.before args s = true := vx_hat (B := tx_bad) (fun w hw => hts w (List.mem_cons_of_mem _ (hgw w hw))) hbw (fun w hw => va_any (tx_bad_face w hw).2 (hB w hw))
  refine eg_throwSW (rest := []) hx hb hl x0 x1 x2 x5 hown hcls hnames (hts _ (List.mem_cons_of_mem _ hk)) (hts _ (List.mem_cons_of_mem _ hini)) (hR _ hstr) hat hot hU hN hH.2.2.1 (hL.1.trans hml.symm) d0 d3 d4 d6 d9 (fun x hx => (hout x hx).elim) hRf (by simpa using hRl) (Nat.le_trans hc hRc) (Nat.le_trans hs hRs) hlk (fun t ha h1 h2 => ?_) hH.2.2.1.2.2 hc hs
  refine hPX cls M ad t.heap locs hP ⟨hH.1.kept (fun i q hq => h2 q.1 (hH.1 i q hq).lt), hH.2.1, ⟨Nat.le_trans hH.2.2.1.1 h1, fun q g1 g2 => ?_, hH.2.2.1.2.2⟩, hH.2.2.2⟩ t rfl ha
  rw [h2 q (Nat.lt_of_lt_of_le g1 hH.2.2.1.1)]
  exact hH.2.2.1.2.1 q g1 g2
end MTC
theorem mo_So : eg_mono eg_So := by
  intro argv M Q Q' h
  unfold eg_So
  split
  · exact h _ _
  · exact id
section MTO
variable {g : gl_T} {p : Program} {e : Env} {R : Room} {s : State} {m : MethodId} {args : Array Value} {below : List Frame} {meth : Method} {c : Code} {Q : State → Prop} {A : Nat → Prop} {nL N0 : Nat} {ad0 : Nat → Nat} {cc : ByteArray} {own : String} {x : Cond} {j : Nat}
theorem mt_O (S0 : CallFix p m c cc nL s args (x :: GT) own) (h1 : Cond.methodLink own j Lib.objectInit ∈ GT) (hF : 1 ≤ R.frames) (hR : 20 ≤ R.locals) (hj : j < 100000) : eg_CK p g.1 e R s m args below meth c Q wd g.2.1 vwCl g.2.2.1 g.2.2.2.1 A nL ad0 N0 cc (j + 200000, 1, 0, 0, eg_So) := by
  refine ⟨fun z => absurd z (show ¬ j + 200000 < 100000 by omega), fun _ z => absurd z (show ¬ j + 200000 < 200000 by omega), fun _ => ⟨fun _ => ?_, fun z => absurd z (show ¬ 300000 ≤ j + 200000 by omega)⟩⟩
  show eg_CF _ _ _ _ _ _ _ _ _ _ _ _ _ _ _ _ _ _ _ _ _ (.invokespecial (j + 200000 - 200000)) 1 0 0 eg_So
  rw [Nat.add_sub_cancel]
  have hts := S0.2.2.2.2
  exact eg_CF_O S0 (hts _ (List.mem_cons_of_mem _ h1)) (hts _ (List.mem_cons_of_mem _ li_obj)) (hts _ (List.mem_cons_of_mem _ lc_obj)) hF hR
def s_J9_abs_0f7a4 : eg_S := fun argv M Qp => match argv with
  | [.int x] => Qp (.inl (some (.int (if 0 ≤ x then x else 0 - x)))) M
  | _ => False
theorem mo_J9_abs_0f7a4 : eg_mono s_J9_abs_0f7a4 := by
  intro argv M Q Q' h
  unfold s_J9_abs_0f7a4
  split
  · exact h _ _
  · exact id
theorem mc_J9_abs_0f7a4 : Cond.code Lib.Math.abs.name Lib.Math.abs.code 1 (some .int) ∈ GT := lc_J9_abs_0f7a4
theorem mt_J9_abs_0f7a4 (S0 : CallFix p m c cc nL s args (x :: GT) own) (h1 : Cond.methodLink own j yJ9_abs_0f7a4 ∈ GT) (hF : 1 ≤ R.frames) (hR : 24 ≤ R.locals) (hj : j < 100000) : eg_CK p g.1 e R s m args below meth c Q wd g.2.1 vwCl g.2.2.1 g.2.2.2.1 A nL ad0 N0 cc (j + 100000, 1, 0, 0, s_J9_abs_0f7a4) := by
  refine ⟨fun z => absurd z (show ¬ j + 100000 < 100000 by omega), fun _ _ => ?_, fun z => absurd z (show ¬ 200000 ≤ j + 100000 by omega)⟩
  · show eg_CF _ _ _ _ _ _ _ _ _ _ _ _ _ _ _ _ _ _ _ _ _ (.invokestatic (j + 100000 - 100000)) 1 0 0 s_J9_abs_0f7a4
    rw [Nat.add_sub_cancel]
    intro pc cu su ls rest argv M Qp hd hn hwt hc hs hS ad H locs arr hH hL hav hrv kk kx
    unfold s_J9_abs_0f7a4 at hS
    split at hS
    · obtain ⟨hx, hb, hml, hown, hts⟩ := S0
      have hsum := eg_sum (ad := ad) (adK := g.2.2.2.1) hwt
      exact va_mabs (rest := rest.map (eg_cv ad g.2.2.2.1)) hx hb (hml.trans hL.1.symm) hown (hts _ (List.mem_cons_of_mem _ h1)) (hts _ (List.mem_cons_of_mem _ ls_J9_abs_0f7a4)) (hts _ (List.mem_cons_of_mem _ ln_RJ9)) (hts _ (List.mem_cons_of_mem _ mc_J9_abs_0f7a4)) hF (by omega) (by omega) (by omega) hd (kk _ M ad H locs hS hH ⟨fun _ _ => rfl, Nat.le_refl _⟩ (fun u hu => by cases List.mem_singleton.mp hu; trivial))
    · exact hS.elim
def s_J9_max_7cf53 : eg_S := fun argv M Qp => match argv with
  | [.int x, .int y] => Qp (.inl (some (.int (if x < y then y else x)))) M
  | _ => False
theorem mo_J9_max_7cf53 : eg_mono s_J9_max_7cf53 := by
  intro argv M Q Q' h
  unfold s_J9_max_7cf53
  split
  · exact h _ _
  · exact id
theorem mc_J9_max_7cf53 : Cond.code Lib.Math.max.name Lib.Math.max.code 2 (some .int) ∈ GT := lc_J9_max_7cf53
theorem mt_J9_max_7cf53 (S0 : CallFix p m c cc nL s args (x :: GT) own) (h1 : Cond.methodLink own j yJ9_max_7cf53 ∈ GT) (hF : 1 ≤ R.frames) (hR : 24 ≤ R.locals) (hj : j < 100000) : eg_CK p g.1 e R s m args below meth c Q wd g.2.1 vwCl g.2.2.1 g.2.2.2.1 A nL ad0 N0 cc (j + 100000, 2, 0, 0, s_J9_max_7cf53) := by
  refine ⟨fun z => absurd z (show ¬ j + 100000 < 100000 by omega), fun _ _ => ?_, fun z => absurd z (show ¬ 200000 ≤ j + 100000 by omega)⟩
  · show eg_CF _ _ _ _ _ _ _ _ _ _ _ _ _ _ _ _ _ _ _ _ _ (.invokestatic (j + 100000 - 100000)) 2 0 0 s_J9_max_7cf53
    rw [Nat.add_sub_cancel]
    intro pc cu su ls rest argv M Qp hd hn hwt hc hs hS ad H locs arr hH hL hav hrv kk kx
    unfold s_J9_max_7cf53 at hS
    split at hS
    · obtain ⟨hx, hb, hml, hown, hts⟩ := S0
      have hsum := eg_sum (ad := ad) (adK := g.2.2.2.1) hwt
      exact va_mmax (rest := rest.map (eg_cv ad g.2.2.2.1)) hx hb (hml.trans hL.1.symm) hown (hts _ (List.mem_cons_of_mem _ h1)) (hts _ (List.mem_cons_of_mem _ ls_J9_max_7cf53)) (hts _ (List.mem_cons_of_mem _ ln_RJ9)) (hts _ (List.mem_cons_of_mem _ mc_J9_max_7cf53)) hF (by omega) (by omega) (by omega) hd (kk _ M ad H locs hS hH ⟨fun _ _ => rfl, Nat.le_refl _⟩ (fun u hu => by cases List.mem_singleton.mp hu; trivial))
    · exact hS.elim
def s_J9_min_7cf53 : eg_S := fun argv M Qp => match argv with
  | [.int x, .int y] => Qp (.inl (some (.int (if y < x then y else x)))) M
  | _ => False
theorem mo_J9_min_7cf53 : eg_mono s_J9_min_7cf53 := by
  intro argv M Q Q' h
  unfold s_J9_min_7cf53
  split
  · exact h _ _
  · exact id
theorem mc_J9_min_7cf53 : Cond.code Lib.Math.min.name Lib.Math.min.code 2 (some .int) ∈ GT := lc_J9_min_7cf53
theorem mt_J9_min_7cf53 (S0 : CallFix p m c cc nL s args (x :: GT) own) (h1 : Cond.methodLink own j yJ9_min_7cf53 ∈ GT) (hF : 1 ≤ R.frames) (hR : 24 ≤ R.locals) (hj : j < 100000) : eg_CK p g.1 e R s m args below meth c Q wd g.2.1 vwCl g.2.2.1 g.2.2.2.1 A nL ad0 N0 cc (j + 100000, 2, 0, 0, s_J9_min_7cf53) := by
  refine ⟨fun z => absurd z (show ¬ j + 100000 < 100000 by omega), fun _ _ => ?_, fun z => absurd z (show ¬ 200000 ≤ j + 100000 by omega)⟩
  · show eg_CF _ _ _ _ _ _ _ _ _ _ _ _ _ _ _ _ _ _ _ _ _ (.invokestatic (j + 100000 - 100000)) 2 0 0 s_J9_min_7cf53
    rw [Nat.add_sub_cancel]
    intro pc cu su ls rest argv M Qp hd hn hwt hc hs hS ad H locs arr hH hL hav hrv kk kx
    unfold s_J9_min_7cf53 at hS
    split at hS
    · obtain ⟨hx, hb, hml, hown, hts⟩ := S0
      have hsum := eg_sum (ad := ad) (adK := g.2.2.2.1) hwt
      exact va_mmin (rest := rest.map (eg_cv ad g.2.2.2.1)) hx hb (hml.trans hL.1.symm) hown (hts _ (List.mem_cons_of_mem _ h1)) (hts _ (List.mem_cons_of_mem _ ls_J9_min_7cf53)) (hts _ (List.mem_cons_of_mem _ ln_RJ9)) (hts _ (List.mem_cons_of_mem _ mc_J9_min_7cf53)) hF (by omega) (by omega) (by omega) hd (kk _ M ad H locs hS hH ⟨fun _ _ => rfl, Nat.le_refl _⟩ (fun u hu => by cases List.mem_singleton.mp hu; trivial))
    · exact hS.elim
def s_J9_max_f86c9 : eg_S := fun argv M Qp => match argv with
  | [.long x, .long y] => Qp (.inl (some (.long (if y < x then x else y)))) M
  | _ => False
theorem mo_J9_max_f86c9 : eg_mono s_J9_max_f86c9 := by
  intro argv M Q Q' h
  unfold s_J9_max_f86c9
  split
  · exact h _ _
  · exact id
theorem mc_J9_max_f86c9 : Cond.code Lib.MathLoose.max_long.x Lib.MathLoose.max_long.code 4 (some .long) ∈ GT := lc_J9_max_f86c9
theorem mt_J9_max_f86c9 (S0 : CallFix p m c cc nL s args (x :: GT) own) (h1 : Cond.methodLink own j yJ9_max_f86c9 ∈ GT) (hF : 1 ≤ R.frames) (hR : 24 ≤ R.locals) (hj : j < 100000) : eg_CK p g.1 e R s m args below meth c Q wd g.2.1 vwCl g.2.2.1 g.2.2.2.1 A nL ad0 N0 cc (j + 100000, 2, 0, 0, s_J9_max_f86c9) := by
  refine ⟨fun z => absurd z (show ¬ j + 100000 < 100000 by omega), fun _ _ => ?_, fun z => absurd z (show ¬ 200000 ≤ j + 100000 by omega)⟩
  · show eg_CF _ _ _ _ _ _ _ _ _ _ _ _ _ _ _ _ _ _ _ _ _ (.invokestatic (j + 100000 - 100000)) 2 0 0 s_J9_max_f86c9
    rw [Nat.add_sub_cancel]
    intro pc cu su ls rest argv M Qp hd hn hwt hc hs hS ad H locs arr hH hL hav hrv kk kx
    unfold s_J9_max_f86c9 at hS
    split at hS
    · obtain ⟨hx, hb, hml, hown, hts⟩ := S0
      have hsum := eg_sum (ad := ad) (adK := g.2.2.2.1) hwt
      exact va_mmax_long (rest := rest.map (eg_cv ad g.2.2.2.1)) hx hb (hml.trans hL.1.symm) hown (hts _ (List.mem_cons_of_mem _ h1)) (hts _ (List.mem_cons_of_mem _ ls_J9_max_f86c9)) (hts _ (List.mem_cons_of_mem _ ln_RJ9)) (hts _ (List.mem_cons_of_mem _ mc_J9_max_f86c9)) hF (by omega) (by omega) (by omega) hd (kk _ M ad H locs hS hH ⟨fun _ _ => rfl, Nat.le_refl _⟩ (fun u hu => by cases List.mem_singleton.mp hu; trivial))
    · exact hS.elim
def s_J9_min_f86c9 : eg_S := fun argv M Qp => match argv with
  | [.long x, .long y] => Qp (.inl (some (.long (if y < x then y else x)))) M
  | _ => False
theorem mo_J9_min_f86c9 : eg_mono s_J9_min_f86c9 := by
  intro argv M Q Q' h
  unfold s_J9_min_f86c9
  split
  · exact h _ _
  · exact id
theorem mc_J9_min_f86c9 : Cond.code Lib.MathLoose.min_long.x Lib.MathLoose.min_long.code 4 (some .long) ∈ GT := lc_J9_min_f86c9
theorem mt_J9_min_f86c9 (S0 : CallFix p m c cc nL s args (x :: GT) own) (h1 : Cond.methodLink own j yJ9_min_f86c9 ∈ GT) (hF : 1 ≤ R.frames) (hR : 24 ≤ R.locals) (hj : j < 100000) : eg_CK p g.1 e R s m args below meth c Q wd g.2.1 vwCl g.2.2.1 g.2.2.2.1 A nL ad0 N0 cc (j + 100000, 2, 0, 0, s_J9_min_f86c9) := by
  refine ⟨fun z => absurd z (show ¬ j + 100000 < 100000 by omega), fun _ _ => ?_, fun z => absurd z (show ¬ 200000 ≤ j + 100000 by omega)⟩
  · show eg_CF _ _ _ _ _ _ _ _ _ _ _ _ _ _ _ _ _ _ _ _ _ (.invokestatic (j + 100000 - 100000)) 2 0 0 s_J9_min_f86c9
    rw [Nat.add_sub_cancel]
    intro pc cu su ls rest argv M Qp hd hn hwt hc hs hS ad H locs arr hH hL hav hrv kk kx
    unfold s_J9_min_f86c9 at hS
    split at hS
    · obtain ⟨hx, hb, hml, hown, hts⟩ := S0
      have hsum := eg_sum (ad := ad) (adK := g.2.2.2.1) hwt
      exact va_mmin_long (rest := rest.map (eg_cv ad g.2.2.2.1)) hx hb (hml.trans hL.1.symm) hown (hts _ (List.mem_cons_of_mem _ h1)) (hts _ (List.mem_cons_of_mem _ ls_J9_min_f86c9)) (hts _ (List.mem_cons_of_mem _ ln_RJ9)) (hts _ (List.mem_cons_of_mem _ mc_J9_min_f86c9)) hF (by omega) (by omega) (by omega) hd (kk _ M ad H locs hS hH ⟨fun _ _ => rfl, Nat.le_refl _⟩ (fun u hu => by cases List.mem_singleton.mp hu; trivial))
    · exact hS.elim
end MTO
/-! the two exceptions' words -/
theorem tn_l : ∀ w ∈ eg_atX RX11 93 "java/util/NoSuchElementException" 13 nx_rx ["java/lang/RuntimeException", "java/lang/Exception"], w ∈ lw_tbl := by decide +kernel
theorem tn_g : ∀ w ∈ (eg_atX RX11 93 "java/util/NoSuchElementException" 13 nx_rx ["java/lang/RuntimeException", "java/lang/Exception"]).filter goodWord, w ∈ GT := fun w h => List.mem_filter.mpr ⟨tn_l w (List.mem_filter.mp h).1, (List.mem_filter.mp h).2⟩
theorem tn_b : ∀ w ∈ (eg_atX RX11 93 "java/util/NoSuchElementException" 13 nx_rx ["java/lang/RuntimeException", "java/lang/Exception"]).filter (fun w => !goodWord w), w ∈ tx_bad := by decide +kernel
theorem tn_o : ∀ w ∈ Cond.classLink RX11 89 "java/util/NoSuchElementException" :: Cond.initialized "java/util/NoSuchElementException" :: eg_atX RX11 93 "java/util/NoSuchElementException" 13 nx_rx ["java/lang/RuntimeException", "java/lang/Exception"], vx_ot w = true := by decide +kernel
theorem tn_i : Cond.initialized "java/util/NoSuchElementException" ∈ GT := gt_at 18 gt_1 rfl rfl
theorem ti_l : ∀ w ∈ eg_atX RX11 86 "java/lang/IllegalArgumentException" 7 Bundle.six ["java/lang/RuntimeException", "java/lang/Exception"], w ∈ lw_tbl := by decide +kernel
theorem ti_g : ∀ w ∈ (eg_atX RX11 86 "java/lang/IllegalArgumentException" 7 Bundle.six ["java/lang/RuntimeException", "java/lang/Exception"]).filter goodWord, w ∈ GT := fun w h => List.mem_filter.mpr ⟨ti_l w (List.mem_filter.mp h).1, (List.mem_filter.mp h).2⟩
theorem ti_b : ∀ w ∈ (eg_atX RX11 86 "java/lang/IllegalArgumentException" 7 Bundle.six ["java/lang/RuntimeException", "java/lang/Exception"]).filter (fun w => !goodWord w), w ∈ tx_bad := by decide +kernel
theorem ti_o : ∀ w ∈ Cond.classLink RX11 82 "java/lang/IllegalArgumentException" :: Cond.initialized "java/lang/IllegalArgumentException" :: eg_atX RX11 86 "java/lang/IllegalArgumentException" 7 Bundle.six ["java/lang/RuntimeException", "java/lang/Exception"], vx_ot w = true := by decide +kernel
theorem ti_i : Cond.initialized "java/lang/IllegalArgumentException" ∈ GT := gt_at 19 gt_1 rfl rfl

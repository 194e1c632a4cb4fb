/-! THE CLAIM OUT OF ONE WALK OF THE LAW'S BODY. Your part is whole_start (and what it stands on); all else here is the same for every law, but numbers. -/
def R_law : String := "TownTwinsLaw"
def lw_Pre (b : Addr) (xs : List Int32) (args : Array Value) (s : State) : Prop := args = #[.ref b] ∧ s.IntsAt b xs ∧ xs.length ≤ 4096 ∧ (Jvm.Cond.and given_1 narrow_1).before args s = true
def lw_Q (_ : Array Value) (s : State) (o : Outcome) (t : State) : Prop := o = .returned (some (.int 1)) ∧ Framed s o t [] 601024 7293034
def lw_Z (below : List Frame) (a : Array Value) (s : State) : State → Prop := fun t => ∃ o, t.status = .running ∧ Ended t below o ∧ lw_Q a s o t
/-- the law's own end, with 1 on the stack, nothing written that was there before, its room as the claim has it -/
theorem lw_ret {p : Program} {l : Launch} {e : Env} {s : State} {m : MethodId} {below : List Frame} {meth : Method} {c : Code} {b : Nat} (hx : p.tables.exec = Jvm.exec) (hb : c.code = code) (hr : meth.sig.returnType = ret) (hlocks : meth.locks = false) {pc : Nat} {H : Heap} {ls : Array Slot} (hdg : decode code pc = .ok (.ireturn, 1)) : W p l e room_1 s m #[Value.ref b] below meth c H [] 601024 7293034 (lw_Z below #[Value.ref b] s) (F0 m pc ls [.int 1]) := by
  intro T hT X
  obtain ⟨fs, hret, hrun, hended, hW, hframe⟩ := X.leave (v := some (.int 1)) (hlocks := hlocks) (fun h => by rw [hr] at h; cases h)
  have hmeth' : T.vm.method? m = some meth := X.method'
  refine ⟨T.setFrames fs, ?_, .returned (some (.int 1)), hrun, hended, rfl, ⟨_, rfl⟩, hW, hframe⟩
  jvm_step X.here [X.here.top, hx, hb, hdg, hmeth', hr, ret, narrow_b1]
  (try refine ⟨rfl, ?_⟩); (try refine ⟨rfl, ?_⟩)
  first | (intro acts; rw [hret _ acts rfl rfl rfl]) | rw [hret _ _ rfl rfl rfl]
  exact Steps.refl _
/-- what holds at the law's entry: the machine, the code, the tables' words (any of lw_tbl by 'hts w (by decide +kernel)'), the script of L ints xs at the cell b, what the Statement gives of the start (any of its parts by flat_of_before) -/
def lw_At (p : Program) (s : State) (m : MethodId) (meth : Method) (c : Code) (b L : Nat) (xs : Nat → Int32) : Prop :=
  p.tables.exec = Jvm.exec ∧ c.code = code ∧ meth.sig.returnType = ret ∧ c.maxLocals = 8 ∧ s.vm.findClass R_law = some m.cls ∧ (∀ w ∈ lw_tbl, w.before #[Value.ref b] s = true) ∧ va_X b L xs s s.heap ∧ b < s.heap.size ∧ meth.locks = false ∧ (Jvm.Cond.and given_1 narrow_1).before #[Value.ref b] s = true
section FRM
variable {p : Program} {e : Env} {s : State} {m : MethodId} {below : List Frame} {meth : Method} {c : Code} {b L : Nat} {xs : Nat → Int32} {g : gl_T} {ad0 : Nat → Nat}
def fw_A (s : State) : Nat → Prop := fun q => s.heap.size ≤ q
abbrev fw_G (p : Program) (e : Env) (s : State) (m : MethodId) (below : List Frame) (meth : Method) (c : Code) (b : Nat) (g : gl_T) (ad0 : Nat → Nat) (w : eg_W) : eg_X := eg_G p g.1 e room_1 s m #[Value.ref b] below meth c (lw_Z below #[Value.ref b] s) w g.2.1 vwCl g.2.2.1 g.2.2.2.1 (fw_A s) 8 ad0 0
theorem fw_ret {w : eg_W} {k : eg_C} {X : eg_X} {pc cu su : Nat} {ls : List (Option Value)} {st : List Value} {M : eg_M} (hk : k.2.2.2.2.2.2 = (601024, 7293034)) (hx : p.tables.exec = Jvm.exec) (hb : c.code = code) (hr : meth.sig.returnType = ret) (hlocks : meth.locks = false) {i : Instr} (hi : i = .ireturn ∨ i = .lreturn ∨ i = .areturn ∨ i = .return_) (hd : decode cL_law pc = .ok (i, 1)) (h : eg_step w k lw_P X pc cu su ls st M i 1) : fw_G p e s m below meth c b g ad0 w pc cu su ls st M := by
  have no : ∀ {v : Option Value}, eg_ret k lw_P cu su v M → v = some (.int (nI 1)) ∧ cu ≤ 601024 ∧ su ≤ 7293034 := fun {v} h => by
    obtain ⟨g0, g1⟩ := eg_need_out h
    rw [Bool.and_eq_true, hk] at g0
    exact ⟨Sum.inl.inj g1, Nat.le_of_ble_eq_true g0.1, Nat.le_of_ble_eq_true g0.2⟩
  rcases hi with e | e | e | e <;> subst e <;> dsimp only [eg_step] at h
  · split at h
    · rename_i v
      obtain ⟨_, _, h2⟩ := eg_need_out h
      obtain ⟨e1, a1, a2⟩ := no h2
      cases Value.int.inj (Option.some.inj e1)
      intro ad H locs arr hH hL hst
      exact W.widen a1 a2 (va_forget (fun q hq => hH.2.2.1.2.2 q hq) (lw_ret hx hb hr hlocks hd))
    · exact h.elim
  · split at h
    · exact absurd (no (eg_need_out h).2).1 (fun z => by cases z)
    · exact h.elim
  · split at h
    · exact absurd (no (eg_need_out h).2).1 (fun z => by cases z)
    · exact absurd (no (eg_need_out h).2).1 (fun z => by cases z)
    · exact h.elim
  · split at h
    · exact absurd (no (eg_need_out h).2).1 (fun z => by cases z)
    · exact h.elim
theorem fw_HX {w : eg_W} {k : eg_C} {pc : Nat} : eg_HX p g.1 e room_1 s m #[Value.ref b] below meth c (lw_Z below #[Value.ref b] s) w g.2.1 vwCl g.2.2.1 g.2.2.2.1 (fw_A s) 8 ad0 0 k lw_P pc := by
  intro E N ad H locs q ce cu su arr rest hP
  cases hP
theorem fw_hA (s : State) : ∀ q, s.heap.size ≤ q → fw_A s q := fun _ h => h
theorem fw_kc {adK : Nat → Nat} {x : Cond} : ∀ q ∈ k_LW.2.2.1, eg_KC RL (x :: GT) adK s q.1 q.2 := fc (List.mem_cons_of_mem _ ll_RL_144) fn
/-- the loop's stretch -/
theorem fw_sound {x : Cond} (hl : g.1.stackTraces = false) (S0 : CallFix p m c cL_law 8 s #[Value.ref b] (x :: GT) RL) (hK : va_K g.2.1 vwCl (eg_tys RX8 g.2.2.1) s) (hEx : wxL g.2.2.2.1 g.2.2.2.2 (fw_A s) s s.heap) (hr : meth.sig.returnType = ret) (hlocks : meth.locks = false) (hX : va_X b L xs s s.heap) (hbl : b < s.heap.size) (hk : g.2.2.2.1 1000 = b)
    {pc cu su : Nat} {ls : List (Option Value)} {st : List Value} {M : eg_M} (h : eg_T2 L xs wd k_LW lw_P pc cu su ls st M) : fw_G p e s m below meth c b g ad0 wd pc cu su ls st M := by
  obtain ⟨hx, hb, hml, hown, hts⟩ := S0
  have S0 : CallFix p m c cL_law 8 s #[Value.ref b] (x :: GT) RL := ⟨hx, hb, hml, hown, hts⟩
  have hbA : ¬ fw_A s b := fun z => absurd (show s.heap.size ≤ b from z) (by omega)
  refine h (fw_G p e s m below meth c b g ad0 wd) ?_
  intro pc cu su ls st M h
  rcases h with h | ⟨hq, i, r, e1, hin, h⟩ | ⟨hq, r, e1, h⟩
  · exact eg_stepG (Ts := x :: GT) (k := k_LW) (P := lw_P) hx hb hts hown hK (Nat.le_refl _) (Nat.le_refl _) de_LW fn fw_kc (ck_LW hl S0 hK hEx (fw_hA s)) fn (fun j E z => by cases z) (fun pc i _ _ => fw_HX) (fun i hi hd h => fw_ret (k := k_LW) rfl hx hb hr hlocks hi hd h) h
  · subst e1
    exact eg_scrG hx hb hX hbl hbA hk hin (de_LW (pc, .iaload, 1) (eg_lq_in hq)) h
  · subst e1
    exact eg_scrL hx hb hX hbl hbA hk (de_LW (pc, .arraylength, 1) (eg_lq_in hq)) h
theorem f3_W12 : ∀ i, i < 85 → wd.2.2.1 12 i ≤ 3 := by decide +kernel
/-- the first stretch -/
theorem fw_first {x : Cond} (hl : g.1.stackTraces = false) (S0 : CallFix p m c cL_law 8 s #[Value.ref b] (x :: GT) RL) (hK : va_K g.2.1 vwCl (eg_tys RX8 g.2.2.1) s) (hEx : wx0 g.2.2.2.1 g.2.2.2.2 (fw_A s) s s.heap) (hr : meth.sig.returnType = ret) (hlocks : meth.locks = false)
    (h : fw_G p e s m below meth c b g ad0 w0 23 178 6617941 [some (.retAddr 1000), some (.ref 0), some (.ref 121), some (.ref 177), some (.int (nI 0)), none, none, none] [] (mem 342)) : fw_G p e s m below meth c b g ad0 w0 0 0 0 [some (.retAddr 1000), none, none, none, none, none, none, none] [] (mem 0) := by
  obtain ⟨hx, hb, hml, hown, hts⟩ := S0
  have S0 : CallFix p m c cL_law 8 s #[Value.ref b] (x :: GT) RL := ⟨hx, hb, hml, hown, hts⟩
  refine law_made (P := lw_P) ?_ h
  intro pc cu su ls st M h
  exact eg_stepG (Ts := x :: GT) (k := k_L0) (P := lw_P) hx hb hts hown hK (Nat.le_refl _) (Nat.le_refl _) de_L0 fn fn
    (fc (mz_I hl S0 hK hEx (fw_hA s) (me_X11_ini0 g) nt_X11_ini0 lm_RL_68 li_X11_init ln_RX11 lc_X11_init ⟨rfl, by decide, by decide, by decide +kernel⟩ rfl ⟨rfl, rfl⟩ ⟨by decide, by decide⟩ si_X11_ini0 (by decide)) (fc (mz_I hl S0 hK hEx (fw_hA s) (me_X12_ini0 g) nt_X12_ini0 lm_RL_71 li_X12_init ln_RX12 lc_X12_init ⟨rfl, by decide, by decide, by decide +kernel⟩ rfl ⟨rfl, rfl⟩ ⟨by decide, by decide⟩ si_X12_ini0 (by decide)) (fc (mz_l S0 hK (fw_hA s)) fn)))
    (fc (mz_N S0 hK (fw_hA s) wd_c11 f3_Y11 lq_RL_8 lz_X11 ln_RX11 de_L0) (fc (mz_N S0 hK (fw_hA s) wd_c12 f3_W12 lq_RL_69 lz_X12 ln_RX12 de_L0) fn))
    (fun j E z => absurd (eg_lq_in z) (by simp [k_L0])) (fun pc i _ _ => fw_HX) (fun i hi hd h => fw_ret (k := k_L0) rfl hx hb hr hlocks hi hd h) h
/-- the script's cell among the texts -/
def fw_ad (adK : Nat → Nat) (b : Nat) : Nat → Nat := fun k => if k = 1000 then b else adK k
theorem fw_lt {adK : Nat → Nat} {i : Nat} (h : i < 32) : fw_ad adK b i = adK i := if_neg (by omega)
theorem fw_tab : ∀ q ∈ tx_tab, q.2.2.2 < 32 := by decide +kernel
theorem fw_wx {adK adV : Nat → Nat} {A : Nat → Prop} {U : State} {H : Heap} (h : wx adK adV A U H) : wx (fw_ad adK b) adV A U H := by
  obtain ⟨h1, h2, h3, h4, h5⟩ := h
  refine ⟨⟨fun i hi => ?_, fun i j hi hj z => h1.2 i j hi hj (by rw [fw_lt hi, fw_lt hj] at z; exact z)⟩, h2, h3, fun q hq => ?_, h5⟩
  · rw [fw_lt hi]
    exact h1.1 i hi
  · rw [fw_lt (fw_tab q hq)]
    exact h4 q hq
theorem fw_H0 {D : va_G} {aC : Nat → ClassId} {adK : Nat → Nat} : eg_H w0 D vwCl aC adK (fw_A s) s.heap ad0 0 ad0 (mem 0) s.heap [] := by
  have hN : eg_N w0 (mem 0) = 0 := rfl
  have hw : eg_ws w0 aC adK ad0 (mem 0) = [] := rfl
  refine ⟨?_, ?_, va_S.rf, ⟨fun p k q a _ _ => ?_, fun p k q a _ => ?_, fun p k _ a _ => ?_⟩, fun _ _ => rfl, Nat.zero_le _⟩
  · rw [hw]
    intro k q z
    cases z
  · rw [hw]
    exact ⟨fun i j p q z => (by cases z), fun k q z => (by cases z)⟩
  · have := eg_sh_lt (w := w0) (M := mem 0) (p := p) (by omega)
    omega
  · have := eg_sh_lt (w := w0) (M := mem 0) (p := p) (by omega)
    omega
  · omega
end FRM
/-- from the entry, for every script of at most 4096 ints, the law comes to its end with true -/
theorem whole_start {p : Program} {e : Env} {s : State} {m : MethodId} {below : List Frame} {meth : Method} {c : Code} (l : Launch) (hl : l.stackTraces = false) {b L : Nat} {xs : Nat → Int32} (hL : L ≤ 4096) (C0 : lw_At p s m meth c b L xs) : W p l e room_1 s m #[Value.ref b] below meth c s.heap [] 0 0 (lw_Z below #[Value.ref b] s) (entryFrame m ([Value.ref b] : List Value).toArray 8) := by
  obtain ⟨hx, hb, hr, hml, hown, hts, hX, hbl, hlk, hgv⟩ := C0
  obtain ⟨D, aC, hK⟩ := st_K hts
  obtain ⟨adK, adV, hw1, hw2, hw3⟩ := st_wx (A := fw_A s) hgv hts (fun a ha h => absurd (show s.heap.size ≤ a from h) (by omega))
  have hgt : ∀ w ∈ GT, w.before #[Value.ref b] s = true := fun w hw => hts w (List.mem_filter.mp hw).1
  have S0 : CallFix p m c cL_law 8 s #[Value.ref b] (Cond.methodLink RL 68 yX11_init :: GT) RL := ⟨hx, hb, hml, hown, fc (hgt _ lm_RL_68) hgt⟩
  have hG := fw_first (g := (l, D, aC, fw_ad adK b, adV)) (e := e) (below := below) (ad0 := fun _ => 0) hl S0 hK ⟨fw_wx hw2.1, hw2.2⟩ hr hlk
    (tw_G tw_mem (fw_sound (g := (l, D, aC, fw_ad adK b, adV)) (L := L) (xs := xs) hl S0 hK ⟨fw_wx hw3.1, hw3.2⟩ hr hlk hX hbl rfl (lw_loop hL 512 0 178 6617941 none none none (mwo (mem 342)) (by omega) (by omega) (by omega) (by omega) rA_start)))
  have hE := hG (fun _ => 0) s.heap [] _ fw_H0 (eg_L.entry (argv := [.retAddr 1000]) (nL := 8) (fun v hv => by rw [List.mem_singleton.mp hv]; trivial) (by decide)) (fun v hv => by cases hv)
  rw [lg_entry_eq]
  exact hE

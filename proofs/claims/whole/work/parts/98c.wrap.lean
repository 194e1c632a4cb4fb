/-! THE LAW'S WRAPPERS -/
def wxL (adK adV : Nat → Nat) : (Nat → Prop) → State → Heap → Prop := fun A U H => wx adK adV A U H ∧ va_Nc "java/lang/IllegalArgumentException" "java/util/NoSuchElementException" U
theorem wxL_ok (adK adV : Nat → Nat) : eg_ExOk (wxL adK adV) := by
  obtain ⟨h1, h2, h3⟩ := wx_ok adK adV
  exact ⟨fun A s U H hW h => ⟨h1 A s U H hW h.1, va_Nc.moved hW.alike h.2⟩, fun A U H H1 h hq => ⟨h2 A U H H1 h.1 hq, h.2⟩, fun A B U H hAB h => ⟨h3 A B U H hAB h.1, h.2⟩⟩
def MTL (g : gl_T) (y : MethodName) (cc : ByteArray) (nL : Nat) (hh : List (Nat × Nat × Nat × Nat)) (rm : Room) (mc ms : Nat) (S : eg_S) : Prop :=
  g.1.stackTraces = false → eg_Met g.1 wd g.2.1 vwCl RX8 g.2.2.1 g.2.2.2.1 (wxL g.2.2.2.1 g.2.2.2.2) y (Cond.codeWith y cc nL (some .int) hh :: GT) rm mc ms S
theorem eg_PH_mono {hl : List (String × Int32)} {Q Q' : eg_P} (h : ∀ r N, Q r N → Q' r N) : ∀ r N, eg_PH hl Q r N → eg_PH hl Q' r N := by
  intro r N hN
  unfold eg_PH at hN ⊢
  split at hN
  · exact h _ _ hN
  · cases hf : List.find? (fun q => q.1 == _) hl with
    | none =>
      rw [hf] at hN
      exact hN.elim
    | some q =>
      rw [hf] at hN
      exact h _ _ hN
theorem vp177 (N : eg_M) : vp_in (nI 0) (eg_len wd N 177) := show vp_in (nI 0) 1 by unfold vp_in; decide
theorem x_callV {w : eg_W} {k : eg_C} {P : eg_P} {pc cu su : Nat} {ls : List (Option Value)} {st : List Value} {M : eg_M} {j n kc ks : Nat} {S : eg_S} {av : List Value} {Qr : eg_P} (hk : ∀ q ∈ k.2.2.2.1, eg_mono q.2.2.2.2) (hc : eg_lq k.1 pc = some (.invokevirtual j, 3)) (hn : Nat.blt j 100000 = true) (hs : eg_lq k.2.2.2.1 j = some (n, kc, ks, S)) (hr : (Nat.ble (cu + kc) k.2.2.2.2.2.2.1 && Nat.ble (su + ks) k.2.2.2.2.2.2.2) = true) (hl : av.length = n) (hw : Nat.ble (eg_wt st) 8 = true) (hS : S av.reverse M Qr) (hmo : eg_mono S) (h : ∀ r N, Qr r N → match r with
    | .inl v => eg_T w k P (pc + 3) (cu + kc) (su + ks) ls (v.toList ++ st) N
    | .inr E => P (.inr E) N) : eg_T w k P pc cu su ls (av ++ st) M := by
  refine eg_T_fold hk ?_
  unfold eg_at
  rw [hc]
  refine eg_need_of rfl ?_
  show eg_need (Nat.blt j 100000) (eg_call k P (eg_T w k P) j pc cu su ls (av ++ st) M)
  refine eg_need_of hn ?_
  unfold eg_call
  rw [hs]
  have e1 : (av ++ st).drop n = st := by rw [← hl, List.drop_left]
  have e2 : (av ++ st).take n = av := by rw [← hl, List.take_left]
  show eg_need (Nat.ble n (av ++ st).length && (Nat.ble (eg_wt ((av ++ st).drop n)) 8 && (Nat.ble (cu + kc) k.2.2.2.2.2.2.1 && Nat.ble (su + ks) k.2.2.2.2.2.2.2))) (S ((av ++ st).take n).reverse M _)
  rw [e1, e2]
  exact eg_need_of (by rw [hw, hr, show Nat.ble n (av ++ st).length = true from by rw [Nat.ble_eq, List.length_append]; omega]; rfl) (hmo _ _ _ _ h hS)
def k_L_about : eg_C := ([(0, .aload 5, 2), (2, .iconst 0, 1), (3, .aload_n 0, 1), (4, .iload_n 1, 1), (5, .iload_n 2, 1), (6, .iload_n 3, 1), (7, .iload 4, 2), (9, .invokevirtual 32, 3), (12, .i2l, 1), (13, .lastore, 1), (14, .goto 11, 3), (17, .astore 6, 2), (19, .iconst 1, 1), (20, .ireturn, 1), (21, .astore 6, 2), (23, .iconst 2, 1), (24, .ireturn, 1), (25, .iconst 0, 1), (26, .ireturn, 1)], [], [], [(32, 4 + 1, 4, 24, s_X11_about)], [], 1, 4, 24)
theorem mk_L_about : ∀ q ∈ k_L_about.2.2.2.1, eg_mono q.2.2.2.2 := (fc (mo_X11_about) (fn))
def s_L_about : eg_S := fun argv M Qp => match argv with
  | [.ref 0, .int a, .int b, .int c, .int d, .ref 177] => s_X11_about [.ref 0, .int a, .int b, .int c, .int d] M (fun r N => match r with
    | .inl (some (.int v)) => Qp (.inl (some (.int (nI 0)))) (eg_sl N 177 (nI 0).toNatClampNeg v.toInt64)
    | .inr E => eg_PH [("java/util/NoSuchElementException", nI 1), ("java/lang/IllegalArgumentException", nI 2)] Qp (.inr E) N
    | _ => False)
  | _ => False
theorem mo_L_about : eg_mono s_L_about := by
  intro argv M Q Q' h
  unfold s_L_about
  split
  · refine mo_X11_about _ _ _ _ (fun r N hN => ?_)
    match r, hN with
    | .inl (some (.int v)), hN => exact h _ _ hN
    | .inr E, hN => exact eg_PH_mono h _ _ hN
  · exact id
theorem sz_L_about : ∀ argv M Qp, s_L_about argv M Qp → (eg_ls0 argv).length ≤ 7 := by
  intro argv M Qp h
  unfold s_L_about at h
  split at h
  · exact Nat.le_of_ble_eq_true rfl
  · exact h.elim
set_option maxRecDepth 100000 in
theorem T_L_about {argv : List Value} {M : eg_M} {Qp : eg_P} (h : s_L_about argv M Qp) : eg_T wd k_L_about (eg_PH [("java/util/NoSuchElementException", nI 1), ("java/lang/IllegalArgumentException", nI 2)] Qp) 0 0 0 (eg_lsN 7 argv) [] M := by
  unfold s_L_about at h
  split at h
  · rename_i a b c d
    refine eg_T_run mk_L_about (cut := [9]) 12 (?_ : eg_T wd k_L_about (eg_PH [("java/util/NoSuchElementException", nI 1), ("java/lang/IllegalArgumentException", nI 2)] Qp) 9 0 0 [some (.ref 0), some (.int a), some (.int b), some (.int c), some (.int d), some (.ref 177), none] ([.int d, .int c, .int b, .int a, .ref 0] ++ [.int (nI 0), .ref 177]) M)
    refine x_callV (j := 32) (n := 4 + 1) (kc := 4) (ks := 24) (S := s_X11_about) mk_L_about rfl rfl rfl rfl rfl rfl h mo_X11_about (fun r N hN => ?_)
    match r, hN with
    | .inl (some (.int v)), hN =>
      refine eg_T_run mk_L_about (cut := []) 10 ?_
      exact And.intro (vp177 N) (And.intro (fun z => Bool.noConfusion z) hN)
    | .inr E, hN => exact hN
  · exact h.elim
theorem de_L_about : ∀ q ∈ k_L_about.1, decode cL_about q.1 = .ok q.2 := by decide +kernel
theorem me_L_about (g : gl_T) : MTL g yL_about cL_about 7 [(0, 14, 17, 13), (0, 14, 21, 19)] ⟨8, 4, 24, 138⟩ 4 24 s_L_about := by
  intro hl
  exact eg_metH (k := k_L_about) (pc0 := 9) (hl := [("java/util/NoSuchElementException", nI 1), ("java/lang/IllegalArgumentException", nI 2)]) (by decide) rfl ⟨Nat.le_refl _, Nat.le_refl _⟩ rfl sz_L_about de_L_about rfl rfl (fun p e s m args below meth c Q A ad0 N0 S0 hK hEx hA => (fc (mt_V hl S0 hK hEx.1 hA (me_X11_about g) lm_RL_32 li_X11_about lx_X11_about ln_RX11 lc_X11_about ⟨rfl, by decide, by decide, by decide +kernel⟩ ⟨rfl, rfl⟩ ⟨by decide, by decide⟩ (ci := 11) rfl rfl sr_X11_about (by decide)) (fn))) rfl (by decide +kernel) (fun s args A H hE hts => (fc (⟨[], ⟨0, 14, 17, 13⟩, [⟨0, 14, 21, 19⟩], "java/util/NoSuchElementException", 6, 2, 1, rfl, (fun y h => absurd h List.not_mem_nil), rfl, by decide, hts _ (List.mem_cons_of_mem _ lq_RL_13), va_any (tx_bad_face _ (List.mem_of_getElem? (i := 3) rfl)).2 (hE.1.2.2.2.2.1 _ (List.mem_of_getElem? (i := 3) rfl)), by decide, Or.inl ⟨rfl, by decide +kernel⟩, by decide +kernel, by decide +kernel, rfl⟩) (fc (⟨[⟨0, 14, 17, 13⟩], ⟨0, 14, 21, 19⟩, [], "java/lang/IllegalArgumentException", 6, 2, 2, rfl, (fun y h => by rw [List.mem_singleton.mp h]; exact ⟨by decide, _, hts _ (List.mem_cons_of_mem _ lq_RL_13), hE.2⟩), rfl, by decide, hts _ (List.mem_cons_of_mem _ lq_RL_19), va_any (tx_bad_face _ (List.mem_of_getElem? (i := 4) rfl)).2 (hE.1.2.2.2.2.1 _ (List.mem_of_getElem? (i := 4) rfl)), by decide, Or.inl ⟨rfl, by decide +kernel⟩, by decide +kernel, by decide +kernel, rfl⟩) (fn)))) (fun argv M Qp h => T_L_about h)
def k_L_back : eg_C := ([(0, .aload_n 2, 1), (1, .iconst 0, 1), (2, .aload_n 0, 1), (3, .iload_n 1, 1), (4, .invokevirtual 25, 3), (7, .ifCond .eq 7, 3), (10, .lconst 1, 1), (11, .goto 4, 3), (14, .lconst 0, 1), (15, .lastore, 1), (16, .goto 6, 3), (19, .astore_n 3, 1), (20, .iconst 1, 1), (21, .ireturn, 1), (22, .iconst 0, 1), (23, .ireturn, 1)], [], [], [(25, 1 + 1, 1, 6, s_X11_back)], [], 1, 1, 6)
theorem mk_L_back : ∀ q ∈ k_L_back.2.2.2.1, eg_mono q.2.2.2.2 := (fc (mo_X11_back) (fn))
def s_L_back : eg_S := fun argv M Qp => match argv with
  | [.ref 0, .int a, .ref 177] => s_X11_back [.ref 0, .int a] M (fun r N => match r with
    | .inl (some (.int v)) => (v = 0 → Qp (.inl (some (.int (nI 0)))) (eg_sl N 177 (nI 0).toNatClampNeg (lN 0))) ∧ (¬ v = 0 → Qp (.inl (some (.int (nI 0)))) (eg_sl N 177 (nI 0).toNatClampNeg (lN 1)))
    | .inr E => eg_PH [("java/util/NoSuchElementException", nI 1)] Qp (.inr E) N
    | _ => False)
  | _ => False
theorem mo_L_back : eg_mono s_L_back := by
  intro argv M Q Q' h
  unfold s_L_back
  split
  · refine mo_X11_back _ _ _ _ (fun r N hN => ?_)
    match r, hN with
    | .inl (some (.int v)), hN => exact ⟨fun z => h _ _ (hN.1 z), fun z => h _ _ (hN.2 z)⟩
    | .inr E, hN => exact eg_PH_mono h _ _ hN
  · exact id
theorem sz_L_back : ∀ argv M Qp, s_L_back argv M Qp → (eg_ls0 argv).length ≤ 4 := by
  intro argv M Qp h
  unfold s_L_back at h
  split at h
  · exact Nat.le_of_ble_eq_true rfl
  · exact h.elim
set_option maxRecDepth 100000 in
theorem T_L_back {argv : List Value} {M : eg_M} {Qp : eg_P} (h : s_L_back argv M Qp) : eg_T wd k_L_back (eg_PH [("java/util/NoSuchElementException", nI 1)] Qp) 0 0 0 (eg_lsN 4 argv) [] M := by
  unfold s_L_back at h
  split at h
  · rename_i a
    refine eg_T_run mk_L_back (cut := [4]) 12 (?_ : eg_T wd k_L_back (eg_PH [("java/util/NoSuchElementException", nI 1)] Qp) 4 0 0 [some (.ref 0), some (.int a), some (.ref 177), none] ([.int a, .ref 0] ++ [.int (nI 0), .ref 177]) M)
    refine x_callV (j := 25) (n := 1 + 1) (kc := 1) (ks := 6) (S := s_X11_back) mk_L_back rfl rfl rfl rfl rfl rfl h mo_X11_back (fun r N hN => ?_)
    match r, hN with
    | .inl (some (.int v)), hN =>
      refine eg_T_run mk_L_back (cut := []) 10 ?_
      exact And.intro (fun z => And.intro (vp177 N) (And.intro (fun z => Bool.noConfusion z) (hN.1 z))) (fun z => And.intro (vp177 N) (And.intro (fun z => Bool.noConfusion z) (hN.2 z)))
    | .inr E, hN => exact hN
  · exact h.elim
theorem de_L_back : ∀ q ∈ k_L_back.1, decode cL_back q.1 = .ok q.2 := by decide +kernel
theorem me_L_back (g : gl_T) : MTL g yL_back cL_back 4 [(0, 16, 19, 13)] ⟨8, 1, 6, 134⟩ 1 6 s_L_back := by
  intro hl
  exact eg_metH (k := k_L_back) (pc0 := 4) (hl := [("java/util/NoSuchElementException", nI 1)]) (by decide) rfl ⟨Nat.le_refl _, Nat.le_refl _⟩ rfl sz_L_back de_L_back rfl rfl (fun p e s m args below meth c Q A ad0 N0 S0 hK hEx hA => (fc (mt_V hl S0 hK hEx.1 hA (me_X11_back g) lm_RL_25 li_X11_back lx_X11_back ln_RX11 lc_X11_back ⟨rfl, by decide, by decide, by decide +kernel⟩ ⟨rfl, rfl⟩ ⟨by decide, by decide⟩ (ci := 11) rfl rfl eg_auto_rec (by decide)) (fn))) rfl (by decide +kernel) (fun s args A H hE hts => (fc (⟨[], ⟨0, 16, 19, 13⟩, [], "java/util/NoSuchElementException", 3, 1, 1, rfl, (fun y h => absurd h List.not_mem_nil), rfl, by decide, hts _ (List.mem_cons_of_mem _ lq_RL_13), va_any (tx_bad_face _ (List.mem_of_getElem? (i := 3) rfl)).2 (hE.1.2.2.2.2.1 _ (List.mem_of_getElem? (i := 3) rfl)), by decide, Or.inr ⟨rfl, 3, rfl, by decide +kernel⟩, by decide +kernel, by decide +kernel, rfl⟩) (fn))) (fun argv M Qp h => T_L_back h)
def k_L_balance : eg_C := ([(0, .aload 5, 2), (2, .iconst 0, 1), (3, .aload_n 0, 1), (4, .iload_n 1, 1), (5, .iload_n 2, 1), (6, .iload_n 3, 1), (7, .iload 4, 2), (9, .invokevirtual 40, 3), (12, .lastore, 1), (13, .goto 11, 3), (16, .astore 6, 2), (18, .iconst 1, 1), (19, .ireturn, 1), (20, .astore 6, 2), (22, .iconst 2, 1), (23, .ireturn, 1), (24, .iconst 0, 1), (25, .ireturn, 1)], [], [], [(40, 4 + 1, 4, 24, s_X11_balance)], [], 1, 4, 24)
theorem mk_L_balance : ∀ q ∈ k_L_balance.2.2.2.1, eg_mono q.2.2.2.2 := (fc (mo_X11_balance) (fn))
def s_L_balance : eg_S := fun argv M Qp => match argv with
  | [.ref 0, .int a, .int b, .int c, .int d, .ref 177] => s_X11_balance [.ref 0, .int a, .int b, .int c, .int d] M (fun r N => match r with
    | .inl (some (.long v)) => Qp (.inl (some (.int (nI 0)))) (eg_sl N 177 (nI 0).toNatClampNeg v)
    | .inr E => eg_PH [("java/util/NoSuchElementException", nI 1), ("java/lang/IllegalArgumentException", nI 2)] Qp (.inr E) N
    | _ => False)
  | _ => False
theorem mo_L_balance : eg_mono s_L_balance := by
  intro argv M Q Q' h
  unfold s_L_balance
  split
  · refine mo_X11_balance _ _ _ _ (fun r N hN => ?_)
    match r, hN with
    | .inl (some (.long v)), hN => exact h _ _ hN
    | .inr E, hN => exact eg_PH_mono h _ _ hN
  · exact id
theorem sz_L_balance : ∀ argv M Qp, s_L_balance argv M Qp → (eg_ls0 argv).length ≤ 7 := by
  intro argv M Qp h
  unfold s_L_balance at h
  split at h
  · exact Nat.le_of_ble_eq_true rfl
  · exact h.elim
set_option maxRecDepth 100000 in
theorem T_L_balance {argv : List Value} {M : eg_M} {Qp : eg_P} (h : s_L_balance argv M Qp) : eg_T wd k_L_balance (eg_PH [("java/util/NoSuchElementException", nI 1), ("java/lang/IllegalArgumentException", nI 2)] Qp) 0 0 0 (eg_lsN 7 argv) [] M := by
  unfold s_L_balance at h
  split at h
  · rename_i a b c d
    refine eg_T_run mk_L_balance (cut := [9]) 12 (?_ : eg_T wd k_L_balance (eg_PH [("java/util/NoSuchElementException", nI 1), ("java/lang/IllegalArgumentException", nI 2)] Qp) 9 0 0 [some (.ref 0), some (.int a), some (.int b), some (.int c), some (.int d), some (.ref 177), none] ([.int d, .int c, .int b, .int a, .ref 0] ++ [.int (nI 0), .ref 177]) M)
    refine x_callV (j := 40) (n := 4 + 1) (kc := 4) (ks := 24) (S := s_X11_balance) mk_L_balance rfl rfl rfl rfl rfl rfl h mo_X11_balance (fun r N hN => ?_)
    match r, hN with
    | .inl (some (.long v)), hN =>
      refine eg_T_run mk_L_balance (cut := []) 10 ?_
      exact And.intro (vp177 N) (And.intro (fun z => Bool.noConfusion z) hN)
    | .inr E, hN => exact hN
  · exact h.elim
theorem de_L_balance : ∀ q ∈ k_L_balance.1, decode cL_balance q.1 = .ok q.2 := by decide +kernel
theorem me_L_balance (g : gl_T) : MTL g yL_balance cL_balance 7 [(0, 13, 16, 13), (0, 13, 20, 19)] ⟨8, 4, 24, 176⟩ 4 24 s_L_balance := by
  intro hl
  exact eg_metH (k := k_L_balance) (pc0 := 9) (hl := [("java/util/NoSuchElementException", nI 1), ("java/lang/IllegalArgumentException", nI 2)]) (by decide) rfl ⟨Nat.le_refl _, Nat.le_refl _⟩ rfl sz_L_balance de_L_balance rfl rfl (fun p e s m args below meth c Q A ad0 N0 S0 hK hEx hA => (fc (mt_V hl S0 hK hEx.1 hA (me_X11_balance g) lm_RL_40 li_X11_balance lx_X11_balance ln_RX11 lc_X11_balance ⟨rfl, by decide, by decide, by decide +kernel⟩ ⟨rfl, rfl⟩ ⟨by decide, by decide⟩ (ci := 11) rfl rfl sr_X11_balance (by decide)) (fn))) rfl (by decide +kernel) (fun s args A H hE hts => (fc (⟨[], ⟨0, 13, 16, 13⟩, [⟨0, 13, 20, 19⟩], "java/util/NoSuchElementException", 6, 2, 1, rfl, (fun y h => absurd h List.not_mem_nil), rfl, by decide, hts _ (List.mem_cons_of_mem _ lq_RL_13), va_any (tx_bad_face _ (List.mem_of_getElem? (i := 3) rfl)).2 (hE.1.2.2.2.2.1 _ (List.mem_of_getElem? (i := 3) rfl)), by decide, Or.inl ⟨rfl, by decide +kernel⟩, by decide +kernel, by decide +kernel, rfl⟩) (fc (⟨[⟨0, 13, 16, 13⟩], ⟨0, 13, 20, 19⟩, [], "java/lang/IllegalArgumentException", 6, 2, 2, rfl, (fun y h => by rw [List.mem_singleton.mp h]; exact ⟨by decide, _, hts _ (List.mem_cons_of_mem _ lq_RL_13), hE.2⟩), rfl, by decide, hts _ (List.mem_cons_of_mem _ lq_RL_19), va_any (tx_bad_face _ (List.mem_of_getElem? (i := 4) rfl)).2 (hE.1.2.2.2.2.1 _ (List.mem_of_getElem? (i := 4) rfl)), by decide, Or.inl ⟨rfl, by decide +kernel⟩, by decide +kernel, by decide +kernel, rfl⟩) (fn)))) (fun argv M Qp h => T_L_balance h)
def k_L_charter : eg_C := ([(0, .aload 4, 2), (2, .iconst 0, 1), (3, .aload_n 0, 1), (4, .iload_n 1, 1), (5, .iload_n 2, 1), (6, .iload_n 3, 1), (7, .invokevirtual 7, 3), (10, .i2l, 1), (11, .lastore, 1), (12, .goto 7, 3), (15, .astore 5, 2), (17, .iconst 1, 1), (18, .ireturn, 1), (19, .iconst 0, 1), (20, .ireturn, 1)], [], [], [(7, 3 + 1, 2, 12, s_X11_charter_v)], [], 1, 2, 12)
theorem mk_L_charter : ∀ q ∈ k_L_charter.2.2.2.1, eg_mono q.2.2.2.2 := (fc (mo_X11_charter_v) (fn))
def s_L_charter : eg_S := fun argv M Qp => match argv with
  | [.ref 0, .int a, .int b, .int c, .ref 177] => s_X11_charter_v [.ref 0, .int a, .int b, .int c] M (fun r N => match r with
    | .inl (some (.int v)) => Qp (.inl (some (.int (nI 0)))) (eg_sl N 177 (nI 0).toNatClampNeg v.toInt64)
    | .inr E => eg_PH [("java/util/NoSuchElementException", nI 1)] Qp (.inr E) N
    | _ => False)
  | _ => False
theorem mo_L_charter : eg_mono s_L_charter := by
  intro argv M Q Q' h
  unfold s_L_charter
  split
  · refine mo_X11_charter_v _ _ _ _ (fun r N hN => ?_)
    match r, hN with
    | .inl (some (.int v)), hN => exact h _ _ hN
    | .inr E, hN => exact eg_PH_mono h _ _ hN
  · exact id
theorem sz_L_charter : ∀ argv M Qp, s_L_charter argv M Qp → (eg_ls0 argv).length ≤ 6 := by
  intro argv M Qp h
  unfold s_L_charter at h
  split at h
  · exact Nat.le_of_ble_eq_true rfl
  · exact h.elim
set_option maxRecDepth 100000 in
theorem T_L_charter {argv : List Value} {M : eg_M} {Qp : eg_P} (h : s_L_charter argv M Qp) : eg_T wd k_L_charter (eg_PH [("java/util/NoSuchElementException", nI 1)] Qp) 0 0 0 (eg_lsN 6 argv) [] M := by
  unfold s_L_charter at h
  split at h
  · rename_i a b c
    refine eg_T_run mk_L_charter (cut := [7]) 12 (?_ : eg_T wd k_L_charter (eg_PH [("java/util/NoSuchElementException", nI 1)] Qp) 7 0 0 [some (.ref 0), some (.int a), some (.int b), some (.int c), some (.ref 177), none] ([.int c, .int b, .int a, .ref 0] ++ [.int (nI 0), .ref 177]) M)
    refine x_callV (j := 7) (n := 3 + 1) (kc := 2) (ks := 12) (S := s_X11_charter_v) mk_L_charter rfl rfl rfl rfl rfl rfl h mo_X11_charter_v (fun r N hN => ?_)
    match r, hN with
    | .inl (some (.int v)), hN =>
      refine eg_T_run mk_L_charter (cut := []) 10 ?_
      exact And.intro (vp177 N) (And.intro (fun z => Bool.noConfusion z) hN)
    | .inr E, hN => exact hN
  · exact h.elim
theorem de_L_charter : ∀ q ∈ k_L_charter.1, decode cL_charter q.1 = .ok q.2 := by decide +kernel
theorem me_L_charter (g : gl_T) : MTL g yL_charter cL_charter 6 [(0, 12, 15, 13)] ⟨8, 2, 12, 136⟩ 2 12 s_L_charter := by
  intro hl
  exact eg_metH (k := k_L_charter) (pc0 := 7) (hl := [("java/util/NoSuchElementException", nI 1)]) (by decide) rfl ⟨Nat.le_refl _, Nat.le_refl _⟩ rfl sz_L_charter de_L_charter rfl rfl (fun p e s m args below meth c Q A ad0 N0 S0 hK hEx hA => (fc (mt_V hl S0 hK hEx.1 hA (me_X11_charter_v g) lm_RL_7 li_X11_charter lx_X11_charter ln_RX11 lc_X11_charter ⟨rfl, by decide, by decide, by decide +kernel⟩ ⟨rfl, rfl⟩ ⟨by decide, by decide⟩ (ci := 11) rfl rfl sr_X11_charter_v (by decide)) (fn))) rfl (by decide +kernel) (fun s args A H hE hts => (fc (⟨[], ⟨0, 12, 15, 13⟩, [], "java/util/NoSuchElementException", 5, 2, 1, rfl, (fun y h => absurd h List.not_mem_nil), rfl, by decide, hts _ (List.mem_cons_of_mem _ lq_RL_13), va_any (tx_bad_face _ (List.mem_of_getElem? (i := 3) rfl)).2 (hE.1.2.2.2.2.1 _ (List.mem_of_getElem? (i := 3) rfl)), by decide, Or.inl ⟨rfl, by decide +kernel⟩, by decide +kernel, by decide +kernel, rfl⟩) (fn))) (fun argv M Qp h => T_L_charter h)
def k_L_count : eg_C := ([(0, .aload_n 2, 1), (1, .iconst 0, 1), (2, .aload_n 0, 1), (3, .iload_n 1, 1), (4, .invokevirtual 65, 3), (7, .i2l, 1), (8, .lastore, 1), (9, .goto 6, 3), (12, .astore_n 3, 1), (13, .iconst 1, 1), (14, .ireturn, 1), (15, .iconst 0, 1), (16, .ireturn, 1)], [], [], [(65, 1 + 1, 1, 6, s_X11_count)], [], 1, 1, 6)
theorem mk_L_count : ∀ q ∈ k_L_count.2.2.2.1, eg_mono q.2.2.2.2 := (fc (mo_X11_count) (fn))
def s_L_count : eg_S := fun argv M Qp => match argv with
  | [.ref 0, .int a, .ref 177] => s_X11_count [.ref 0, .int a] M (fun r N => match r with
    | .inl (some (.int v)) => Qp (.inl (some (.int (nI 0)))) (eg_sl N 177 (nI 0).toNatClampNeg v.toInt64)
    | .inr E => eg_PH [("java/util/NoSuchElementException", nI 1)] Qp (.inr E) N
    | _ => False)
  | _ => False
theorem mo_L_count : eg_mono s_L_count := by
  intro argv M Q Q' h
  unfold s_L_count
  split
  · refine mo_X11_count _ _ _ _ (fun r N hN => ?_)
    match r, hN with
    | .inl (some (.int v)), hN => exact h _ _ hN
    | .inr E, hN => exact eg_PH_mono h _ _ hN
  · exact id
theorem sz_L_count : ∀ argv M Qp, s_L_count argv M Qp → (eg_ls0 argv).length ≤ 4 := by
  intro argv M Qp h
  unfold s_L_count at h
  split at h
  · exact Nat.le_of_ble_eq_true rfl
  · exact h.elim
set_option maxRecDepth 100000 in
theorem T_L_count {argv : List Value} {M : eg_M} {Qp : eg_P} (h : s_L_count argv M Qp) : eg_T wd k_L_count (eg_PH [("java/util/NoSuchElementException", nI 1)] Qp) 0 0 0 (eg_lsN 4 argv) [] M := by
  unfold s_L_count at h
  split at h
  · rename_i a
    refine eg_T_run mk_L_count (cut := [4]) 12 (?_ : eg_T wd k_L_count (eg_PH [("java/util/NoSuchElementException", nI 1)] Qp) 4 0 0 [some (.ref 0), some (.int a), some (.ref 177), none] ([.int a, .ref 0] ++ [.int (nI 0), .ref 177]) M)
    refine x_callV (j := 65) (n := 1 + 1) (kc := 1) (ks := 6) (S := s_X11_count) mk_L_count rfl rfl rfl rfl rfl rfl h mo_X11_count (fun r N hN => ?_)
    match r, hN with
    | .inl (some (.int v)), hN =>
      refine eg_T_run mk_L_count (cut := []) 10 ?_
      exact And.intro (vp177 N) (And.intro (fun z => Bool.noConfusion z) hN)
    | .inr E, hN => exact hN
  · exact h.elim
theorem de_L_count : ∀ q ∈ k_L_count.1, decode cL_count q.1 = .ok q.2 := by decide +kernel
theorem me_L_count (g : gl_T) : MTL g yL_count cL_count 4 [(0, 9, 12, 13)] ⟨7, 1, 6, 113⟩ 1 6 s_L_count := by
  intro hl
  exact eg_metH (k := k_L_count) (pc0 := 4) (hl := [("java/util/NoSuchElementException", nI 1)]) (by decide) rfl ⟨Nat.le_refl _, Nat.le_refl _⟩ rfl sz_L_count de_L_count rfl rfl (fun p e s m args below meth c Q A ad0 N0 S0 hK hEx hA => (fc (mt_V hl S0 hK hEx.1 hA (me_X11_count g) lm_RL_65 li_X11_count lx_X11_count ln_RX11 lc_X11_count ⟨rfl, by decide, by decide, by decide +kernel⟩ ⟨rfl, rfl⟩ ⟨by decide, by decide⟩ (ci := 11) rfl rfl eg_auto_rec (by decide)) (fn))) rfl (by decide +kernel) (fun s args A H hE hts => (fc (⟨[], ⟨0, 9, 12, 13⟩, [], "java/util/NoSuchElementException", 3, 1, 1, rfl, (fun y h => absurd h List.not_mem_nil), rfl, by decide, hts _ (List.mem_cons_of_mem _ lq_RL_13), va_any (tx_bad_face _ (List.mem_of_getElem? (i := 3) rfl)).2 (hE.1.2.2.2.2.1 _ (List.mem_of_getElem? (i := 3) rfl)), by decide, Or.inr ⟨rfl, 3, rfl, by decide +kernel⟩, by decide +kernel, by decide +kernel, rfl⟩) (fn))) (fun argv M Qp h => T_L_count h)
def k_L_days : eg_C := ([(0, .aload_n 2, 1), (1, .iconst 0, 1), (2, .aload_n 0, 1), (3, .iload_n 1, 1), (4, .invokevirtual 15, 3), (7, .i2l, 1), (8, .lastore, 1), (9, .goto 6, 3), (12, .astore_n 3, 1), (13, .iconst 1, 1), (14, .ireturn, 1), (15, .iconst 0, 1), (16, .ireturn, 1)], [], [], [(15, 1 + 1, 1, 6, s_X11_days)], [], 1, 1, 6)
theorem mk_L_days : ∀ q ∈ k_L_days.2.2.2.1, eg_mono q.2.2.2.2 := (fc (mo_X11_days) (fn))
def s_L_days : eg_S := fun argv M Qp => match argv with
  | [.ref 0, .int a, .ref 177] => s_X11_days [.ref 0, .int a] M (fun r N => match r with
    | .inl (some (.int v)) => Qp (.inl (some (.int (nI 0)))) (eg_sl N 177 (nI 0).toNatClampNeg v.toInt64)
    | .inr E => eg_PH [("java/lang/IllegalArgumentException", nI 1)] Qp (.inr E) N
    | _ => False)
  | _ => False
theorem mo_L_days : eg_mono s_L_days := by
  intro argv M Q Q' h
  unfold s_L_days
  split
  · refine mo_X11_days _ _ _ _ (fun r N hN => ?_)
    match r, hN with
    | .inl (some (.int v)), hN => exact h _ _ hN
    | .inr E, hN => exact eg_PH_mono h _ _ hN
  · exact id
theorem sz_L_days : ∀ argv M Qp, s_L_days argv M Qp → (eg_ls0 argv).length ≤ 4 := by
  intro argv M Qp h
  unfold s_L_days at h
  split at h
  · exact Nat.le_of_ble_eq_true rfl
  · exact h.elim
set_option maxRecDepth 100000 in
theorem T_L_days {argv : List Value} {M : eg_M} {Qp : eg_P} (h : s_L_days argv M Qp) : eg_T wd k_L_days (eg_PH [("java/lang/IllegalArgumentException", nI 1)] Qp) 0 0 0 (eg_lsN 4 argv) [] M := by
  unfold s_L_days at h
  split at h
  · rename_i a
    refine eg_T_run mk_L_days (cut := [4]) 12 (?_ : eg_T wd k_L_days (eg_PH [("java/lang/IllegalArgumentException", nI 1)] Qp) 4 0 0 [some (.ref 0), some (.int a), some (.ref 177), none] ([.int a, .ref 0] ++ [.int (nI 0), .ref 177]) M)
    refine x_callV (j := 15) (n := 1 + 1) (kc := 1) (ks := 6) (S := s_X11_days) mk_L_days rfl rfl rfl rfl rfl rfl h mo_X11_days (fun r N hN => ?_)
    match r, hN with
    | .inl (some (.int v)), hN =>
      refine eg_T_run mk_L_days (cut := []) 10 ?_
      exact And.intro (vp177 N) (And.intro (fun z => Bool.noConfusion z) hN)
    | .inr E, hN => exact hN
  · exact h.elim
theorem de_L_days : ∀ q ∈ k_L_days.1, decode cL_days q.1 = .ok q.2 := by decide +kernel
theorem me_L_days (g : gl_T) : MTL g yL_days cL_days 4 [(0, 9, 12, 19)] ⟨7, 1, 6, 113⟩ 1 6 s_L_days := by
  intro hl
  exact eg_metH (k := k_L_days) (pc0 := 4) (hl := [("java/lang/IllegalArgumentException", nI 1)]) (by decide) rfl ⟨Nat.le_refl _, Nat.le_refl _⟩ rfl sz_L_days de_L_days rfl rfl (fun p e s m args below meth c Q A ad0 N0 S0 hK hEx hA => (fc (mt_V hl S0 hK hEx.1 hA (me_X11_days g) lm_RL_15 li_X11_days lx_X11_days ln_RX11 lc_X11_days ⟨rfl, by decide, by decide, by decide +kernel⟩ ⟨rfl, rfl⟩ ⟨by decide, by decide⟩ (ci := 11) rfl rfl eg_auto_rec (by decide)) (fn))) rfl (by decide +kernel) (fun s args A H hE hts => (fc (⟨[], ⟨0, 9, 12, 19⟩, [], "java/lang/IllegalArgumentException", 3, 1, 1, rfl, (fun y h => absurd h List.not_mem_nil), rfl, by decide, hts _ (List.mem_cons_of_mem _ lq_RL_19), va_any (tx_bad_face _ (List.mem_of_getElem? (i := 4) rfl)).2 (hE.1.2.2.2.2.1 _ (List.mem_of_getElem? (i := 4) rfl)), by decide, Or.inr ⟨rfl, 3, rfl, by decide +kernel⟩, by decide +kernel, by decide +kernel, rfl⟩) (fn))) (fun argv M Qp h => T_L_days h)
def k_L_event : eg_C := ([(0, .aload 8, 2), (2, .iconst 0, 1), (3, .aload_n 0, 1), (4, .iload_n 1, 1), (5, .iload_n 2, 1), (6, .iload_n 3, 1), (7, .iload 4, 2), (9, .iload 5, 2), (11, .iload 6, 2), (13, .iload 7, 2), (15, .invokevirtual 21, 3), (18, .i2l, 1), (19, .lastore, 1), (20, .goto 7, 3), (23, .astore 9, 2), (25, .iconst 1, 1), (26, .ireturn, 1), (27, .iconst 0, 1), (28, .ireturn, 1)], [], [], [(21, 7 + 1, 1, 6, s_X11_event)], [], 1, 1, 6)
theorem mk_L_event : ∀ q ∈ k_L_event.2.2.2.1, eg_mono q.2.2.2.2 := (fc (mo_X11_event) (fn))
def s_L_event : eg_S := fun argv M Qp => match argv with
  | [.ref 0, .int a, .int b, .int c, .int d, .int e, .int f, .int g, .ref 177] => s_X11_event [.ref 0, .int a, .int b, .int c, .int d, .int e, .int f, .int g] M (fun r N => match r with
    | .inl (some (.int v)) => Qp (.inl (some (.int (nI 0)))) (eg_sl N 177 (nI 0).toNatClampNeg v.toInt64)
    | .inr E => eg_PH [("java/util/NoSuchElementException", nI 1)] Qp (.inr E) N
    | _ => False)
  | _ => False
theorem mo_L_event : eg_mono s_L_event := by
  intro argv M Q Q' h
  unfold s_L_event
  split
  · refine mo_X11_event _ _ _ _ (fun r N hN => ?_)
    match r, hN with
    | .inl (some (.int v)), hN => exact h _ _ hN
    | .inr E, hN => exact eg_PH_mono h _ _ hN
  · exact id
theorem sz_L_event : ∀ argv M Qp, s_L_event argv M Qp → (eg_ls0 argv).length ≤ 10 := by
  intro argv M Qp h
  unfold s_L_event at h
  split at h
  · exact Nat.le_of_ble_eq_true rfl
  · exact h.elim
set_option maxRecDepth 100000 in
theorem T_L_event {argv : List Value} {M : eg_M} {Qp : eg_P} (h : s_L_event argv M Qp) : eg_T wd k_L_event (eg_PH [("java/util/NoSuchElementException", nI 1)] Qp) 0 0 0 (eg_lsN 10 argv) [] M := by
  unfold s_L_event at h
  split at h
  · rename_i a b c d e f g
    refine eg_T_run mk_L_event (cut := [15]) 12 (?_ : eg_T wd k_L_event (eg_PH [("java/util/NoSuchElementException", nI 1)] Qp) 15 0 0 [some (.ref 0), some (.int a), some (.int b), some (.int c), some (.int d), some (.int e), some (.int f), some (.int g), some (.ref 177), none] ([.int g, .int f, .int e, .int d, .int c, .int b, .int a, .ref 0] ++ [.int (nI 0), .ref 177]) M)
    refine x_callV (j := 21) (n := 7 + 1) (kc := 1) (ks := 6) (S := s_X11_event) mk_L_event rfl rfl rfl rfl rfl rfl h mo_X11_event (fun r N hN => ?_)
    match r, hN with
    | .inl (some (.int v)), hN =>
      refine eg_T_run mk_L_event (cut := []) 10 ?_
      exact And.intro (vp177 N) (And.intro (fun z => Bool.noConfusion z) hN)
    | .inr E, hN => exact hN
  · exact h.elim
theorem de_L_event : ∀ q ∈ k_L_event.1, decode cL_event q.1 = .ok q.2 := by decide +kernel
theorem me_L_event (g : gl_T) : MTL g yL_event cL_event 10 [(0, 20, 23, 13)] ⟨8, 1, 6, 141⟩ 1 6 s_L_event := by
  intro hl
  exact eg_metH (k := k_L_event) (pc0 := 15) (hl := [("java/util/NoSuchElementException", nI 1)]) (by decide) rfl ⟨Nat.le_refl _, Nat.le_refl _⟩ rfl sz_L_event de_L_event rfl rfl (fun p e s m args below meth c Q A ad0 N0 S0 hK hEx hA => (fc (mt_V hl S0 hK hEx.1 hA (me_X11_event g) lm_RL_21 li_X11_event lx_X11_event ln_RX11 lc_X11_event ⟨rfl, by decide, by decide, by decide +kernel⟩ ⟨rfl, rfl⟩ ⟨by decide, by decide⟩ (ci := 11) rfl rfl sr_X11_event (by decide)) (fn))) rfl (by decide +kernel) (fun s args A H hE hts => (fc (⟨[], ⟨0, 20, 23, 13⟩, [], "java/util/NoSuchElementException", 9, 2, 1, rfl, (fun y h => absurd h List.not_mem_nil), rfl, by decide, hts _ (List.mem_cons_of_mem _ lq_RL_13), va_any (tx_bad_face _ (List.mem_of_getElem? (i := 3) rfl)).2 (hE.1.2.2.2.2.1 _ (List.mem_of_getElem? (i := 3) rfl)), by decide, Or.inl ⟨rfl, by decide +kernel⟩, by decide +kernel, by decide +kernel, rfl⟩) (fn))) (fun argv M Qp h => T_L_event h)
def k_L_friend : eg_C := ([(0, .aload_n 2, 1), (1, .iconst 0, 1), (2, .aload_n 0, 1), (3, .iload_n 1, 1), (4, .invokevirtual 62, 3), (7, .i2l, 1), (8, .lastore, 1), (9, .goto 6, 3), (12, .astore_n 3, 1), (13, .iconst 1, 1), (14, .ireturn, 1), (15, .iconst 0, 1), (16, .ireturn, 1)], [], [], [(62, 1 + 1, 1, 6, s_X11_friend)], [], 1, 1, 6)
theorem mk_L_friend : ∀ q ∈ k_L_friend.2.2.2.1, eg_mono q.2.2.2.2 := (fc (mo_X11_friend) (fn))
def s_L_friend : eg_S := fun argv M Qp => match argv with
  | [.ref 0, .int a, .ref 177] => s_X11_friend [.ref 0, .int a] M (fun r N => match r with
    | .inl (some (.int v)) => Qp (.inl (some (.int (nI 0)))) (eg_sl N 177 (nI 0).toNatClampNeg v.toInt64)
    | .inr E => eg_PH [("java/util/NoSuchElementException", nI 1)] Qp (.inr E) N
    | _ => False)
  | _ => False
theorem mo_L_friend : eg_mono s_L_friend := by
  intro argv M Q Q' h
  unfold s_L_friend
  split
  · refine mo_X11_friend _ _ _ _ (fun r N hN => ?_)
    match r, hN with
    | .inl (some (.int v)), hN => exact h _ _ hN
    | .inr E, hN => exact eg_PH_mono h _ _ hN
  · exact id
theorem sz_L_friend : ∀ argv M Qp, s_L_friend argv M Qp → (eg_ls0 argv).length ≤ 4 := by
  intro argv M Qp h
  unfold s_L_friend at h
  split at h
  · exact Nat.le_of_ble_eq_true rfl
  · exact h.elim
set_option maxRecDepth 100000 in
theorem T_L_friend {argv : List Value} {M : eg_M} {Qp : eg_P} (h : s_L_friend argv M Qp) : eg_T wd k_L_friend (eg_PH [("java/util/NoSuchElementException", nI 1)] Qp) 0 0 0 (eg_lsN 4 argv) [] M := by
  unfold s_L_friend at h
  split at h
  · rename_i a
    refine eg_T_run mk_L_friend (cut := [4]) 12 (?_ : eg_T wd k_L_friend (eg_PH [("java/util/NoSuchElementException", nI 1)] Qp) 4 0 0 [some (.ref 0), some (.int a), some (.ref 177), none] ([.int a, .ref 0] ++ [.int (nI 0), .ref 177]) M)
    refine x_callV (j := 62) (n := 1 + 1) (kc := 1) (ks := 6) (S := s_X11_friend) mk_L_friend rfl rfl rfl rfl rfl rfl h mo_X11_friend (fun r N hN => ?_)
    match r, hN with
    | .inl (some (.int v)), hN =>
      refine eg_T_run mk_L_friend (cut := []) 10 ?_
      exact And.intro (vp177 N) (And.intro (fun z => Bool.noConfusion z) hN)
    | .inr E, hN => exact hN
  · exact h.elim
theorem de_L_friend : ∀ q ∈ k_L_friend.1, decode cL_friend q.1 = .ok q.2 := by decide +kernel
theorem me_L_friend (g : gl_T) : MTL g yL_friend cL_friend 4 [(0, 9, 12, 13)] ⟨8, 1, 6, 134⟩ 1 6 s_L_friend := by
  intro hl
  exact eg_metH (k := k_L_friend) (pc0 := 4) (hl := [("java/util/NoSuchElementException", nI 1)]) (by decide) rfl ⟨Nat.le_refl _, Nat.le_refl _⟩ rfl sz_L_friend de_L_friend rfl rfl (fun p e s m args below meth c Q A ad0 N0 S0 hK hEx hA => (fc (mt_V hl S0 hK hEx.1 hA (me_X11_friend g) lm_RL_62 li_X11_friend lx_X11_friend ln_RX11 lc_X11_friend ⟨rfl, by decide, by decide, by decide +kernel⟩ ⟨rfl, rfl⟩ ⟨by decide, by decide⟩ (ci := 11) rfl rfl eg_auto_rec (by decide)) (fn))) rfl (by decide +kernel) (fun s args A H hE hts => (fc (⟨[], ⟨0, 9, 12, 13⟩, [], "java/util/NoSuchElementException", 3, 1, 1, rfl, (fun y h => absurd h List.not_mem_nil), rfl, by decide, hts _ (List.mem_cons_of_mem _ lq_RL_13), va_any (tx_bad_face _ (List.mem_of_getElem? (i := 3) rfl)).2 (hE.1.2.2.2.2.1 _ (List.mem_of_getElem? (i := 3) rfl)), by decide, Or.inr ⟨rfl, 3, rfl, by decide +kernel⟩, by decide +kernel, by decide +kernel, rfl⟩) (fn))) (fun argv M Qp h => T_L_friend h)
def k_L_liking : eg_C := ([(0, .aload_n 3, 1), (1, .iconst 0, 1), (2, .aload_n 0, 1), (3, .iload_n 1, 1), (4, .iload_n 2, 1), (5, .invokevirtual 44, 3), (8, .i2l, 1), (9, .lastore, 1), (10, .goto 7, 3), (13, .astore 4, 2), (15, .iconst 1, 1), (16, .ireturn, 1), (17, .iconst 0, 1), (18, .ireturn, 1)], [], [], [(44, 2 + 1, 1, 6, s_X11_liking_v)], [], 1, 1, 6)
theorem mk_L_liking : ∀ q ∈ k_L_liking.2.2.2.1, eg_mono q.2.2.2.2 := (fc (mo_X11_liking_v) (fn))
def s_L_liking : eg_S := fun argv M Qp => match argv with
  | [.ref 0, .int a, .int b, .ref 177] => s_X11_liking_v [.ref 0, .int a, .int b] M (fun r N => match r with
    | .inl (some (.int v)) => Qp (.inl (some (.int (nI 0)))) (eg_sl N 177 (nI 0).toNatClampNeg v.toInt64)
    | .inr E => eg_PH [("java/util/NoSuchElementException", nI 1)] Qp (.inr E) N
    | _ => False)
  | _ => False
theorem mo_L_liking : eg_mono s_L_liking := by
  intro argv M Q Q' h
  unfold s_L_liking
  split
  · refine mo_X11_liking_v _ _ _ _ (fun r N hN => ?_)
    match r, hN with
    | .inl (some (.int v)), hN => exact h _ _ hN
    | .inr E, hN => exact eg_PH_mono h _ _ hN
  · exact id
theorem sz_L_liking : ∀ argv M Qp, s_L_liking argv M Qp → (eg_ls0 argv).length ≤ 5 := by
  intro argv M Qp h
  unfold s_L_liking at h
  split at h
  · exact Nat.le_of_ble_eq_true rfl
  · exact h.elim
set_option maxRecDepth 100000 in
theorem T_L_liking {argv : List Value} {M : eg_M} {Qp : eg_P} (h : s_L_liking argv M Qp) : eg_T wd k_L_liking (eg_PH [("java/util/NoSuchElementException", nI 1)] Qp) 0 0 0 (eg_lsN 5 argv) [] M := by
  unfold s_L_liking at h
  split at h
  · rename_i a b
    refine eg_T_run mk_L_liking (cut := [5]) 12 (?_ : eg_T wd k_L_liking (eg_PH [("java/util/NoSuchElementException", nI 1)] Qp) 5 0 0 [some (.ref 0), some (.int a), some (.int b), some (.ref 177), none] ([.int b, .int a, .ref 0] ++ [.int (nI 0), .ref 177]) M)
    refine x_callV (j := 44) (n := 2 + 1) (kc := 1) (ks := 6) (S := s_X11_liking_v) mk_L_liking rfl rfl rfl rfl rfl rfl h mo_X11_liking_v (fun r N hN => ?_)
    match r, hN with
    | .inl (some (.int v)), hN =>
      refine eg_T_run mk_L_liking (cut := []) 10 ?_
      exact And.intro (vp177 N) (And.intro (fun z => Bool.noConfusion z) hN)
    | .inr E, hN => exact hN
  · exact h.elim
theorem de_L_liking : ∀ q ∈ k_L_liking.1, decode cL_liking q.1 = .ok q.2 := by decide +kernel
theorem me_L_liking (g : gl_T) : MTL g yL_liking cL_liking 5 [(0, 10, 13, 13)] ⟨7, 1, 6, 114⟩ 1 6 s_L_liking := by
  intro hl
  exact eg_metH (k := k_L_liking) (pc0 := 5) (hl := [("java/util/NoSuchElementException", nI 1)]) (by decide) rfl ⟨Nat.le_refl _, Nat.le_refl _⟩ rfl sz_L_liking de_L_liking rfl rfl (fun p e s m args below meth c Q A ad0 N0 S0 hK hEx hA => (fc (mt_V hl S0 hK hEx.1 hA (me_X11_liking_v g) lm_RL_44 li_X11_liking lx_X11_liking ln_RX11 lc_X11_liking ⟨rfl, by decide, by decide, by decide +kernel⟩ ⟨rfl, rfl⟩ ⟨by decide, by decide⟩ (ci := 11) rfl rfl sr_X11_liking_v (by decide)) (fn))) rfl (by decide +kernel) (fun s args A H hE hts => (fc (⟨[], ⟨0, 10, 13, 13⟩, [], "java/util/NoSuchElementException", 4, 2, 1, rfl, (fun y h => absurd h List.not_mem_nil), rfl, by decide, hts _ (List.mem_cons_of_mem _ lq_RL_13), va_any (tx_bad_face _ (List.mem_of_getElem? (i := 3) rfl)).2 (hE.1.2.2.2.2.1 _ (List.mem_of_getElem? (i := 3) rfl)), by decide, Or.inl ⟨rfl, by decide +kernel⟩, by decide +kernel, by decide +kernel, rfl⟩) (fn))) (fun argv M Qp h => T_L_liking h)
def k_L_lodged : eg_C := ([(0, .aload_n 2, 1), (1, .iconst 0, 1), (2, .aload_n 0, 1), (3, .iload_n 1, 1), (4, .invokevirtual 48, 3), (7, .i2l, 1), (8, .lastore, 1), (9, .goto 6, 3), (12, .astore_n 3, 1), (13, .iconst 1, 1), (14, .ireturn, 1), (15, .iconst 0, 1), (16, .ireturn, 1)], [], [], [(48, 1 + 1, 1, 6, s_X11_lodged)], [], 1, 1, 6)
theorem mk_L_lodged : ∀ q ∈ k_L_lodged.2.2.2.1, eg_mono q.2.2.2.2 := (fc (mo_X11_lodged) (fn))
def s_L_lodged : eg_S := fun argv M Qp => match argv with
  | [.ref 0, .int a, .ref 177] => s_X11_lodged [.ref 0, .int a] M (fun r N => match r with
    | .inl (some (.int v)) => Qp (.inl (some (.int (nI 0)))) (eg_sl N 177 (nI 0).toNatClampNeg v.toInt64)
    | .inr E => eg_PH [("java/util/NoSuchElementException", nI 1)] Qp (.inr E) N
    | _ => False)
  | _ => False
theorem mo_L_lodged : eg_mono s_L_lodged := by
  intro argv M Q Q' h
  unfold s_L_lodged
  split
  · refine mo_X11_lodged _ _ _ _ (fun r N hN => ?_)
    match r, hN with
    | .inl (some (.int v)), hN => exact h _ _ hN
    | .inr E, hN => exact eg_PH_mono h _ _ hN
  · exact id
theorem sz_L_lodged : ∀ argv M Qp, s_L_lodged argv M Qp → (eg_ls0 argv).length ≤ 4 := by
  intro argv M Qp h
  unfold s_L_lodged at h
  split at h
  · exact Nat.le_of_ble_eq_true rfl
  · exact h.elim
set_option maxRecDepth 100000 in
theorem T_L_lodged {argv : List Value} {M : eg_M} {Qp : eg_P} (h : s_L_lodged argv M Qp) : eg_T wd k_L_lodged (eg_PH [("java/util/NoSuchElementException", nI 1)] Qp) 0 0 0 (eg_lsN 4 argv) [] M := by
  unfold s_L_lodged at h
  split at h
  · rename_i a
    refine eg_T_run mk_L_lodged (cut := [4]) 12 (?_ : eg_T wd k_L_lodged (eg_PH [("java/util/NoSuchElementException", nI 1)] Qp) 4 0 0 [some (.ref 0), some (.int a), some (.ref 177), none] ([.int a, .ref 0] ++ [.int (nI 0), .ref 177]) M)
    refine x_callV (j := 48) (n := 1 + 1) (kc := 1) (ks := 6) (S := s_X11_lodged) mk_L_lodged rfl rfl rfl rfl rfl rfl h mo_X11_lodged (fun r N hN => ?_)
    match r, hN with
    | .inl (some (.int v)), hN =>
      refine eg_T_run mk_L_lodged (cut := []) 10 ?_
      exact And.intro (vp177 N) (And.intro (fun z => Bool.noConfusion z) hN)
    | .inr E, hN => exact hN
  · exact h.elim
theorem de_L_lodged : ∀ q ∈ k_L_lodged.1, decode cL_lodged q.1 = .ok q.2 := by decide +kernel
theorem me_L_lodged (g : gl_T) : MTL g yL_lodged cL_lodged 4 [(0, 9, 12, 13)] ⟨7, 1, 6, 113⟩ 1 6 s_L_lodged := by
  intro hl
  exact eg_metH (k := k_L_lodged) (pc0 := 4) (hl := [("java/util/NoSuchElementException", nI 1)]) (by decide) rfl ⟨Nat.le_refl _, Nat.le_refl _⟩ rfl sz_L_lodged de_L_lodged rfl rfl (fun p e s m args below meth c Q A ad0 N0 S0 hK hEx hA => (fc (mt_V hl S0 hK hEx.1 hA (me_X11_lodged g) lm_RL_48 li_X11_lodged lx_X11_lodged ln_RX11 lc_X11_lodged ⟨rfl, by decide, by decide, by decide +kernel⟩ ⟨rfl, rfl⟩ ⟨by decide, by decide⟩ (ci := 11) rfl rfl eg_auto_rec (by decide)) (fn))) rfl (by decide +kernel) (fun s args A H hE hts => (fc (⟨[], ⟨0, 9, 12, 13⟩, [], "java/util/NoSuchElementException", 3, 1, 1, rfl, (fun y h => absurd h List.not_mem_nil), rfl, by decide, hts _ (List.mem_cons_of_mem _ lq_RL_13), va_any (tx_bad_face _ (List.mem_of_getElem? (i := 3) rfl)).2 (hE.1.2.2.2.2.1 _ (List.mem_of_getElem? (i := 3) rfl)), by decide, Or.inr ⟨rfl, 3, rfl, by decide +kernel⟩, by decide +kernel, by decide +kernel, rfl⟩) (fn))) (fun argv M Qp h => T_L_lodged h)
def k_L_plan : eg_C := ([(0, .aload 6, 2), (2, .iconst 0, 1), (3, .aload_n 0, 1), (4, .iload_n 1, 1), (5, .iload_n 2, 1), (6, .iload_n 3, 1), (7, .lload 4, 2), (9, .invokevirtual 51, 3), (12, .i2l, 1), (13, .lastore, 1), (14, .goto 7, 3), (17, .astore 7, 2), (19, .iconst 1, 1), (20, .ireturn, 1), (21, .iconst 0, 1), (22, .ireturn, 1)], [], [], [(51, 4 + 1, 1, 6, s_X11_plan)], [], 1, 1, 6)
theorem mk_L_plan : ∀ q ∈ k_L_plan.2.2.2.1, eg_mono q.2.2.2.2 := (fc (mo_X11_plan) (fn))
def s_L_plan : eg_S := fun argv M Qp => match argv with
  | [.ref 0, .int a, .int b, .int c, .long d, .ref 177] => s_X11_plan [.ref 0, .int a, .int b, .int c, .long d] M (fun r N => match r with
    | .inl (some (.int v)) => Qp (.inl (some (.int (nI 0)))) (eg_sl N 177 (nI 0).toNatClampNeg v.toInt64)
    | .inr E => eg_PH [("java/util/NoSuchElementException", nI 1)] Qp (.inr E) N
    | _ => False)
  | _ => False
theorem mo_L_plan : eg_mono s_L_plan := by
  intro argv M Q Q' h
  unfold s_L_plan
  split
  · refine mo_X11_plan _ _ _ _ (fun r N hN => ?_)
    match r, hN with
    | .inl (some (.int v)), hN => exact h _ _ hN
    | .inr E, hN => exact eg_PH_mono h _ _ hN
  · exact id
theorem sz_L_plan : ∀ argv M Qp, s_L_plan argv M Qp → (eg_ls0 argv).length ≤ 8 := by
  intro argv M Qp h
  unfold s_L_plan at h
  split at h
  · exact Nat.le_of_ble_eq_true rfl
  · exact h.elim
set_option maxRecDepth 100000 in
theorem T_L_plan {argv : List Value} {M : eg_M} {Qp : eg_P} (h : s_L_plan argv M Qp) : eg_T wd k_L_plan (eg_PH [("java/util/NoSuchElementException", nI 1)] Qp) 0 0 0 (eg_lsN 8 argv) [] M := by
  unfold s_L_plan at h
  split at h
  · rename_i a b c d
    refine eg_T_run mk_L_plan (cut := [9]) 12 (?_ : eg_T wd k_L_plan (eg_PH [("java/util/NoSuchElementException", nI 1)] Qp) 9 0 0 [some (.ref 0), some (.int a), some (.int b), some (.int c), some (.long d), none, some (.ref 177), none] ([.long d, .int c, .int b, .int a, .ref 0] ++ [.int (nI 0), .ref 177]) M)
    refine x_callV (j := 51) (n := 4 + 1) (kc := 1) (ks := 6) (S := s_X11_plan) mk_L_plan rfl rfl rfl rfl rfl rfl h mo_X11_plan (fun r N hN => ?_)
    match r, hN with
    | .inl (some (.int v)), hN =>
      refine eg_T_run mk_L_plan (cut := []) 10 ?_
      exact And.intro (vp177 N) (And.intro (fun z => Bool.noConfusion z) hN)
    | .inr E, hN => exact hN
  · exact h.elim
theorem de_L_plan : ∀ q ∈ k_L_plan.1, decode cL_plan q.1 = .ok q.2 := by decide +kernel
theorem me_L_plan (g : gl_T) : MTL g yL_plan cL_plan 8 [(0, 14, 17, 13)] ⟨8, 1, 6, 139⟩ 1 6 s_L_plan := by
  intro hl
  exact eg_metH (k := k_L_plan) (pc0 := 9) (hl := [("java/util/NoSuchElementException", nI 1)]) (by decide) rfl ⟨Nat.le_refl _, Nat.le_refl _⟩ rfl sz_L_plan de_L_plan rfl rfl (fun p e s m args below meth c Q A ad0 N0 S0 hK hEx hA => (fc (mt_V hl S0 hK hEx.1 hA (me_X11_plan g) lm_RL_51 li_X11_plan lx_X11_plan ln_RX11 lc_X11_plan ⟨rfl, by decide, by decide, by decide +kernel⟩ ⟨rfl, rfl⟩ ⟨by decide, by decide⟩ (ci := 11) rfl rfl sr_X11_plan (by decide)) (fn))) rfl (by decide +kernel) (fun s args A H hE hts => (fc (⟨[], ⟨0, 14, 17, 13⟩, [], "java/util/NoSuchElementException", 7, 2, 1, rfl, (fun y h => absurd h List.not_mem_nil), rfl, by decide, hts _ (List.mem_cons_of_mem _ lq_RL_13), va_any (tx_bad_face _ (List.mem_of_getElem? (i := 3) rfl)).2 (hE.1.2.2.2.2.1 _ (List.mem_of_getElem? (i := 3) rfl)), by decide, Or.inl ⟨rfl, by decide +kernel⟩, by decide +kernel, by decide +kernel, rfl⟩) (fn))) (fun argv M Qp h => T_L_plan h)
def k_L_planned : eg_C := ([(0, .aload_n 2, 1), (1, .iconst 0, 1), (2, .aload_n 0, 1), (3, .iload_n 1, 1), (4, .invokevirtual 55, 3), (7, .i2l, 1), (8, .lastore, 1), (9, .goto 6, 3), (12, .astore_n 3, 1), (13, .iconst 1, 1), (14, .ireturn, 1), (15, .iconst 0, 1), (16, .ireturn, 1)], [], [], [(55, 1 + 1, 1, 6, s_X11_planned)], [], 1, 1, 6)
theorem mk_L_planned : ∀ q ∈ k_L_planned.2.2.2.1, eg_mono q.2.2.2.2 := (fc (mo_X11_planned) (fn))
def s_L_planned : eg_S := fun argv M Qp => match argv with
  | [.ref 0, .int a, .ref 177] => s_X11_planned [.ref 0, .int a] M (fun r N => match r with
    | .inl (some (.int v)) => Qp (.inl (some (.int (nI 0)))) (eg_sl N 177 (nI 0).toNatClampNeg v.toInt64)
    | .inr E => eg_PH [("java/util/NoSuchElementException", nI 1)] Qp (.inr E) N
    | _ => False)
  | _ => False
theorem mo_L_planned : eg_mono s_L_planned := by
  intro argv M Q Q' h
  unfold s_L_planned
  split
  · refine mo_X11_planned _ _ _ _ (fun r N hN => ?_)
    match r, hN with
    | .inl (some (.int v)), hN => exact h _ _ hN
    | .inr E, hN => exact eg_PH_mono h _ _ hN
  · exact id
theorem sz_L_planned : ∀ argv M Qp, s_L_planned argv M Qp → (eg_ls0 argv).length ≤ 4 := by
  intro argv M Qp h
  unfold s_L_planned at h
  split at h
  · exact Nat.le_of_ble_eq_true rfl
  · exact h.elim
set_option maxRecDepth 100000 in
theorem T_L_planned {argv : List Value} {M : eg_M} {Qp : eg_P} (h : s_L_planned argv M Qp) : eg_T wd k_L_planned (eg_PH [("java/util/NoSuchElementException", nI 1)] Qp) 0 0 0 (eg_lsN 4 argv) [] M := by
  unfold s_L_planned at h
  split at h
  · rename_i a
    refine eg_T_run mk_L_planned (cut := [4]) 12 (?_ : eg_T wd k_L_planned (eg_PH [("java/util/NoSuchElementException", nI 1)] Qp) 4 0 0 [some (.ref 0), some (.int a), some (.ref 177), none] ([.int a, .ref 0] ++ [.int (nI 0), .ref 177]) M)
    refine x_callV (j := 55) (n := 1 + 1) (kc := 1) (ks := 6) (S := s_X11_planned) mk_L_planned rfl rfl rfl rfl rfl rfl h mo_X11_planned (fun r N hN => ?_)
    match r, hN with
    | .inl (some (.int v)), hN =>
      refine eg_T_run mk_L_planned (cut := []) 10 ?_
      exact And.intro (vp177 N) (And.intro (fun z => Bool.noConfusion z) hN)
    | .inr E, hN => exact hN
  · exact h.elim
theorem de_L_planned : ∀ q ∈ k_L_planned.1, decode cL_planned q.1 = .ok q.2 := by decide +kernel
theorem me_L_planned (g : gl_T) : MTL g yL_planned cL_planned 4 [(0, 9, 12, 13)] ⟨7, 1, 6, 113⟩ 1 6 s_L_planned := by
  intro hl
  exact eg_metH (k := k_L_planned) (pc0 := 4) (hl := [("java/util/NoSuchElementException", nI 1)]) (by decide) rfl ⟨Nat.le_refl _, Nat.le_refl _⟩ rfl sz_L_planned de_L_planned rfl rfl (fun p e s m args below meth c Q A ad0 N0 S0 hK hEx hA => (fc (mt_V hl S0 hK hEx.1 hA (me_X11_planned g) lm_RL_55 li_X11_planned lx_X11_planned ln_RX11 lc_X11_planned ⟨rfl, by decide, by decide, by decide +kernel⟩ ⟨rfl, rfl⟩ ⟨by decide, by decide⟩ (ci := 11) rfl rfl eg_auto_rec (by decide)) (fn))) rfl (by decide +kernel) (fun s args A H hE hts => (fc (⟨[], ⟨0, 9, 12, 13⟩, [], "java/util/NoSuchElementException", 3, 1, 1, rfl, (fun y h => absurd h List.not_mem_nil), rfl, by decide, hts _ (List.mem_cons_of_mem _ lq_RL_13), va_any (tx_bad_face _ (List.mem_of_getElem? (i := 3) rfl)).2 (hE.1.2.2.2.2.1 _ (List.mem_of_getElem? (i := 3) rfl)), by decide, Or.inr ⟨rfl, 3, rfl, by decide +kernel⟩, by decide +kernel, by decide +kernel, rfl⟩) (fn))) (fun argv M Qp h => T_L_planned h)
def k_L_rules : eg_C := ([(0, .aload_n 2, 1), (1, .iconst 0, 1), (2, .aload_n 0, 1), (3, .iload_n 1, 1), (4, .invokevirtual 29, 3), (7, .i2l, 1), (8, .lastore, 1), (9, .goto 6, 3), (12, .astore_n 3, 1), (13, .iconst 1, 1), (14, .ireturn, 1), (15, .iconst 0, 1), (16, .ireturn, 1)], [], [], [(29, 1 + 1, 4, 1206, s_X11_rules)], [], 1, 4, 1206)
theorem mk_L_rules : ∀ q ∈ k_L_rules.2.2.2.1, eg_mono q.2.2.2.2 := (fc (mo_X11_rules) (fn))
def s_L_rules : eg_S := fun argv M Qp => match argv with
  | [.ref 0, .int a, .ref 177] => s_X11_rules [.ref 0, .int a] M (fun r N => match r with
    | .inl (some (.int v)) => Qp (.inl (some (.int (nI 0)))) (eg_sl N 177 (nI 0).toNatClampNeg v.toInt64)
    | .inr E => eg_PH [("java/lang/IllegalArgumentException", nI 1)] Qp (.inr E) N
    | _ => False)
  | _ => False
theorem mo_L_rules : eg_mono s_L_rules := by
  intro argv M Q Q' h
  unfold s_L_rules
  split
  · refine mo_X11_rules _ _ _ _ (fun r N hN => ?_)
    match r, hN with
    | .inl (some (.int v)), hN => exact h _ _ hN
    | .inr E, hN => exact eg_PH_mono h _ _ hN
  · exact id
theorem sz_L_rules : ∀ argv M Qp, s_L_rules argv M Qp → (eg_ls0 argv).length ≤ 4 := by
  intro argv M Qp h
  unfold s_L_rules at h
  split at h
  · exact Nat.le_of_ble_eq_true rfl
  · exact h.elim
set_option maxRecDepth 100000 in
theorem T_L_rules {argv : List Value} {M : eg_M} {Qp : eg_P} (h : s_L_rules argv M Qp) : eg_T wd k_L_rules (eg_PH [("java/lang/IllegalArgumentException", nI 1)] Qp) 0 0 0 (eg_lsN 4 argv) [] M := by
  unfold s_L_rules at h
  split at h
  · rename_i a
    refine eg_T_run mk_L_rules (cut := [4]) 12 (?_ : eg_T wd k_L_rules (eg_PH [("java/lang/IllegalArgumentException", nI 1)] Qp) 4 0 0 [some (.ref 0), some (.int a), some (.ref 177), none] ([.int a, .ref 0] ++ [.int (nI 0), .ref 177]) M)
    refine x_callV (j := 29) (n := 1 + 1) (kc := 4) (ks := 1206) (S := s_X11_rules) mk_L_rules rfl rfl rfl rfl rfl rfl h mo_X11_rules (fun r N hN => ?_)
    match r, hN with
    | .inl (some (.int v)), hN =>
      refine eg_T_run mk_L_rules (cut := []) 10 ?_
      exact And.intro (vp177 N) (And.intro (fun z => Bool.noConfusion z) hN)
    | .inr E, hN => exact hN
  · exact h.elim
theorem de_L_rules : ∀ q ∈ k_L_rules.1, decode cL_rules q.1 = .ok q.2 := by decide +kernel
theorem me_L_rules (g : gl_T) : MTL g yL_rules cL_rules 4 [(0, 9, 12, 19)] ⟨52, 4, 1206, 1164⟩ 4 1206 s_L_rules := by
  intro hl
  exact eg_metH (k := k_L_rules) (pc0 := 4) (hl := [("java/lang/IllegalArgumentException", nI 1)]) (by decide) rfl ⟨Nat.le_refl _, Nat.le_refl _⟩ rfl sz_L_rules de_L_rules rfl rfl (fun p e s m args below meth c Q A ad0 N0 S0 hK hEx hA => (fc (mt_V hl S0 hK hEx.1 hA (me_X11_rules g) lm_RL_29 li_X11_rules lx_X11_rules ln_RX11 lc_X11_rules ⟨rfl, by decide, by decide, by decide +kernel⟩ ⟨rfl, rfl⟩ ⟨by decide, by decide⟩ (ci := 11) rfl rfl sr_X11_rules (by decide)) (fn))) rfl (by decide +kernel) (fun s args A H hE hts => (fc (⟨[], ⟨0, 9, 12, 19⟩, [], "java/lang/IllegalArgumentException", 3, 1, 1, rfl, (fun y h => absurd h List.not_mem_nil), rfl, by decide, hts _ (List.mem_cons_of_mem _ lq_RL_19), va_any (tx_bad_face _ (List.mem_of_getElem? (i := 4) rfl)).2 (hE.1.2.2.2.2.1 _ (List.mem_of_getElem? (i := 4) rfl)), by decide, Or.inr ⟨rfl, 3, rfl, by decide +kernel⟩, by decide +kernel, by decide +kernel, rfl⟩) (fn))) (fun argv M Qp h => T_L_rules h)
def k_L_told : eg_C := ([(0, .aload 4, 2), (2, .iconst 0, 1), (3, .aload_n 0, 1), (4, .iload_n 1, 1), (5, .iload_n 2, 1), (6, .iload_n 3, 1), (7, .invokevirtual 36, 3), (10, .lastore, 1), (11, .goto 11, 3), (14, .astore 5, 2), (16, .iconst 1, 1), (17, .ireturn, 1), (18, .astore 5, 2), (20, .iconst 2, 1), (21, .ireturn, 1), (22, .iconst 0, 1), (23, .ireturn, 1)], [], [], [(36, 3 + 1, 3, 18, s_X11_told)], [], 1, 3, 18)
theorem mk_L_told : ∀ q ∈ k_L_told.2.2.2.1, eg_mono q.2.2.2.2 := (fc (mo_X11_told) (fn))
def s_L_told : eg_S := fun argv M Qp => match argv with
  | [.ref 0, .int a, .int b, .int c, .ref 177] => s_X11_told [.ref 0, .int a, .int b, .int c] M (fun r N => match r with
    | .inl (some (.long v)) => Qp (.inl (some (.int (nI 0)))) (eg_sl N 177 (nI 0).toNatClampNeg v)
    | .inr E => eg_PH [("java/util/NoSuchElementException", nI 1), ("java/lang/IllegalArgumentException", nI 2)] Qp (.inr E) N
    | _ => False)
  | _ => False
theorem mo_L_told : eg_mono s_L_told := by
  intro argv M Q Q' h
  unfold s_L_told
  split
  · refine mo_X11_told _ _ _ _ (fun r N hN => ?_)
    match r, hN with
    | .inl (some (.long v)), hN => exact h _ _ hN
    | .inr E, hN => exact eg_PH_mono h _ _ hN
  · exact id
theorem sz_L_told : ∀ argv M Qp, s_L_told argv M Qp → (eg_ls0 argv).length ≤ 6 := by
  intro argv M Qp h
  unfold s_L_told at h
  split at h
  · exact Nat.le_of_ble_eq_true rfl
  · exact h.elim
set_option maxRecDepth 100000 in
theorem T_L_told {argv : List Value} {M : eg_M} {Qp : eg_P} (h : s_L_told argv M Qp) : eg_T wd k_L_told (eg_PH [("java/util/NoSuchElementException", nI 1), ("java/lang/IllegalArgumentException", nI 2)] Qp) 0 0 0 (eg_lsN 6 argv) [] M := by
  unfold s_L_told at h
  split at h
  · rename_i a b c
    refine eg_T_run mk_L_told (cut := [7]) 12 (?_ : eg_T wd k_L_told (eg_PH [("java/util/NoSuchElementException", nI 1), ("java/lang/IllegalArgumentException", nI 2)] Qp) 7 0 0 [some (.ref 0), some (.int a), some (.int b), some (.int c), some (.ref 177), none] ([.int c, .int b, .int a, .ref 0] ++ [.int (nI 0), .ref 177]) M)
    refine x_callV (j := 36) (n := 3 + 1) (kc := 3) (ks := 18) (S := s_X11_told) mk_L_told rfl rfl rfl rfl rfl rfl h mo_X11_told (fun r N hN => ?_)
    match r, hN with
    | .inl (some (.long v)), hN =>
      refine eg_T_run mk_L_told (cut := []) 10 ?_
      exact And.intro (vp177 N) (And.intro (fun z => Bool.noConfusion z) hN)
    | .inr E, hN => exact hN
  · exact h.elim
theorem de_L_told : ∀ q ∈ k_L_told.1, decode cL_told q.1 = .ok q.2 := by decide +kernel
theorem me_L_told (g : gl_T) : MTL g yL_told cL_told 6 [(0, 11, 14, 13), (0, 11, 18, 19)] ⟨8, 3, 18, 149⟩ 3 18 s_L_told := by
  intro hl
  exact eg_metH (k := k_L_told) (pc0 := 7) (hl := [("java/util/NoSuchElementException", nI 1), ("java/lang/IllegalArgumentException", nI 2)]) (by decide) rfl ⟨Nat.le_refl _, Nat.le_refl _⟩ rfl sz_L_told de_L_told rfl rfl (fun p e s m args below meth c Q A ad0 N0 S0 hK hEx hA => (fc (mt_V hl S0 hK hEx.1 hA (me_X11_told g) lm_RL_36 li_X11_told lx_X11_told ln_RX11 lc_X11_told ⟨rfl, by decide, by decide, by decide +kernel⟩ ⟨rfl, rfl⟩ ⟨by decide, by decide⟩ (ci := 11) rfl rfl sr_X11_told (by decide)) (fn))) rfl (by decide +kernel) (fun s args A H hE hts => (fc (⟨[], ⟨0, 11, 14, 13⟩, [⟨0, 11, 18, 19⟩], "java/util/NoSuchElementException", 5, 2, 1, rfl, (fun y h => absurd h List.not_mem_nil), rfl, by decide, hts _ (List.mem_cons_of_mem _ lq_RL_13), va_any (tx_bad_face _ (List.mem_of_getElem? (i := 3) rfl)).2 (hE.1.2.2.2.2.1 _ (List.mem_of_getElem? (i := 3) rfl)), by decide, Or.inl ⟨rfl, by decide +kernel⟩, by decide +kernel, by decide +kernel, rfl⟩) (fc (⟨[⟨0, 11, 14, 13⟩], ⟨0, 11, 18, 19⟩, [], "java/lang/IllegalArgumentException", 5, 2, 2, rfl, (fun y h => by rw [List.mem_singleton.mp h]; exact ⟨by decide, _, hts _ (List.mem_cons_of_mem _ lq_RL_13), hE.2⟩), rfl, by decide, hts _ (List.mem_cons_of_mem _ lq_RL_19), va_any (tx_bad_face _ (List.mem_of_getElem? (i := 4) rfl)).2 (hE.1.2.2.2.2.1 _ (List.mem_of_getElem? (i := 4) rfl)), by decide, Or.inl ⟨rfl, by decide +kernel⟩, by decide +kernel, by decide +kernel, rfl⟩) (fn)))) (fun argv M Qp h => T_L_told h)
def k_L_wish : eg_C := ([(0, .aload 4, 2), (2, .iconst 0, 1), (3, .aload_n 0, 1), (4, .iload_n 1, 1), (5, .iload_n 2, 1), (6, .iload_n 3, 1), (7, .invokevirtual 58, 3), (10, .ifCond .eq 7, 3), (13, .lconst 1, 1), (14, .goto 4, 3), (17, .lconst 0, 1), (18, .lastore, 1), (19, .goto 7, 3), (22, .astore 5, 2), (24, .iconst 1, 1), (25, .ireturn, 1), (26, .iconst 0, 1), (27, .ireturn, 1)], [], [], [(58, 3 + 1, 1, 6, s_X11_wish)], [], 1, 1, 6)
theorem mk_L_wish : ∀ q ∈ k_L_wish.2.2.2.1, eg_mono q.2.2.2.2 := (fc (mo_X11_wish) (fn))
def s_L_wish : eg_S := fun argv M Qp => match argv with
  | [.ref 0, .int a, .int b, .int c, .ref 177] => s_X11_wish [.ref 0, .int a, .int b, .int c] M (fun r N => match r with
    | .inl (some (.int v)) => (v = 0 → Qp (.inl (some (.int (nI 0)))) (eg_sl N 177 (nI 0).toNatClampNeg (lN 0))) ∧ (¬ v = 0 → Qp (.inl (some (.int (nI 0)))) (eg_sl N 177 (nI 0).toNatClampNeg (lN 1)))
    | .inr E => eg_PH [("java/util/NoSuchElementException", nI 1)] Qp (.inr E) N
    | _ => False)
  | _ => False
theorem mo_L_wish : eg_mono s_L_wish := by
  intro argv M Q Q' h
  unfold s_L_wish
  split
  · refine mo_X11_wish _ _ _ _ (fun r N hN => ?_)
    match r, hN with
    | .inl (some (.int v)), hN => exact ⟨fun z => h _ _ (hN.1 z), fun z => h _ _ (hN.2 z)⟩
    | .inr E, hN => exact eg_PH_mono h _ _ hN
  · exact id
theorem sz_L_wish : ∀ argv M Qp, s_L_wish argv M Qp → (eg_ls0 argv).length ≤ 6 := by
  intro argv M Qp h
  unfold s_L_wish at h
  split at h
  · exact Nat.le_of_ble_eq_true rfl
  · exact h.elim
set_option maxRecDepth 100000 in
theorem T_L_wish {argv : List Value} {M : eg_M} {Qp : eg_P} (h : s_L_wish argv M Qp) : eg_T wd k_L_wish (eg_PH [("java/util/NoSuchElementException", nI 1)] Qp) 0 0 0 (eg_lsN 6 argv) [] M := by
  unfold s_L_wish at h
  split at h
  · rename_i a b c
    refine eg_T_run mk_L_wish (cut := [7]) 12 (?_ : eg_T wd k_L_wish (eg_PH [("java/util/NoSuchElementException", nI 1)] Qp) 7 0 0 [some (.ref 0), some (.int a), some (.int b), some (.int c), some (.ref 177), none] ([.int c, .int b, .int a, .ref 0] ++ [.int (nI 0), .ref 177]) M)
    refine x_callV (j := 58) (n := 3 + 1) (kc := 1) (ks := 6) (S := s_X11_wish) mk_L_wish rfl rfl rfl rfl rfl rfl h mo_X11_wish (fun r N hN => ?_)
    match r, hN with
    | .inl (some (.int v)), hN =>
      refine eg_T_run mk_L_wish (cut := []) 10 ?_
      exact And.intro (fun z => And.intro (vp177 N) (And.intro (fun z => Bool.noConfusion z) (hN.1 z))) (fun z => And.intro (vp177 N) (And.intro (fun z => Bool.noConfusion z) (hN.2 z)))
    | .inr E, hN => exact hN
  · exact h.elim
theorem de_L_wish : ∀ q ∈ k_L_wish.1, decode cL_wish q.1 = .ok q.2 := by decide +kernel
theorem me_L_wish (g : gl_T) : MTL g yL_wish cL_wish 6 [(0, 19, 22, 13)] ⟨8, 1, 6, 136⟩ 1 6 s_L_wish := by
  intro hl
  exact eg_metH (k := k_L_wish) (pc0 := 7) (hl := [("java/util/NoSuchElementException", nI 1)]) (by decide) rfl ⟨Nat.le_refl _, Nat.le_refl _⟩ rfl sz_L_wish de_L_wish rfl rfl (fun p e s m args below meth c Q A ad0 N0 S0 hK hEx hA => (fc (mt_V hl S0 hK hEx.1 hA (me_X11_wish g) lm_RL_58 li_X11_wish lx_X11_wish ln_RX11 lc_X11_wish ⟨rfl, by decide, by decide, by decide +kernel⟩ ⟨rfl, rfl⟩ ⟨by decide, by decide⟩ (ci := 11) rfl rfl sr_X11_wish (by decide)) (fn))) rfl (by decide +kernel) (fun s args A H hE hts => (fc (⟨[], ⟨0, 19, 22, 13⟩, [], "java/util/NoSuchElementException", 5, 2, 1, rfl, (fun y h => absurd h List.not_mem_nil), rfl, by decide, hts _ (List.mem_cons_of_mem _ lq_RL_13), va_any (tx_bad_face _ (List.mem_of_getElem? (i := 3) rfl)).2 (hE.1.2.2.2.2.1 _ (List.mem_of_getElem? (i := 3) rfl)), by decide, Or.inl ⟨rfl, by decide +kernel⟩, by decide +kernel, by decide +kernel, rfl⟩) (fn))) (fun argv M Qp h => T_L_wish h)

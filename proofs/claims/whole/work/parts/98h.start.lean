/-! THE STATE AT THE LAW'S START -/
theorem t1_in {w : Cond} (h : w ∈ tables_1) : w ∈ lw_tbl := List.mem_append_right _ h
theorem ao_in : ∀ ty ∈ ao_t, Cond.arrayOver ty ∈ lw_tbl := fc (t1_in (List.mem_of_getElem? (i := 155) (by decide +kernel))) (fc (t1_in (List.mem_of_getElem? (i := 1302) (by decide +kernel))) (fc (t1_in (List.mem_of_getElem? (i := 466) (by decide +kernel))) (fc (t1_in (List.mem_of_getElem? (i := 339) (by decide +kernel))) fn)))
theorem st_K {args : Array Value} {s : State} (hts : ∀ w ∈ lw_tbl, w.before args s = true) : ∃ (D : va_G) (aC : Nat → ClassId), va_K D vwCl (eg_tys RX8 aC) s := by
  have hGT : ∀ w ∈ GT, w.before args s = true := fun w hw => hts w (List.mem_filter.mp hw).1
  have hC : ∀ c : Nat, ∃ x : ClassId × (Nat → Nat), ∀ q : vw_C, vwCl[c]? = some q → u_Kn s q.1 q.2.1 q.2.2 x.1 x.2 := by
    intro c
    match c with
    | 0 =>
      obtain ⟨cC, iS, h⟩ := u_known (ws := GT) (N := wd_n 0) hGT wd_c0.2.2.1 (hGT _ lz_X0)
      exact ⟨(cC, iS), fun q e => by cases e; exact h⟩
    | 1 =>
      obtain ⟨cC, iS, h⟩ := u_known (ws := GT) (N := wd_n 1) hGT wd_c1.2.2.1 (hGT _ lz_X1)
      exact ⟨(cC, iS), fun q e => by cases e; exact h⟩
    | 2 =>
      obtain ⟨cC, iS, h⟩ := u_known (ws := GT) (N := wd_n 2) hGT wd_c2.2.2.1 (hGT _ lz_X2)
      exact ⟨(cC, iS), fun q e => by cases e; exact h⟩
    | 3 =>
      obtain ⟨cC, iS, h⟩ := u_known (ws := GT) (N := wd_n 3) hGT wd_c3.2.2.1 (hGT _ lz_X3)
      exact ⟨(cC, iS), fun q e => by cases e; exact h⟩
    | 4 =>
      obtain ⟨cC, iS, h⟩ := u_known (ws := GT) (N := wd_n 4) hGT wd_c4.2.2.1 (hGT _ lz_X4)
      exact ⟨(cC, iS), fun q e => by cases e; exact h⟩
    | 5 =>
      obtain ⟨cC, iS, h⟩ := u_known (ws := GT) (N := wd_n 5) hGT wd_c5.2.2.1 (hGT _ lz_X5)
      exact ⟨(cC, iS), fun q e => by cases e; exact h⟩
    | 6 =>
      obtain ⟨cC, iS, h⟩ := u_known (ws := GT) (N := wd_n 6) hGT wd_c6.2.2.1 (hGT _ lz_X6)
      exact ⟨(cC, iS), fun q e => by cases e; exact h⟩
    | 7 =>
      obtain ⟨cC, iS, h⟩ := u_known (ws := GT) (N := wd_n 7) hGT wd_c7.2.2.1 (hGT _ lz_X7)
      exact ⟨(cC, iS), fun q e => by cases e; exact h⟩
    | 8 =>
      obtain ⟨cC, iS, h⟩ := u_known (ws := GT) (N := wd_n 8) hGT wd_c8.2.2.1 (hGT _ lz_X8)
      exact ⟨(cC, iS), fun q e => by cases e; exact h⟩
    | 9 =>
      obtain ⟨cC, iS, h⟩ := u_known (ws := GT) (N := wd_n 9) hGT wd_c9.2.2.1 (hGT _ lz_X9)
      exact ⟨(cC, iS), fun q e => by cases e; exact h⟩
    | 10 =>
      obtain ⟨cC, iS, h⟩ := u_known (ws := GT) (N := wd_n 10) hGT wd_c10.2.2.1 (hGT _ lz_X10)
      exact ⟨(cC, iS), fun q e => by cases e; exact h⟩
    | 11 =>
      obtain ⟨cC, iS, h⟩ := u_known (ws := GT) (N := wd_n 11) hGT wd_c11.2.2.1 (hGT _ lz_X11)
      exact ⟨(cC, iS), fun q e => by cases e; exact h⟩
    | 12 =>
      obtain ⟨cC, iS, h⟩ := u_known (ws := GT) (N := wd_n 12) hGT wd_c12.2.2.1 (hGT _ lz_X12)
      exact ⟨(cC, iS), fun q e => by cases e; exact h⟩
    | n + 13 => exact ⟨(0, fun _ => 0), fun q e => by cases e⟩
  obtain ⟨f, hf⟩ := Classical.axiomOfChoice hC
  obtain ⟨c1, k1, m1, a1, b1, d1⟩ := Cond.arrayClass_spec (hGT _ gt_aI)
  obtain ⟨c2, k2, m2, a2, b2, d2⟩ := Cond.arrayClass_spec (hGT _ gt_aJ)
  obtain ⟨c3, k3, m3, a3, b3, d3⟩ := Cond.arrayClass_spec (hGT _ gt_aZ)
  obtain ⟨m4, c4, k4, a4, b4, d4, e4, f4⟩ := Cond.arrayOver_spec (hts _ (ao_in _ (List.mem_of_getElem? (i := 0) rfl)))
  obtain ⟨m5, c5, k5, a5, b5, d5, e5, f5⟩ := Cond.arrayOver_spec (hts _ (ao_in _ (List.mem_of_getElem? (i := 1) rfl)))
  obtain ⟨m6, c6, k6, a6, d6, e6, f6⟩ := Cond.arrayOver_specA (hts _ (ao_in _ (List.mem_of_getElem? (i := 2) rfl)))
  obtain ⟨m7, c7, k7, a7, d7, e7, f7⟩ := Cond.arrayOver_specA (hts _ (ao_in _ (List.mem_of_getElem? (i := 3) rfl)))
  refine ⟨(fun c => (f c).1, fun c => (f c).2), fun n => match n with
    | 1 => c1
    | 2 => c2
    | 3 => c3
    | 4 => c4
    | 5 => c5
    | 6 => c6
    | _ => c7, fun c q hq => hf c q hq, fun k q hk => ?_⟩
  match k, hk with
  | 0, hk =>
    cases hk
    exact ⟨fun n z => ⟨(fun k h => by cases h), k1, b1, m1, d1⟩, a1⟩
  | 1, hk =>
    cases hk
    exact ⟨fun n z => ⟨(fun k h => by cases h), k2, b2, m2, d2⟩, a2⟩
  | 2, hk =>
    cases hk
    exact ⟨fun n z => ⟨(fun k h => by cases h), k3, b3, m3, d3⟩, a3⟩
  | 3, hk =>
    cases hk
    exact ⟨fun n z => ⟨(fun k h => by cases h), k4, d4, m4, e4⟩, k4, m4, d4, e4, a4, f4⟩
  | 4, hk =>
    cases hk
    exact ⟨fun n z => ⟨(fun k h => by cases h), k5, d5, m5, e5⟩, k5, m5, d5, e5, a5, f5⟩
  | 5, hk =>
    cases hk
    exact ⟨fun n z => ⟨(fun k h => by cases h), k6, d6, m6, e6⟩, f6⟩
  | 6, hk =>
    cases hk
    exact ⟨fun n z => ⟨(fun k h => by cases h), k7, d7, m7, e7⟩, f7⟩
  | n + 7, hk => cases hk
theorem st_wx {args : Array Value} {s : State} {A : Nat → Prop} (hgv : (Jvm.Cond.and given_1 narrow_1).before args s = true) (hts : ∀ w ∈ lw_tbl, w.before args s = true) (hA : ∀ a : Nat, a < s.heap.size → ¬ A a) : ∃ adK adV : Nat → Nat, wx adK adV A s s.heap ∧ wx0 adK adV A s s.heap ∧ wxL adK adV A s s.heap := by
  have ht1 : ∀ w ∈ tables_1, w.before args s = true := fun w hw => hts w (t1_in hw)
  have hF : ∀ w ∈ na_F, w.before args s = true := flat_of_before _ hgv
  obtain ⟨adK, adV, hS, hR⟩ := st_texts hgv ht1 hA
  have hw : wx adK adV A s s.heap := by
    refine ⟨hS, vx_Zqof (ht1 _ (List.mem_of_getElem? (i := 765) (by decide +kernel))) (ht1 _ (List.mem_of_getElem? (i := 15) (by decide +kernel))) (hF _ (List.mem_of_getElem? (i := 4) (by decide +kernel))) hA, vx_Zqof (ht1 _ (List.mem_of_getElem? (i := 767) (by decide +kernel))) (ht1 _ (List.mem_of_getElem? (i := 15) (by decide +kernel))) (hF _ (List.mem_of_getElem? (i := 5) (by decide +kernel))) hA, hR, fun w hw => va_tabs (tx_bad_face w hw).2 rfl (hts w (tx_bad_in w hw)), va_Zof (ht1 _ (List.mem_of_getElem? (i := 934) (by decide +kernel))) (ht1 _ (List.mem_of_getElem? (i := 21) (by decide +kernel))) (va_eqi (hF _ (List.mem_of_getElem? (i := 6) (by decide +kernel)))) hA, va_Zqof (ht1 _ (List.mem_of_getElem? (i := 950) (by decide +kernel))) (ht1 _ (List.mem_of_getElem? (i := 23) (by decide +kernel))) (hF _ (List.mem_of_getElem? (i := 7) (by decide +kernel))) hA, fun q hq => ?_⟩
    exact hts _ (tx_nst_in q hq)
  exact ⟨adK, adV, hw, ⟨hw, fun ty hty => hts _ (ao_in ty hty)⟩, hw, va_Nc.of (args := args) (hF _ (List.mem_of_getElem? (i := 24) (by decide +kernel)))⟩

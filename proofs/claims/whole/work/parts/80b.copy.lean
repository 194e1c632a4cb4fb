/-! Arrays.copyOf of ints -/
def k_cpy : eg_C := ([(13, .areturn, 1), (14, .iload_n 1, 1), (15, .newarray .int, 2), (17, .astore_n 2, 1), (18, .aload_n 0, 1), (19, .iconst 0, 1), (20, .aload_n 2, 1), (21, .iconst 0, 1), (22, .aload_n 0, 1), (23, .arraylength, 1), (24, .iload_n 1, 1), (25, .invokestatic 304, 3), (28, .invokestatic 150, 3), (31, .aload_n 2, 1), (32, .areturn, 1)], [], [], [(304 + 100000, 2, 0, 0, s_J9_min_7cf53), (150 + 100000, 5, 0, 0, s_acp), (300001, 1, 1, 400, s_newa wd 1 400)], [], 4, 1, 400)
theorem mk_cpy : ∀ q ∈ k_cpy.2.2.2.1, eg_mono q.2.2.2.2 := fc mo_J9_min_7cf53 (fc mo_acp (fc (mo_newa wd 1 400) fn))
theorem de_cpy : ∀ q ∈ k_cpy.1, decode cJ7_copyOf_59c91 q.1 = .ok q.2 := by decide +kernel
def s_J7_copyOf_59c91 : eg_S := fun argv M Qp => match argv with
  | [.ref a, .int x] => (eg_is wd M a 1 = true ∧ ¬ x < 0 ∧ x.toNatClampNeg ≤ eg_len wd M a ∧ eg_len wd M a ≤ 400) ∧ ∀ (f : Nat → Int32), (∀ j, j < x.toNatClampNeg → f j = eg_gi M a j) → Qp (.inl (some (.ref (eg_N wd M)))) (eg_rw (eg_new wd M (1, x.toNatClampNeg, [])) (eg_N wd M) f)
  | _ => False
theorem mo_J7_copyOf_59c91 : eg_mono s_J7_copyOf_59c91 := by
  intro argv M Q Q' h
  unfold s_J7_copyOf_59c91
  split
  · exact fun z => ⟨z.1, fun f y => h _ _ (z.2 f y)⟩
  · exact id
set_option maxRecDepth 100000 in
theorem T_cp13 {Qp : eg_P} {M : eg_M} {ls : List (Option Value)} {q : Nat} (hq : Qp (.inl (some (.ref q))) M) : eg_T wd k_cpy Qp 13 1 400 ls [.ref q] M := by
  refine eg_T_run mk_cpy (cut := []) 1 ?_
  exact hq
set_option maxRecDepth 100000 in
theorem T_cp14 {Qp : eg_P} {M : eg_M} {a n : Nat} (h1 : eg_is wd M a 1 = true) (h3 : n ≤ eg_len wd M a) (h4 : eg_len wd M a ≤ 400) (hq : ∀ (f : Nat → Int32), (∀ j, j < n → f j = eg_gi M a j) → Qp (.inl (some (.ref (eg_N wd M)))) (eg_rw (eg_new wd M (1, n, [])) (eg_N wd M) f)) : eg_T wd k_cpy Qp 14 0 0 [some (.ref a), some (.int (nI n)), none] [] M := by
  have ka := eg_is_out h1
  have hlt : a < eg_N wd M := eg_lt_of ka (by omega)
  have hn : (nI n).toNatClampNeg = n := n_c (by omega)
  have hs : eg_sh wd (eg_new wd M (1, (nI n).toNatClampNeg, [])) a = eg_sh wd M a := eg_sh_new_lt hlt
  have hl : eg_len wd (eg_new wd M (1, (nI n).toNatClampNeg, [])) a = eg_len wd M a := by
    unfold eg_len
    rw [hs]
  have hm : (if nI n < nI (eg_len wd (eg_new wd M (1, (nI n).toNatClampNeg, [])) a) then nI n else nI (eg_len wd (eg_new wd M (1, (nI n).toNatClampNeg, [])) a)) = nI n := by
    rw [hl]
    split
    · rfl
    · rename_i z
      rw [n_lt (by omega) (by omega)] at z
      rw [show eg_len wd M a = n by omega]
  refine eg_T_run mk_cpy (cut := []) 20 ?_
  refine And.intro ⟨fun z => ?_, by rw [hn]; omega, by decide⟩ ?_
  · have : nI 0 ≤ nI n := (n_le (by decide) (by omega)).mpr (Nat.zero_le _)
    exact absurd z (Int32.not_lt.mpr this)
  refine eg_need_of (show (Nat.ble 1 (eg_sh wd (eg_new wd M (1, (nI n).toNatClampNeg, [])) a).1 && Nat.ble (eg_sh wd (eg_new wd M (1, (nI n).toNatClampNeg, [])) a).1 7) = true by rw [hs, ka]; rfl) ?_
  have k0 : (nI 0).toNatClampNeg = 0 := n_c (by decide)
  refine And.intro (show eg_is wd (eg_new wd M (1, (nI n).toNatClampNeg, [])) a 1 = true ∧ eg_is wd (eg_new wd M (1, (nI n).toNatClampNeg, [])) (eg_N wd M) 1 = true ∧ ¬ nI 0 < 0 ∧ ¬ nI 0 < 0 ∧ ¬ (if nI n < nI (eg_len wd (eg_new wd M (1, (nI n).toNatClampNeg, [])) a) then nI n else nI (eg_len wd (eg_new wd M (1, (nI n).toNatClampNeg, [])) a)) < 0 ∧ (nI 0).toNatClampNeg + (if nI n < nI (eg_len wd (eg_new wd M (1, (nI n).toNatClampNeg, [])) a) then nI n else nI (eg_len wd (eg_new wd M (1, (nI n).toNatClampNeg, [])) a)).toNatClampNeg ≤ eg_len wd (eg_new wd M (1, (nI n).toNatClampNeg, [])) a ∧ (nI 0).toNatClampNeg + (if nI n < nI (eg_len wd (eg_new wd M (1, (nI n).toNatClampNeg, [])) a) then nI n else nI (eg_len wd (eg_new wd M (1, (nI n).toNatClampNeg, [])) a)).toNatClampNeg ≤ eg_len wd (eg_new wd M (1, (nI n).toNatClampNeg, [])) (eg_N wd M) from ?_) ?_
  · rw [hm]
    refine ⟨?_, ?_, by decide, by decide, fun z => ?_, ?_, ?_⟩
    · unfold eg_is
      rw [hs, ka]
      rfl
    · unfold eg_is
      rw [eg_sh_new_eq]
      rfl
    · have : nI 0 ≤ nI n := (n_le (by decide) (by omega)).mpr (Nat.zero_le _)
      exact absurd z (Int32.not_lt.mpr this)
    · rw [hl, hn, k0]
      omega
    · unfold eg_len
      rw [eg_sh_new_eq, hn, k0]
      show 0 + n ≤ n
      omega
  · show Qp (.inl (some (.ref (eg_N wd M)))) (eg_rw (eg_new wd M (1, (nI n).toNatClampNeg, [])) (eg_N wd M) (va_cpy ((eg_new wd M (1, (nI n).toNatClampNeg, [])).2.1 a) ((eg_new wd M (1, (nI n).toNatClampNeg, [])).2.1 (eg_N wd M)) (nI 0).toNatClampNeg (nI 0).toNatClampNeg (if nI n < nI (eg_len wd (eg_new wd M (1, (nI n).toNatClampNeg, [])) a) then nI n else nI (eg_len wd (eg_new wd M (1, (nI n).toNatClampNeg, [])) a)).toNatClampNeg))
    rw [hm, hn, k0]
    refine hq _ (fun j hj => ?_)
    unfold va_cpy
    rw [if_pos (by omega), (eg_new_i (show ¬ a = eg_N wd M by omega)).1]
    show M.2.1 a _ = M.2.1 a j
    rw [show 0 + (j - 0) = j by omega]
theorem l_cp1 : Cond.arrayClass .int ∈ GT := gt_at 65 gt_1 rfl rfl
theorem l_cp2 : Cond.methodLink RJ7 316 ⟨"[I", "clone", "()Ljava/lang/Object;"⟩ ∈ GT := gt_at 90 gt_5 rfl rfl
theorem l_cp3 : Cond.sameMethod "[I" "java/lang/Object" "clone" "()Ljava/lang/Object;" ∈ GT := gt_at 91 gt_5 rfl rfl
theorem l_cp4 : Cond.native ⟨"java/lang/Object", "clone", "()Ljava/lang/Object;"⟩ ∈ GT := gt_at 92 gt_5 rfl rfl
theorem l_cp5 : Cond.instanceMethod ⟨"java/lang/Object", "clone", "()Ljava/lang/Object;"⟩ ∈ GT := gt_at 93 gt_5 rfl rfl
theorem l_cp6 : Cond.selects "[I" ⟨"[I", "clone", "()Ljava/lang/Object;"⟩ ⟨"java/lang/Object", "clone", "()Ljava/lang/Object;"⟩ ∈ GT := gt_at 94 gt_5 rfl rfl
theorem l_cp7 : Cond.classLink RJ7 317 "[I" ∈ GT := gt_at 96 gt_5 rfl rfl
section CPM
variable {g : gl_T} {p : Program} {e : Env} {R : Room} {s : State} {m : MethodId} {args : Array Value} {below : List Frame} {meth : Method} {c : Code} {Q : State → Prop} {A : Nat → Prop} {nL N0 : Nat} {ad0 : Nat → Nat} {cc : ByteArray} {own : String} {x : Cond} {j ks : Nat}
theorem mt_newi (S0 : CallFix p m c cc nL s args (x :: GT) own) (hK : va_K g.2.1 vwCl (eg_tys RX8 g.2.2.1) s) (hA : ∀ q, s.heap.size ≤ q → A q) : eg_CK p g.1 e R s m args below meth c Q wd g.2.1 vwCl g.2.2.1 g.2.2.2.1 A nL ad0 N0 cc (300001, 1, 1, ks, s_newa wd 1 ks) := by
  refine ⟨fun z => absurd z (show ¬ 300001 < 100000 by decide), fun _ z => absurd z (show ¬ 300001 < 200000 by decide), fun _ => ⟨fun z => absurd z (show ¬ 300001 < 300000 by decide), fun _ => ?_⟩⟩
  exact eg_CE_newi S0 hK hA (S0.2.2.2.2 _ (List.mem_cons_of_mem _ l_cp1))
end CPM
/-- the row that is made is filled at once -/
theorem eg_H_newf {w : eg_W} {D : va_G} {cl : List vw_C} {aC : Nat → ClassId} {adK : Nat → Nat} {A : Nat → Prop} {N0 : Nat} {ad0 : Nat → Nat} {H0 H H1 : Heap} {ad : Nat → Nat} {M : eg_M} {locs : List Loc} {n q : Nat} {f : Nat → Int32} (hH : eg_H w D cl aC adK A H0 ad0 N0 ad M H locs)
    (k2 : va_P D cl (eg_ws w aC adK ad M ++ [(q, .inl (aC 1, n, .inl f))]) H1) (k3 : va_D A (eg_ws w aC adK ad M ++ [(q, .inl (aC 1, n, .inl f))])) (k4 : va_S A H0 H1 locs) : eg_ws w aC adK (eg_ad ad (eg_N w M) q) (eg_rw (eg_new w M (1, n, [])) (eg_N w M) f) = eg_ws w aC adK ad M ++ [(q, .inl (aC 1, n, .inl f))] ∧ eg_H w D cl aC adK A H0 ad0 N0 (eg_ad ad (eg_N w M) q) (eg_rw (eg_new w M (1, n, [])) (eg_N w M) f) H1 locs := by
  have hws := eg_ws_new (aC := aC) (adK := adK) (ad := ad) (x := (1, n, [])) (q := q) hH.2.2.2.1
  have hrw := eg_ws_rw (w := w) (aC := aC) (adK := adK) (ad := eg_ad ad (eg_N w M) q) (M := eg_new w M (1, n, [])) (p0 := eg_N w M) (f := f) (by rw [eg_sh_new_eq])
  have hlen : (eg_ws w aC adK ad M).length = eg_N w M := by
    unfold eg_ws
    rw [List.length_map, List.length_range]
  have e1 : eg_ws w aC adK (eg_ad ad (eg_N w M) q) (eg_rw (eg_new w M (1, n, [])) (eg_N w M) f) = eg_ws w aC adK ad M ++ [(q, .inl (aC 1, n, .inl f))] := by
    rw [hrw, hws, eg_sh_new_eq, show eg_ad ad (eg_N w M) q (eg_N w M) = q from if_pos rfl, List.set_append_right _ _ (by omega), hlen, Nat.sub_self]
    rfl
  refine ⟨e1, by rw [e1]; exact k2, by rw [e1]; exact k3, k4, eg_wf_new (x := (1, n, [])) hH.2.2.2.1 (show 1 ≤ 5 by decide) rfl, ?_⟩
  show eg_x ad0 N0 (eg_ad ad (eg_N w M) q) (eg_N w (eg_new w M (1, n, [])))
  rw [eg_N_new]
  exact eg_x_trans hH.2.2.2.2 (eg_ad_x _ _ _)
set_option maxHeartbeats 4000000 in
theorem me_J7_copyOf_59c91 (g : gl_T) : MT g yJ7_copyOf_59c91 cJ7_copyOf_59c91 3 (some (.array .int)) ⟨2, 1, 400, 60⟩ 1 400 s_J7_copyOf_59c91 := by
  intro hl ad argv M Qp sz hS hwf hav
  refine vx_ofW (cc := cJ7_copyOf_59c91) (maxL := 3) (ret := some (.array .int)) (by decide) rfl ?_
  intro p e s m args below meth c s₁ B hml hout hv
  obtain ⟨rfl, hsz, hP, hD0, hK, hEx⟩ := hv
  have hts := atoms_spec (ws := Cond.code yJ7_copyOf_59c91 cJ7_copyOf_59c91 3 (some (.array .int)) :: GT) B.pre
  have hown : s.vm.findClass RJ7 = some m.cls := findClass_of_methodNamed B.named
  subst hsz
  have hD := hD0.self (sz := s.heap.size)
  have hA : ∀ q : Nat, s.heap.size ≤ q → va_A (eg_ws wd g.2.2.1 g.2.2.2.1 ad M) s.heap.size q := fun q h => Or.inr h
  have hfix : CallFix p m c cJ7_copyOf_59c91 3 s (argv.map (eg_cv ad g.2.2.2.1)).toArray (Cond.code yJ7_copyOf_59c91 cJ7_copyOf_59c91 3 (some (.array .int)) :: GT) RJ7 := ⟨B.exec, B.bytes, hml, hown, hts⟩
  have hPX : ∀ (E : String) (N : eg_M) (ad' : Nat → Nat) (H : Heap) (locs : List Loc), Qp (.inr E) N → eg_H wd g.2.1 vwCl g.2.2.1 g.2.2.2.1 (va_A (eg_ws wd g.2.2.1 g.2.2.2.1 ad M) s.heap.size) s.heap ad (eg_N wd M) ad' N H locs → ∀ t : State, t.heap = H → s.vm.Alike t.vm → eg_XC wd g.2.1 vwCl g.2.2.1 g.2.2.2.1 ad M Qp s.heap.size E s t :=
    fun E N ad' H locs hQ hH t ht _ => ⟨N, ad', hQ, by rw [ht]; exact hH.1, hH.2.1, hH.2.2.2.1, hH.2.2.2.2, hH.2.2.1.F ht⟩
  have sound : ∀ {pc cu su : Nat} {ls : List (Option Value)} {st : List Value} {N : eg_M}, eg_T wd k_cpy Qp pc cu su ls st N → eg_G p g.1 e ⟨2, 1, 400, 60⟩ s m (argv.map (eg_cv ad g.2.2.2.1)).toArray below meth c (vx_MQ below (eg_Qc wd g.2.1 vwCl g.2.2.1 g.2.2.2.1 ad M Qp s.heap.size) (eg_XC wd g.2.1 vwCl g.2.2.1 g.2.2.2.1 ad M Qp s.heap.size) (argv.map (eg_cv ad g.2.2.2.1)).toArray s 1 400 (va_A (eg_ws wd g.2.2.1 g.2.2.2.1 ad M) s.heap.size)) wd g.2.1 vwCl g.2.2.1 g.2.2.2.1 (va_A (eg_ws wd g.2.2.1 g.2.2.2.1 ad M) s.heap.size) 3 ad (eg_N wd M) pc cu su ls st N := fun hT =>
    eg_sound (e := e) (below := below) (R := ⟨2, 1, 400, 60⟩) (k := k_cpy) (nL := 3) (P := Qp) B.exec B.bytes hts hown hK B.notSynchronized (by rw [B.returns]; exact ⟨_, rfl, Or.inr ⟨_, rfl⟩⟩) hout (Nat.le_refl _) (Nat.le_refl _) de_cpy fn fn
      (fc (mt_J9_min_7cf53 hfix lm_RJ7_304 (by decide) (by decide) (by decide)) (fc (mt_acp hfix hK l_acp5 (by decide) (by decide) (by decide)) (fc (mt_newi hfix hK hA) fn))) fn
      (fun v N ad' H locs hQ hH hvv t ht _ => ⟨v, N, ad', rfl, hQ, hvv, by rw [ht]; exact hH.1, hH.2.1, hH.2.2.2.1, hH.2.2.2.2, hH.2.2.1.F ht⟩) hPX hT
  have hH0 : eg_H wd g.2.1 vwCl g.2.2.1 g.2.2.2.1 (va_A (eg_ws wd g.2.2.1 g.2.2.2.1 ad M) s.heap.size) s.heap ad (eg_N wd M) ad M s.heap [] := ⟨hP, hD, va_S.rf, hwf, fun _ _ => rfl, Nat.le_refl _⟩
  unfold s_J7_copyOf_59c91 at hS
  split at hS
  · rename_i a x
    obtain ⟨⟨h1, h2, h3, h4⟩, hS⟩ := hS
    obtain ⟨n, hn, rfl⟩ := vp_in_of (x := x) (n := 401) (fun z => by rcases z with z | z; exact h2 z; omega) (by decide)
    have hnc : (nI n).toNatClampNeg = n := n_c (by omega)
    rw [hnc] at h3 hS
    have ka := eg_is_out h1
    have hgt : (eg_ws wd g.2.2.1 g.2.2.2.1 ad M)[a]? = some (ad a, .inl (g.2.2.1 1, eg_len wd M a, .inl (M.2.1 a))) := by rw [eg_ws_get (eg_lt_of ka (by omega)), eg_ent_i ka]
    have hL0 := eg_L.entry (ad := ad) (adK := g.2.2.2.1) (N := eg_N wd M) (nL := 3) (argv := [.ref a, .int (nI n)]) hav (Nat.le_of_ble_eq_true rfl)
    rw [lg_entry_eq]
    generalize (lg_sl (([Value.ref a, Value.int (nI n)] : List Value).map (eg_cv ad g.2.2.2.1)) ++ List.replicate (3 - (lg_sl (([Value.ref a, Value.int (nI n)] : List Value).map (eg_cv ad g.2.2.2.1))).length) Slot.unset).toArray = arr at hL0 ⊢
    have hl1 : arr[1]? = some (.val (.int (nI n))) := (hL0.2.2.2 1 (.int (nI n)) rfl).1
    have hl0 : arr[0]? = some (.val (.ref (ad a))) := (hL0.2.2.2 0 (.ref a) rfl).1
    refine lv_iload_n B.exec B.bytes (show decode cJ7_copyOf_59c91 0 = .ok (.iload_n 1, 1) by decide +kernel) rfl hl1 ?_
    refine lv_aload_n B.exec B.bytes (show decode cJ7_copyOf_59c91 1 = .ok (.aload_n 0, 1) by decide +kernel) rfl hl0 ?_
    refine va_alen B.exec B.bytes hK hP a 0 hgt rfl (v := nI (eg_len wd M a)) rfl (show decode cJ7_copyOf_59c91 2 = .ok (.arraylength, 1) by decide +kernel) ?_
    refine lv_icmp_ne B.exec B.bytes (show decode cJ7_copyOf_59c91 3 = .ok (.if_icmp .ne 11, 3) by decide +kernel) (tgt := 14) rfl (fun z => ?_) (fun z => ?_)
    · exact sound (T_cp14 h1 h3 h4 hS) ad s.heap [] arr hH0 hL0 (fun v hv => by cases hv)
    · have hnl : eg_len wd M a = n := ((n_eq (by omega) (by omega)).mp z).symm
      rw [hnl] at hgt
      refine lv_aload_n B.exec B.bytes (show decode cJ7_copyOf_59c91 6 = .ok (.aload_n 0, 1) by decide +kernel) rfl hl0 ?_
      refine va_clone B.exec B.bytes (hml.trans hL0.1.symm) hown (hts _ (List.mem_cons_of_mem _ l_cp2)) (hts _ (List.mem_cons_of_mem _ l_cp3)) (hts _ (List.mem_cons_of_mem _ l_cp4)) (hts _ (List.mem_cons_of_mem _ l_cp5)) (hts _ (List.mem_cons_of_mem _ l_cp6)) (hEx.2.2.2.2.1 _ (List.mem_of_getElem? (i := 5) rfl)) hK hP hD va_S.rf hA a 0 hgt rfl (va_nm_int (hK.2 0 _ rfl).2) (va_fit (fun i _ => rfl)) (by decide) (by decide) (by decide) (by show 0 + n ≤ 400; omega) (show decode cJ7_copyOf_59c91 7 = .ok (.invokevirtual 316, 3) by decide +kernel) (fun q H1 k1 k2 k3 k4 => ?_)
      obtain ⟨e1, hH1⟩ := eg_H_newf (n := n) (q := q) (f := M.2.1 a) hH0 k2 k3 k4
      have hx1 : eg_x ad (eg_N wd M) (eg_ad ad (eg_N wd M) q) (eg_N wd M + 1) := eg_ad_x _ _ _
      have hlen : (eg_ws wd g.2.2.1 g.2.2.2.1 ad M).length = eg_N wd M := by
        unfold eg_ws
        rw [List.length_map, List.length_range]
      refine va_castA B.exec B.bytes hown (hts _ (List.mem_cons_of_mem _ l_cp7)) k2 (eg_N wd M) (by rw [List.getElem?_append_right (by omega), hlen, Nat.sub_self]; rfl) (va_nm_int (hK.2 0 _ rfl).2) (show decode cJ7_copyOf_59c91 10 = .ok (.checkcast 317, 3) by decide +kernel) ?_
      have := sound (ls := eg_lsN 3 [.ref a, .int (nI n)]) (T_cp13 (hS (M.2.1 a) (fun j _ => rfl))) (eg_ad ad (eg_N wd M) q) H1 [] arr hH1 (by
        have := hL0.grown hx1
        have hN : eg_N wd (eg_rw (eg_new wd M (1, n, [])) (eg_N wd M) (M.2.1 a)) = eg_N wd M + 1 := eg_N_new
        rw [hN]
        exact this) (fun v hv => by
        cases List.mem_singleton.mp hv
        show eg_N wd M < eg_N wd (eg_new wd M (1, n, []))
        rw [eg_N_new]
        omega)
      have e9 : ([Value.ref (eg_N wd M)] : List Value).map (eg_cv (eg_ad ad (eg_N wd M) q) g.2.2.2.1) = [.ref q] := eg_rst (rest := []) hx1 (fun v hv => by cases hv)
      rw [e9] at this
      exact W.widen (by decide) (by show 0 + n ≤ 400; omega) this
  · exact hS.elim

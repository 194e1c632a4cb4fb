/-- the class: all but the reader and its rows is as it was -/
def k_fy (M N : eg_M) : Prop := N.1 = M.1 ∧ N.2.2 = M.2.2 ∧ ∀ q j, ¬ (27 ≤ q ∧ q ≤ 29) → ¬ q = 25 → eg_gi N q j = eg_gi M q j
theorem fy_fz {M N : eg_M} (h : k_fz M N) : k_fy M N := ⟨h.1, h.2.1, fun q j a b => h.2.2 q j a (fun z => b z.1)⟩
theorem fy_tr {M N O : eg_M} (h1 : k_fy M N) (h2 : k_fy N O) : k_fy M O := ⟨h2.1.trans h1.1, h2.2.1.trans h1.2.1, fun q j a b => (h2.2.2 q j a b).trans (h1.2.2 q j a b)⟩
theorem fy_st (M : eg_M) (a : Int32) : k_fy M (k_st M a) := ⟨rfl, rfl, fun q j _ b => by
  unfold k_st
  rw [si_g, if_neg (fun z => b z.1), si_g, if_neg (fun z => b z.1), si_g, if_neg (fun z => b z.1), si_g, if_neg (fun z => b z.1), si_g, if_neg (fun z => b z.1), si_g, if_neg (fun z => b z.1), si_g, if_neg (fun z => b z.1)]⟩
theorem fy_26 {M N : eg_M} (h : k_fy M N) : eg_gi N 26 = eg_gi M 26 := funext (fun j => h.2.2 26 j (by omega) (by decide))
def k_z0 (M : eg_M) : eg_M := eg_si (eg_si M 23 0 (nI 0)) 23 3 (-nI 1)
/-- the class: what hearing rules leaves -/
def k_hr (M : eg_M) (a b v : Int32) (M2 : eg_M) : Prop := (8 ≤ (eg_gi M 23 2).toNatClampNeg ∧ v = nI 9 ∧ M2 = k_z0 M) ∨ ((eg_gi M 23 2).toNatClampNeg < 8 ∧ ((∃ e, px_all (eg_gi M 26) a.toNatClampNeg = .inl e ∧ v = nI e.1 ∧ ∃ N, k_fy (k_z0 M) N ∧ M2 = eg_si N 23 3 (nI e.2)) ∨ ∃ t CL p r, px_all (eg_gi M 26) a.toNatClampNeg = .inr (t, CL, p, r) ∧ (∀ c ∈ CL, px_ko c) ∧ CL.length ≤ 12 ∧ px_pr p ∧ px_pr r ∧ v = nI 0 ∧ ∃ N, k_fy (k_z0 M) N ∧ k_tnw (eg_si N 23 2 (eg_gi M 23 2 + nI 1)) M2 (eg_gi M 23 2).toNatClampNeg b CL p r))
theorem rc_23 {N : eg_M} {v : Int32} {c : px_C} (h : k_rc N c) : k_rc (eg_si N 23 2 v) c := by
  obtain ⟨⟨n, hn, eN, h1⟩, h2, h3⟩ := h
  match c, h1, h3 with
  | .inl e, h1, h3 => exact ⟨⟨n, hn, eN, h1⟩, h2, h3⟩
  | .inr (t, CL, p, r), h1, h3 => exact ⟨⟨n, hn, eN, h1⟩, h2, h3⟩
def k_X10_hear : eg_C := ([(0, .aload_n 0, 1), (1, .iconst 0, 1), (2, .putfield 9, 3), (5, .aload_n 0, 1), (6, .iconst (-1), 1), (7, .putfield 24, 3), (10, .aload_n 0, 1), (11, .getfield 21, 3), (14, .bipush 8, 2), (16, .if_icmp .lt 6, 3), (19, .bipush 9, 2), (21, .ireturn, 1), (22, .aload_n 0, 1), (23, .getfield 30, 3), (26, .iload_n 1, 1), (27, .invokevirtual 46, 3), (30, .iconst 0, 1), (31, .istore_n 3, 1), (32, .iload_n 3, 1), (33, .bipush 12, 2), (35, .if_icmp .gt 27, 3), (38, .aload_n 0, 1), (39, .getfield 30, 3), (42, .invokevirtual 50, 3), (45, .ifCond .eq 17, 3), (48, .aload_n 0, 1), (49, .getfield 30, 3), (52, .iload_n 3, 1), (53, .invokevirtual 54, 3), (56, .iinc 3 1, 3), (59, .goto (-27), 3), (62, .aload_n 0, 1), (63, .getfield 30, 3), (66, .getfield 57, 3), (69, .ifCond .eq 22, 3), (72, .aload_n 0, 1), (73, .aload_n 0, 1), (74, .getfield 30, 3), (77, .getfield 60, 3), (80, .putfield 24, 3), (83, .aload_n 0, 1), (84, .getfield 30, 3), (87, .getfield 57, 3), (90, .ireturn, 1), (91, .aload_n 0, 1), (92, .getfield 17, 3), (95, .aload_n 0, 1), (96, .dup, 1), (97, .getfield 21, 3), (100, .dup_x1, 1), (101, .iconst 1, 1), (102, .iadd, 1), (103, .putfield 21, 3), (106, .aload_n 0, 1), (107, .getfield 30, 3), (110, .iload_n 2, 1), (111, .invokevirtual 63, 3), (114, .aastore, 1), (115, .iconst 0, 1), (116, .ireturn, 1)], [(9, 10, 0, true), (17, 10, 1, false), (21, 10, 2, true), (24, 10, 3, true), (30, 10, 4, false), (57, 7, 5, false), (60, 7, 6, false)], [], [(46, 1 + 1, 0, 0, s_X7_start), (50, 0 + 1, 0, 0, s_X7_hasMore), (54, 1 + 1, 0, 0, s_X7_readClause), (63, 1 + 1, 4, 1206, s_X7_textTold), (330000, 3, 0, 0, s_ast4 wd 8)], [], 1, 4, 1206)
theorem mk_X10_hear : ∀ q ∈ k_X10_hear.2.2.2.1, eg_mono q.2.2.2.2 := (fc (mo_X7_start) (fc (mo_X7_hasMore) (fc (mo_X7_readClause) (fc (mo_X7_textTold) (fc (mo_ast4 wd 8) (fn))))))
set_option maxRecDepth 100000 in
theorem st_X10_hear_0 {Qp : eg_P} {M : eg_M} (a : Int32) (b : Int32)
  (g0 : ((eg_gi M 23 2) < (nI 8)) → (∃ n, n ≤ 400 ∧ a = nI n))
  (l0 : ((eg_gi M 23 2) < (nI 8)) → eg_T wd k_X10_hear Qp 32 0 0 [some (.ref 23), some (.int a), some (.int b), some (.int (nI 0))] [] (k_ad (k_st (eg_si (eg_si M 23 0 (nI 0)) 23 3 (-nI 1)) a)))
  (l1 : (¬ (eg_gi M 23 2) < (nI 8)) → Qp (.inl (some (.int (nI 9)))) (eg_si (eg_si M 23 0 (nI 0)) 23 3 (-nI 1))) :
  eg_T wd k_X10_hear Qp 0 0 0 [some (.ref 23), some (.int a), some (.int b), none] [] M := by
  refine eg_T_run mk_X10_hear (cut := [32, 56, 62, 114]) 63 ?_
  refine And.intro (fun (c1 : (eg_gi M 23 2) < (nI 8)) => ?_) (fun (c1 : ¬ (eg_gi M 23 2) < (nI 8)) => ?_)
  · skip
    refine And.intro (show (∃ n, n ≤ 400 ∧ a = nI n) from ?_) ?_
    · exact g0 c1
    show eg_T wd k_X10_hear Qp 32 0 0 [some (.ref 23), some (.int a), some (.int b), some (.int (nI 0))] [] (k_ad (k_st (eg_si (eg_si M 23 0 (nI 0)) 23 3 (-nI 1)) a))
    exact l0 c1
  · skip
    refine And.intro (fun z => absurd z (by decide)) ?_
    show Qp (.inl (some (.int (nI 9)))) (eg_si (eg_si M 23 0 (nI 0)) 23 3 (-nI 1))
    exact l1 c1

set_option maxRecDepth 100000 in
theorem st_X10_hear_32 {Qp : eg_P} {M : eg_M} (o1 : Option Value) (b : Int32) (x3 : Int32)
  (g0 : (¬ ((nI 12) < x3)) → (¬ (¬ (¬ (eg_gi M 25 2) = (-nI 1) ∧ ¬ (eg_gi M 25 2) = (-nI 4)))) → ((∃ t S, k_rs M (.inr (t, S))) ∧ k_tb M ∧ eg_cn (eg_gi M 25 11) 12))
  (l0 : ((nI 12) < x3 ∨ (¬ (¬ (eg_gi M 25 2) = (-nI 1) ∧ ¬ (eg_gi M 25 2) = (-nI 4)))) → eg_T wd k_X10_hear Qp 62 0 0 [some (.ref 23), o1, some (.int b), some (.int x3)] [] M)
  (l1 : (¬ (nI 12) < x3 ∧ ((¬ (eg_gi M 25 2) = (-nI 1) ∧ ¬ (eg_gi M 25 2) = (-nI 4)))) → ∀ (M2_1 : eg_M), (k_fz M M2_1 ∧ (∀ s, k_rs M s → k_rs M2_1 (px_clS (eg_gi M 26) (eg_gi M 25 1).toNatClampNeg (decide (x3 < nI 12)) s)) ∧ eg_cn (eg_gi M2_1 25 11) 12 ∧ (eg_gi M2_1 25 5 = 0 → k_kz M M2_1)) → eg_T wd k_X10_hear Qp 56 0 0 [some (.ref 23), o1, some (.int b), some (.int x3)] [] M2_1) :
  eg_T wd k_X10_hear Qp 32 0 0 [some (.ref 23), o1, some (.int b), some (.int x3)] [] M := by
  refine eg_T_run mk_X10_hear (cut := [32, 56, 62, 114]) 63 ?_
  refine And.intro (fun (c1 : (nI 12) < x3) => ?_) (fun (c1 : ¬ (nI 12) < x3) => ?_)
  · skip
    show eg_T wd k_X10_hear Qp 62 0 0 [some (.ref 23), o1, some (.int b), some (.int x3)] [] M
    exact l0 (Or.inl c1)
  · skip
    refine And.intro (show (True) from ?_) ?_
    · exact trivial
    refine And.intro (fun (c2 : (b2i (decide (¬ (eg_gi M 25 2) = (-nI 1) ∧ ¬ (eg_gi M 25 2) = (-nI 4)))) = 0) => ?_) (fun (c2 : ¬ (b2i (decide (¬ (eg_gi M 25 2) = (-nI 1) ∧ ¬ (eg_gi M 25 2) = (-nI 4)))) = 0) => ?_)
    · replace c2 := b2i_d0.mp c2
      show eg_T wd k_X10_hear Qp 62 0 0 [some (.ref 23), o1, some (.int b), some (.int x3)] [] M
      exact l0 (Or.inr c2)
    · replace c2 := b2i_dn.mp c2
      refine And.intro (show ((∃ t S, k_rs M (.inr (t, S))) ∧ k_tb M ∧ eg_cn (eg_gi M 25 11) 12) from ?_) ?_
      · exact g0 c1 c2
      intro M2_1 ha_1
      show eg_T wd k_X10_hear Qp 56 0 0 [some (.ref 23), o1, some (.int b), some (.int x3)] [] M2_1
      exact l1 ⟨c1, (Classical.byContradiction c2)⟩ M2_1 ha_1

set_option maxRecDepth 100000 in
theorem st_X10_hear_56 {Qp : eg_P} {M : eg_M} (o1 : Option Value) (b : Int32) (x3 : Int32)
  (l0 : eg_T wd k_X10_hear Qp 32 0 0 [some (.ref 23), o1, some (.int b), some (.int (x3 + (nI 1)))] [] M) :
  eg_T wd k_X10_hear Qp 56 0 0 [some (.ref 23), o1, some (.int b), some (.int x3)] [] M := by
  refine eg_T_run mk_X10_hear (cut := [32, 56, 62, 114]) 63 ?_
  show eg_T wd k_X10_hear Qp 32 0 0 [some (.ref 23), o1, some (.int b), some (.int (x3 + (nI 1)))] [] M
  exact l0

set_option maxRecDepth 100000 in
theorem st_X10_hear_62 {Qp : eg_P} {M : eg_M} (o1 : Option Value) (b : Int32) (o3 : Option Value)
  (g0 : ((eg_gi M 25 5) = 0) → (eg_cn (eg_gi (eg_si M 23 2 ((eg_gi M 23 2) + (nI 1))) 25 11) 12 ∧ eg_cn (eg_gi (eg_si M 23 2 ((eg_gi M 23 2) + (nI 1))) 25 8) 400))
  (l0 : ((eg_gi M 25 5) = 0) → ∀ (f3_1 : Nat → Int32) (f4_1 : Nat → Int32) (f5_1 : Nat → Int32), ((∀ j, j < (eg_gi (eg_si M 23 2 ((eg_gi M 23 2) + (nI 1))) 25 11).toNatClampNeg → f3_1 j = eg_gi (eg_si M 23 2 ((eg_gi M 23 2) + (nI 1))) 28 j ∧ f4_1 j = eg_gi (eg_si M 23 2 ((eg_gi M 23 2) + (nI 1))) 29 j) ∧ ∀ j, j < (eg_gi (eg_si M 23 2 ((eg_gi M 23 2) + (nI 1))) 25 8).toNatClampNeg → f5_1 j = eg_gi (eg_si M 23 2 ((eg_gi M 23 2) + (nI 1))) 27 j) → eg_T wd k_X10_hear Qp 114 4 1206 [some (.ref 23), o1, some (.int b), o3] [.ref (eg_N wd (eg_si M 23 2 ((eg_gi M 23 2) + (nI 1)))), .int (eg_gi M 23 2), .ref 24] (k_tt (eg_si M 23 2 ((eg_gi M 23 2) + (nI 1))) b f3_1 f4_1 f5_1))
  (l1 : (¬ (eg_gi M 25 5) = 0) → Qp (.inl (some (.int (eg_gi M 25 5)))) (eg_si M 23 3 (eg_gi M 25 6))) :
  eg_T wd k_X10_hear Qp 62 0 0 [some (.ref 23), o1, some (.int b), o3] [] M := by
  refine eg_T_run mk_X10_hear (cut := [32, 56, 62, 114]) 63 ?_
  refine And.intro (fun (c1 : (eg_gi M 25 5) = 0) => ?_) (fun (c1 : ¬ (eg_gi M 25 5) = 0) => ?_)
  · skip
    refine And.intro (show (eg_cn (eg_gi (eg_si M 23 2 ((eg_gi M 23 2) + (nI 1))) 25 11) 12 ∧ eg_cn (eg_gi (eg_si M 23 2 ((eg_gi M 23 2) + (nI 1))) 25 8) 400) from ?_) ?_
    · exact g0 c1
    intro f3_1 f4_1 f5_1 ha_1
    show eg_T wd k_X10_hear Qp 114 4 1206 [some (.ref 23), o1, some (.int b), o3] [.ref (eg_N wd (eg_si M 23 2 ((eg_gi M 23 2) + (nI 1)))), .int (eg_gi M 23 2), .ref 24] (k_tt (eg_si M 23 2 ((eg_gi M 23 2) + (nI 1))) b f3_1 f4_1 f5_1)
    exact l0 c1 f3_1 f4_1 f5_1 ha_1
  · skip
    refine And.intro (fun z => absurd z (by decide)) ?_
    show Qp (.inl (some (.int (eg_gi M 25 5)))) (eg_si M 23 3 (eg_gi M 25 6))
    exact l1 c1

set_option maxRecDepth 100000 in
theorem st_X10_hear_114 {Qp : eg_P} {M : eg_M} (o0 : Option Value) (o1 : Option Value) (o2 : Option Value) (o3 : Option Value) (s0 : Nat) (s1 : Int32)
  (g0 : (eg_is wd M 24 4 = true ∧ eg_isO wd M s0 8 = true ∧ vp_in s1 (eg_len wd M 24)))
  (l0 : Qp (.inl (some (.int (nI 0)))) (eg_sr M 24 s1.toNatClampNeg (some (s0)))) :
  eg_T wd k_X10_hear Qp 114 4 1206 [o0, o1, o2, o3] [.ref s0, .int s1, .ref 24] M := by
  refine eg_T_run mk_X10_hear (cut := [32, 56, 62, 114]) 63 ?_
  refine And.intro (show eg_is wd M 24 4 = true ∧ eg_isO wd M s0 8 = true ∧ vp_in s1 (eg_len wd M 24) from ?_) ?_
  · exact g0
  refine And.intro (fun z => absurd z (by decide)) ?_
  show Qp (.inl (some (.int (nI 0)))) (eg_sr M 24 s1.toNatClampNeg (some (s0)))
  exact l0

def s_X10_hear : eg_S := fun argv M Qp => match argv with
  | [.ref 23, .int a, .int b] => ((∃ n, n ≤ 400 ∧ a = nI n) ∧ k_tb M ∧ eg_cn (eg_gi M 23 2) 8) ∧ ∀ (v : Int32) (M2 : eg_M), (k_hr M a b v M2) → Qp (.inl (some (.int (v)))) M2
  | _ => False
theorem mo_X10_hear : eg_mono s_X10_hear := by
  intro argv M Q Q' h
  unfold s_X10_hear
  split
  · exact fun z => ⟨z.1, fun v M2 y => h _ _ (z.2 v M2 y)⟩
  · exact id
theorem sz_X10_hear : ∀ argv M Qp, s_X10_hear argv M Qp → (eg_ls0 argv).length ≤ 4 := by
  intro argv M Qp h
  unfold s_X10_hear at h
  split at h
  · exact Nat.le_of_ble_eq_true rfl
  · exact h.elim
theorem sr_X10_hear : ∀ argv M Qp, s_X10_hear argv M Qp → ∃ p0 As, argv = .ref p0 :: As ∧ eg_isO wd M p0 10 = true := by
  intro argv M Qp h
  unfold s_X10_hear at h
  split at h
  · exact ⟨_, _, rfl, rfl⟩
  · exact h.elim
set_option maxRecDepth 100000 in
set_option maxHeartbeats 1000000 in
theorem T_X10_hear {argv : List Value} {M : eg_M} {Qp : eg_P} (h : s_X10_hear argv M Qp) : eg_T wd k_X10_hear Qp 0 0 0 (eg_lsN 4 argv) [] M := by
  unfold s_X10_hear at h
  split at h
  · rename_i a b
    obtain ⟨hp, hq⟩ := h
    obtain ⟨⟨n, hn, rfl⟩, hT, x, hx, ex⟩ := hp
    have hxc : (eg_gi M 23 2).toNatClampNeg = x := by rw [ex, n_c (by omega)]
    unfold k_hr at hq
    rw [n_c (show n < 2 ^ 31 by omega), hxc] at hq
    have f62 : ∀ N c (o1 o3 : Option Value), x < 8 → k_fy (k_z0 M) N → k_rc N c → px_ok (eg_gi M 26) n c → px_all (eg_gi M 26) n = c → eg_T wd k_X10_hear Qp 62 0 0 [some (.ref 23), o1, some (.int b), o3] [] N := by
      intro N c o1 o3 hx8 hy hc ho ha
      have e2 : eg_gi N 23 2 = eg_gi M 23 2 := hy.2.2 23 2 (by omega) (by decide)
      match c, hc, ho, ha with
      | .inl e, hc, ho, ha =>
        obtain ⟨⟨n9, hn9, eN9, k1, k2, k3, k4, k5, k6, k7⟩, _⟩ := hc
        have k0 : ¬ eg_gi N 25 5 = 0 := by
          rw [k4]
          exact nI_ne0 (by omega) (by omega)
        refine st_X10_hear_62 o1 b o3 (fun z => absurd z k0) (fun z => absurd z k0) (fun _ => ?_)
        rw [k4, k5]
        exact hq _ _ (Or.inr ⟨hx8, Or.inl ⟨e, ha, rfl, N, hy, rfl⟩⟩)
      | .inr (t, CL, p, r), hc, ho, ha =>
        have k0 : eg_gi N 25 5 = 0 := rs_r5 (t := t) (S := px_fl CL) hc.1
        obtain ⟨o1', o2', o3', o4, o5, o6⟩ := ho
        refine st_X10_hear_62 o1 b o3 (fun _ => ⟨hc.2.1, rs_8 (s := px_vw (.inr (t, CL, p, r))) hc.1⟩) (fun _ f3 f4 f5 hf => ?_) (fun z => absurd k0 z)
        have hc2 := rc_23 (v := eg_gi N 23 2 + nI 1) hc
        have htn := tt_tn (tx := x) (b := b) hc2 o4 hf
        refine st_X10_hear_114 _ _ _ _ _ _ ⟨?_, ?_, ?_⟩ ?_
        · have h24 := ((htn.2.1 24 (by have := N_178 (eg_si N 23 2 (eg_gi N 23 2 + nI 1)); omega)).1)
          have h24 : eg_sh wd (k_tt (eg_si N 23 2 (eg_gi N 23 2 + nI 1)) b f3 f4 f5) 24 = eg_sh wd (eg_si N 23 2 (eg_gi N 23 2 + nI 1)) 24 := h24
          unfold eg_is
          rw [h24]
          rfl
        · exact htn.2.2.1
        · have h24 : eg_sh wd (k_tt (eg_si N 23 2 (eg_gi N 23 2 + nI 1)) b f3 f4 f5) 24 = eg_sh wd (eg_si N 23 2 (eg_gi N 23 2 + nI 1)) 24 := (htn.2.1 24 (by have := N_178 (eg_si N 23 2 (eg_gi N 23 2 + nI 1)); omega)).1
          unfold eg_len
          rw [h24, e2, ex]
          show vp_in (nI x) 8
          exact (n_in (by omega) (by decide)).mpr hx8
        · refine hq _ _ (Or.inr ⟨hx8, Or.inr ⟨t, CL, p, r, ha, o4, hc.2.2.2.1, o5, o6, rfl, N, hy, ?_⟩⟩)
          rw [e2, hxc]
          rw [e2] at htn
          exact htn
    have lp : ∀ f i N c (o1 : Option Value), i + f = 13 → x < 8 → k_fy (k_z0 M) N → eg_gi N 25 1 = nI n → k_rc N c → px_ok (eg_gi M 26) n c → (∀ t X, c = .inr (t, X) → X.1.length ≤ i) → px_all (eg_gi M 26) n = px_rd (eg_gi M 26) n f i c → eg_T wd k_X10_hear Qp 32 0 0 [some (.ref 23), o1, some (.int b), some (.int (nI i))] [] N := by
      intro f
      induction f with
      | zero =>
        intro i N c o1 hi hx8 hy h1 hc ho hl ha
        have st := st_X10_hear_32 (Qp := Qp) (M := N) o1 b (nI i)
        have : nI 12 < nI i := (n_lt (by decide) (by omega)).mpr (by omega)
        exact st (fun z => absurd this z) (fun _ => f62 N c _ _ hx8 hy hc ho ha) (fun z => absurd this z.1)
      | succ f ih =>
        intro i N c o1 hi hx8 hy h1 hc ho hl ha
        have st := st_X10_hear_32 (Qp := Qp) (M := N) o1 b (nI i)
        have n12 : ¬ nI 12 < nI i := by
          rw [n_lt (by decide) (by omega)]
          omega
        have hk : eg_gi N 25 2 = px_k (px_vw c) := rs_k hc.1
        have hTN : k_tb N := fun j hj => by
          rw [fy_26 hy]
          exact hT j hj
        match c, hc, ho, hl, ha, hk with
        | .inl e, hc, ho, hl, ha, hk =>
          have hk : eg_gi N 25 2 = -nI 4 := hk
          refine st (fun _ z => absurd hk (Classical.not_not.mp z).2) (fun _ => f62 N _ _ _ hx8 hy hc ho ?_) (fun z => absurd hk z.2.2)
          rw [ha]
          rfl
        | .inr (t, CL, p, r), hc, ho, hl, ha, hk =>
          have hk : eg_gi N 25 2 = t.2.2 := hk
          have hs : k_rs N (.inr (t, px_fl CL)) := hc.1
          have h4 : ¬ t.2.2 = -nI 4 := by
            obtain ⟨n9, hn9, eN9, k1, k2, k3, k4, k5, k6, k7, _⟩ := hs
            exact k7
          rw [px_rd] at ha
          refine st (fun _ _ => ⟨⟨t, _, hs⟩, hTN, hc.2.1⟩) (fun z => f62 N _ _ _ hx8 hy hc ho ?_) (fun z N2 h2 => ?_)
          · rw [ha, if_neg]
            intro y
            rcases z with z | z
            · exact n12 z
            · exact z ⟨by rw [hk]; exact of_decide_eq_true y, by rw [hk]; exact h4⟩
          · have hm : px_mo (.inr (t, CL, p, r)) = true := decide_eq_true (by rw [← hk]; exact z.2.1)
            rw [if_pos hm] at ha
            have e26 := fy_26 hy
            have e26 : eg_gi N 26 = eg_gi M 26 := e26
            have ho' : px_ok (eg_gi N 26) n (.inr (t, CL, p, r)) := by
              rw [e26]
              exact ho
            have hc' := rc_cl (i := i) hn hTN h1 hc ho' (by omega) (hl t _ rfl) h2
            rw [e26] at hc'
            refine st_X10_hear_56 o1 b (nI i) ?_
            rw [n_s]
            refine ih (i + 1) N2 _ o1 (by omega) hx8 (fy_tr hy (fy_fz h2.1)) ((fz_1 h2.1).trans h1) hc' (px_cl_ok hn (fun j hj => hT j (by omega)) _ _ ho) (fun t' X' e => px_cl_len (hl t _ rfl) e) ha
    refine st_X10_hear_0 (nI n) b (fun _ => ⟨n, hn, rfl⟩) (fun z => ?_) (fun z => ?_)
    · have hx8 : x < 8 := by
        rw [ex, n_lt (by omega) (by decide)] at z
        exact z
      have hy : k_fy (k_z0 M) (k_ad (k_st (k_z0 M) (nI n))) := fy_tr (fy_st _ _) (fy_fz (fz_fr (fr_ad _)))
      have h1 : eg_gi (k_ad (k_st (k_z0 M) (nI n))) 25 1 = nI n := fr_1 (fr_ad _)
      exact lp 13 0 _ _ _ rfl hx8 hy h1 (st_rc (M := k_z0 M) hn hT) (px_0_ok _ _) (fun t X e => by cases e; exact Nat.zero_le _) rfl
    · have hx8 : 8 ≤ x := by
        rw [ex, n_lt (by omega) (by decide)] at z
        omega
      exact hq _ _ (Or.inl ⟨hx8, rfl, rfl⟩)
  · exact h.elim
theorem de_X10_hear : ∀ q ∈ k_X10_hear.1, decode cX10_hear q.1 = .ok q.2 := by decide +kernel
theorem me_X10_hear (g : gl_T) : MT g yX10_hear cX10_hear 4 (some .int) ⟨50, 4, 1206, 1120⟩ 4 1206 s_X10_hear := by
  intro hl
  exact eg_met_of (k := k_X10_hear) (by decide) rfl ⟨Nat.le_refl _, Nat.le_refl _⟩ rfl sz_X10_hear de_X10_hear (fun meth hn => (fc (eg_FL_of wd_c10 (by decide) lf_RX10_9 (fun _ => Or.inl rfl)) (fc (eg_FL_of wd_c10 (by decide) lf_RX10_17 (fun h => absurd h (by decide))) (fc (eg_FL_of wd_c10 (by decide) lf_RX10_21 (fun _ => Or.inl rfl)) (fc (eg_FL_of wd_c10 (by decide) lf_RX10_24 (fun _ => Or.inl rfl)) (fc (eg_FL_of wd_c10 (by decide) lf_RX10_30 (fun h => absurd h (by decide))) (fc (eg_FL_of wd_c7 (by decide) lf_RX10_57 (fun h => absurd h (by decide))) (fc (eg_FL_of wd_c7 (by decide) lf_RX10_60 (fun h => absurd h (by decide))) (fn))))))))) (fun A s H hE => (fn)) (fun p e s m args below meth c Q A ad0 N0 S0 hK hEx hA => (fc (mt_V hl S0 hK hEx hA (me_X7_start g) lm_RX10_46 li_X7_start lx_X7_start ln_RX7 lc_X7_start ⟨rfl, by decide, by decide, by decide +kernel⟩ ⟨rfl, rfl⟩ ⟨by decide, by decide⟩ (ci := 7) rfl rfl sr_X7_start (by decide)) (fc (mt_V hl S0 hK hEx hA (me_X7_hasMore g) lm_RX10_50 li_X7_hasMore lx_X7_hasMore ln_RX7 lc_X7_hasMore ⟨rfl, by decide, by decide, by decide +kernel⟩ ⟨rfl, rfl⟩ ⟨by decide, by decide⟩ (ci := 7) rfl rfl sr_X7_hasMore (by decide)) (fc (mt_V hl S0 hK hEx hA (me_X7_readClause g) lm_RX10_54 li_X7_readClause lx_X7_readClause ln_RX7 lc_X7_readClause ⟨rfl, by decide, by decide, by decide +kernel⟩ ⟨rfl, rfl⟩ ⟨by decide, by decide⟩ (ci := 7) rfl rfl sr_X7_readClause (by decide)) (fc (mt_V hl S0 hK hEx hA (me_X7_textTold g) lm_RX10_63 li_X7_textTold lx_X7_textTold ln_RX7 lc_X7_textTold ⟨rfl, by decide, by decide, by decide +kernel⟩ ⟨rfl, rfl⟩ ⟨by decide, by decide⟩ (ci := 7) rfl rfl sr_X7_textTold (by decide)) (fc (mt_ast4 S0 hK) (fn))))))) (fun p e s m args below meth c Qc XC A ad0 N0 P S0 hK hEx hA hlk hout hPX => (fn)) (fun argv M Qp h => T_X10_hear h)

def k_X11_rules : eg_C := ([(0, .iload_n 1, 1), (1, .ifCond .lt 14, 3), (4, .iload_n 1, 1), (5, .aload_n 0, 1), (6, .getfield 35, 3), (9, .getfield 129, 3), (12, .if_icmp .le 13, 3), (15, .new 82, 3), (18, .dup, 1), (19, .ldc 132, 2), (21, .invokespecial 86, 3), (24, .athrow, 1), (25, .aload_n 0, 1), (26, .getfield 12, 3), (29, .invokevirtual 110, 3), (32, .aload_n 0, 1), (33, .getfield 35, 3), (36, .iload_n 1, 1), (37, .aload_n 0, 1), (38, .getfield 57, 3), (41, .invokevirtual 134, 3), (44, .ireturn, 1)], [(12, 11, 0, false), (35, 11, 4, false), (57, 11, 8, false), (129, 10, 0, false)], [], [(110, 0 + 1, 0, 0, s_X3_forget), (134, 2 + 1, 4, 1206, s_X10_hear)], [(82, .inl "java/lang/IllegalArgumentException")], 1, 4, 1206)
theorem mk_X11_rules : ∀ q ∈ k_X11_rules.2.2.2.1, eg_mono q.2.2.2.2 := (fc (mo_X3_forget) (fc (mo_X10_hear) (fn)))
set_option maxRecDepth 100000 in
theorem st_X11_rules_0 {Qp : eg_P} {M : eg_M} (a : Int32)
  (g0 : (¬ (a < 0)) → (a ≤ (eg_gi M 23 0)) → ((∃ n, n ≤ 400 ∧ a = nI n) ∧ k_tb (eg_si M 1 4 (-nI 1)) ∧ eg_cn (eg_gi (eg_si M 1 4 (-nI 1)) 23 2) 8))
  (l0 : (a < 0 ∨ ¬ a ≤ (eg_gi M 23 0)) → Qp (.inr "java/lang/IllegalArgumentException") M)
  (l1 : (¬ a < 0 ∧ a ≤ (eg_gi M 23 0)) → ∀ (v_1 : Int32) (M2_1 : eg_M), (k_hr (eg_si M 1 4 (-nI 1)) a (eg_gi M 0 8) v_1 M2_1) → eg_T wd k_X11_rules Qp 44 4 1206 [some (.ref 0), some (.int a)] [.int v_1] M2_1) :
  eg_T wd k_X11_rules Qp 0 0 0 [some (.ref 0), some (.int a)] [] M := by
  refine eg_T_run mk_X11_rules (cut := [44]) 25 ?_
  refine And.intro (fun (c1 : a < 0) => ?_) (fun (c1 : ¬ a < 0) => ?_)
  · skip
    show Qp (.inr "java/lang/IllegalArgumentException") M
    exact l0 (Or.inl c1)
  · skip
    refine And.intro (fun (c2 : a ≤ (eg_gi M 23 0)) => ?_) (fun (c2 : ¬ a ≤ (eg_gi M 23 0)) => ?_)
    · skip
      refine And.intro (show ((∃ n, n ≤ 400 ∧ a = nI n) ∧ k_tb (eg_si M 1 4 (-nI 1)) ∧ eg_cn (eg_gi (eg_si M 1 4 (-nI 1)) 23 2) 8) from ?_) ?_
      · exact g0 c1 c2
      intro v_1 M2_1 ha_1
      show eg_T wd k_X11_rules Qp 44 4 1206 [some (.ref 0), some (.int a)] [.int v_1] M2_1
      exact l1 ⟨c1, c2⟩ v_1 M2_1 ha_1
    · skip
      show Qp (.inr "java/lang/IllegalArgumentException") M
      exact l0 (Or.inr c2)

set_option maxRecDepth 100000 in
theorem st_X11_rules_44 {Qp : eg_P} {M : eg_M} (o0 : Option Value) (o1 : Option Value) (s0 : Int32)
  (l0 : Qp (.inl (some (.int s0))) M) :
  eg_T wd k_X11_rules Qp 44 4 1206 [o0, o1] [.int s0] M := by
  refine eg_T_run mk_X11_rules (cut := [44]) 25 ?_
  refine And.intro (fun z => absurd z (by decide)) ?_
  show Qp (.inl (some (.int s0))) M
  exact l0

def s_X11_rules : eg_S := fun argv M Qp => match argv with
  | [.ref 0, .int a] => (eg_cn (eg_gi M 23 0) 400 ∧ k_tb M ∧ eg_cn (eg_gi M 23 2) 8) ∧ ∀ (oo : Option Value ⊕ String) (M2 : eg_M), ((¬ (¬ a < nI 0 ∧ a ≤ eg_gi M 23 0) ∧ oo = .inr "java/lang/IllegalArgumentException" ∧ M2 = M) ∨ ((¬ a < nI 0 ∧ a ≤ eg_gi M 23 0) ∧ ∃ v, oo = .inl (some (.int v)) ∧ k_hr (eg_si M 1 4 (-nI 1)) a (eg_gi M 0 8) v M2)) → Qp oo M2
  | _ => False
theorem mo_X11_rules : eg_mono s_X11_rules := by
  intro argv M Q Q' h
  unfold s_X11_rules
  split
  · exact fun z => ⟨z.1, fun oo M2 y => h _ _ (z.2 oo M2 y)⟩
  · exact id
theorem sz_X11_rules : ∀ argv M Qp, s_X11_rules argv M Qp → (eg_ls0 argv).length ≤ 2 := by
  intro argv M Qp h
  unfold s_X11_rules at h
  split at h
  · exact Nat.le_of_ble_eq_true rfl
  · exact h.elim
theorem sr_X11_rules : ∀ argv M Qp, s_X11_rules argv M Qp → ∃ p0 As, argv = .ref p0 :: As ∧ eg_isO wd M p0 11 = true := by
  intro argv M Qp h
  unfold s_X11_rules at h
  split at h
  · exact ⟨_, _, rfl, rfl⟩
  · exact h.elim
set_option maxRecDepth 100000 in
set_option maxHeartbeats 1000000 in
theorem T_X11_rules {argv : List Value} {M : eg_M} {Qp : eg_P} (h : s_X11_rules argv M Qp) : eg_T wd k_X11_rules Qp 0 0 0 (eg_lsN 2 argv) [] M := by
  unfold s_X11_rules at h
  split at h
  · rename_i a
    obtain ⟨hp, hq⟩ := h
    obtain ⟨⟨m, hm, em⟩, hT, hx⟩ := hp
    refine st_X11_rules_0 a (fun z1 z2 => ⟨?_, hT, hx⟩) (fun z => ?_) (fun z v M2 h2 => st_X11_rules_44 _ _ _ (hq _ _ (Or.inr ⟨z, v, rfl, h2⟩)))
    · rw [em] at z2
      have h0 : (0 : Int) ≤ a.toInt := Int32.le_iff_toInt_le.mp (Int32.not_lt.mp z1)
      have h2 := Int32.le_iff_toInt_le.mp z2
      rw [nI_toInt (by omega)] at h2
      have hv : vp_in a 401 := vp_in_iff.mpr ⟨h0, by omega⟩
      obtain ⟨n, hn, e⟩ := vp_in_of hv (by decide)
      exact ⟨n, by omega, e⟩
    · exact hq _ _ (Or.inl ⟨fun y => z.elim (fun w => y.1 w) (fun w => w y.2), rfl, rfl⟩)
    
  · exact h.elim
theorem de_X11_rules : ∀ q ∈ k_X11_rules.1, decode cX11_rules q.1 = .ok q.2 := by decide +kernel
theorem me_X11_rules (g : gl_T) : MT g yX11_rules cX11_rules 2 (some .int) ⟨51, 4, 1206, 1143⟩ 4 1206 s_X11_rules := by
  intro hl
  exact eg_met_of (k := k_X11_rules) (by decide) rfl ⟨Nat.le_refl _, Nat.le_refl _⟩ rfl sz_X11_rules de_X11_rules (fun meth hn => (fc (eg_FL_of wd_c11 (by decide) lf_RX11_12 (fun h => absurd h (by decide))) (fc (eg_FL_of wd_c11 (by decide) lf_RX11_35 (fun h => absurd h (by decide))) (fc (eg_FL_of wd_c11 (by decide) lf_RX11_57 (fun h => absurd h (by decide))) (fc (eg_FL_of wd_c10 (by decide) lf_RX11_129 (fun h => absurd h (by decide))) (fn)))))) (fun A s H hE => (fn)) (fun p e s m args below meth c Q A ad0 N0 S0 hK hEx hA => (fc (mt_V hl S0 hK hEx hA (me_X3_forget g) lm_RX11_110 li_X3_forget lx_X3_forget ln_RX3 lc_X3_forget ⟨rfl, by decide, by decide, by decide +kernel⟩ ⟨rfl, rfl⟩ ⟨by decide, by decide⟩ (ci := 3) rfl rfl eg_auto_rec (by decide)) (fc (mt_V hl S0 hK hEx hA (me_X10_hear g) lm_RX11_134 li_X10_hear lx_X10_hear ln_RX10 lc_X10_hear ⟨rfl, by decide, by decide, by decide +kernel⟩ ⟨rfl, rfl⟩ ⟨by decide, by decide⟩ (ci := 10) rfl rfl sr_X10_hear (by decide)) (fn)))) (fun p e s m args below meth c Qc XC A ad0 N0 P S0 hK hEx hA hlk hout hPX => (fc (mt_T hl S0 hEx hlk hout hPX (ix := 7) (rx := Bundle.six) (names := ["java/lang/RuntimeException", "java/lang/Exception"]) (is := 132) (ic := 86) (text := "the tape has not so many bytes") (nt := 26) (by decide +kernel) (by decide +kernel) (by decide +kernel) (by decide +kernel) (by decide +kernel) (by decide +kernel) lq_RX11_82 ti_i (List.mem_of_getElem? (i := 2) rfl) ti_g ti_b ti_o (by decide +kernel) (by decide) (by decide) (Nat.le_refl _) (Nat.le_refl _)) (fn))) (fun argv M Qp h => T_X11_rules h)

theorem k_set_e {N : eg_M} {w : Int32} {f : Nat → Int32} {t : k_T5} {P : Nat} {CL : List (Int32 × List Int32)} {e : Nat} (hES : k_es N) (he : e < (eg_gi N 12 10).toNatClampNeg) (h35 : ¬ eg_gi N 35 e = 0) (h13 : eg_gi N 13 e = nI 1) (hS : k_set (k_sm N w f t) P CL) (hb : ¬ (w &&& (nI 1 <<< ((eg_gi N 19 e / nI 360) &&& 31)) = 0)) : eg_gl (k_sm N w f t) 41 e = lN (k_ge N P CL e) ∧ eg_gl (k_sm N w f t) 40 e = lN (k_cl N CL e) := by
  have hin := k_vl_in hES he h35 h13
  obtain ⟨dd, hdd, ed⟩ := vp_in_of (hES.2.2.2 e he) (by decide)
  have hy : eg_gi N 19 e / nI 360 = nI (dd / 360) := by
    rw [ed]
    exact pk_div (by omega) (by decide) (by decide)
  rw [hy] at hb hin
  have g1 := hS (dd / 360) (by omega) hb
  have hvl : k_vl (k_sm N w f t) (nI (dd / 360)) = k_vl N (nI (dd / 360)) := rfl
  have hgv : ∀ j, k_gv (k_sm N w f t) P CL (nI (dd / 360)) j = k_gv N P CL (nI (dd / 360)) j := fun _ => rfl
  have hcl : ∀ j, k_cl (k_sm N w f t) CL j = k_cl N CL j := fun _ => rfl
  rw [hvl] at g1
  have g2 := g1 ((k_vl N (nI (dd / 360))).idxOf e) (List.idxOf_lt_length_of_mem hin)
  rw [hgv, hcl, gD (List.idxOf_lt_length_of_mem hin), List.getElem_idxOf] at g2
  have hge : k_ge N P CL e = k_gv N P CL (nI (dd / 360)) ((k_vl N (nI (dd / 360))).idxOf e) := by
    unfold k_ge
    rw [hy]
  rw [hge]
  exact g2
theorem k_evn {M : eg_M} (h : k_es M) {c : Int32} (h1 : ¬ c < nI 0) (h2 : ¬ (eg_gi M 12 10 - nI 1) < c) : ∃ n, n < 200 ∧ n < (eg_gi M 12 10).toNatClampNeg ∧ c = nI n := by
  obtain ⟨⟨L, ⟨m, hm, e⟩, _⟩, _⟩ := h
  obtain ⟨n, hn, rfl⟩ := nI_of h1
  rw [e] at h2 ⊢
  rw [n_c (by omega)]
  cases m with
  | zero =>
    exfalso
    refine h2 (Int32.lt_of_lt_of_le (show nI 0 - nI 1 < nI 0 by decide) (Int32.not_lt.mp h1))
  | succ m =>
    rw [n_p, n_lt (by omega) (by omega)] at h2
    exact ⟨n, by omega, by omega, rfl⟩
/-- the class: event e is a visit that counts -/
def k_vc (N : eg_M) (e : Nat) : Prop := eg_gi N 13 e = nI 1 ∧ k_ct N e = true
/-- the class: what told answers -/
def k_td (N : eg_M) (e : Nat) (w : Int32) (v : Int64) : Prop := ∃ L q CL, k_W N L ∧ k_lkd N L ∧ k_tx N q CL ∧ ((w = nI 0 ∧ v = if (if eg_gi N 13 e = 0 then k_kn N e else k_ct N e) = true then lN 1 else lN 0) ∨ (¬ w = nI 0 ∧ ¬ k_vc N e ∧ v = lN 0) ∨ (w = nI 3 ∧ k_vc N e ∧ v = k_co N e) ∨ (w = nI 1 ∧ k_vc N e ∧ v = lN (k_cl N CL e)) ∨ (w = nI 2 ∧ k_vc N e ∧ v = lN (k_ge N (k_pt N) CL e)))
def k_X11_told : eg_C := ([(0, .aload_n 0, 1), (1, .iload_n 1, 1), (2, .invokevirtual 113, 3), (5, .aload_n 0, 1), (6, .iload_n 2, 1), (7, .iconst 3, 1), (8, .invokevirtual 141, 3), (11, .aload_n 0, 1), (12, .iload_n 3, 1), (13, .invokevirtual 147, 3), (16, .aload_n 0, 1), (17, .getfield 12, 3), (20, .iload_n 3, 1), (21, .invokevirtual 154, 3), (24, .iload_n 2, 1), (25, .ifCond .ne 20, 3), (28, .aload_n 0, 1), (29, .getfield 12, 3), (32, .iload_n 1, 1), (33, .invokevirtual 172, 3), (36, .ifCond .eq 7, 3), (39, .lconst 1, 1), (40, .goto 4, 3), (43, .lconst 0, 1), (44, .lreturn, 1), (45, .aload_n 0, 1), (46, .getfield 30, 3), (49, .getfield 175, 3), (52, .iload_n 1, 1), (53, .iaload, 1), (54, .iconst 1, 1), (55, .if_icmp .ne 15, 3), (58, .aload_n 0, 1), (59, .getfield 12, 3), (62, .getfield 178, 3), (65, .iload_n 1, 1), (66, .baload, 1), (67, .ifCond .ne 5, 3), (70, .lconst 0, 1), (71, .lreturn, 1), (72, .iload_n 2, 1), (73, .iconst 3, 1), (74, .if_icmp .ne 12, 3), (77, .aload_n 0, 1), (78, .getfield 12, 3), (81, .iload_n 1, 1), (82, .invokevirtual 182, 3), (85, .lreturn, 1), (86, .aload_n 0, 1), (87, .getfield 12, 3), (90, .iload_n 1, 1), (91, .invokevirtual 186, 3), (94, .iload_n 2, 1), (95, .iconst 1, 1), (96, .if_icmp .ne 15, 3), (99, .aload_n 0, 1), (100, .getfield 12, 3), (103, .getfield 189, 3), (106, .iload_n 1, 1), (107, .laload, 1), (108, .goto 12, 3), (111, .aload_n 0, 1), (112, .getfield 12, 3), (115, .getfield 193, 3), (118, .iload_n 1, 1), (119, .laload, 1), (120, .lreturn, 1)], [(12, 11, 0, false), (30, 11, 3, false), (175, 1, 0, false), (178, 3, 7, false), (189, 3, 13, false), (193, 3, 14, false)], [], [(113, 1 + 1, 1, 6, s_X11_needEvent), (141, 2 + 1, 1, 6, s_X11_needKind), (147, 1 + 1, 1, 6, s_X11_needPast), (154, 1 + 1, 0, 0, s_X3_look), (172, 1 + 1, 0, 0, s_X3_holds), (182, 1 + 1, 0, 0, s_X3_costOf_v), (186, 1 + 1, 0, 0, s_X3_settleYearOf)], [], 3, 3, 18)
theorem mk_X11_told : ∀ q ∈ k_X11_told.2.2.2.1, eg_mono q.2.2.2.2 := (fc (mo_X11_needEvent) (fc (mo_X11_needKind) (fc (mo_X11_needPast) (fc (mo_X3_look) (fc (mo_X3_holds) (fc (mo_X3_costOf_v) (fc (mo_X3_settleYearOf) (fn))))))))
set_option maxRecDepth 100000 in
theorem st_X11_told_0 {Qp : eg_P} {M : eg_M} (e : Int32) (w : Int32) (k : Int32)
  (g0 : (¬ (¬ (¬ e < (nI 0) ∧ ¬ ((eg_gi M 12 10) - (nI 1)) < e))) → (¬ (¬ (¬ w < (nI 0) ∧ ¬ (nI 3) < w))) → (¬ (¬ (¬ k < (nI 0) ∧ ¬ (eg_gi M 0 8) < k))) → (k_sf M ∧ ∃ L, k_W M L))
  (l0 : ((¬ (¬ e < (nI 0) ∧ ¬ ((eg_gi M 12 10) - (nI 1)) < e)) ∨ (¬ (¬ w < (nI 0) ∧ ¬ (nI 3) < w))) → Qp (.inr "java/util/NoSuchElementException") M)
  (l1 : ((¬ e < (nI 0) ∧ ¬ ((eg_gi M 12 10) - (nI 1)) < e) ∧ ((¬ w < (nI 0) ∧ ¬ (nI 3) < w) ∧ (¬ (¬ k < (nI 0) ∧ ¬ (eg_gi M 0 8) < k)))) → Qp (.inr "java/lang/IllegalArgumentException") M)
  (l2 : ((¬ e < (nI 0) ∧ ¬ ((eg_gi M 12 10) - (nI 1)) < e) ∧ ((¬ w < (nI 0) ∧ ¬ (nI 3) < w) ∧ ((¬ k < (nI 0) ∧ ¬ (eg_gi M 0 8) < k)))) → ∀ (u_1 : k_U), (((k_nw M k u_1 = M ∧ eg_gi M 1 4 = k) ∨ (u_1.1 = nI 0 ∧ ∃ L, k_W M L ∧ k_lkd (k_nw M k u_1) L)) ∧ ((∀ j, j < 200 → k_ev (eg_gi M 36 j)) → ∀ j, j < 200 → k_ev (u_1.2.2.2.2.1 j))) → eg_T wd k_X11_told Qp 24 3 18 [some (.ref 0), some (.int e), some (.int w), some (.int k)] [] (k_nw M k u_1)) :
  eg_T wd k_X11_told Qp 0 0 0 [some (.ref 0), some (.int e), some (.int w), some (.int k)] [] M := by
  refine eg_T_run mk_X11_told (cut := [24, 94]) 70 ?_
  refine And.intro (show (True) from ?_) ?_
  · exact trivial
  refine And.intro (fun (c1 : (b2i (decide (¬ e < (nI 0) ∧ ¬ ((eg_gi M 12 10) - (nI 1)) < e))) = 0) => ?_) (fun (c1 : ¬ (b2i (decide (¬ e < (nI 0) ∧ ¬ ((eg_gi M 12 10) - (nI 1)) < e))) = 0) => ?_)
  · replace c1 := b2i_d0.mp c1
    show Qp (.inr "java/util/NoSuchElementException") M
    exact l0 (Or.inl c1)
  · replace c1 := b2i_dn.mp c1
    refine And.intro (show (True) from ?_) ?_
    · exact trivial
    refine And.intro (fun (c2 : (b2i (decide (¬ w < (nI 0) ∧ ¬ (nI 3) < w))) = 0) => ?_) (fun (c2 : ¬ (b2i (decide (¬ w < (nI 0) ∧ ¬ (nI 3) < w))) = 0) => ?_)
    · replace c2 := b2i_d0.mp c2
      show Qp (.inr "java/util/NoSuchElementException") M
      exact l0 (Or.inr c2)
    · replace c2 := b2i_dn.mp c2
      refine And.intro (show (True) from ?_) ?_
      · exact trivial
      refine And.intro (fun (c3 : (b2i (decide (¬ k < (nI 0) ∧ ¬ (eg_gi M 0 8) < k))) = 0) => ?_) (fun (c3 : ¬ (b2i (decide (¬ k < (nI 0) ∧ ¬ (eg_gi M 0 8) < k))) = 0) => ?_)
      · replace c3 := b2i_d0.mp c3
        show Qp (.inr "java/lang/IllegalArgumentException") M
        exact l1 ⟨(Classical.byContradiction c1), ⟨(Classical.byContradiction c2), c3⟩⟩
      · replace c3 := b2i_dn.mp c3
        refine And.intro (show (k_sf M ∧ ∃ L, k_W M L) from ?_) ?_
        · exact g0 c1 c2 c3
        intro u_1 ha_1
        show eg_T wd k_X11_told Qp 24 3 18 [some (.ref 0), some (.int e), some (.int w), some (.int k)] [] (k_nw M k u_1)
        exact l2 ⟨(Classical.byContradiction c1), ⟨(Classical.byContradiction c2), (Classical.byContradiction c3)⟩⟩ u_1 ha_1

set_option maxRecDepth 100000 in
theorem st_X11_told_24 {Qp : eg_P} {M : eg_M} (e : Int32) (w : Int32) (o3 : Option Value)
  (g0 : (w = 0) → ((vp_in e 200) ∧ (((eg_gi M 13 e.toNatClampNeg) = 0) → ((vp_in e 200))) ∧ ((¬ (eg_gi M 13 e.toNatClampNeg) = 0) → ((eg_gi M 35 e.toNatClampNeg) = 0 ∨ (eg_gi M 35 e.toNatClampNeg) = 1))))
  (g1 : (¬ (w = 0)) → (vp_in e 200))
  (g2 : (¬ (w = 0)) → ((eg_gi M 13 e.toNatClampNeg) = (nI 1)) → (¬ ((eg_gi M 35 e.toNatClampNeg) = 0)) → (w = (nI 3)) → (vp_in e 200 ∧ k_pq M))
  (g3 : (¬ (w = 0)) → ((eg_gi M 13 e.toNatClampNeg) = (nI 1)) → (¬ ((eg_gi M 35 e.toNatClampNeg) = 0)) → (¬ (w = (nI 3))) → (vp_in e 200 ∧ vp_in (eg_gi M 19 e.toNatClampNeg) 3600 ∧ k_es M ∧ k_pq M ∧ ∃ q CL, k_tx M q CL ∧ k_set M (k_pt M) CL))
  (l0 : ((w = 0 ∧ ((if (eg_gi M 13 e.toNatClampNeg) = 0 then (b2i (decide (¬ (eg_gi M 1 4) < (eg_gi M 20 e.toNatClampNeg) ∧ ¬ (eg_gi M 21 e.toNatClampNeg) ≤ (eg_gi M 1 4)))) else (eg_gi M 35 e.toNatClampNeg)) = 0)) ∨ (¬ w = 0 ∧ (¬ (eg_gi M 13 e.toNatClampNeg) = (nI 1) ∨ (eg_gi M 35 e.toNatClampNeg) = 0))) → Qp (.inl (some (.long (lN 0)))) M)
  (l1 : (w = 0 ∧ (¬ ((if (eg_gi M 13 e.toNatClampNeg) = 0 then (b2i (decide (¬ (eg_gi M 1 4) < (eg_gi M 20 e.toNatClampNeg) ∧ ¬ (eg_gi M 21 e.toNatClampNeg) ≤ (eg_gi M 1 4)))) else (eg_gi M 35 e.toNatClampNeg)) = 0))) → Qp (.inl (some (.long (lN 1)))) M)
  (l2 : (¬ w = 0 ∧ ((eg_gi M 13 e.toNatClampNeg) = (nI 1) ∧ (¬ (eg_gi M 35 e.toNatClampNeg) = 0 ∧ w = (nI 3)))) → Qp (.inl (some (.long (k_co M e.toNatClampNeg)))) M)
  (l3 : (¬ w = 0 ∧ ((eg_gi M 13 e.toNatClampNeg) = (nI 1) ∧ (¬ (eg_gi M 35 e.toNatClampNeg) = 0 ∧ ¬ w = (nI 3)))) → ∀ (s_1 : Int32) (f_1 : Nat → Int32) (t_1 : k_T5), ((∀ q CL, k_tx M q CL → k_set (k_sm M s_1 f_1 t_1) (k_pt M) CL) ∧ ¬ (s_1 &&& (nI 1 <<< ((eg_gi M 19 e.toNatClampNeg / nI 360) &&& 31)) = 0)) → eg_T wd k_X11_told Qp 94 3 18 [some (.ref 0), some (.int e), some (.int w), o3] [] (k_sm M s_1 f_1 t_1)) :
  eg_T wd k_X11_told Qp 24 3 18 [some (.ref 0), some (.int e), some (.int w), o3] [] M := by
  refine eg_T_run mk_X11_told (cut := [24, 94]) 70 ?_
  refine And.intro (fun (c1 : w = 0) => ?_) (fun (c1 : ¬ w = 0) => ?_)
  · skip
    refine And.intro (show ((vp_in e 200) ∧ (((eg_gi M 13 e.toNatClampNeg) = 0) → ((vp_in e 200))) ∧ ((¬ (eg_gi M 13 e.toNatClampNeg) = 0) → ((eg_gi M 35 e.toNatClampNeg) = 0 ∨ (eg_gi M 35 e.toNatClampNeg) = 1))) from ?_) ?_
    · exact g0 c1
    refine And.intro (fun (c2 : (if (eg_gi M 13 e.toNatClampNeg) = 0 then (b2i (decide (¬ (eg_gi M 1 4) < (eg_gi M 20 e.toNatClampNeg) ∧ ¬ (eg_gi M 21 e.toNatClampNeg) ≤ (eg_gi M 1 4)))) else (eg_gi M 35 e.toNatClampNeg)) = 0) => ?_) (fun (c2 : ¬ (if (eg_gi M 13 e.toNatClampNeg) = 0 then (b2i (decide (¬ (eg_gi M 1 4) < (eg_gi M 20 e.toNatClampNeg) ∧ ¬ (eg_gi M 21 e.toNatClampNeg) ≤ (eg_gi M 1 4)))) else (eg_gi M 35 e.toNatClampNeg)) = 0) => ?_)
    · skip
      show Qp (.inl (some (.long (lN 0)))) M
      exact l0 (Or.inl ⟨c1, c2⟩)
    · skip
      show Qp (.inl (some (.long (lN 1)))) M
      exact l1 ⟨c1, c2⟩
  · skip
    refine And.intro (show vp_in e 200 from ?_) ?_
    · exact g1 c1
    refine And.intro (fun (c3 : (eg_gi M 13 e.toNatClampNeg) = (nI 1)) => ?_) (fun (c3 : ¬ (eg_gi M 13 e.toNatClampNeg) = (nI 1)) => ?_)
    · skip
      refine And.intro (show vp_in e 200 from ?_) ?_
      · exact g1 c1
      refine And.intro (fun (c4 : (eg_gi M 35 e.toNatClampNeg) = 0) => ?_) (fun (c4 : ¬ (eg_gi M 35 e.toNatClampNeg) = 0) => ?_)
      · skip
        show Qp (.inl (some (.long (lN 0)))) M
        exact l0 (Or.inr ⟨c1, (Or.inr c4)⟩)
      · skip
        refine And.intro (fun (c5 : w = (nI 3)) => ?_) (fun (c5 : ¬ w = (nI 3)) => ?_)
        · skip
          refine And.intro (show (vp_in e 200 ∧ k_pq M) from ?_) ?_
          · exact g2 c1 c3 c4 c5
          show Qp (.inl (some (.long (k_co M e.toNatClampNeg)))) M
          exact l2 ⟨c1, ⟨c3, ⟨c4, c5⟩⟩⟩
        · skip
          refine And.intro (show (vp_in e 200 ∧ vp_in (eg_gi M 19 e.toNatClampNeg) 3600 ∧ k_es M ∧ k_pq M ∧ ∃ q CL, k_tx M q CL ∧ k_set M (k_pt M) CL) from ?_) ?_
          · exact g3 c1 c3 c4 c5
          intro s_1 f_1 t_1 ha_1
          show eg_T wd k_X11_told Qp 94 3 18 [some (.ref 0), some (.int e), some (.int w), o3] [] (k_sm M s_1 f_1 t_1)
          exact l3 ⟨c1, ⟨c3, ⟨c4, c5⟩⟩⟩ s_1 f_1 t_1 ha_1
    · skip
      show Qp (.inl (some (.long (lN 0)))) M
      exact l0 (Or.inr ⟨c1, (Or.inl c3)⟩)

set_option maxRecDepth 100000 in
theorem st_X11_told_94 {Qp : eg_P} {M : eg_M} (e : Int32) (w : Int32) (o3 : Option Value)
  (g0 : (vp_in e 200))
  (l0 : (w = (nI 1)) → Qp (.inl (some (.long (eg_gl M 40 e.toNatClampNeg)))) M)
  (l1 : (¬ w = (nI 1)) → Qp (.inl (some (.long (eg_gl M 41 e.toNatClampNeg)))) M) :
  eg_T wd k_X11_told Qp 94 3 18 [some (.ref 0), some (.int e), some (.int w), o3] [] M := by
  refine eg_T_run mk_X11_told (cut := [24, 94]) 70 ?_
  refine And.intro (fun (c1 : w = (nI 1)) => ?_) (fun (c1 : ¬ w = (nI 1)) => ?_)
  · skip
    refine And.intro (show vp_in e 200 from ?_) ?_
    · exact g0
    show Qp (.inl (some (.long (eg_gl M 40 e.toNatClampNeg)))) M
    exact l0 c1
  · skip
    refine And.intro (show vp_in e 200 from ?_) ?_
    · exact g0
    show Qp (.inl (some (.long (eg_gl M 41 e.toNatClampNeg)))) M
    exact l1 c1

def s_X11_told : eg_S := fun argv M Qp => match argv with
  | [.ref 0, .int e, .int w, .int k] => (k_I M) ∧ ∀ (oo : Option Value ⊕ String) (M2 : eg_M), ((¬ ((¬ e < nI 0 ∧ ¬ (eg_gi M 12 10 - nI 1) < e) ∧ (¬ w < nI 0 ∧ ¬ nI 3 < w)) ∧ oo = .inr "java/util/NoSuchElementException" ∧ M2 = M) ∨ (((¬ e < nI 0 ∧ ¬ (eg_gi M 12 10 - nI 1) < e) ∧ (¬ w < nI 0 ∧ ¬ nI 3 < w)) ∧ ¬ (¬ k < nI 0 ∧ ¬ eg_gi M 0 8 < k) ∧ oo = .inr "java/lang/IllegalArgumentException" ∧ M2 = M) ∨ (((¬ e < nI 0 ∧ ¬ (eg_gi M 12 10 - nI 1) < e) ∧ (¬ w < nI 0 ∧ ¬ nI 3 < w)) ∧ (¬ k < nI 0 ∧ ¬ eg_gi M 0 8 < k) ∧ ∃ u v, oo = .inl (some (.long v)) ∧ k_td (k_nw M k u) e.toNatClampNeg w v ∧ (M2 = k_nw M k u ∨ ∃ s f t, M2 = k_sm (k_nw M k u) s f t) ∧ k_I M2)) → Qp oo M2
  | _ => False
theorem mo_X11_told : eg_mono s_X11_told := by
  intro argv M Q Q' h
  unfold s_X11_told
  split
  · exact fun z => ⟨z.1, fun oo M2 y => h _ _ (z.2 oo M2 y)⟩
  · exact id
theorem sz_X11_told : ∀ argv M Qp, s_X11_told argv M Qp → (eg_ls0 argv).length ≤ 4 := by
  intro argv M Qp h
  unfold s_X11_told at h
  split at h
  · exact Nat.le_of_ble_eq_true rfl
  · exact h.elim
theorem sr_X11_told : ∀ argv M Qp, s_X11_told argv M Qp → ∃ p0 As, argv = .ref p0 :: As ∧ eg_isO wd M p0 11 = true := by
  intro argv M Qp h
  unfold s_X11_told at h
  split at h
  · exact ⟨_, _, rfl, rfl⟩
  · exact h.elim
set_option maxRecDepth 100000 in
set_option maxHeartbeats 1000000 in
theorem T_X11_told {argv : List Value} {M : eg_M} {Qp : eg_P} (h : s_X11_told argv M Qp) : eg_T wd k_X11_told Qp 0 0 0 (eg_lsN 4 argv) [] M := by
  unfold s_X11_told at h
  split at h
  · rename_i e w k
    obtain ⟨hp, hq⟩ := h
    have hI := hp
    refine st_X11_told_0 e w k (fun _ _ _ => ⟨hI.2.1.1, hI.1.1⟩) (fun z => ?_) (fun z => ?_) (fun z u hu => ?_)
    · refine hq _ _ (Or.inl ⟨fun y => ?_, rfl, rfl⟩)
      rcases z with w | w
      · exact w y.1
      · exact w y.2
    · exact hq _ _ (Or.inr (Or.inl ⟨⟨z.1, z.2.1⟩, z.2.2, rfl, rfl⟩))
    · have hk := z.2.2
      obtain ⟨n, hn, rfl⟩ := k_day hI.2.2.2.2 hk.1 hk.2
      obtain ⟨m, hm, hmc, rfl⟩ := k_evn hI.1 z.1.1 z.1.2
      obtain ⟨j, hj, rfl⟩ := nI_of2 (M := nI 3) (n := 3) (by decide) z.2.1.1 (Int32.not_lt.mp z.2.1.2)
      have em : (nI m).toNatClampNeg = m := n_c (by omega)
      rw [em] at hq
      have vm : vp_in (nI m) 200 := (n_in (by omega) (by decide)).mpr hm
      obtain ⟨hI', hd, ⟨L, hW, hl⟩, hPQ, q, CL, hT, hS⟩ := k_look hn hI hu
      have fin : ∀ v, k_td (k_nw M (nI n) u) m (nI j) v → Qp (.inl (some (.long v))) (k_nw M (nI n) u) := fun v hv => hq _ _ (Or.inr (Or.inr ⟨⟨z.1, z.2.1⟩, hk, u, v, rfl, hv, Or.inl rfl, hI'⟩))
      have fin2 : ∀ v s f t, (∀ q CL, k_tx (k_nw M (nI n) u) q CL → k_set (k_sm (k_nw M (nI n) u) s f t) (k_pt (k_nw M (nI n) u)) CL) → k_td (k_nw M (nI n) u) m (nI j) v → Qp (.inl (some (.long v))) (k_sm (k_nw M (nI n) u) s f t) := fun v s f t hs hv => hq _ _ (Or.inr (Or.inr ⟨⟨z.1, z.2.1⟩, hk, u, v, rfl, hv, Or.inr ⟨s, f, t, rfl⟩, sm_I hI' ⟨L, hW, hl⟩ hPQ hs⟩))
      have hmN : m < (eg_gi (k_nw M (nI n) u) 12 10).toNatClampNeg := hmc
      clear hq
      generalize k_nw M (nI n) u = N at *
      have h35 := hl.2.2.1 m hmN
      have h19 := hI'.1.2.2.2 m hmN
      have hkn : k_kn N m = decide (¬ eg_gi N 1 4 < eg_gi N 20 m ∧ ¬ eg_gi N 21 m ≤ eg_gi N 1 4) := rfl
      have n0 : ∀ x : Int32, x = 0 ↔ x = nI 0 := fun _ => Iff.rfl
      have s2 := st_X11_told_24 (Qp := Qp) (M := N) (nI m) (nI j) (some (.int (nI n)))
      rw [em, h35, ← hkn] at s2
      refine s2 (fun _ => ⟨vm, fun _ => vm, fun _ => b2i_01 _⟩) (fun _ => vm) (fun _ _ _ _ => ⟨vm, hPQ⟩) (fun _ _ _ _ => ⟨vm, h19, hI'.1, hPQ, q, CL, hT, hS⟩) (fun y => ?_) (fun y => ?_) (fun y => ?_) (fun y s f t hc => ?_)
      · refine fin _ ⟨L, q, CL, hW, hl, hT, ?_⟩
        rcases y with y | y
        · refine Or.inl ⟨y.1, ?_⟩
          rw [if_neg]
          have y2 := y.2
          split at y2
          · rename_i h0
            rw [if_pos h0, b2i_0.mp y2]
            exact Bool.noConfusion
          · rename_i h0
            rw [if_neg h0, b2i_0.mp y2]
            exact Bool.noConfusion
        · refine Or.inr (Or.inl ⟨y.1, fun x => ?_, rfl⟩)
          rcases y.2 with y2 | y2
          · exact y2 x.1
          · rw [x.2] at y2
            exact absurd y2 (by decide)
      · refine fin _ ⟨L, q, CL, hW, hl, hT, Or.inl ⟨y.1, ?_⟩⟩
        rw [if_pos]
        have y2 := y.2
        split at y2
        · rename_i h0
          rw [if_pos h0]
          exact b2i_n0.mp y2
        · rename_i h0
          rw [if_neg h0]
          exact b2i_n0.mp y2
      · exact fin _ ⟨L, q, CL, hW, hl, hT, Or.inr (Or.inr (Or.inl ⟨y.2.2.2, ⟨y.2.1, b2i_n0.mp y.2.2.1⟩, rfl⟩))⟩
      · have hvc : k_vc N m := ⟨y.2.1, b2i_n0.mp y.2.2.1⟩
        have hv := k_set_e hI'.1 hmN (by rw [h35]; exact y.2.2.1) y.2.1 (hc.1 q CL hT) hc.2
        have s9 := st_X11_told_94 (Qp := Qp) (M := k_sm N s f t) (nI m) (nI j) (some (.int (nI n))) vm
        rw [em, hv.1, hv.2] at s9
        refine s9 (fun x => ?_) (fun x => ?_)
        · exact fin2 _ s f t hc.1 ⟨L, q, CL, hW, hl, hT, Or.inr (Or.inr (Or.inr (Or.inl ⟨x, hvc, rfl⟩)))⟩
        · refine fin2 _ s f t hc.1 ⟨L, q, CL, hW, hl, hT, Or.inr (Or.inr (Or.inr (Or.inr ⟨?_, hvc, rfl⟩)))⟩
          have a1 : ¬ j = 0 := fun e0 => y.1 (by rw [e0]; rfl)
          have a2 : ¬ j = 3 := fun e0 => y.2.2.2 (by rw [e0])
          have a3 : ¬ j = 1 := fun e0 => x (by rw [e0])
          have : j = 2 := by omega
          rw [this]
    
  · exact h.elim
theorem de_X11_told : ∀ q ∈ k_X11_told.1, decode cX11_told q.1 = .ok q.2 := by decide +kernel
theorem me_X11_told (g : gl_T) : MT g yX11_told cX11_told 4 (some .long) ⟨7, 3, 18, 126⟩ 3 18 s_X11_told := by
  intro hl
  exact eg_met_of (k := k_X11_told) (by decide) rfl ⟨Nat.le_refl _, Nat.le_refl _⟩ rfl sz_X11_told de_X11_told (fun meth hn => (fc (eg_FL_of wd_c11 (by decide) lf_RX11_12 (fun h => absurd h (by decide))) (fc (eg_FL_of wd_c11 (by decide) lf_RX11_30 (fun h => absurd h (by decide))) (fc (eg_FL_of wd_c1 (by decide) lf_RX11_175 (fun h => absurd h (by decide))) (fc (eg_FL_of wd_c3 (by decide) lf_RX11_178 (fun h => absurd h (by decide))) (fc (eg_FL_of wd_c3 (by decide) lf_RX11_189 (fun h => absurd h (by decide))) (fc (eg_FL_of wd_c3 (by decide) lf_RX11_193 (fun h => absurd h (by decide))) (fn)))))))) (fun A s H hE => (fn)) (fun p e s m args below meth c Q A ad0 N0 S0 hK hEx hA => (fc (mt_V hl S0 hK hEx hA (me_X11_needEvent g) lm_RX11_113 li_X11_needEvent lx_X11_needEvent ln_RX11 lc_X11_needEvent ⟨rfl, by decide, by decide, by decide +kernel⟩ ⟨rfl, rfl⟩ ⟨by decide, by decide⟩ (ci := 11) rfl rfl eg_auto_rec (by decide)) (fc (mt_V hl S0 hK hEx hA (me_X11_needKind g) lm_RX11_141 li_X11_needKind lx_X11_needKind ln_RX11 lc_X11_needKind ⟨rfl, by decide, by decide, by decide +kernel⟩ ⟨rfl, rfl⟩ ⟨by decide, by decide⟩ (ci := 11) rfl rfl eg_auto_rec (by decide)) (fc (mt_V hl S0 hK hEx hA (me_X11_needPast g) lm_RX11_147 li_X11_needPast lx_X11_needPast ln_RX11 lc_X11_needPast ⟨rfl, by decide, by decide, by decide +kernel⟩ ⟨rfl, rfl⟩ ⟨by decide, by decide⟩ (ci := 11) rfl rfl eg_auto_rec (by decide)) (fc (mt_V hl S0 hK hEx hA (me_X3_look g) lm_RX11_154 li_X3_look lx_X3_look ln_RX3 lc_X3_look ⟨rfl, by decide, by decide, by decide +kernel⟩ ⟨rfl, rfl⟩ ⟨by decide, by decide⟩ (ci := 3) rfl rfl sr_X3_look (by decide)) (fc (mt_V hl S0 hK hEx hA (me_X3_holds g) lm_RX11_172 li_X3_holds lx_X3_holds ln_RX3 lc_X3_holds ⟨rfl, by decide, by decide, by decide +kernel⟩ ⟨rfl, rfl⟩ ⟨by decide, by decide⟩ (ci := 3) rfl rfl sr_X3_holds (by decide)) (fc (mt_V hl S0 hK hEx hA (me_X3_costOf_v g) lm_RX11_182 li_X3_costOf lx_X3_costOf ln_RX3 lc_X3_costOf ⟨rfl, by decide, by decide, by decide +kernel⟩ ⟨rfl, rfl⟩ ⟨by decide, by decide⟩ (ci := 3) rfl rfl sr_X3_costOf_v (by decide)) (fc (mt_V hl S0 hK hEx hA (me_X3_settleYearOf g) lm_RX11_186 li_X3_settleYearOf lx_X3_settleYearOf ln_RX3 lc_X3_settleYearOf ⟨rfl, by decide, by decide, by decide +kernel⟩ ⟨rfl, rfl⟩ ⟨by decide, by decide⟩ (ci := 3) rfl rfl sr_X3_settleYearOf (by decide)) (fn))))))))) (fun p e s m args below meth c Qc XC A ad0 N0 P S0 hK hEx hA hlk hout hPX => (fn)) (fun argv M Qp h => T_X11_told h)

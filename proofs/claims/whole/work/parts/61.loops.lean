theorem k_chr {M : eg_M} (h : eg_cn (eg_gi M 7 4) 24) {c : Int32} (h1 : ¬ c < nI 0) (h2 : ¬ (eg_gi M 7 4 - nI 1) < c) : ∃ n, n < 24 ∧ n < (eg_gi M 7 4).toNatClampNeg ∧ c = nI n := by
  obtain ⟨m, hm, e⟩ := h
  obtain ⟨n, hn, rfl⟩ := nI_of h1
  rw [e] at h2 ⊢
  rw [n_c (by omega)]
  cases m with
  | zero =>
    exfalso
    refine h2 (Int32.lt_of_lt_of_le (show nI 0 - nI 1 < nI 0 by decide) (Int32.not_lt.mp h1))
  | succ m =>
    rw [n_p, n_lt (by omega) (by omega)] at h2
    exact ⟨n, by omega, by omega, rfl⟩
/-- the class: what about answers -/
def k_ab (N : eg_M) (c w d v : Int32) : Prop := ∃ L q CL, k_W N L ∧ k_lkd N L ∧ k_tx N q CL ∧ ((w = nI 0 ∧ (k_al N c d → v = nI 1) ∧ (¬ k_al N c d → v = nI 0)) ∨ (w = nI 1 ∧ v = k_tn N (k_by N d (k_cL N true c.toNatClampNeg L))) ∨ (w = nI 2 ∧ (k_al N c d → v = b2i (p_slpS (k_zw N c d (k_lb N d 200 (eg_gi N 38 c.toNatClampNeg))) CL)) ∧ (¬ k_al N c d → v = nI 0)) ∨ (w = nI 3 ∧ v = nI (k_by N d (k_cL N true c.toNatClampNeg L)).length) ∨ (w = nI 4 ∧ v = k_gs N (k_by N d (k_cL N false c.toNatClampNeg L))))
theorem k_cL_len {M : eg_M} {v : Bool} {c : Nat} {L : List Nat} (h : k_W M L) : (k_cL M v c L).length ≤ 200 := by
  obtain ⟨⟨n, hn, hN⟩, _, ⟨h1, _⟩, _⟩ := h
  rw [hN, n_c (by omega)] at h1
  unfold k_cL
  rw [List.length_reverse]
  exact Nat.le_trans (List.length_filter_le _ _) (by omega)
/-- values and stack are nobody's business -/
theorem k_I_vs {N : eg_M} {v g : Nat → Int64} (h : k_I N) (hl : ∃ L, k_W N L ∧ k_lkd N L) (hp : k_pq N) (hs : ∀ q CL, k_tx N q CL → k_set N (k_pt N) CL) : k_I (eg_rl (eg_rl N 44 v) 45 g) := by
  have e : eg_rl (eg_rl N 44 v) 45 g = k_sm N (eg_gi N 1 12) (eg_gi N 42) (eg_gl N 40, eg_gl N 41, eg_gl N 43, v, g) := by
    unfold k_sm
    rw [si_id, ri_id]
    dsimp only
    rw [rl_id, rl_id, rl_id]
  rw [e]
  exact sm_I h hl hp (fun q CL hq => hs q CL hq)
def k_X11_about : eg_C := ([(0, .aload_n 0, 1), (1, .iload_n 1, 1), (2, .invokevirtual 94, 3), (5, .aload_n 0, 1), (6, .iload_n 2, 1), (7, .iconst 4, 1), (8, .invokevirtual 141, 3), (11, .aload_n 0, 1), (12, .iload_n 3, 1), (13, .invokevirtual 144, 3), (16, .aload_n 0, 1), (17, .iload 4, 2), (19, .invokevirtual 147, 3), (22, .aload_n 0, 1), (23, .getfield 25, 3), (26, .getfield 150, 3), (29, .iload_n 1, 1), (30, .iaload, 1), (31, .iload 4, 2), (33, .if_icmp .le 14, 3), (36, .iload_n 2, 1), (37, .iconst 4, 1), (38, .if_icmp .ne 7, 3), (41, .iconst (-1), 1), (42, .goto 4, 3), (45, .iconst 0, 1), (46, .ireturn, 1), (47, .aload_n 0, 1), (48, .getfield 12, 3), (51, .iload 4, 2), (53, .invokevirtual 154, 3), (56, .iload_n 2, 1), (57, .tableswitch 87 0 3 #[31, 49, 59, 77], 31), (88, .aload_n 0, 1), (89, .getfield 12, 3), (92, .iload_n 1, 1), (93, .iload_n 3, 1), (94, .invokevirtual 157, 3), (97, .ifCond .eq 7, 3), (100, .iconst 1, 1), (101, .goto 4, 3), (104, .iconst 0, 1), (105, .ireturn, 1), (106, .aload_n 0, 1), (107, .getfield 12, 3), (110, .iload_n 1, 1), (111, .iload_n 3, 1), (112, .invokevirtual 160, 3), (115, .ireturn, 1), (116, .aload_n 0, 1), (117, .getfield 12, 3), (120, .iload_n 1, 1), (121, .iload_n 3, 1), (122, .invokevirtual 163, 3), (125, .ifCond .eq 7, 3), (128, .iconst 1, 1), (129, .goto 4, 3), (132, .iconst 0, 1), (133, .ireturn, 1), (134, .aload_n 0, 1), (135, .getfield 12, 3), (138, .iload_n 1, 1), (139, .iload_n 3, 1), (140, .invokevirtual 166, 3), (143, .ireturn, 1), (144, .aload_n 0, 1), (145, .getfield 12, 3), (148, .iload_n 1, 1), (149, .iload_n 3, 1), (150, .invokevirtual 169, 3), (153, .ireturn, 1)], [(12, 11, 0, false), (25, 11, 2, false), (150, 0, 3, false)], [], [(94, 1 + 1, 1, 6, s_X11_needCharter), (141, 2 + 1, 1, 6, s_X11_needKind), (144, 1 + 1, 1, 6, s_X11_needDay), (147, 1 + 1, 1, 6, s_X11_needPast), (154, 1 + 1, 0, 0, s_X3_look), (157, 2 + 1, 0, 0, s_X3_isAlive), (160, 2 + 1, 0, 0, s_X3_turnOn), (163, 2 + 1, 0, 0, s_X3_sleeps), (166, 2 + 1, 0, 0, s_X3_visitsBy), (169, 2 + 1, 0, 0, s_X3_generousSide)], [], 1, 4, 24)
theorem mk_X11_about : ∀ q ∈ k_X11_about.2.2.2.1, eg_mono q.2.2.2.2 := (fc (mo_X11_needCharter) (fc (mo_X11_needKind) (fc (mo_X11_needDay) (fc (mo_X11_needPast) (fc (mo_X3_look) (fc (mo_X3_isAlive) (fc (mo_X3_turnOn) (fc (mo_X3_sleeps) (fc (mo_X3_visitsBy) (fc (mo_X3_generousSide) (fn)))))))))))
set_option maxRecDepth 100000 in
theorem st_X11_about_0 {Qp : eg_P} {M : eg_M} (c : Int32) (w : Int32) (d : Int32) (k : Int32)
  (g0 : (¬ (¬ (¬ c < (nI 0) ∧ ¬ ((eg_gi M 7 4) - (nI 1)) < c))) → (¬ (¬ (¬ w < (nI 0) ∧ ¬ (nI 4) < w))) → (¬ (¬ (¬ d < (nI 0) ∧ ¬ (nI 3599) < d))) → (¬ (¬ (¬ k < (nI 0) ∧ ¬ (eg_gi M 0 8) < k))) → (vp_in c 24))
  (g1 : (¬ (¬ (¬ c < (nI 0) ∧ ¬ ((eg_gi M 7 4) - (nI 1)) < c))) → (¬ (¬ (¬ w < (nI 0) ∧ ¬ (nI 4) < w))) → (¬ (¬ (¬ d < (nI 0) ∧ ¬ (nI 3599) < d))) → (¬ (¬ (¬ k < (nI 0) ∧ ¬ (eg_gi M 0 8) < k))) → ((eg_gi M 11 c.toNatClampNeg) ≤ k) → (k_sf M ∧ ∃ L, k_W M L))
  (l0 : ((¬ (¬ c < (nI 0) ∧ ¬ ((eg_gi M 7 4) - (nI 1)) < c)) ∨ ((¬ (¬ w < (nI 0) ∧ ¬ (nI 4) < w)) ∨ (¬ (¬ d < (nI 0) ∧ ¬ (nI 3599) < d)))) → Qp (.inr "java/util/NoSuchElementException") M)
  (l1 : ((¬ c < (nI 0) ∧ ¬ ((eg_gi M 7 4) - (nI 1)) < c) ∧ ((¬ w < (nI 0) ∧ ¬ (nI 4) < w) ∧ ((¬ d < (nI 0) ∧ ¬ (nI 3599) < d) ∧ (¬ (¬ k < (nI 0) ∧ ¬ (eg_gi M 0 8) < k))))) → Qp (.inr "java/lang/IllegalArgumentException") M)
  (l2 : ((¬ c < (nI 0) ∧ ¬ ((eg_gi M 7 4) - (nI 1)) < c) ∧ ((¬ w < (nI 0) ∧ ¬ (nI 4) < w) ∧ ((¬ d < (nI 0) ∧ ¬ (nI 3599) < d) ∧ ((¬ k < (nI 0) ∧ ¬ (eg_gi M 0 8) < k) ∧ (eg_gi M 11 c.toNatClampNeg) ≤ k)))) → ∀ (u_1 : k_U), (((k_nw M k u_1 = M ∧ eg_gi M 1 4 = k) ∨ (u_1.1 = nI 0 ∧ ∃ L, k_W M L ∧ k_lkd (k_nw M k u_1) L)) ∧ ((∀ j, j < 200 → k_ev (eg_gi M 36 j)) → ∀ j, j < 200 → k_ev (u_1.2.2.2.2.1 j))) → eg_T wd k_X11_about Qp 56 4 24 [some (.ref 0), some (.int c), some (.int w), some (.int d), some (.int k)] [] (k_nw M k u_1))
  (l3 : ((¬ c < (nI 0) ∧ ¬ ((eg_gi M 7 4) - (nI 1)) < c) ∧ ((¬ w < (nI 0) ∧ ¬ (nI 4) < w) ∧ ((¬ d < (nI 0) ∧ ¬ (nI 3599) < d) ∧ ((¬ k < (nI 0) ∧ ¬ (eg_gi M 0 8) < k) ∧ (¬ (eg_gi M 11 c.toNatClampNeg) ≤ k ∧ w = (nI 4)))))) → Qp (.inl (some (.int (-nI 1)))) M)
  (l4 : ((¬ c < (nI 0) ∧ ¬ ((eg_gi M 7 4) - (nI 1)) < c) ∧ ((¬ w < (nI 0) ∧ ¬ (nI 4) < w) ∧ ((¬ d < (nI 0) ∧ ¬ (nI 3599) < d) ∧ ((¬ k < (nI 0) ∧ ¬ (eg_gi M 0 8) < k) ∧ (¬ (eg_gi M 11 c.toNatClampNeg) ≤ k ∧ ¬ w = (nI 4)))))) → Qp (.inl (some (.int (nI 0)))) M) :
  eg_T wd k_X11_about Qp 0 0 0 [some (.ref 0), some (.int c), some (.int w), some (.int d), some (.int k)] [] M := by
  refine eg_T_run mk_X11_about (cut := [56, 115, 125, 143, 153]) 74 ?_
  refine And.intro (show (True) from ?_) ?_
  · exact trivial
  refine And.intro (fun (c1 : (b2i (decide (¬ c < (nI 0) ∧ ¬ ((eg_gi M 7 4) - (nI 1)) < c))) = 0) => ?_) (fun (c1 : ¬ (b2i (decide (¬ c < (nI 0) ∧ ¬ ((eg_gi M 7 4) - (nI 1)) < c))) = 0) => ?_)
  · replace c1 := b2i_d0.mp c1
    show Qp (.inr "java/util/NoSuchElementException") M
    exact l0 (Or.inl c1)
  · replace c1 := b2i_dn.mp c1
    refine And.intro (show (True) from ?_) ?_
    · exact trivial
    refine And.intro (fun (c2 : (b2i (decide (¬ w < (nI 0) ∧ ¬ (nI 4) < w))) = 0) => ?_) (fun (c2 : ¬ (b2i (decide (¬ w < (nI 0) ∧ ¬ (nI 4) < w))) = 0) => ?_)
    · replace c2 := b2i_d0.mp c2
      show Qp (.inr "java/util/NoSuchElementException") M
      exact l0 (Or.inr (Or.inl c2))
    · replace c2 := b2i_dn.mp c2
      refine And.intro (show (True) from ?_) ?_
      · exact trivial
      refine And.intro (fun (c3 : (b2i (decide (¬ d < (nI 0) ∧ ¬ (nI 3599) < d))) = 0) => ?_) (fun (c3 : ¬ (b2i (decide (¬ d < (nI 0) ∧ ¬ (nI 3599) < d))) = 0) => ?_)
      · replace c3 := b2i_d0.mp c3
        show Qp (.inr "java/util/NoSuchElementException") M
        exact l0 (Or.inr (Or.inr c3))
      · replace c3 := b2i_dn.mp c3
        refine And.intro (show (True) from ?_) ?_
        · exact trivial
        refine And.intro (fun (c4 : (b2i (decide (¬ k < (nI 0) ∧ ¬ (eg_gi M 0 8) < k))) = 0) => ?_) (fun (c4 : ¬ (b2i (decide (¬ k < (nI 0) ∧ ¬ (eg_gi M 0 8) < k))) = 0) => ?_)
        · replace c4 := b2i_d0.mp c4
          show Qp (.inr "java/lang/IllegalArgumentException") M
          exact l1 ⟨(Classical.byContradiction c1), ⟨(Classical.byContradiction c2), ⟨(Classical.byContradiction c3), c4⟩⟩⟩
        · replace c4 := b2i_dn.mp c4
          refine And.intro (show vp_in c 24 from ?_) ?_
          · exact g0 c1 c2 c3 c4
          refine And.intro (fun (c5 : (eg_gi M 11 c.toNatClampNeg) ≤ k) => ?_) (fun (c5 : ¬ (eg_gi M 11 c.toNatClampNeg) ≤ k) => ?_)
          · skip
            refine And.intro (show (k_sf M ∧ ∃ L, k_W M L) from ?_) ?_
            · exact g1 c1 c2 c3 c4 c5
            intro u_1 ha_1
            show eg_T wd k_X11_about Qp 56 4 24 [some (.ref 0), some (.int c), some (.int w), some (.int d), some (.int k)] [] (k_nw M k u_1)
            exact l2 ⟨(Classical.byContradiction c1), ⟨(Classical.byContradiction c2), ⟨(Classical.byContradiction c3), ⟨(Classical.byContradiction c4), c5⟩⟩⟩⟩ u_1 ha_1
          · skip
            refine And.intro (fun (c6 : w = (nI 4)) => ?_) (fun (c6 : ¬ w = (nI 4)) => ?_)
            · skip
              refine And.intro (fun z => absurd z (by decide)) ?_
              show Qp (.inl (some (.int (-nI 1)))) M
              exact l3 ⟨(Classical.byContradiction c1), ⟨(Classical.byContradiction c2), ⟨(Classical.byContradiction c3), ⟨(Classical.byContradiction c4), ⟨c5, c6⟩⟩⟩⟩⟩
            · skip
              refine And.intro (fun z => absurd z (by decide)) ?_
              show Qp (.inl (some (.int (nI 0)))) M
              exact l4 ⟨(Classical.byContradiction c1), ⟨(Classical.byContradiction c2), ⟨(Classical.byContradiction c3), ⟨(Classical.byContradiction c4), ⟨c5, c6⟩⟩⟩⟩⟩

set_option maxRecDepth 100000 in
theorem st_X11_about_56 {Qp : eg_P} {M : eg_M} (c : Int32) (w : Int32) (d : Int32) (o4 : Option Value)
  (g0 : (w.toInt < 0 ∨ 3 < w.toInt) → (vp_in c 24 ∧ (∀ j, j < 200 → k_ev (eg_gi M 36 j)) ∧ ∃ R, k_cp M 39 c R))
  (g1 : (w.toInt = 0) → (vp_in c 24))
  (g2 : (vp_in c 24 ∧ (∀ j, j < 200 → k_ev (eg_gi M 36 j)) ∧ ∃ R, k_cp M 38 c R))
  (g3 : (w.toInt = 2) → (vp_in c 24 ∧ vp_in (eg_gi M 8 c.toNatClampNeg) 16 ∧ vp_in (eg_gi M 9 c.toNatClampNeg) 16 ∧ k_ev (eg_gi M 38 c.toNatClampNeg) ∧ (∀ j, j < 200 → k_ev (eg_gi M 36 j)) ∧ ∃ q L, k_tx M q L))
  (l0 : (w.toInt < 0 ∨ 3 < w.toInt) → ∀ (r_1 : Int32), (∀ R, k_cp M 39 c R → r_1 = k_gs M (k_by M d R)) → eg_T wd k_X11_about Qp 153 4 24 [some (.ref 0), some (.int c), some (.int w), some (.int d), o4] [.int r_1] M)
  (l1 : (¬ (w.toInt < 0 ∨ 3 < w.toInt) ∧ (w.toInt = 0 ∧ (¬ (¬ d < (eg_gi M 10 c.toNatClampNeg) ∧ ¬ (eg_gi M 34 c.toNatClampNeg) ≤ d)))) → Qp (.inl (some (.int (nI 0)))) M)
  (l2 : (¬ (w.toInt < 0 ∨ 3 < w.toInt) ∧ (w.toInt = 0 ∧ ((¬ d < (eg_gi M 10 c.toNatClampNeg) ∧ ¬ (eg_gi M 34 c.toNatClampNeg) ≤ d)))) → Qp (.inl (some (.int (nI 1)))) M)
  (l3 : (¬ (w.toInt < 0 ∨ 3 < w.toInt) ∧ (¬ w.toInt = 0 ∧ w.toInt = 1)) → ∀ (r_2 : Int32), (∀ R, k_cp M 38 c R → r_2 = k_tn M (k_by M d R)) → eg_T wd k_X11_about Qp 115 4 24 [some (.ref 0), some (.int c), some (.int w), some (.int d), o4] [.int r_2] M)
  (l4 : (¬ (w.toInt < 0 ∨ 3 < w.toInt) ∧ (¬ w.toInt = 0 ∧ (¬ w.toInt = 1 ∧ w.toInt = 2))) → ∀ (v_3 : Nat → Int64) (g_3 : Nat → Int64) (r_3 : Bool), ((k_al M c d → ∀ q L, k_tx M q L → r_3 = p_slpS (k_zw M c d (k_lb M d 200 (eg_gi M 38 c.toNatClampNeg))) L) ∧ (¬ k_al M c d → r_3 = false)) → eg_T wd k_X11_about Qp 125 4 24 [some (.ref 0), some (.int c), some (.int w), some (.int d), o4] [.int (b2i r_3)] (eg_rl (eg_rl M 44 v_3) 45 g_3))
  (l5 : (¬ (w.toInt < 0 ∨ 3 < w.toInt) ∧ (¬ w.toInt = 0 ∧ (¬ w.toInt = 1 ∧ ¬ w.toInt = 2))) → ∀ (r_4 : Int32), (∀ R, k_cp M 38 c R → r_4 = nI (k_by M d R).length) → eg_T wd k_X11_about Qp 143 4 24 [some (.ref 0), some (.int c), some (.int w), some (.int d), o4] [.int r_4] M) :
  eg_T wd k_X11_about Qp 56 4 24 [some (.ref 0), some (.int c), some (.int w), some (.int d), o4] [] M := by
  refine eg_T_run mk_X11_about (cut := [56, 115, 125, 143, 153]) 74 ?_
  refine And.intro (fun (c1 : w.toInt < 0 ∨ 3 < w.toInt) => ?_) ?_
  · skip
    refine And.intro (show (vp_in c 24 ∧ (∀ j, j < 200 → k_ev (eg_gi M 36 j)) ∧ ∃ R, k_cp M 39 c R) from ?_) ?_
    · exact g0 c1
    intro r_1 ha_1
    show eg_T wd k_X11_about Qp 153 4 24 [some (.ref 0), some (.int c), some (.int w), some (.int d), o4] [.int r_1] M
    exact l0 c1 r_1 ha_1
  refine And.intro (fun (c2 : w.toInt = 0) => ?_) ?_
  · skip
    refine And.intro (show ((vp_in c 24)) from ?_) ?_
    · exact g1 c2
    refine And.intro (fun (c3 : (b2i (decide (¬ d < (eg_gi M 10 c.toNatClampNeg) ∧ ¬ (eg_gi M 34 c.toNatClampNeg) ≤ d))) = 0) => ?_) (fun (c3 : ¬ (b2i (decide (¬ d < (eg_gi M 10 c.toNatClampNeg) ∧ ¬ (eg_gi M 34 c.toNatClampNeg) ≤ d))) = 0) => ?_)
    · replace c3 := b2i_d0.mp c3
      refine And.intro (fun z => absurd z (by decide)) ?_
      show Qp (.inl (some (.int (nI 0)))) M
      exact l1 (by clear g0 g1 g2 g3 l0 l1 l2 l3 l4 l5; grind)
    · replace c3 := b2i_dn.mp c3
      refine And.intro (fun z => absurd z (by decide)) ?_
      show Qp (.inl (some (.int (nI 1)))) M
      exact l2 (by clear g0 g1 g2 g3 l0 l1 l2 l3 l4 l5; grind)
  refine And.intro (fun (c4 : w.toInt = 1) => ?_) ?_
  · skip
    refine And.intro (show (vp_in c 24 ∧ (∀ j, j < 200 → k_ev (eg_gi M 36 j)) ∧ ∃ R, k_cp M 38 c R) from ?_) ?_
    · exact g2
    intro r_2 ha_2
    show eg_T wd k_X11_about Qp 115 4 24 [some (.ref 0), some (.int c), some (.int w), some (.int d), o4] [.int r_2] M
    exact l3 (by clear g0 g1 g2 g3 l0 l1 l2 l3 l4 l5; grind) r_2 ha_2
  refine And.intro (fun (c5 : w.toInt = 2) => ?_) ?_
  · skip
    refine And.intro (show (vp_in c 24 ∧ vp_in (eg_gi M 8 c.toNatClampNeg) 16 ∧ vp_in (eg_gi M 9 c.toNatClampNeg) 16 ∧ k_ev (eg_gi M 38 c.toNatClampNeg) ∧ (∀ j, j < 200 → k_ev (eg_gi M 36 j)) ∧ ∃ q L, k_tx M q L) from ?_) ?_
    · exact g3 c5
    intro v_3 g_3 r_3 ha_3
    show eg_T wd k_X11_about Qp 125 4 24 [some (.ref 0), some (.int c), some (.int w), some (.int d), o4] [.int (b2i r_3)] (eg_rl (eg_rl M 44 v_3) 45 g_3)
    exact l4 (by clear g0 g1 g2 g3 l0 l1 l2 l3 l4 l5; grind) v_3 g_3 r_3 ha_3
  refine And.intro (fun (c6 : w.toInt = 3) => ?_) ?_
  · skip
    refine And.intro (show (vp_in c 24 ∧ (∀ j, j < 200 → k_ev (eg_gi M 36 j)) ∧ ∃ R, k_cp M 38 c R) from ?_) ?_
    · exact g2
    intro r_4 ha_4
    show eg_T wd k_X11_about Qp 143 4 24 [some (.ref 0), some (.int c), some (.int w), some (.int d), o4] [.int r_4] M
    exact l5 (by clear g0 g1 g2 g3 l0 l1 l2 l3 l4 l5; grind) r_4 ha_4
  exact trivial

set_option maxRecDepth 100000 in
theorem st_X11_about_115 {Qp : eg_P} {M : eg_M} (o0 : Option Value) (o1 : Option Value) (o2 : Option Value) (o3 : Option Value) (o4 : Option Value) (s0 : Int32)
  (l0 : Qp (.inl (some (.int s0))) M) :
  eg_T wd k_X11_about Qp 115 4 24 [o0, o1, o2, o3, o4] [.int s0] M := by
  refine eg_T_run mk_X11_about (cut := [56, 115, 125, 143, 153]) 74 ?_
  refine And.intro (fun z => absurd z (by decide)) ?_
  show Qp (.inl (some (.int s0))) M
  exact l0

set_option maxRecDepth 100000 in
theorem st_X11_about_125 {Qp : eg_P} {M : eg_M} (o0 : Option Value) (o1 : Option Value) (o2 : Option Value) (o3 : Option Value) (o4 : Option Value) (s0 : Int32)
  (l0 : (s0 = 0) → Qp (.inl (some (.int (nI 0)))) M)
  (l1 : (¬ s0 = 0) → Qp (.inl (some (.int (nI 1)))) M) :
  eg_T wd k_X11_about Qp 125 4 24 [o0, o1, o2, o3, o4] [.int s0] M := by
  refine eg_T_run mk_X11_about (cut := [56, 115, 125, 143, 153]) 74 ?_
  refine And.intro (fun (c1 : s0 = 0) => ?_) (fun (c1 : ¬ s0 = 0) => ?_)
  · skip
    refine And.intro (fun z => absurd z (by decide)) ?_
    show Qp (.inl (some (.int (nI 0)))) M
    exact l0 c1
  · skip
    refine And.intro (fun z => absurd z (by decide)) ?_
    show Qp (.inl (some (.int (nI 1)))) M
    exact l1 c1

set_option maxRecDepth 100000 in
theorem st_X11_about_143 {Qp : eg_P} {M : eg_M} (o0 : Option Value) (o1 : Option Value) (o2 : Option Value) (o3 : Option Value) (o4 : Option Value) (s0 : Int32)
  (l0 : Qp (.inl (some (.int s0))) M) :
  eg_T wd k_X11_about Qp 143 4 24 [o0, o1, o2, o3, o4] [.int s0] M := by
  refine eg_T_run mk_X11_about (cut := [56, 115, 125, 143, 153]) 74 ?_
  refine And.intro (fun z => absurd z (by decide)) ?_
  show Qp (.inl (some (.int s0))) M
  exact l0

set_option maxRecDepth 100000 in
theorem st_X11_about_153 {Qp : eg_P} {M : eg_M} (o0 : Option Value) (o1 : Option Value) (o2 : Option Value) (o3 : Option Value) (o4 : Option Value) (s0 : Int32)
  (l0 : Qp (.inl (some (.int s0))) M) :
  eg_T wd k_X11_about Qp 153 4 24 [o0, o1, o2, o3, o4] [.int s0] M := by
  refine eg_T_run mk_X11_about (cut := [56, 115, 125, 143, 153]) 74 ?_
  refine And.intro (fun z => absurd z (by decide)) ?_
  show Qp (.inl (some (.int s0))) M
  exact l0

def s_X11_about : eg_S := fun argv M Qp => match argv with
  | [.ref 0, .int c, .int w, .int d, .int k] => (k_I M) ∧ ∀ (oo : Option Value ⊕ String) (M2 : eg_M), ((¬ ((¬ c < nI 0 ∧ ¬ (eg_gi M 7 4 - nI 1) < c) ∧ (¬ w < nI 0 ∧ ¬ nI 4 < w) ∧ (¬ d < nI 0 ∧ ¬ nI 3599 < d)) ∧ oo = .inr "java/util/NoSuchElementException" ∧ M2 = M) ∨ (((¬ c < nI 0 ∧ ¬ (eg_gi M 7 4 - nI 1) < c) ∧ (¬ w < nI 0 ∧ ¬ nI 4 < w) ∧ (¬ d < nI 0 ∧ ¬ nI 3599 < d)) ∧ ¬ (¬ k < nI 0 ∧ ¬ eg_gi M 0 8 < k) ∧ oo = .inr "java/lang/IllegalArgumentException" ∧ M2 = M) ∨ (((¬ c < nI 0 ∧ ¬ (eg_gi M 7 4 - nI 1) < c) ∧ (¬ w < nI 0 ∧ ¬ nI 4 < w) ∧ (¬ d < nI 0 ∧ ¬ nI 3599 < d)) ∧ (¬ k < nI 0 ∧ ¬ eg_gi M 0 8 < k) ∧ ((¬ eg_gi M 11 c.toNatClampNeg ≤ k ∧ oo = .inl (some (.int (if w = nI 4 then -nI 1 else nI 0))) ∧ M2 = M) ∨ (eg_gi M 11 c.toNatClampNeg ≤ k ∧ ∃ u v, oo = .inl (some (.int v)) ∧ k_ab (k_nw M k u) c w d v ∧ (M2 = k_nw M k u ∨ ∃ f g, M2 = eg_rl (eg_rl (k_nw M k u) 44 f) 45 g) ∧ k_I M2)))) → Qp oo M2
  | _ => False
theorem mo_X11_about : eg_mono s_X11_about := by
  intro argv M Q Q' h
  unfold s_X11_about
  split
  · exact fun z => ⟨z.1, fun oo M2 y => h _ _ (z.2 oo M2 y)⟩
  · exact id
theorem sz_X11_about : ∀ argv M Qp, s_X11_about argv M Qp → (eg_ls0 argv).length ≤ 5 := by
  intro argv M Qp h
  unfold s_X11_about at h
  split at h
  · exact Nat.le_of_ble_eq_true rfl
  · exact h.elim
theorem sr_X11_about : ∀ argv M Qp, s_X11_about argv M Qp → ∃ p0 As, argv = .ref p0 :: As ∧ eg_isO wd M p0 11 = true := by
  intro argv M Qp h
  unfold s_X11_about at h
  split at h
  · exact ⟨_, _, rfl, rfl⟩
  · exact h.elim
set_option maxRecDepth 100000 in
set_option maxHeartbeats 1000000 in
theorem T_X11_about {argv : List Value} {M : eg_M} {Qp : eg_P} (h : s_X11_about argv M Qp) : eg_T wd k_X11_about Qp 0 0 0 (eg_lsN 5 argv) [] M := by
  unfold s_X11_about at h
  split at h
  · rename_i c w d k
    obtain ⟨hp, hq⟩ := h
    have hI := hp
    refine st_X11_about_0 c w d k (fun z1 _ _ _ => ?_) (fun _ _ _ _ _ => ⟨hI.2.1.1, hI.1.1⟩) (fun z => ?_) (fun z => ?_) (fun z u hu => ?_) (fun z => ?_) (fun z => ?_)
    · have z1 := Classical.not_not.mp z1
      obtain ⟨n, hn, _, rfl⟩ := k_chr hI.2.2.2.1 z1.1 z1.2
      exact (n_in (by omega) (by decide)).mpr hn
    · refine hq _ _ (Or.inl ⟨fun y => ?_, rfl, rfl⟩)
      rcases z with w | w | w
      · exact w y.1
      · exact w y.2.1
      · exact w y.2.2
    · exact hq _ _ (Or.inr (Or.inl ⟨⟨z.1, z.2.1, z.2.2.1⟩, z.2.2.2, rfl, rfl⟩))
    · have hk := z.2.2.2.1
      obtain ⟨n, hn, rfl⟩ := k_day hI.2.2.2.2 hk.1 hk.2
      obtain ⟨m, hm, _, rfl⟩ := k_chr hI.2.2.2.1 z.1.1 z.1.2
      obtain ⟨j, hj, rfl⟩ := nI_of2 (M := nI 4) (n := 4) (by decide) z.2.1.1 (Int32.not_lt.mp z.2.1.2)
      have vm : vp_in (nI m) 24 := (n_in (by omega) (by decide)).mpr hm
      have hlk := (k_look hn hI hu)
      obtain ⟨hI', hd, ⟨L, hW, hl⟩, hPQ, q, CL, hT, hS⟩ := hlk
      have hset : ∀ q CL, k_tx (k_nw M (nI n) u) q CL → k_set (k_nw M (nI n) u) (k_pt (k_nw M (nI n) u)) CL := fun q' CL' h' => by
        rw [← (k_tx_inj hT h').2]
        exact hS
      have fin : ∀ v, k_ab (k_nw M (nI n) u) (nI m) (nI j) d v → Qp (.inl (some (.int v))) (k_nw M (nI n) u) := fun v hv => hq _ _ (Or.inr (Or.inr ⟨⟨z.1, z.2.1, z.2.2.1⟩, hk, Or.inr ⟨z.2.2.2.2, u, v, rfl, hv, Or.inl rfl, hI'⟩⟩))
      have fin2 : ∀ v f g, k_ab (k_nw M (nI n) u) (nI m) (nI j) d v → Qp (.inl (some (.int v))) (eg_rl (eg_rl (k_nw M (nI n) u) 44 f) 45 g) := fun v f g hv => hq _ _ (Or.inr (Or.inr ⟨⟨z.1, z.2.1, z.2.2.1⟩, hk, Or.inr ⟨z.2.2.2.2, u, v, rfl, hv, Or.inr ⟨f, g, rfl⟩, k_I_vs hI' ⟨L, hW, hl⟩ hPQ hset⟩⟩))
      clear hq
      generalize k_nw M (nI n) u = N at *
      have hc38 : k_cp N 38 (nI m) (k_cL N true m L) := ⟨k_cL_len hW, by rw [n_c (by omega)]; exact (hl.2.2.2 m hm).1⟩
      have hc39 : k_cp N 39 (nI m) (k_cL N false m L) := ⟨k_cL_len hW, by rw [n_c (by omega)]; exact (hl.2.2.2 m hm).2⟩
      have h36 := hI'.1.2.2.1
      have hcc := hI'.1.2.1 m hm
      have em : (nI m).toNatClampNeg = m := n_c (by omega)
      have ej : (nI j).toInt = (j : Int) := nI_toInt (by omega)
      have hmk : ∀ v, ((nI j = nI 0 ∧ (k_al N (nI m) d → v = nI 1) ∧ (¬ k_al N (nI m) d → v = nI 0)) ∨ (nI j = nI 1 ∧ v = k_tn N (k_by N d (k_cL N true m L))) ∨ (nI j = nI 2 ∧ (k_al N (nI m) d → v = b2i (p_slpS (k_zw N (nI m) d (k_lb N d 200 (eg_gi N 38 m))) CL)) ∧ (¬ k_al N (nI m) d → v = nI 0)) ∨ (nI j = nI 3 ∧ v = nI (k_by N d (k_cL N true m L)).length) ∨ (nI j = nI 4 ∧ v = k_gs N (k_by N d (k_cL N false m L)))) → k_ab N (nI m) (nI j) d v := fun v hv => ⟨L, q, CL, hW, hl, hT, by rw [em]; exact hv⟩
      refine st_X11_about_56 (nI m) (nI j) d _ (fun _ => ⟨vm, h36, _, hc39⟩) (fun _ => vm) ⟨vm, h36, _, hc38⟩ (fun _ => ⟨vm, ?_, ?_, chn_ev hc38.2, h36, q, CL, hT⟩) (fun y r hr => ?_) (fun y => ?_) (fun y => ?_) (fun y r hr => ?_) (fun y v g r hr => ?_) (fun y r hr => ?_)
      · rw [em]; exact hcc.1
      · rw [em]; exact hcc.2
      · have : j = 4 := by omega
        subst this
        exact st_X11_about_153 _ _ _ _ _ _ (fin _ (hmk _ (Or.inr (Or.inr (Or.inr (Or.inr ⟨rfl, hr _ hc39⟩))))))
      · have : j = 0 := by omega
        subst this
        exact fin _ (hmk _ (Or.inl ⟨rfl, fun x => absurd x y.2.2, fun _ => rfl⟩))
      · have : j = 0 := by omega
        subst this
        exact fin _ (hmk _ (Or.inl ⟨rfl, fun _ => rfl, fun x => absurd y.2.2 x⟩))
      · have : j = 1 := by omega
        subst this
        exact st_X11_about_115 _ _ _ _ _ _ (fin _ (hmk _ (Or.inr (Or.inl ⟨rfl, hr _ hc38⟩))))
      · have : j = 2 := by omega
        subst this
        have hv : k_ab N (nI m) (nI 2) d (b2i r) := by
          refine hmk _ (Or.inr (Or.inr (Or.inl ⟨rfl, fun x => ?_, fun x => ?_⟩)))
          · have := hr.1 x q CL hT
            rw [em] at this
            rw [this]
          · rw [hr.2 x]
            rfl
        refine st_X11_about_125 _ _ _ _ _ _ (fun x => ?_) (fun x => ?_)
        · have x := b2i_0.mp x
          rw [x] at hv
          exact fin2 _ v g hv
        · have x := b2i_n0.mp x
          rw [x] at hv
          exact fin2 _ v g hv
      · have : j = 3 := by omega
        subst this
        exact st_X11_about_143 _ _ _ _ _ _ (fin _ (hmk _ (Or.inr (Or.inr (Or.inr (Or.inl ⟨rfl, hr _ hc38⟩))))))
    · refine hq _ _ (Or.inr (Or.inr ⟨⟨z.1, z.2.1, z.2.2.1⟩, z.2.2.2.1, Or.inl ⟨z.2.2.2.2.1, ?_, rfl⟩⟩))
      rw [if_pos z.2.2.2.2.2]
    · refine hq _ _ (Or.inr (Or.inr ⟨⟨z.1, z.2.1, z.2.2.1⟩, z.2.2.2.1, Or.inl ⟨z.2.2.2.2.1, ?_, rfl⟩⟩))
      rw [if_neg z.2.2.2.2.2]
    
  · exact h.elim
theorem de_X11_about : ∀ q ∈ k_X11_about.1, decode cX11_about q.1 = .ok q.2 := by decide +kernel
theorem me_X11_about (g : gl_T) : MT g yX11_about cX11_about 5 (some .int) ⟨7, 4, 24, 114⟩ 4 24 s_X11_about := by
  intro hl
  exact eg_met_of (k := k_X11_about) (by decide) rfl ⟨Nat.le_refl _, Nat.le_refl _⟩ rfl sz_X11_about de_X11_about (fun meth hn => (fc (eg_FL_of wd_c11 (by decide) lf_RX11_12 (fun h => absurd h (by decide))) (fc (eg_FL_of wd_c11 (by decide) lf_RX11_25 (fun h => absurd h (by decide))) (fc (eg_FL_of wd_c0 (by decide) lf_RX11_150 (fun h => absurd h (by decide))) (fn))))) (fun A s H hE => (fn)) (fun p e s m args below meth c Q A ad0 N0 S0 hK hEx hA => (fc (mt_V hl S0 hK hEx hA (me_X11_needCharter g) lm_RX11_94 li_X11_needCharter lx_X11_needCharter ln_RX11 lc_X11_needCharter ⟨rfl, by decide, by decide, by decide +kernel⟩ ⟨rfl, rfl⟩ ⟨by decide, by decide⟩ (ci := 11) rfl rfl eg_auto_rec (by decide)) (fc (mt_V hl S0 hK hEx hA (me_X11_needKind g) lm_RX11_141 li_X11_needKind lx_X11_needKind ln_RX11 lc_X11_needKind ⟨rfl, by decide, by decide, by decide +kernel⟩ ⟨rfl, rfl⟩ ⟨by decide, by decide⟩ (ci := 11) rfl rfl eg_auto_rec (by decide)) (fc (mt_V hl S0 hK hEx hA (me_X11_needDay g) lm_RX11_144 li_X11_needDay lx_X11_needDay ln_RX11 lc_X11_needDay ⟨rfl, by decide, by decide, by decide +kernel⟩ ⟨rfl, rfl⟩ ⟨by decide, by decide⟩ (ci := 11) rfl rfl eg_auto_rec (by decide)) (fc (mt_V hl S0 hK hEx hA (me_X11_needPast g) lm_RX11_147 li_X11_needPast lx_X11_needPast ln_RX11 lc_X11_needPast ⟨rfl, by decide, by decide, by decide +kernel⟩ ⟨rfl, rfl⟩ ⟨by decide, by decide⟩ (ci := 11) rfl rfl eg_auto_rec (by decide)) (fc (mt_V hl S0 hK hEx hA (me_X3_look g) lm_RX11_154 li_X3_look lx_X3_look ln_RX3 lc_X3_look ⟨rfl, by decide, by decide, by decide +kernel⟩ ⟨rfl, rfl⟩ ⟨by decide, by decide⟩ (ci := 3) rfl rfl sr_X3_look (by decide)) (fc (mt_V hl S0 hK hEx hA (me_X3_isAlive g) lm_RX11_157 li_X3_isAlive lx_X3_isAlive ln_RX3 lc_X3_isAlive ⟨rfl, by decide, by decide, by decide +kernel⟩ ⟨rfl, rfl⟩ ⟨by decide, by decide⟩ (ci := 3) rfl rfl sr_X3_isAlive (by decide)) (fc (mt_V hl S0 hK hEx hA (me_X3_turnOn g) lm_RX11_160 li_X3_turnOn lx_X3_turnOn ln_RX3 lc_X3_turnOn ⟨rfl, by decide, by decide, by decide +kernel⟩ ⟨rfl, rfl⟩ ⟨by decide, by decide⟩ (ci := 3) rfl rfl sr_X3_turnOn (by decide)) (fc (mt_V hl S0 hK hEx hA (me_X3_sleeps g) lm_RX11_163 li_X3_sleeps lx_X3_sleeps ln_RX3 lc_X3_sleeps ⟨rfl, by decide, by decide, by decide +kernel⟩ ⟨rfl, rfl⟩ ⟨by decide, by decide⟩ (ci := 3) rfl rfl sr_X3_sleeps (by decide)) (fc (mt_V hl S0 hK hEx hA (me_X3_visitsBy g) lm_RX11_166 li_X3_visitsBy lx_X3_visitsBy ln_RX3 lc_X3_visitsBy ⟨rfl, by decide, by decide, by decide +kernel⟩ ⟨rfl, rfl⟩ ⟨by decide, by decide⟩ (ci := 3) rfl rfl sr_X3_visitsBy (by decide)) (fc (mt_V hl S0 hK hEx hA (me_X3_generousSide g) lm_RX11_169 li_X3_generousSide lx_X3_generousSide ln_RX3 lc_X3_generousSide ⟨rfl, by decide, by decide, by decide +kernel⟩ ⟨rfl, rfl⟩ ⟨by decide, by decide⟩ (ci := 3) rfl rfl sr_X3_generousSide (by decide)) (fn)))))))))))) (fun p e s m args below meth c Qc XC A ad0 N0 P S0 hK hEx hA hlk hout hPX => (fn)) (fun argv M Qp h => T_X11_about h)

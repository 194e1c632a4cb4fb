abbrev k_KA := (Nat → Int32) × (Nat → Int32) × Bool
/-- the class: t asks, if it has no friend and a wish left -/
def k_g1 (M : eg_M) (s : Int32) (x : k_KA) (t : Nat) : k_KA := if x.1 t = -nI 1 ∧ ¬ eg_gi M 98 t ≤ x.2.1 t then (k_ak M t (eg_gi M (81 + 1 + t) (x.2.1 t).toNatClampNeg).toNatClampNeg s x.1, (fun j => if j = t then x.2.1 t + nI 1 else x.2.1 j), true) else x
/-- the class: rounds of asking -/
def k_gR (M : eg_M) (s : Int32) (F : List Nat) : Nat → k_KA → k_KA
  | 0, x => x
  | r + 1, x => if x.2.2 = true then k_gR M s F r (F.foldl (k_g1 M s) (x.1, x.2.1, false)) else x
/-- wishes are towns -/
def k_wi (M : eg_M) : Prop := ∀ t, t < 16 → eg_cn (eg_gi M 98 t) 6 ∧ ∀ i, i < (eg_gi M 98 t).toNatClampNeg → k_t1 (eg_gi M (81 + 1 + t) i)
def k_xo (x : k_KA) : Prop := k_kt x.1 ∧ ∀ t, t < 16 → eg_cn (x.2.1 t) 6
theorem k_g1_w {M : eg_M} (hW : k_wi M) {x : k_KA} {t : Nat} (ht : t < 16) (h : k_xo x) (hz : ¬ eg_gi M 98 t ≤ x.2.1 t) : ∃ c, c < 6 ∧ x.2.1 t = nI c ∧ k_t1 (eg_gi M (81 + 1 + t) c) := by
  obtain ⟨c, hc, ec⟩ := h.2 t ht
  obtain ⟨⟨m, hm, em⟩, hw⟩ := hW t ht
  rw [em, n_c (by omega)] at hw
  rw [em, ec, n_le (by omega) (by omega)] at hz
  exact ⟨c, by omega, ec, hw c (by omega)⟩
theorem k_g1_ok {M : eg_M} (hW : k_wi M) {s : Int32} {x : k_KA} {t : Nat} (ht : t < 16) (h : k_xo x) : k_xo (k_g1 M s x t) := by
  unfold k_g1
  split
  · rename_i z
    obtain ⟨c, hc, ec, hw⟩ := k_g1_w hW ht h z.2
    refine ⟨k_ak_kt ht ?_ h.1, fun u hu => ?_⟩
    · rw [ec, n_c (by omega)]
      exact k_t1_c hw
    · show eg_cn (if u = t then x.2.1 t + nI 1 else x.2.1 u) 6
      by_cases e : u = t
      · rw [if_pos e, ec, n_s]
        exact ⟨c + 1, by omega, rfl⟩
      · rw [if_neg e]
        exact h.2 u hu
  · exact h
theorem k_gf_ok {M : eg_M} (hW : k_wi M) {s : Int32} : ∀ (F : List Nat) (x : k_KA), (∀ t ∈ F, t < 16) → k_xo x → k_xo (F.foldl (k_g1 M s) x)
  | [], _, _, h => h
  | t :: F, x, hF, h => k_gf_ok hW F _ (fun u hu => hF u (List.mem_cons_of_mem _ hu)) (k_g1_ok hW (hF t List.mem_cons_self) h)
theorem k_ak_of {M N : eg_M} {t o : Nat} {s : Int32} {K : Nat → Int32} (h : ∀ j, eg_gi N (99 + 1 + o) j = eg_gi M (99 + 1 + o) j) : k_ak N t o s K = k_ak M t o s K := by
  unfold k_ak
  rw [h, h]
/-- the class's memory while they ask -/
def k_gm (M : eg_M) (n : Nat) (f K A : Nat → Int32) : eg_M := eg_ri (eg_ri (eg_si (eg_ri M 119 f) 80 8 (nI n)) 117 A) 116 K
theorem gm_g {M : eg_M} {n : Nat} {f K A : Nat → Int32} {p j : Nat} (h1 : ¬ p = 116) (h2 : ¬ p = 117) (h3 : ¬ p = 119) (h4 : ¬ p = 80) : eg_gi (k_gm M n f K A) p j = eg_gi M p j := by
  unfold k_gm
  rw [ri_g, if_neg h1, ri_g, if_neg h2, si_g, if_neg (fun z => h4 z.1), ri_g, if_neg h3]
def k_X2_pairByFirst : eg_C := ([(0, .aload_n 0, 1), (1, .iload_n 1, 1), (2, .aload_n 0, 1), (3, .getfield 32, 3), (6, .invokestatic 51, 3), (9, .putfield 38, 3), (12, .aload_n 0, 1), (13, .getfield 23, 3), (16, .iconst (-1), 1), (17, .invokestatic 45, 3), (20, .aload_n 0, 1), (21, .getfield 26, 3), (24, .iconst 0, 1), (25, .invokestatic 45, 3), (28, .iconst 1, 1), (29, .istore_n 3, 1), (30, .iconst 0, 1), (31, .istore 4, 2), (33, .iload 4, 2), (35, .bipush 37, 2), (37, .if_icmp .ge 99, 3), (40, .iload_n 3, 1), (41, .ifCond .eq 95, 3), (44, .iconst 0, 1), (45, .istore_n 3, 1), (46, .iconst 0, 1), (47, .istore 5, 2), (49, .iload 5, 2), (51, .aload_n 0, 1), (52, .getfield 38, 3), (55, .if_icmp .ge 75, 3), (58, .aload_n 0, 1), (59, .getfield 32, 3), (62, .iload 5, 2), (64, .iaload, 1), (65, .istore 6, 2), (67, .aload_n 0, 1), (68, .getfield 23, 3), (71, .iload 6, 2), (73, .iaload, 1), (74, .iconst (-1), 1), (75, .if_icmp .ne 49, 3), (78, .aload_n 0, 1), (79, .getfield 26, 3), (82, .iload 6, 2), (84, .iaload, 1), (85, .aload_n 0, 1), (86, .getfield 16, 3), (89, .iload 6, 2), (91, .iaload, 1), (92, .if_icmp .ge 32, 3), (95, .aload_n 0, 1), (96, .iload 6, 2), (98, .aload_n 0, 1), (99, .getfield 11, 3), (102, .iload 6, 2), (104, .aaload, 1), (105, .aload_n 0, 1), (106, .getfield 26, 3), (109, .iload 6, 2), (111, .dup2, 1), (112, .iaload, 1), (113, .dup_x2, 1), (114, .iconst 1, 1), (115, .iadd, 1), (116, .iastore, 1), (117, .iaload, 1), (118, .iload_n 2, 1), (119, .invokevirtual 55, 3), (122, .iconst 1, 1), (123, .istore_n 3, 1), (124, .iinc 5 1, 3), (127, .goto (-78), 3), (130, .iinc 4 1, 3), (133, .goto (-100), 3), (136, .iconst 0, 1), (137, .istore 4, 2), (139, .iconst 0, 1), (140, .istore 5, 2), (142, .iload 5, 2), (144, .aload_n 0, 1), (145, .getfield 38, 3), (148, .if_icmp .ge 35, 3), (151, .iload 4, 2), (153, .aload_n 0, 1), (154, .getfield 23, 3), (157, .aload_n 0, 1), (158, .getfield 32, 3), (161, .iload 5, 2), (163, .iaload, 1), (164, .iaload, 1), (165, .iconst (-1), 1), (166, .if_icmp .ne 7, 3), (169, .iconst 0, 1), (170, .goto 4, 3), (173, .iconst 1, 1), (174, .iadd, 1), (175, .istore 4, 2), (177, .iinc 5 1, 3), (180, .goto (-38), 3), (183, .iload 4, 2), (185, .ireturn, 1)], [(11, 2, 0, false), (16, 2, 1, false), (23, 2, 3, false), (26, 2, 4, false), (32, 2, 6, false), (38, 2, 8, true)], [], [(45 + 100000, 2, 0, 0, s_J7_fill_53178), (51 + 100000, 2, 0, 0, s_X2_listTowns), (55, 3 + 1, 0, 0, s_X2_ask_v)], [], 1, 0, 0)
theorem mk_X2_pairByFirst : ∀ q ∈ k_X2_pairByFirst.2.2.2.1, eg_mono q.2.2.2.2 := (fc (mo_J7_fill_53178) (fc (mo_X2_listTowns) (fc (mo_X2_ask_v) (fn))))
set_option maxRecDepth 100000 in
theorem st_X2_pairByFirst_0 {Qp : eg_P} {M : eg_M} (a : Int32) (s : Int32)
  (g0 : (119 = 119 ∨ 119 = 120))
  (l0 : ∀ (f_1 : Nat → Int32), (isL f_1 ((ones a 16).take 6)) → eg_T wd k_X2_pairByFirst Qp 9 0 0 [some (.ref 80), some (.int a), some (.int s), none, none, none, none] [.int (nI ((ones a 16).take 6).length), .ref 80] (eg_ri M 119 f_1)) :
  eg_T wd k_X2_pairByFirst Qp 0 0 0 [some (.ref 80), some (.int a), some (.int s), none, none, none, none] [] M := by
  refine eg_T_run mk_X2_pairByFirst (cut := [9, 33, 49, 142]) 105 ?_
  refine And.intro (show ((119 = 119 ∨ 119 = 120)) from ?_) ?_
  · exact g0
  intro f_1 ha_1
  show eg_T wd k_X2_pairByFirst Qp 9 0 0 [some (.ref 80), some (.int a), some (.int s), none, none, none, none] [.int (nI ((ones a 16).take 6).length), .ref 80] (eg_ri M 119 f_1)
  exact l0 f_1 ha_1

set_option maxRecDepth 100000 in
theorem st_X2_pairByFirst_9 {Qp : eg_P} {M : eg_M} (o1 : Option Value) (s : Int32) (o3 : Option Value) (o4 : Option Value) (o5 : Option Value) (o6 : Option Value) (s0 : Int32)
  (l0 : eg_T wd k_X2_pairByFirst Qp 33 0 0 [some (.ref 80), o1, some (.int s), some (.int (nI 1)), some (.int (nI 0)), o5, o6] [] (eg_fi (eg_fi (eg_si M 80 8 s0) 116 16 (-nI 1)) 117 16 (nI 0))) :
  eg_T wd k_X2_pairByFirst Qp 9 0 0 [some (.ref 80), o1, some (.int s), o3, o4, o5, o6] [.int s0, .ref 80] M := by
  refine eg_T_run mk_X2_pairByFirst (cut := [9, 33, 49, 142]) 105 ?_
  refine And.intro (show 16 < 2 ^ 31 by decide) ?_
  refine And.intro (show 16 < 2 ^ 31 by decide) ?_
  show eg_T wd k_X2_pairByFirst Qp 33 0 0 [some (.ref 80), o1, some (.int s), some (.int (nI 1)), some (.int (nI 0)), o5, o6] [] (eg_fi (eg_fi (eg_si M 80 8 s0) 116 16 (-nI 1)) 117 16 (nI 0))
  exact l0

set_option maxRecDepth 100000 in
theorem st_X2_pairByFirst_33 {Qp : eg_P} {M : eg_M} (o1 : Option Value) (s : Int32) (x3 : Int32) (x4 : Int32) (o5 : Option Value) (o6 : Option Value)
  (l0 : ((nI 37) ≤ x4 ∨ x3 = 0) → eg_T wd k_X2_pairByFirst Qp 142 0 0 [some (.ref 80), o1, some (.int s), some (.int x3), some (.int (nI 0)), some (.int (nI 0)), o6] [] M)
  (l1 : (¬ (nI 37) ≤ x4 ∧ ¬ x3 = 0) → eg_T wd k_X2_pairByFirst Qp 49 0 0 [some (.ref 80), o1, some (.int s), some (.int (nI 0)), some (.int x4), some (.int (nI 0)), o6] [] M) :
  eg_T wd k_X2_pairByFirst Qp 33 0 0 [some (.ref 80), o1, some (.int s), some (.int x3), some (.int x4), o5, o6] [] M := by
  refine eg_T_run mk_X2_pairByFirst (cut := [9, 33, 49, 142]) 105 ?_
  refine And.intro (fun (c1 : (nI 37) ≤ x4) => ?_) (fun (c1 : ¬ (nI 37) ≤ x4) => ?_)
  · skip
    show eg_T wd k_X2_pairByFirst Qp 142 0 0 [some (.ref 80), o1, some (.int s), some (.int x3), some (.int (nI 0)), some (.int (nI 0)), o6] [] M
    exact l0 (Or.inl c1)
  · skip
    refine And.intro (fun (c2 : x3 = 0) => ?_) (fun (c2 : ¬ x3 = 0) => ?_)
    · skip
      show eg_T wd k_X2_pairByFirst Qp 142 0 0 [some (.ref 80), o1, some (.int s), some (.int x3), some (.int (nI 0)), some (.int (nI 0)), o6] [] M
      exact l0 (Or.inr c2)
    · skip
      show eg_T wd k_X2_pairByFirst Qp 49 0 0 [some (.ref 80), o1, some (.int s), some (.int (nI 0)), some (.int x4), some (.int (nI 0)), o6] [] M
      exact l1 ⟨c1, c2⟩

set_option maxRecDepth 100000 in
theorem st_X2_pairByFirst_49 {Qp : eg_P} {M : eg_M} (o1 : Option Value) (s : Int32) (x3 : Int32) (x4 : Int32) (x5 : Int32) (o6 : Option Value)
  (g0 : (¬ ((eg_gi M 80 8) ≤ x5)) → (vp_in x5 6))
  (g1 : (¬ ((eg_gi M 80 8) ≤ x5)) → (vp_in (eg_gi M 119 x5.toNatClampNeg) 16))
  (g2 : (¬ ((eg_gi M 80 8) ≤ x5)) → ((eg_gi M 116 (eg_gi M 119 x5.toNatClampNeg).toNatClampNeg) = (-nI 1)) → (¬ ((eg_gi M 98 (eg_gi M 119 x5.toNatClampNeg).toNatClampNeg) ≤ (eg_gi M 117 (eg_gi M 119 x5.toNatClampNeg).toNatClampNeg))) → (eg_is wd (eg_si M 117 (eg_gi M 119 x5.toNatClampNeg).toNatClampNeg ((eg_gi M 117 (eg_gi M 119 x5.toNatClampNeg).toNatClampNeg) + (nI 1))) (81 + 1 + (eg_gi M 119 x5.toNatClampNeg).toNatClampNeg) 1 = true))
  (g3 : (¬ ((eg_gi M 80 8) ≤ x5)) → ((eg_gi M 116 (eg_gi M 119 x5.toNatClampNeg).toNatClampNeg) = (-nI 1)) → (¬ ((eg_gi M 98 (eg_gi M 119 x5.toNatClampNeg).toNatClampNeg) ≤ (eg_gi M 117 (eg_gi M 119 x5.toNatClampNeg).toNatClampNeg))) → (vp_in (eg_gi M 117 (eg_gi M 119 x5.toNatClampNeg).toNatClampNeg) (eg_len wd (eg_si M 117 (eg_gi M 119 x5.toNatClampNeg).toNatClampNeg ((eg_gi M 117 (eg_gi M 119 x5.toNatClampNeg).toNatClampNeg) + (nI 1))) (81 + 1 + (eg_gi M 119 x5.toNatClampNeg).toNatClampNeg))))
  (g4 : (¬ ((eg_gi M 80 8) ≤ x5)) → ((eg_gi M 116 (eg_gi M 119 x5.toNatClampNeg).toNatClampNeg) = (-nI 1)) → (¬ ((eg_gi M 98 (eg_gi M 119 x5.toNatClampNeg).toNatClampNeg) ≤ (eg_gi M 117 (eg_gi M 119 x5.toNatClampNeg).toNatClampNeg))) → (k_t1 (eg_gi M 119 x5.toNatClampNeg) ∧ k_t1 (eg_gi (eg_si M 117 (eg_gi M 119 x5.toNatClampNeg).toNatClampNeg ((eg_gi M 117 (eg_gi M 119 x5.toNatClampNeg).toNatClampNeg) + (nI 1))) (81 + 1 + (eg_gi M 119 x5.toNatClampNeg).toNatClampNeg) (eg_gi M 117 (eg_gi M 119 x5.toNatClampNeg).toNatClampNeg).toNatClampNeg) ∧ k_kt (eg_gi (eg_si M 117 (eg_gi M 119 x5.toNatClampNeg).toNatClampNeg ((eg_gi M 117 (eg_gi M 119 x5.toNatClampNeg).toNatClampNeg) + (nI 1))) 116)))
  (l0 : ((eg_gi M 80 8) ≤ x5) → eg_T wd k_X2_pairByFirst Qp 33 0 0 [some (.ref 80), o1, some (.int s), some (.int x3), some (.int (x4 + (nI 1))), some (.int x5), o6] [] M)
  (l1 : (¬ (eg_gi M 80 8) ≤ x5 ∧ (¬ (eg_gi M 116 (eg_gi M 119 x5.toNatClampNeg).toNatClampNeg) = (-nI 1) ∨ (eg_gi M 98 (eg_gi M 119 x5.toNatClampNeg).toNatClampNeg) ≤ (eg_gi M 117 (eg_gi M 119 x5.toNatClampNeg).toNatClampNeg))) → eg_T wd k_X2_pairByFirst Qp 49 0 0 [some (.ref 80), o1, some (.int s), some (.int x3), some (.int x4), some (.int (x5 + (nI 1))), some (.int (eg_gi M 119 x5.toNatClampNeg))] [] M)
  (l2 : (¬ (eg_gi M 80 8) ≤ x5 ∧ ((eg_gi M 116 (eg_gi M 119 x5.toNatClampNeg).toNatClampNeg) = (-nI 1) ∧ ¬ (eg_gi M 98 (eg_gi M 119 x5.toNatClampNeg).toNatClampNeg) ≤ (eg_gi M 117 (eg_gi M 119 x5.toNatClampNeg).toNatClampNeg))) → eg_T wd k_X2_pairByFirst Qp 49 0 0 [some (.ref 80), o1, some (.int s), some (.int (nI 1)), some (.int x4), some (.int (x5 + (nI 1))), some (.int (eg_gi M 119 x5.toNatClampNeg))] [] (eg_ri (eg_si M 117 (eg_gi M 119 x5.toNatClampNeg).toNatClampNeg ((eg_gi M 117 (eg_gi M 119 x5.toNatClampNeg).toNatClampNeg) + (nI 1))) 116 (k_ak (eg_si M 117 (eg_gi M 119 x5.toNatClampNeg).toNatClampNeg ((eg_gi M 117 (eg_gi M 119 x5.toNatClampNeg).toNatClampNeg) + (nI 1))) (eg_gi M 119 x5.toNatClampNeg).toNatClampNeg (eg_gi (eg_si M 117 (eg_gi M 119 x5.toNatClampNeg).toNatClampNeg ((eg_gi M 117 (eg_gi M 119 x5.toNatClampNeg).toNatClampNeg) + (nI 1))) (81 + 1 + (eg_gi M 119 x5.toNatClampNeg).toNatClampNeg) (eg_gi M 117 (eg_gi M 119 x5.toNatClampNeg).toNatClampNeg).toNatClampNeg).toNatClampNeg s (eg_gi (eg_si M 117 (eg_gi M 119 x5.toNatClampNeg).toNatClampNeg ((eg_gi M 117 (eg_gi M 119 x5.toNatClampNeg).toNatClampNeg) + (nI 1))) 116)))) :
  eg_T wd k_X2_pairByFirst Qp 49 0 0 [some (.ref 80), o1, some (.int s), some (.int x3), some (.int x4), some (.int x5), o6] [] M := by
  refine eg_T_run mk_X2_pairByFirst (cut := [9, 33, 49, 142]) 105 ?_
  refine And.intro (fun (c1 : (eg_gi M 80 8) ≤ x5) => ?_) (fun (c1 : ¬ (eg_gi M 80 8) ≤ x5) => ?_)
  · skip
    show eg_T wd k_X2_pairByFirst Qp 33 0 0 [some (.ref 80), o1, some (.int s), some (.int x3), some (.int (x4 + (nI 1))), some (.int x5), o6] [] M
    exact l0 c1
  · skip
    refine And.intro (show vp_in x5 6 from ?_) ?_
    · exact g0 c1
    refine And.intro (show vp_in (eg_gi M 119 x5.toNatClampNeg) 16 from ?_) ?_
    · exact g1 c1
    refine And.intro (fun (c2 : (eg_gi M 116 (eg_gi M 119 x5.toNatClampNeg).toNatClampNeg) = (-nI 1)) => ?_) (fun (c2 : ¬ (eg_gi M 116 (eg_gi M 119 x5.toNatClampNeg).toNatClampNeg) = (-nI 1)) => ?_)
    · skip
      refine And.intro (show vp_in (eg_gi M 119 x5.toNatClampNeg) 16 from ?_) ?_
      · exact g1 c1
      refine And.intro (show vp_in (eg_gi M 119 x5.toNatClampNeg) 16 from ?_) ?_
      · exact g1 c1
      refine And.intro (fun (c3 : (eg_gi M 98 (eg_gi M 119 x5.toNatClampNeg).toNatClampNeg) ≤ (eg_gi M 117 (eg_gi M 119 x5.toNatClampNeg).toNatClampNeg)) => ?_) (fun (c3 : ¬ (eg_gi M 98 (eg_gi M 119 x5.toNatClampNeg).toNatClampNeg) ≤ (eg_gi M 117 (eg_gi M 119 x5.toNatClampNeg).toNatClampNeg)) => ?_)
      · skip
        show eg_T wd k_X2_pairByFirst Qp 49 0 0 [some (.ref 80), o1, some (.int s), some (.int x3), some (.int x4), some (.int (x5 + (nI 1))), some (.int (eg_gi M 119 x5.toNatClampNeg))] [] M
        exact l1 ⟨c1, (Or.inr c3)⟩
      · skip
        refine And.intro (show vp_in (eg_gi M 119 x5.toNatClampNeg) 16 from ?_) ?_
        · exact g1 c1
        refine And.intro (show vp_in (eg_gi M 119 x5.toNatClampNeg) 16 from ?_) ?_
        · exact g1 c1
        refine And.intro (show vp_in (eg_gi M 119 x5.toNatClampNeg) 16 from ?_) ?_
        · exact g1 c1
        refine eg_need_of (show eg_is wd (eg_si M 117 (eg_gi M 119 x5.toNatClampNeg).toNatClampNeg ((eg_gi M 117 (eg_gi M 119 x5.toNatClampNeg).toNatClampNeg) + (nI 1))) (81 + 1 + (eg_gi M 119 x5.toNatClampNeg).toNatClampNeg) 1 = true from ?_) ?_
        · exact g2 c1 c2 c3
        refine And.intro (show vp_in (eg_gi M 117 (eg_gi M 119 x5.toNatClampNeg).toNatClampNeg) (eg_len wd (eg_si M 117 (eg_gi M 119 x5.toNatClampNeg).toNatClampNeg ((eg_gi M 117 (eg_gi M 119 x5.toNatClampNeg).toNatClampNeg) + (nI 1))) (81 + 1 + (eg_gi M 119 x5.toNatClampNeg).toNatClampNeg)) from ?_) ?_
        · exact g3 c1 c2 c3
        refine And.intro (show (k_t1 (eg_gi M 119 x5.toNatClampNeg) ∧ k_t1 (eg_gi (eg_si M 117 (eg_gi M 119 x5.toNatClampNeg).toNatClampNeg ((eg_gi M 117 (eg_gi M 119 x5.toNatClampNeg).toNatClampNeg) + (nI 1))) (81 + 1 + (eg_gi M 119 x5.toNatClampNeg).toNatClampNeg) (eg_gi M 117 (eg_gi M 119 x5.toNatClampNeg).toNatClampNeg).toNatClampNeg) ∧ k_kt (eg_gi (eg_si M 117 (eg_gi M 119 x5.toNatClampNeg).toNatClampNeg ((eg_gi M 117 (eg_gi M 119 x5.toNatClampNeg).toNatClampNeg) + (nI 1))) 116)) from ?_) ?_
        · exact g4 c1 c2 c3
        show eg_T wd k_X2_pairByFirst Qp 49 0 0 [some (.ref 80), o1, some (.int s), some (.int (nI 1)), some (.int x4), some (.int (x5 + (nI 1))), some (.int (eg_gi M 119 x5.toNatClampNeg))] [] (eg_ri (eg_si M 117 (eg_gi M 119 x5.toNatClampNeg).toNatClampNeg ((eg_gi M 117 (eg_gi M 119 x5.toNatClampNeg).toNatClampNeg) + (nI 1))) 116 (k_ak (eg_si M 117 (eg_gi M 119 x5.toNatClampNeg).toNatClampNeg ((eg_gi M 117 (eg_gi M 119 x5.toNatClampNeg).toNatClampNeg) + (nI 1))) (eg_gi M 119 x5.toNatClampNeg).toNatClampNeg (eg_gi (eg_si M 117 (eg_gi M 119 x5.toNatClampNeg).toNatClampNeg ((eg_gi M 117 (eg_gi M 119 x5.toNatClampNeg).toNatClampNeg) + (nI 1))) (81 + 1 + (eg_gi M 119 x5.toNatClampNeg).toNatClampNeg) (eg_gi M 117 (eg_gi M 119 x5.toNatClampNeg).toNatClampNeg).toNatClampNeg).toNatClampNeg s (eg_gi (eg_si M 117 (eg_gi M 119 x5.toNatClampNeg).toNatClampNeg ((eg_gi M 117 (eg_gi M 119 x5.toNatClampNeg).toNatClampNeg) + (nI 1))) 116)))
        exact l2 ⟨c1, ⟨c2, c3⟩⟩
    · skip
      show eg_T wd k_X2_pairByFirst Qp 49 0 0 [some (.ref 80), o1, some (.int s), some (.int x3), some (.int x4), some (.int (x5 + (nI 1))), some (.int (eg_gi M 119 x5.toNatClampNeg))] [] M
      exact l1 ⟨c1, (Or.inl c2)⟩

set_option maxRecDepth 100000 in
theorem st_X2_pairByFirst_142 {Qp : eg_P} {M : eg_M} (o1 : Option Value) (o2 : Option Value) (x3 : Int32) (x4 : Int32) (x5 : Int32) (o6 : Option Value)
  (g0 : (¬ ((eg_gi M 80 8) ≤ x5)) → (vp_in x5 6))
  (g1 : (¬ ((eg_gi M 80 8) ≤ x5)) → (vp_in (eg_gi M 119 x5.toNatClampNeg) 16))
  (l0 : ((eg_gi M 80 8) ≤ x5) → Qp (.inl (some (.int x4))) M)
  (l1 : (¬ (eg_gi M 80 8) ≤ x5 ∧ (eg_gi M 116 (eg_gi M 119 x5.toNatClampNeg).toNatClampNeg) = (-nI 1)) → eg_T wd k_X2_pairByFirst Qp 142 0 0 [some (.ref 80), o1, o2, some (.int x3), some (.int (x4 + (nI 0))), some (.int (x5 + (nI 1))), o6] [] M)
  (l2 : (¬ (eg_gi M 80 8) ≤ x5 ∧ ¬ (eg_gi M 116 (eg_gi M 119 x5.toNatClampNeg).toNatClampNeg) = (-nI 1)) → eg_T wd k_X2_pairByFirst Qp 142 0 0 [some (.ref 80), o1, o2, some (.int x3), some (.int (x4 + (nI 1))), some (.int (x5 + (nI 1))), o6] [] M) :
  eg_T wd k_X2_pairByFirst Qp 142 0 0 [some (.ref 80), o1, o2, some (.int x3), some (.int x4), some (.int x5), o6] [] M := by
  refine eg_T_run mk_X2_pairByFirst (cut := [9, 33, 49, 142]) 105 ?_
  refine And.intro (fun (c1 : (eg_gi M 80 8) ≤ x5) => ?_) (fun (c1 : ¬ (eg_gi M 80 8) ≤ x5) => ?_)
  · skip
    refine And.intro (fun z => absurd z (by decide)) ?_
    show Qp (.inl (some (.int x4))) M
    exact l0 c1
  · skip
    refine And.intro (show vp_in x5 6 from ?_) ?_
    · exact g0 c1
    refine And.intro (show vp_in (eg_gi M 119 x5.toNatClampNeg) 16 from ?_) ?_
    · exact g1 c1
    refine And.intro (fun (c2 : (eg_gi M 116 (eg_gi M 119 x5.toNatClampNeg).toNatClampNeg) = (-nI 1)) => ?_) (fun (c2 : ¬ (eg_gi M 116 (eg_gi M 119 x5.toNatClampNeg).toNatClampNeg) = (-nI 1)) => ?_)
    · skip
      show eg_T wd k_X2_pairByFirst Qp 142 0 0 [some (.ref 80), o1, o2, some (.int x3), some (.int (x4 + (nI 0))), some (.int (x5 + (nI 1))), o6] [] M
      exact l1 ⟨c1, c2⟩
    · skip
      show eg_T wd k_X2_pairByFirst Qp 142 0 0 [some (.ref 80), o1, o2, some (.int x3), some (.int (x4 + (nI 1))), some (.int (x5 + (nI 1))), o6] [] M
      exact l2 ⟨c1, c2⟩

def s_X2_pairByFirst : eg_S := fun argv M Qp => match argv with
  | [.ref 80, .int a, .int s] => ((ones a 16).length ≤ 6 ∧ k_wi M) ∧ ∀ (f : Nat → Int32) (xp : k_KA), (isL f (ones a 16) ∧ xp = k_gR M s (ones a 16) 37 ((fun j => if j < 16 then -nI 1 else eg_gi M 116 j), (fun j => if j < 16 then nI 0 else eg_gi M 117 j), true)) → Qp (.inl (some (.int (nI ((ones a 16).countP (fun t => decide (¬ xp.1 t = -nI 1))))))) (k_gm M (ones a 16).length f xp.1 xp.2.1)
  | _ => False
theorem mo_X2_pairByFirst : eg_mono s_X2_pairByFirst := by
  intro argv M Q Q' h
  unfold s_X2_pairByFirst
  split
  · exact fun z => ⟨z.1, fun f xp y => h _ _ (z.2 f xp y)⟩
  · exact id
theorem sz_X2_pairByFirst : ∀ argv M Qp, s_X2_pairByFirst argv M Qp → (eg_ls0 argv).length ≤ 7 := by
  intro argv M Qp h
  unfold s_X2_pairByFirst at h
  split at h
  · exact Nat.le_of_ble_eq_true rfl
  · exact h.elim
theorem sr_X2_pairByFirst : ∀ argv M Qp, s_X2_pairByFirst argv M Qp → ∃ p0 As, argv = .ref p0 :: As ∧ eg_isO wd M p0 2 = true := by
  intro argv M Qp h
  unfold s_X2_pairByFirst at h
  split at h
  · exact ⟨_, _, rfl, rfl⟩
  · exact h.elim
set_option maxRecDepth 100000 in
set_option maxHeartbeats 1000000 in
theorem T_X2_pairByFirst {argv : List Value} {M : eg_M} {Qp : eg_P} (h : s_X2_pairByFirst argv M Qp) : eg_T wd k_X2_pairByFirst Qp 0 0 0 (eg_lsN 7 argv) [] M := by
  unfold s_X2_pairByFirst at h
  split at h
  · rename_i a s
    obtain ⟨hp, hq⟩ := h
    obtain ⟨ha, hW⟩ := hp
    refine st_X2_pairByFirst_0 a s (Or.inl rfl) (fun f hf => ?_)
    rw [List.take_of_length_le ha] at hf ⊢
    refine st_X2_pairByFirst_9 _ s _ _ _ _ _ ?_
    have va : ∀ i (h : i < (ones a 16).length), (ones a 16)[i] < 16 := fun i h => (ones_lt (List.getElem_mem h)).1
    have hF16 : ∀ t ∈ ones a 16, t < 16 := fun t ht => (ones_lt ht).1
    have hq := hq f
    generalize ones a 16 = F at *
    have l3 : ∀ (x : k_KA), k_xo x → x = k_gR M s F 37 ((fun j => if j < 16 then -nI 1 else eg_gi M 116 j), (fun j => if j < 16 then nI 0 else eg_gi M 117 j), true) → ∀ o1 o2 x3 i (o6 : Option Value), i ≤ F.length → True → eg_T wd k_X2_pairByFirst Qp 142 0 0 [some (.ref 80), o1, o2, some (.int x3), some (.int (nI ((F.take i).countP (fun t => decide (¬ x.1 t = -nI 1))))), some (.int (nI i)), o6] [] (k_gm M F.length f x.1 x.2.1) := by
      intro x hx hxe o1 o2 x3
      refine eg_for ?_
      intro i o6 hi _ kk
      have st := st_X2_pairByFirst_142 (Qp := Qp) (M := k_gm M F.length f x.1 x.2.1) o1 o2 x3 (nI ((F.take i).countP (fun t => decide (¬ x.1 t = -nI 1)))) (nI i) o6
      have r8 : eg_gi (k_gm M F.length f x.1 x.2.1) 80 8 = nI F.length := rfl
      have r9 : ∀ j, eg_gi (k_gm M F.length f x.1 x.2.1) 119 j = f j := fun _ => rfl
      have r6 : ∀ j, eg_gi (k_gm M F.length f x.1 x.2.1) 116 j = x.1 j := fun _ => rfl
      rw [r8, n_le (by omega) (by omega), Nat.not_le, n_c (show i < 2 ^ 31 by omega), n_in (by omega) (by decide), r9, r6, n_s, n_s, n_s] at st
      rcases Nat.lt_or_ge i F.length with h | h
      · have hv := va i h
        rw [hf i h, n_c (by omega), n_in (by omega) (by decide)] at st
        have hT : F.take (i + 1) = F.take i ++ [F[i]] := (List.take_append_getElem h).symm
        rw [hT, List.countP_append, List.countP_singleton] at kk
        refine st (fun _ => by omega) (fun _ => hv) (fun z => absurd z (by omega)) (fun z => ?_) (fun z => ?_)
        · have := kk o6 h trivial
          rw [if_neg (by rw [decide_eq_true_eq]; exact fun w => w z.2)] at this
          exact this
        · have := kk o6 h trivial
          rw [if_pos (by rw [decide_eq_true_eq]; exact z.2)] at this
          exact this
      · refine st (fun z => absurd z (by omega)) (fun z => absurd z (by omega)) (fun z => ?_) (fun z => absurd z.1 (by omega)) (fun z => absurd z.1 (by omega))
        rw [List.take_of_length_le h]
        exact hq x ⟨hf, hxe⟩
    have l1 : ∀ r (x : k_KA), r ≤ 37 → k_xo x → k_gR M s F r x = k_gR M s F 37 ((fun j => if j < 16 then -nI 1 else eg_gi M 116 j), (fun j => if j < 16 then nI 0 else eg_gi M 117 j), true) → ∀ o5 o6, eg_T wd k_X2_pairByFirst Qp 33 0 0 [some (.ref 80), some (.int a), some (.int s), some (.int (b2i x.2.2)), some (.int (nI (37 - r))), o5, o6] [] (k_gm M F.length f x.1 x.2.1) := by
      intro r
      induction r with
      | zero =>
        intro x _ hx hxe o5 o6
        have st := st_X2_pairByFirst_33 (Qp := Qp) (M := k_gm M F.length f x.1 x.2.1) (some (.int a)) s (b2i x.2.2) (nI (37 - 0)) o5 o6
        rw [n_le (by decide) (by decide)] at st
        refine st (fun _ => ?_) (fun z => absurd (by decide) z.1)
        exact l3 x hx hxe _ _ _ 0 o6 (Nat.zero_le _) trivial
      | succ r ih =>
        intro x hr hx hxe o5 o6
        have st := st_X2_pairByFirst_33 (Qp := Qp) (M := k_gm M F.length f x.1 x.2.1) (some (.int a)) s (b2i x.2.2) (nI (37 - (r + 1))) o5 o6
        rw [n_le (by omega) (by omega), b2i_0] at st
        rw [k_gR] at hxe
        refine st (fun z => ?_) (fun z => ?_)
        · have hb : x.2.2 = false := z.resolve_left (by omega)
          rw [if_neg (by rw [hb]; exact Bool.noConfusion)] at hxe
          exact l3 x hx hxe _ _ _ 0 o6 (Nat.zero_le _) trivial
        · have hb : x.2.2 = true := bq_t z.2
          rw [if_pos hb] at hxe
          have l2 : ∀ i (o6 : Option Value), i ≤ F.length → True → eg_T wd k_X2_pairByFirst Qp 49 0 0 [some (.ref 80), some (.int a), some (.int s), some (.int (b2i ((F.take i).foldl (k_g1 M s) (x.1, x.2.1, false)).2.2)), some (.int (nI (37 - (r + 1)))), some (.int (nI i)), o6] [] (k_gm M F.length f ((F.take i).foldl (k_g1 M s) (x.1, x.2.1, false)).1 ((F.take i).foldl (k_g1 M s) (x.1, x.2.1, false)).2.1) := by
            refine eg_for ?_
            intro i o6 hi _ kk
            have hy : k_xo ((F.take i).foldl (k_g1 M s) (x.1, x.2.1, false)) := k_gf_ok hW (F.take i) _ (fun t ht => hF16 t (List.mem_of_mem_take ht)) ⟨hx.1, hx.2⟩
            rcases Nat.lt_or_ge i F.length with h | h
            · have hT : F.take (i + 1) = F.take i ++ [F[i]] := (List.take_append_getElem h).symm
              rw [hT, List.foldl_append, List.foldl_cons, List.foldl_nil] at kk
              generalize (F.take i).foldl (k_g1 M s) (x.1, x.2.1, false) = y at hy kk
              have st := st_X2_pairByFirst_49 (Qp := Qp) (M := k_gm M F.length f y.1 y.2.1) (some (.int a)) s (b2i y.2.2) (nI (37 - (r + 1))) (nI i) o6
              have hv := va i h
              have hfi := hf i h
              generalize F[i] = t at hv hfi kk
              have r8 : eg_gi (k_gm M F.length f y.1 y.2.1) 80 8 = nI F.length := rfl
              have r9 : eg_gi (k_gm M F.length f y.1 y.2.1) 119 i = nI t := hfi
              have r6 : ∀ j, eg_gi (k_gm M F.length f y.1 y.2.1) 116 j = y.1 j := fun _ => rfl
              have r7 : ∀ j, eg_gi (k_gm M F.length f y.1 y.2.1) 117 j = y.2.1 j := fun _ => rfl
              have r98 : ∀ j, eg_gi (k_gm M F.length f y.1 y.2.1) 98 j = eg_gi M 98 j := fun _ => rfl
              rw [r8, n_le (by omega) (by omega), Nat.not_le, n_c (show i < 2 ^ 31 by omega), n_in (by omega) (by decide), r9, n_c (show t < 2 ^ 31 by omega), n_in (by omega) (by decide), r6, r7, r98, n_s, n_s] at st
              have es : eg_si (k_gm M F.length f y.1 y.2.1) 117 t (y.2.1 t + nI 1) = k_gm M F.length f y.1 (fun j => if j = t then y.2.1 t + nI 1 else y.2.1 j) := by
                unfold k_gm
                rw [si_ri_n (by decide), si_ri]
              rw [es, (rk_is _ hv).2.2.2] at st
              refine st (fun _ => by omega) (fun _ => hv) (fun _ _ _ => (rk_is _ hv).2.2.1) (fun _ _ z3 => ?_) (fun _ _ z3 => ?_) (fun z => absurd z (by omega)) (fun z => ?_) (fun z => ?_)
              · obtain ⟨c, hc, ec, hw⟩ := k_g1_w hW hv hy z3
                rw [ec]
                exact (n_in (by omega) (by decide)).mpr hc
              · obtain ⟨c, hc, ec, hw⟩ := k_g1_w hW hv hy z3
                refine ⟨⟨t, hv, rfl⟩, ?_, hy.1⟩
                rw [gm_g (by omega) (by omega) (by omega) (by omega), ec, n_c (by omega)]
                exact hw
              · have := kk (some (.int (nI t))) h trivial
                have e1 : k_g1 M s y t = y := by
                  unfold k_g1
                  rw [if_neg]
                  intro w
                  rcases z.2 with w2 | w2
                  · exact w2 w.1
                  · exact w.2 w2
                rw [e1] at this
                exact this
              · obtain ⟨c, hc, ec, hw⟩ := k_g1_w hW hv hy z.2.2
                have hcw := k_t1_c hw
                have := kk (some (.int (nI t))) h trivial
                have e1 : k_g1 M s y t = (k_ak M t (eg_gi M (81 + 1 + t) (y.2.1 t).toNatClampNeg).toNatClampNeg s y.1, (fun j => if j = t then y.2.1 t + nI 1 else y.2.1 j), true) := by
                  unfold k_g1
                  rw [if_pos z.2]
                rw [e1] at this
                dsimp only at this
                rw [gm_g (by omega) (by omega) (by omega) (by omega)]
                rw [ec, n_c (show c < 2 ^ 31 by omega)] at this ⊢
                rw [k_ak_of (M := M) (fun j => gm_g (by omega) (by omega) (by omega) (by omega))]
                have e2 : ∀ K' A', eg_ri (k_gm M F.length f y.1 A') 116 K' = k_gm M F.length f K' A' := fun K' A' => by
                  unfold k_gm
                  rw [ri_ri]
                rw [e2]
                exact this
            · have st := st_X2_pairByFirst_49 (Qp := Qp) (M := k_gm M F.length f ((F.take i).foldl (k_g1 M s) (x.1, x.2.1, false)).1 ((F.take i).foldl (k_g1 M s) (x.1, x.2.1, false)).2.1) (some (.int a)) s (b2i ((F.take i).foldl (k_g1 M s) (x.1, x.2.1, false)).2.2) (nI (37 - (r + 1))) (nI i) o6
              have r8 : eg_gi (k_gm M F.length f ((F.take i).foldl (k_g1 M s) (x.1, x.2.1, false)).1 ((F.take i).foldl (k_g1 M s) (x.1, x.2.1, false)).2.1) 80 8 = nI F.length := rfl
              have hle : (nI F.length ≤ nI i) := (n_le (by omega) (by omega)).mpr h
              rw [r8] at st
              refine st (fun z => absurd hle z) (fun z => absurd hle z) (fun z => absurd hle z) (fun z => absurd hle z) (fun z => absurd hle z) (fun _ => ?_) (fun z => absurd hle z.1) (fun z => absurd hle z.1)
              rw [List.take_of_length_le h] at hy ⊢
              rw [n_s, show 37 - (r + 1) + 1 = 37 - r by omega]
              exact ih _ (by omega) hy hxe _ _
          exact l2 0 o6 (Nat.zero_le _) trivial
    have := l1 37 ((fun j => if j < 16 then -nI 1 else eg_gi M 116 j), (fun j => if j < 16 then nI 0 else eg_gi M 117 j), true) (Nat.le_refl _) ⟨fun t ht => Or.inl (if_pos ht), fun t ht => ⟨0, by omega, if_pos ht⟩⟩ rfl none none
    have e : k_gm M F.length f (fun j => if j < 16 then -nI 1 else eg_gi M 116 j) (fun j => if j < 16 then nI 0 else eg_gi M 117 j) = eg_fi (eg_fi (eg_si (eg_ri M 119 f) 80 8 (nI F.length)) 116 16 (-nI 1)) 117 16 (nI 0) := by
      rw [fi_ri, fi_ri]
      unfold k_gm
      rw [ri_sw (by decide)]
      rfl
    dsimp only at this
    rw [e] at this
    exact this
    
  · exact h.elim
theorem de_X2_pairByFirst : ∀ q ∈ k_X2_pairByFirst.1, decode cX2_pairByFirst q.1 = .ok q.2 := by decide +kernel
theorem me_X2_pairByFirst (g : gl_T) : MT g yX2_pairByFirst cX2_pairByFirst 7 (some .int) ⟨1, 0, 0, 24⟩ 0 0 s_X2_pairByFirst := by
  intro hl
  exact eg_met_of (k := k_X2_pairByFirst) (by decide) rfl ⟨Nat.le_refl _, Nat.le_refl _⟩ rfl sz_X2_pairByFirst de_X2_pairByFirst (fun meth hn => (fc (eg_FL_of wd_c2 (by decide) lf_RX2_11 (fun h => absurd h (by decide))) (fc (eg_FL_of wd_c2 (by decide) lf_RX2_16 (fun h => absurd h (by decide))) (fc (eg_FL_of wd_c2 (by decide) lf_RX2_23 (fun h => absurd h (by decide))) (fc (eg_FL_of wd_c2 (by decide) lf_RX2_26 (fun h => absurd h (by decide))) (fc (eg_FL_of wd_c2 (by decide) lf_RX2_32 (fun h => absurd h (by decide))) (fc (eg_FL_of wd_c2 (by decide) lf_RX2_38 (fun _ => Or.inl rfl)) (fn)))))))) (fun A s H hE => (fn)) (fun p e s m args below meth c Q A ad0 N0 S0 hK hEx hA => (fc (mt_S hl S0 hK hEx hA (me_J7_fill_53178 g) lm_RX2_45 ls_J7_fill_53178 ln_RJ7 lc_J7_fill_53178 ⟨rfl, by decide, by decide, by decide +kernel⟩ ⟨rfl, rfl⟩ ⟨by decide, by decide⟩ (by decide)) (fc (mt_S hl S0 hK hEx hA (me_X2_listTowns g) lm_RX2_51 ls_X2_listTowns ln_RX2 lc_X2_listTowns ⟨rfl, by decide, by decide, by decide +kernel⟩ ⟨rfl, rfl⟩ ⟨by decide, by decide⟩ (by decide)) (fc (mt_V hl S0 hK hEx hA (me_X2_ask_v g) lm_RX2_55 li_X2_ask lx_X2_ask ln_RX2 lc_X2_ask ⟨rfl, by decide, by decide, by decide +kernel⟩ ⟨rfl, rfl⟩ ⟨by decide, by decide⟩ (ci := 2) rfl rfl sr_X2_ask_v (by decide)) (fn))))) (fun p e s m args below meth c Qc XC A ad0 N0 P S0 hK hEx hA hlk hout hPX => (fn)) (fun argv M Qp h => T_X2_pairByFirst h)

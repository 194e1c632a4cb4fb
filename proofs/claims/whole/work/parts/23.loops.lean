/-- the values of a visit for the side that asks: guests, nights, young, people and turn are its own -/
def m_vv (M : eg_M) (e : Nat) (i : Nat) (j : Nat) : Int64 :=
  if j = 6 then (if m_vr M (eg_gi M 131 e) (eg_gi M 136 e) i 6 = (eg_gi M 133 e).toInt64 then lN 1 else lN 0) else
  if j = 4 then (eg_gi M 125 (eg_gi M 127 (nI 2 * eg_gi M 131 e + eg_gi M 133 e).toNatClampNeg).toNatClampNeg).toInt64 else
  if j = 2 then (eg_gi M 135 e).toInt64 else if j = 1 then (eg_gi M 134 e).toInt64 else if j = 0 then (eg_gi M 132 e).toInt64 else
  m_vr M (eg_gi M 131 e) (eg_gi M 136 e) i j
/-- what the clauses grant -/
def p_one (V : Nat → Int64) (c : Int32 × List Int32 × List Int32) : Int64 := if c.1 = 0 then (if (if p_cv V c.2.1 c.2.2 < lN 999999 then p_cv V c.2.1 c.2.2 else lN 999999) < lN 0 then lN 0 else (if p_cv V c.2.1 c.2.2 < lN 999999 then p_cv V c.2.1 c.2.2 else lN 999999)) else lN 0
def p_cla (V : Nat → Int64) (CL : List (Int32 × List Int32 × List Int32)) : Int64 := CL.foldl (fun s c => s + p_one V c) (lN 0)
def k_X12_claimOf : eg_C := ([(0, .aload_n 0, 1), (1, .getfield 127, 3), (4, .iload_n 1, 1), (5, .iaload, 1), (6, .istore_n 3, 1), (7, .iload_n 2, 1), (8, .iconst (-1), 1), (9, .if_icmp .eq 13, 3), (12, .aload_n 0, 1), (13, .getfield 59, 3), (16, .iload_n 3, 1), (17, .iaload, 1), (18, .iconst 1, 1), (19, .if_icmp .eq 5, 3), (22, .lconst 0, 1), (23, .lreturn, 1), (24, .aload_n 0, 1), (25, .aload_n 0, 1), (26, .getfield 62, 3), (29, .iload_n 3, 1), (30, .iaload, 1), (31, .iload_n 1, 1), (32, .aload_n 0, 1), (33, .getfield 77, 3), (36, .iload_n 3, 1), (37, .iaload, 1), (38, .invokevirtual 400, 3), (41, .aload_n 0, 1), (42, .getfield 120, 3), (45, .iconst 0, 1), (46, .aload_n 0, 1), (47, .getfield 65, 3), (50, .iload_n 3, 1), (51, .iaload, 1), (52, .i2l, 1), (53, .lastore, 1), (54, .aload_n 0, 1), (55, .getfield 120, 3), (58, .iconst 1, 1), (59, .aload_n 0, 1), (60, .getfield 71, 3), (63, .iload_n 3, 1), (64, .iaload, 1), (65, .i2l, 1), (66, .lastore, 1), (67, .aload_n 0, 1), (68, .getfield 120, 3), (71, .iconst 2, 1), (72, .aload_n 0, 1), (73, .getfield 74, 3), (76, .iload_n 3, 1), (77, .iaload, 1), (78, .i2l, 1), (79, .lastore, 1), (80, .aload_n 0, 1), (81, .getfield 120, 3), (84, .iconst 4, 1), (85, .aload_n 0, 1), (86, .getfield 44, 3), (89, .aload_n 0, 1), (90, .getfield 50, 3), (93, .iconst 2, 1), (94, .aload_n 0, 1), (95, .getfield 62, 3), (98, .iload_n 3, 1), (99, .iaload, 1), (100, .imul, 1), (101, .aload_n 0, 1), (102, .getfield 68, 3), (105, .iload_n 3, 1), (106, .iaload, 1), (107, .iadd, 1), (108, .iaload, 1), (109, .iaload, 1), (110, .i2l, 1), (111, .lastore, 1), (112, .aload_n 0, 1), (113, .getfield 120, 3), (116, .bipush 6, 2), (118, .aload_n 0, 1), (119, .getfield 120, 3), (122, .bipush 6, 2), (124, .laload, 1), (125, .aload_n 0, 1), (126, .getfield 68, 3), (129, .iload_n 3, 1), (130, .iaload, 1), (131, .i2l, 1), (132, .lcmp, 1), (133, .ifCond .ne 7, 3), (136, .lconst 1, 1), (137, .goto 4, 3), (140, .lconst 0, 1), (141, .lastore, 1), (142, .lconst 0, 1), (143, .lstore 4, 2), (145, .iconst 0, 1), (146, .istore 6, 2), (148, .iload 6, 2), (150, .aload_n 0, 1), (151, .getfield 96, 3), (154, .iload_n 2, 1), (155, .iaload, 1), (156, .if_icmp .ge 51, 3), (159, .aload_n 0, 1), (160, .getfield 105, 3), (163, .bipush 12, 2), (165, .iload_n 2, 1), (166, .imul, 1), (167, .iload 6, 2), (169, .iadd, 1), (170, .iaload, 1), (171, .ifCond .ne 30, 3), (174, .lload 4, 2), (176, .lconst 0, 1), (177, .ldc2_w 424, 3), (180, .aload_n 0, 1), (181, .iload_n 2, 1), (182, .bipush 12, 2), (184, .iload_n 2, 1), (185, .imul, 1), (186, .iload 6, 2), (188, .iadd, 1), (189, .invokevirtual 407, 3), (192, .invokestatic 426, 3), (195, .invokestatic 429, 3), (198, .ladd, 1), (199, .lstore 4, 2), (201, .iinc 6 1, 3), (204, .goto (-56), 3), (207, .lload 4, 2), (209, .lreturn, 1)], [(44, 12, 8, false), (50, 12, 10, false), (59, 12, 13, false), (62, 12, 14, false), (65, 12, 15, false), (68, 12, 16, false), (71, 12, 17, false), (74, 12, 18, false), (77, 12, 19, false), (96, 12, 37, false), (105, 12, 40, false), (120, 12, 45, false), (127, 12, 48, false)], [(424, .long (lN 999999))], [(426 + 100000, 2, 0, 0, s_J9_min_f86c9), (429 + 100000, 2, 0, 0, s_J9_max_f86c9), (400, 3 + 1, 0, 0, s_X12_tellValues), (407, 2 + 1, 0, 0, s_X12_clauseOf)], [], 3, 0, 0)
theorem mk_X12_claimOf : ∀ q ∈ k_X12_claimOf.2.2.2.1, eg_mono q.2.2.2.2 := (fc (mo_J9_min_f86c9) (fc (mo_J9_max_f86c9) (fc (mo_X12_tellValues) (fc (mo_X12_clauseOf) (fn)))))
set_option maxRecDepth 100000 in
theorem st_X12_claimOf_0 {Qp : eg_P} {M : eg_M} (ii : Int32) (rr : Int32)
  (g0 : (vp_in ii 200))
  (g1 : (¬ (rr = (-nI 1))) → (vp_in (eg_gi M 151 ii.toNatClampNeg) 200))
  (g2 : (¬ (rr = (-nI 1))) → ((eg_gi M 130 (eg_gi M 151 ii.toNatClampNeg).toNatClampNeg) = (nI 1)) → (vp_in (eg_gi M 131 (eg_gi M 151 ii.toNatClampNeg).toNatClampNeg) 24 ∧ eg_cn ii 200 ∧ (∀ i, i < ii.toNatClampNeg → vp_in (eg_gi M 151 i) 200) ∧ vp_in (eg_gi M 127 (nI 2 * (eg_gi M 131 (eg_gi M 151 ii.toNatClampNeg).toNatClampNeg)).toNatClampNeg) 16 ∧ vp_in (eg_gi M 127 (nI 2 * (eg_gi M 131 (eg_gi M 151 ii.toNatClampNeg).toNatClampNeg) + nI 1).toNatClampNeg) 16))
  (g3 : (¬ (rr = (-nI 1))) → ((eg_gi M 130 (eg_gi M 151 ii.toNatClampNeg).toNatClampNeg) = (nI 1)) → (vp_in (((nI 2) * (eg_gi M 131 (eg_gi M 151 ii.toNatClampNeg).toNatClampNeg)) + (eg_gi M 133 (eg_gi M 151 ii.toNatClampNeg).toNatClampNeg)) 48))
  (g4 : (¬ (rr = (-nI 1))) → ((eg_gi M 130 (eg_gi M 151 ii.toNatClampNeg).toNatClampNeg) = (nI 1)) → (vp_in (eg_gi M 127 (((nI 2) * (eg_gi M 131 (eg_gi M 151 ii.toNatClampNeg).toNatClampNeg)) + (eg_gi M 133 (eg_gi M 151 ii.toNatClampNeg).toNatClampNeg)).toNatClampNeg) 16))
  (l0 : (rr = (-nI 1) ∨ ¬ (eg_gi M 130 (eg_gi M 151 ii.toNatClampNeg).toNatClampNeg) = (nI 1)) → Qp (.inl (some (.long (lN 0)))) M)
  (l1 : (¬ rr = (-nI 1) ∧ ((eg_gi M 130 (eg_gi M 151 ii.toNatClampNeg).toNatClampNeg) = (nI 1) ∧ (eg_gl (eg_sl (eg_sl (eg_sl (eg_sl (eg_rl M 149 (m_vr M (eg_gi M 131 (eg_gi M 151 ii.toNatClampNeg).toNatClampNeg) (eg_gi M 136 (eg_gi M 151 ii.toNatClampNeg).toNatClampNeg) ii.toNatClampNeg)) 149 (nI 0).toNatClampNeg ((eg_gi M 132 (eg_gi M 151 ii.toNatClampNeg).toNatClampNeg).toInt64)) 149 (nI 1).toNatClampNeg ((eg_gi M 134 (eg_gi M 151 ii.toNatClampNeg).toNatClampNeg).toInt64)) 149 (nI 2).toNatClampNeg ((eg_gi M 135 (eg_gi M 151 ii.toNatClampNeg).toNatClampNeg).toInt64)) 149 (nI 4).toNatClampNeg ((eg_gi M 125 (eg_gi M 127 (((nI 2) * (eg_gi M 131 (eg_gi M 151 ii.toNatClampNeg).toNatClampNeg)) + (eg_gi M 133 (eg_gi M 151 ii.toNatClampNeg).toNatClampNeg)).toNatClampNeg).toNatClampNeg).toInt64)) 149 6) = ((eg_gi M 133 (eg_gi M 151 ii.toNatClampNeg).toNatClampNeg).toInt64))) → eg_T wd k_X12_claimOf Qp 148 0 0 [some (.ref 121), some (.int ii), some (.int rr), some (.int (eg_gi M 151 ii.toNatClampNeg)), some (.long (lN 0)), none, some (.int (nI 0))] [] (eg_sl (eg_sl (eg_sl (eg_sl (eg_sl (eg_rl M 149 (m_vr M (eg_gi M 131 (eg_gi M 151 ii.toNatClampNeg).toNatClampNeg) (eg_gi M 136 (eg_gi M 151 ii.toNatClampNeg).toNatClampNeg) ii.toNatClampNeg)) 149 (nI 0).toNatClampNeg ((eg_gi M 132 (eg_gi M 151 ii.toNatClampNeg).toNatClampNeg).toInt64)) 149 (nI 1).toNatClampNeg ((eg_gi M 134 (eg_gi M 151 ii.toNatClampNeg).toNatClampNeg).toInt64)) 149 (nI 2).toNatClampNeg ((eg_gi M 135 (eg_gi M 151 ii.toNatClampNeg).toNatClampNeg).toInt64)) 149 (nI 4).toNatClampNeg ((eg_gi M 125 (eg_gi M 127 (((nI 2) * (eg_gi M 131 (eg_gi M 151 ii.toNatClampNeg).toNatClampNeg)) + (eg_gi M 133 (eg_gi M 151 ii.toNatClampNeg).toNatClampNeg)).toNatClampNeg).toNatClampNeg).toInt64)) 149 (nI 6).toNatClampNeg (lN 1)))
  (l2 : (¬ rr = (-nI 1) ∧ ((eg_gi M 130 (eg_gi M 151 ii.toNatClampNeg).toNatClampNeg) = (nI 1) ∧ ¬ (eg_gl (eg_sl (eg_sl (eg_sl (eg_sl (eg_rl M 149 (m_vr M (eg_gi M 131 (eg_gi M 151 ii.toNatClampNeg).toNatClampNeg) (eg_gi M 136 (eg_gi M 151 ii.toNatClampNeg).toNatClampNeg) ii.toNatClampNeg)) 149 (nI 0).toNatClampNeg ((eg_gi M 132 (eg_gi M 151 ii.toNatClampNeg).toNatClampNeg).toInt64)) 149 (nI 1).toNatClampNeg ((eg_gi M 134 (eg_gi M 151 ii.toNatClampNeg).toNatClampNeg).toInt64)) 149 (nI 2).toNatClampNeg ((eg_gi M 135 (eg_gi M 151 ii.toNatClampNeg).toNatClampNeg).toInt64)) 149 (nI 4).toNatClampNeg ((eg_gi M 125 (eg_gi M 127 (((nI 2) * (eg_gi M 131 (eg_gi M 151 ii.toNatClampNeg).toNatClampNeg)) + (eg_gi M 133 (eg_gi M 151 ii.toNatClampNeg).toNatClampNeg)).toNatClampNeg).toNatClampNeg).toInt64)) 149 6) = ((eg_gi M 133 (eg_gi M 151 ii.toNatClampNeg).toNatClampNeg).toInt64))) → eg_T wd k_X12_claimOf Qp 148 0 0 [some (.ref 121), some (.int ii), some (.int rr), some (.int (eg_gi M 151 ii.toNatClampNeg)), some (.long (lN 0)), none, some (.int (nI 0))] [] (eg_sl (eg_sl (eg_sl (eg_sl (eg_sl (eg_rl M 149 (m_vr M (eg_gi M 131 (eg_gi M 151 ii.toNatClampNeg).toNatClampNeg) (eg_gi M 136 (eg_gi M 151 ii.toNatClampNeg).toNatClampNeg) ii.toNatClampNeg)) 149 (nI 0).toNatClampNeg ((eg_gi M 132 (eg_gi M 151 ii.toNatClampNeg).toNatClampNeg).toInt64)) 149 (nI 1).toNatClampNeg ((eg_gi M 134 (eg_gi M 151 ii.toNatClampNeg).toNatClampNeg).toInt64)) 149 (nI 2).toNatClampNeg ((eg_gi M 135 (eg_gi M 151 ii.toNatClampNeg).toNatClampNeg).toInt64)) 149 (nI 4).toNatClampNeg ((eg_gi M 125 (eg_gi M 127 (((nI 2) * (eg_gi M 131 (eg_gi M 151 ii.toNatClampNeg).toNatClampNeg)) + (eg_gi M 133 (eg_gi M 151 ii.toNatClampNeg).toNatClampNeg)).toNatClampNeg).toNatClampNeg).toInt64)) 149 (nI 6).toNatClampNeg (lN 0))) :
  eg_T wd k_X12_claimOf Qp 0 0 0 [some (.ref 121), some (.int ii), some (.int rr), none, none, none, none] [] M := by
  refine eg_T_run mk_X12_claimOf (cut := [148, 192]) 135 ?_
  refine And.intro (show vp_in ii 200 from ?_) ?_
  · exact g0
  refine And.intro (fun (c1 : rr = (-nI 1)) => ?_) (fun (c1 : ¬ rr = (-nI 1)) => ?_)
  · skip
    show Qp (.inl (some (.long (lN 0)))) M
    exact l0 (Or.inl c1)
  · skip
    refine And.intro (show vp_in (eg_gi M 151 ii.toNatClampNeg) 200 from ?_) ?_
    · exact g1 c1
    refine And.intro (fun (c2 : (eg_gi M 130 (eg_gi M 151 ii.toNatClampNeg).toNatClampNeg) = (nI 1)) => ?_) (fun (c2 : ¬ (eg_gi M 130 (eg_gi M 151 ii.toNatClampNeg).toNatClampNeg) = (nI 1)) => ?_)
    · skip
      refine And.intro (show vp_in (eg_gi M 151 ii.toNatClampNeg) 200 from ?_) ?_
      · exact g1 c1
      refine And.intro (show vp_in (eg_gi M 151 ii.toNatClampNeg) 200 from ?_) ?_
      · exact g1 c1
      refine And.intro (show (vp_in (eg_gi M 131 (eg_gi M 151 ii.toNatClampNeg).toNatClampNeg) 24 ∧ eg_cn ii 200 ∧ (∀ i, i < ii.toNatClampNeg → vp_in (eg_gi M 151 i) 200) ∧ vp_in (eg_gi M 127 (nI 2 * (eg_gi M 131 (eg_gi M 151 ii.toNatClampNeg).toNatClampNeg)).toNatClampNeg) 16 ∧ vp_in (eg_gi M 127 (nI 2 * (eg_gi M 131 (eg_gi M 151 ii.toNatClampNeg).toNatClampNeg) + nI 1).toNatClampNeg) 16) from ?_) ?_
      · exact g2 c1 c2
      refine And.intro (show vp_in (eg_gi M 151 ii.toNatClampNeg) 200 from ?_) ?_
      · exact g1 c1
      refine And.intro (show vp_in (nI 0) 11 from ?_) ?_
      · exact vp_in_nI (by decide) (by decide)
      refine And.intro (show vp_in (eg_gi M 151 ii.toNatClampNeg) 200 from ?_) ?_
      · exact g1 c1
      refine And.intro (show vp_in (nI 1) 11 from ?_) ?_
      · exact vp_in_nI (by decide) (by decide)
      refine And.intro (show vp_in (eg_gi M 151 ii.toNatClampNeg) 200 from ?_) ?_
      · exact g1 c1
      refine And.intro (show vp_in (nI 2) 11 from ?_) ?_
      · exact vp_in_nI (by decide) (by decide)
      refine And.intro (show vp_in (eg_gi M 151 ii.toNatClampNeg) 200 from ?_) ?_
      · exact g1 c1
      refine And.intro (show vp_in (eg_gi M 151 ii.toNatClampNeg) 200 from ?_) ?_
      · exact g1 c1
      refine And.intro (show vp_in (((nI 2) * (eg_gi M 131 (eg_gi M 151 ii.toNatClampNeg).toNatClampNeg)) + (eg_gi M 133 (eg_gi M 151 ii.toNatClampNeg).toNatClampNeg)) 48 from ?_) ?_
      · exact g3 c1 c2
      refine And.intro (show vp_in (eg_gi M 127 (((nI 2) * (eg_gi M 131 (eg_gi M 151 ii.toNatClampNeg).toNatClampNeg)) + (eg_gi M 133 (eg_gi M 151 ii.toNatClampNeg).toNatClampNeg)).toNatClampNeg) 16 from ?_) ?_
      · exact g4 c1 c2
      refine And.intro (show vp_in (nI 4) 11 from ?_) ?_
      · exact vp_in_nI (by decide) (by decide)
      refine And.intro (show vp_in (nI 6) 11 from ?_) ?_
      · exact vp_in_nI (by decide) (by decide)
      refine And.intro (show vp_in (eg_gi M 151 ii.toNatClampNeg) 200 from ?_) ?_
      · exact g1 c1
      refine And.intro (fun (c3 : (lg_cmp (eg_gl (eg_sl (eg_sl (eg_sl (eg_sl (eg_rl M 149 (m_vr M (eg_gi M 131 (eg_gi M 151 ii.toNatClampNeg).toNatClampNeg) (eg_gi M 136 (eg_gi M 151 ii.toNatClampNeg).toNatClampNeg) ii.toNatClampNeg)) 149 (nI 0).toNatClampNeg ((eg_gi M 132 (eg_gi M 151 ii.toNatClampNeg).toNatClampNeg).toInt64)) 149 (nI 1).toNatClampNeg ((eg_gi M 134 (eg_gi M 151 ii.toNatClampNeg).toNatClampNeg).toInt64)) 149 (nI 2).toNatClampNeg ((eg_gi M 135 (eg_gi M 151 ii.toNatClampNeg).toNatClampNeg).toInt64)) 149 (nI 4).toNatClampNeg ((eg_gi M 125 (eg_gi M 127 (((nI 2) * (eg_gi M 131 (eg_gi M 151 ii.toNatClampNeg).toNatClampNeg)) + (eg_gi M 133 (eg_gi M 151 ii.toNatClampNeg).toNatClampNeg)).toNatClampNeg).toNatClampNeg).toInt64)) 149 6) ((eg_gi M 133 (eg_gi M 151 ii.toNatClampNeg).toNatClampNeg).toInt64)) = 0) => ?_) (fun (c3 : ¬ (lg_cmp (eg_gl (eg_sl (eg_sl (eg_sl (eg_sl (eg_rl M 149 (m_vr M (eg_gi M 131 (eg_gi M 151 ii.toNatClampNeg).toNatClampNeg) (eg_gi M 136 (eg_gi M 151 ii.toNatClampNeg).toNatClampNeg) ii.toNatClampNeg)) 149 (nI 0).toNatClampNeg ((eg_gi M 132 (eg_gi M 151 ii.toNatClampNeg).toNatClampNeg).toInt64)) 149 (nI 1).toNatClampNeg ((eg_gi M 134 (eg_gi M 151 ii.toNatClampNeg).toNatClampNeg).toInt64)) 149 (nI 2).toNatClampNeg ((eg_gi M 135 (eg_gi M 151 ii.toNatClampNeg).toNatClampNeg).toInt64)) 149 (nI 4).toNatClampNeg ((eg_gi M 125 (eg_gi M 127 (((nI 2) * (eg_gi M 131 (eg_gi M 151 ii.toNatClampNeg).toNatClampNeg)) + (eg_gi M 133 (eg_gi M 151 ii.toNatClampNeg).toNatClampNeg)).toNatClampNeg).toNatClampNeg).toInt64)) 149 6) ((eg_gi M 133 (eg_gi M 151 ii.toNatClampNeg).toNatClampNeg).toInt64)) = 0) => ?_)
      · replace c3 := lgc_eq.mp c3
        refine And.intro (show vp_in (nI 6) 11 from ?_) ?_
        · exact vp_in_nI (by decide) (by decide)
        show eg_T wd k_X12_claimOf Qp 148 0 0 [some (.ref 121), some (.int ii), some (.int rr), some (.int (eg_gi M 151 ii.toNatClampNeg)), some (.long (lN 0)), none, some (.int (nI 0))] [] (eg_sl (eg_sl (eg_sl (eg_sl (eg_sl (eg_rl M 149 (m_vr M (eg_gi M 131 (eg_gi M 151 ii.toNatClampNeg).toNatClampNeg) (eg_gi M 136 (eg_gi M 151 ii.toNatClampNeg).toNatClampNeg) ii.toNatClampNeg)) 149 (nI 0).toNatClampNeg ((eg_gi M 132 (eg_gi M 151 ii.toNatClampNeg).toNatClampNeg).toInt64)) 149 (nI 1).toNatClampNeg ((eg_gi M 134 (eg_gi M 151 ii.toNatClampNeg).toNatClampNeg).toInt64)) 149 (nI 2).toNatClampNeg ((eg_gi M 135 (eg_gi M 151 ii.toNatClampNeg).toNatClampNeg).toInt64)) 149 (nI 4).toNatClampNeg ((eg_gi M 125 (eg_gi M 127 (((nI 2) * (eg_gi M 131 (eg_gi M 151 ii.toNatClampNeg).toNatClampNeg)) + (eg_gi M 133 (eg_gi M 151 ii.toNatClampNeg).toNatClampNeg)).toNatClampNeg).toNatClampNeg).toInt64)) 149 (nI 6).toNatClampNeg (lN 1))
        exact l1 ⟨c1, ⟨c2, c3⟩⟩
      · replace c3 := mt lgc_eq.mpr c3
        refine And.intro (show vp_in (nI 6) 11 from ?_) ?_
        · exact vp_in_nI (by decide) (by decide)
        show eg_T wd k_X12_claimOf Qp 148 0 0 [some (.ref 121), some (.int ii), some (.int rr), some (.int (eg_gi M 151 ii.toNatClampNeg)), some (.long (lN 0)), none, some (.int (nI 0))] [] (eg_sl (eg_sl (eg_sl (eg_sl (eg_sl (eg_rl M 149 (m_vr M (eg_gi M 131 (eg_gi M 151 ii.toNatClampNeg).toNatClampNeg) (eg_gi M 136 (eg_gi M 151 ii.toNatClampNeg).toNatClampNeg) ii.toNatClampNeg)) 149 (nI 0).toNatClampNeg ((eg_gi M 132 (eg_gi M 151 ii.toNatClampNeg).toNatClampNeg).toInt64)) 149 (nI 1).toNatClampNeg ((eg_gi M 134 (eg_gi M 151 ii.toNatClampNeg).toNatClampNeg).toInt64)) 149 (nI 2).toNatClampNeg ((eg_gi M 135 (eg_gi M 151 ii.toNatClampNeg).toNatClampNeg).toInt64)) 149 (nI 4).toNatClampNeg ((eg_gi M 125 (eg_gi M 127 (((nI 2) * (eg_gi M 131 (eg_gi M 151 ii.toNatClampNeg).toNatClampNeg)) + (eg_gi M 133 (eg_gi M 151 ii.toNatClampNeg).toNatClampNeg)).toNatClampNeg).toNatClampNeg).toInt64)) 149 (nI 6).toNatClampNeg (lN 0))
        exact l2 ⟨c1, ⟨c2, c3⟩⟩
    · skip
      show Qp (.inl (some (.long (lN 0)))) M
      exact l0 (Or.inr c2)

set_option maxRecDepth 100000 in
theorem st_X12_claimOf_148 {Qp : eg_P} {M : eg_M} (o1 : Option Value) (rr : Int32) (x3 : Int32) (x4 : Int64) (x6 : Int32)
  (g0 : (vp_in rr 8))
  (g1 : (¬ ((eg_gi M 141 rr.toNatClampNeg) ≤ x6)) → (vp_in (((nI 12) * rr) + x6) 96))
  (g2 : (¬ ((eg_gi M 141 rr.toNatClampNeg) ≤ x6)) → ((eg_gi M 144 (((nI 12) * rr) + x6).toNatClampNeg) = 0) → (∃ r c P Q, rr = nI r ∧ r < 8 ∧ (((nI 12) * rr) + x6) = nI c ∧ c < 96 ∧ m_cl M r c P Q))
  (l0 : ((eg_gi M 141 rr.toNatClampNeg) ≤ x6) → Qp (.inl (some (.long x4))) M)
  (l1 : (¬ (eg_gi M 141 rr.toNatClampNeg) ≤ x6 ∧ (eg_gi M 144 (((nI 12) * rr) + x6).toNatClampNeg) = 0) → ∀ (f_1 : Nat → Int64) (v_1 : Int64), (∀ P Q, m_cl M rr.toNatClampNeg (((nI 12) * rr) + x6).toNatClampNeg P Q → v_1 = p_cv (eg_gl M 149) P Q) → eg_T wd k_X12_claimOf Qp 192 0 0 [some (.ref 121), o1, some (.int rr), some (.int x3), some (.long x4), none, some (.int x6)] [.long v_1, .long (lN 999999), .long (lN 0), .long x4] (eg_rl M 150 f_1))
  (l2 : (¬ (eg_gi M 141 rr.toNatClampNeg) ≤ x6 ∧ ¬ (eg_gi M 144 (((nI 12) * rr) + x6).toNatClampNeg) = 0) → eg_T wd k_X12_claimOf Qp 148 0 0 [some (.ref 121), o1, some (.int rr), some (.int x3), some (.long x4), none, some (.int (x6 + (nI 1)))] [] M) :
  eg_T wd k_X12_claimOf Qp 148 0 0 [some (.ref 121), o1, some (.int rr), some (.int x3), some (.long x4), none, some (.int x6)] [] M := by
  refine eg_T_run mk_X12_claimOf (cut := [148, 192]) 135 ?_
  refine And.intro (show vp_in rr 8 from ?_) ?_
  · exact g0
  refine And.intro (fun (c1 : (eg_gi M 141 rr.toNatClampNeg) ≤ x6) => ?_) (fun (c1 : ¬ (eg_gi M 141 rr.toNatClampNeg) ≤ x6) => ?_)
  · skip
    show Qp (.inl (some (.long x4))) M
    exact l0 c1
  · skip
    refine And.intro (show vp_in (((nI 12) * rr) + x6) 96 from ?_) ?_
    · exact g1 c1
    refine And.intro (fun (c2 : (eg_gi M 144 (((nI 12) * rr) + x6).toNatClampNeg) = 0) => ?_) (fun (c2 : ¬ (eg_gi M 144 (((nI 12) * rr) + x6).toNatClampNeg) = 0) => ?_)
    · skip
      refine And.intro (show (∃ r c P Q, rr = nI r ∧ r < 8 ∧ (((nI 12) * rr) + x6) = nI c ∧ c < 96 ∧ m_cl M r c P Q) from ?_) ?_
      · exact g2 c1 c2
      intro f_1 v_1 ha_1
      show eg_T wd k_X12_claimOf Qp 192 0 0 [some (.ref 121), o1, some (.int rr), some (.int x3), some (.long x4), none, some (.int x6)] [.long v_1, .long (lN 999999), .long (lN 0), .long x4] (eg_rl M 150 f_1)
      exact l1 ⟨c1, c2⟩ f_1 v_1 ha_1
    · skip
      show eg_T wd k_X12_claimOf Qp 148 0 0 [some (.ref 121), o1, some (.int rr), some (.int x3), some (.long x4), none, some (.int (x6 + (nI 1)))] [] M
      exact l2 ⟨c1, c2⟩

set_option maxRecDepth 100000 in
theorem st_X12_claimOf_192 {Qp : eg_P} {M : eg_M} (o1 : Option Value) (rr : Int32) (x3 : Int32) (o4 : Option Value) (o5 : Option Value) (x6 : Int32) (s0 : Int64) (s1 : Int64) (s2 : Int64) (s3 : Int64)
  (l0 : eg_T wd k_X12_claimOf Qp 148 0 0 [some (.ref 121), o1, some (.int rr), some (.int x3), some (.long (s3 + (if (if s0 < s1 then s0 else s1) < s2 then s2 else (if s0 < s1 then s0 else s1)))), none, some (.int (x6 + (nI 1)))] [] M) :
  eg_T wd k_X12_claimOf Qp 192 0 0 [some (.ref 121), o1, some (.int rr), some (.int x3), o4, o5, some (.int x6)] [.long s0, .long s1, .long s2, .long s3] M := by
  refine eg_T_run mk_X12_claimOf (cut := [148, 192]) 135 ?_
  show eg_T wd k_X12_claimOf Qp 148 0 0 [some (.ref 121), o1, some (.int rr), some (.int x3), some (.long (s3 + (if (if s0 < s1 then s0 else s1) < s2 then s2 else (if s0 < s1 then s0 else s1)))), none, some (.int (x6 + (nI 1)))] [] M
  exact l0

def s_X12_claimOf : eg_S := fun argv M Qp => match argv with
  | [.ref 121, .int ii, .int rr] => (vp_in ii 200 ∧ (∀ j, j ≤ ii.toNatClampNeg → vp_in (eg_gi M 151 j) 200) ∧ (eg_gi M 130 (eg_gi M 151 ii.toNatClampNeg).toNatClampNeg = nI 1 → vp_in (eg_gi M 131 (eg_gi M 151 ii.toNatClampNeg).toNatClampNeg) 24 ∧ vp_in (eg_gi M 133 (eg_gi M 151 ii.toNatClampNeg).toNatClampNeg) 2 ∧ vp_in (eg_gi M 127 (nI 2 * (eg_gi M 131 (eg_gi M 151 ii.toNatClampNeg).toNatClampNeg)).toNatClampNeg) 16 ∧ vp_in (eg_gi M 127 (nI 2 * (eg_gi M 131 (eg_gi M 151 ii.toNatClampNeg).toNatClampNeg) + nI 1).toNatClampNeg) 16) ∧ ∃ CL, m_rr M rr CL) ∧ ∀ (g : Nat → Int64) (f : Nat → Int64) (v : Int64), (∀ CL, m_rr M rr CL → v = if eg_gi M 130 (eg_gi M 151 ii.toNatClampNeg).toNatClampNeg = nI 1 then p_cla (m_vv M (eg_gi M 151 ii.toNatClampNeg).toNatClampNeg ii.toNatClampNeg) CL else lN 0) → Qp (.inl (some (.long (v)))) (eg_rl (eg_rl M 149 g) 150 f)
  | _ => False
theorem mo_X12_claimOf : eg_mono s_X12_claimOf := by
  intro argv M Q Q' h
  unfold s_X12_claimOf
  split
  · exact fun z => ⟨z.1, fun g f v y => h _ _ (z.2 g f v y)⟩
  · exact id
theorem sz_X12_claimOf : ∀ argv M Qp, s_X12_claimOf argv M Qp → (eg_ls0 argv).length ≤ 7 := by
  intro argv M Qp h
  unfold s_X12_claimOf at h
  split at h
  · exact Nat.le_of_ble_eq_true rfl
  · exact h.elim
theorem sr_X12_claimOf : ∀ argv M Qp, s_X12_claimOf argv M Qp → ∃ p0 As, argv = .ref p0 :: As ∧ eg_isO wd M p0 12 = true := by
  intro argv M Qp h
  unfold s_X12_claimOf at h
  split at h
  · exact ⟨_, _, rfl, rfl⟩
  · exact h.elim
set_option maxRecDepth 100000 in
set_option maxHeartbeats 4000000 in
theorem T_X12_claimOf {argv : List Value} {M : eg_M} {Qp : eg_P} (h : s_X12_claimOf argv M Qp) : eg_T wd k_X12_claimOf Qp 0 0 0 (eg_lsN 7 argv) [] M := by
  unfold s_X12_claimOf at h
  split at h
  · rename_i ii rr
    obtain ⟨hp, hq⟩ := h
    obtain ⟨hi, hO, hV, CL, hCL⟩ := hp
    obtain ⟨n, hn, rfl⟩ := vp_in_of hi (by decide)
    simp (disch := omega) only [n_c] at hO hV hq
    have hO1 := hO n (Nat.le_refl _)
    have hq2 : ∀ g f (v : Int64), (v = if eg_gi M 130 (eg_gi M 151 n).toNatClampNeg = nI 1 then p_cla (m_vv M (eg_gi M 151 n).toNatClampNeg n) CL else lN 0) → Qp (.inl (some (.long v))) (eg_rl (eg_rl M 149 g) 150 f) := fun g f v hv => hq g f v (fun CL' h' => by rw [m_rr_inj h' hCL]; exact hv)
    have st := st_X12_claimOf_0 (Qp := Qp) (M := M) (nI n) rr
    simp (disch := omega) only [n_c, sl_rl, rl_g, if_true, Nat.reduceEqDiff, if_false] at st
    generalize he : (eg_gi M 151 n).toNatClampNeg = e at *
    have lp : eg_gi M 130 e = nI 1 → ¬ rr = -nI 1 → ∀ i (x : Int64 × (Nat → Int64)), i ≤ CL.length → x.1 = (CL.take i).foldl (fun s c => s + p_one (m_vv M e n) c) (lN 0) → eg_T wd k_X12_claimOf Qp 148 0 0 [some (.ref 121), some (.int (nI n)), some (.int rr), some (.int (eg_gi M 151 n)), some (.long x.1), none, some (.int (nI i))] [] (eg_rl (eg_rl M 149 (m_vv M e n)) 150 x.2) := by
      intro hk hrr
      refine eg_for ?_
      intro i ⟨s, f⟩ hi hs kk
      have hs : s = (CL.take i).foldl (fun s c => s + p_one (m_vv M e n) c) (lN 0) := hs
      rcases hCL with ⟨z, _⟩ | ⟨r, er, hr, hl, hl12, hC⟩
      · exact absurd z hrr
      subst er
      have s2 := st_X12_claimOf_148 (Qp := Qp) (M := eg_rl (eg_rl M 149 (m_vv M e n)) 150 f) (some (.int (nI n))) (nI r) (eg_gi M 151 n) s (nI i)
      simp only [rl_gi] at s2
      rw [n_c (by omega), hl] at s2
      simp (disch := omega) only [n_c, n_in, n_m, n_s, n_le] at s2
      have fold1 : ∀ (h : i < CL.length), (CL.take (i + 1)).foldl (fun s c => s + p_one (m_vv M e n) c) (lN 0) = s + p_one (m_vv M e n) CL[i] := by
        intro h
        rw [List.take_succ_eq_append_getElem h, List.foldl_append, ← hs]
        rfl
      refine s2 hr (fun z => by omega) (fun z _ => ⟨r, 12 * r + i, _, _, rfl, hr, rfl, by omega, (hC i (by omega)).2⟩) (fun z => ?_) (fun z f' v' hv => ?_) (fun z => ?_)
      · refine hq2 _ f s ?_
        rw [if_pos hk, hs, show i = CL.length by omega, List.take_length]
        rfl
      · have hlt : i < CL.length := by omega
        have hv : v' = p_cv (m_vv M e n) _ _ := hv _ _ (hC i hlt).2
        have kd : CL[i].1 = 0 := (hC i hlt).1.symm.trans z.2
        rw [rl_rl]
        refine st_X12_claimOf_192 _ _ _ _ _ _ _ _ _ _ ?_
        rw [n_s]
        refine kk (_, f') hlt ?_
        rw [fold1 hlt, p_one, if_pos kd, ← hv]
      · have hlt : i < CL.length := by omega
        have kd : ¬ CL[i].1 = 0 := fun w => z.2 ((hC i hlt).1.trans w)
        refine kk (s, f) hlt ?_
        rw [fold1 hlt, p_one, if_neg kd]
        exact (Int64.add_zero s).symm
    have go : eg_gi M 130 e = nI 1 → ¬ rr = -nI 1 → ∀ F, F = m_vv M e n → eg_T wd k_X12_claimOf Qp 148 0 0 [some (.ref 121), some (.int (nI n)), some (.int rr), some (.int (eg_gi M 151 n)), some (.long (lN 0)), none, some (.int (nI 0))] [] (eg_rl M 149 F) := by
      intro hk hrr F hF
      subst hF
      have := lp hk hrr 0 (lN 0, eg_gl (eg_rl M 149 (m_vv M e n)) 150) (Nat.zero_le _) rfl
      rw [rl_id] at this
      exact this
    refine st hi (fun _ => hO1) (fun _ z => ?_) (fun _ z => ?_) (fun _ z => ?_) (fun z => ?_) (fun z => ?_) (fun z => ?_)
    · have y := hV z
      exact ⟨y.1, ⟨n, by omega, rfl⟩, fun i h => hO i (by omega), y.2.2⟩
    · have y := hV z
      obtain ⟨a, ha, ea⟩ := vp_in_of y.1 (by decide)
      obtain ⟨b, hb, eb⟩ := vp_in_of y.2.1 (by decide)
      rw [ea, eb, n_m, n_s]
      exact vp_in_nI (by omega) (by decide)
    · have y := hV z
      obtain ⟨b, hb, eb⟩ := vp_in_of y.2.1 (by decide)
      rw [eb]
      rcases (show b = 0 ∨ b = 1 by omega) with rfl | rfl
      · have := y.2.2.1
        rw [show nI 2 * eg_gi M 131 e + nI 0 = nI 2 * eg_gi M 131 e from Int32.add_zero _]
        exact this
      · exact y.2.2.2
    · have := hq2 (eg_gl M 149) (eg_gl M 150) (lN 0) ?_
      · rw [rl_id, rl_id] at this
        exact this
      · rcases z with z | z
        · rcases hCL with ⟨_, rfl⟩ | ⟨r, er, hr, _⟩
          · split <;> rfl
          · exact absurd (er.symm.trans z) (nI_m1 (by omega))
        · rw [if_neg z]
    · refine go z.2.1 z.1 _ ?_
      funext j
      unfold m_vv
      rw [if_pos z.2.2]
    · refine go z.2.1 z.1 _ ?_
      funext j
      unfold m_vv
      rw [if_neg z.2.2]
    
  · exact h.elim
theorem de_X12_claimOf : ∀ q ∈ k_X12_claimOf.1, decode cX12_claimOf q.1 = .ok q.2 := by decide +kernel
theorem me_X12_claimOf (g : gl_T) : MT g yX12_claimOf cX12_claimOf 7 (some .long) ⟨3, 0, 0, 72⟩ 0 0 s_X12_claimOf := by
  intro hl
  exact eg_met_of (k := k_X12_claimOf) (by decide) rfl ⟨Nat.le_refl _, Nat.le_refl _⟩ rfl sz_X12_claimOf de_X12_claimOf (fun meth hn => (fc (eg_FL_of wd_c12 (by decide) lf_RX12_44 (fun h => absurd h (by decide))) (fc (eg_FL_of wd_c12 (by decide) lf_RX12_50 (fun h => absurd h (by decide))) (fc (eg_FL_of wd_c12 (by decide) lf_RX12_59 (fun h => absurd h (by decide))) (fc (eg_FL_of wd_c12 (by decide) lf_RX12_62 (fun h => absurd h (by decide))) (fc (eg_FL_of wd_c12 (by decide) lf_RX12_65 (fun h => absurd h (by decide))) (fc (eg_FL_of wd_c12 (by decide) lf_RX12_68 (fun h => absurd h (by decide))) (fc (eg_FL_of wd_c12 (by decide) lf_RX12_71 (fun h => absurd h (by decide))) (fc (eg_FL_of wd_c12 (by decide) lf_RX12_74 (fun h => absurd h (by decide))) (fc (eg_FL_of wd_c12 (by decide) lf_RX12_77 (fun h => absurd h (by decide))) (fc (eg_FL_of wd_c12 (by decide) lf_RX12_96 (fun h => absurd h (by decide))) (fc (eg_FL_of wd_c12 (by decide) lf_RX12_105 (fun h => absurd h (by decide))) (fc (eg_FL_of wd_c12 (by decide) lf_RX12_120 (fun h => absurd h (by decide))) (fc (eg_FL_of wd_c12 (by decide) lf_RX12_127 (fun h => absurd h (by decide))) (fn))))))))))))))) (fun A s H hE => (fc (List.mem_cons_of_mem _ ll_RX12_424) (fn))) (fun p e s m args below meth c Q A ad0 N0 S0 hK hEx hA => (fc (mt_J9_min_f86c9 S0 lm_RX12_426 (by decide) (by decide) (by decide)) (fc (mt_J9_max_f86c9 S0 lm_RX12_429 (by decide) (by decide) (by decide)) (fc (mt_V hl S0 hK hEx hA (me_X12_tellValues g) lm_RX12_400 li_X12_tellValues lx_X12_tellValues ln_RX12 lc_X12_tellValues ⟨rfl, by decide, by decide, by decide +kernel⟩ ⟨rfl, rfl⟩ ⟨by decide, by decide⟩ (ci := 12) rfl rfl sr_X12_tellValues (by decide)) (fc (mt_V hl S0 hK hEx hA (me_X12_clauseOf g) lm_RX12_407 li_X12_clauseOf lx_X12_clauseOf ln_RX12 lc_X12_clauseOf ⟨rfl, by decide, by decide, by decide +kernel⟩ ⟨rfl, rfl⟩ ⟨by decide, by decide⟩ (ci := 12) rfl rfl sr_X12_clauseOf (by decide)) (fn)))))) (fun p e s m args below meth c Qc XC A ad0 N0 P S0 hK hEx hA hlk hout hPX => (fn)) (fun argv M Qp h => T_X12_claimOf h)

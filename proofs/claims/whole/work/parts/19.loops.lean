/-- the model: last day, number and next turn of the visits of charter c among the first i in order -/
def m_ts (M : eg_M) (c : Int32) : Nat → Int32 × Int32 × Int32
  | 0 => (eg_gi M 128 c.toNatClampNeg, nI 0, nI 0)
  | i + 1 => if eg_gi M 131 (eg_gi M 151 i).toNatClampNeg = c ∧ eg_gi M 130 (eg_gi M 151 i).toNatClampNeg = nI 1 then (eg_gi M 136 (eg_gi M 151 i).toNatClampNeg, (m_ts M c i).2.1 + nI 1, nI 1 - eg_gi M 133 (eg_gi M 151 i).toNatClampNeg) else m_ts M c i
/-- the ones of x among the first -/
def m_cm (x : Int32) : Nat → Int32
  | 0 => nI 0
  | t + 1 => m_cm x t + ((x >>> (nI t &&& 31)) &&& nI 1)
/-- the size of a difference -/
def ab (x y : Int32) : Int32 := if 0 ≤ x - y then x - y else 0 - (x - y)
/-- the model: the values of charter c on day d -/
def m_vr (M : eg_M) (c d : Int32) (m : Nat) (j : Nat) : Int64 :=
  if j < 3 then lN 0 else
  if j = 3 then (ab (eg_gi M 123 (eg_gi M 127 (nI 2 * c).toNatClampNeg).toNatClampNeg) (eg_gi M 123 (eg_gi M 127 (nI 2 * c + nI 1).toNatClampNeg).toNatClampNeg) + ab (eg_gi M 124 (eg_gi M 127 (nI 2 * c).toNatClampNeg).toNatClampNeg) (eg_gi M 124 (eg_gi M 127 (nI 2 * c + nI 1).toNatClampNeg).toNatClampNeg)).toInt64 else
  if j = 4 then (eg_gi M 125 (eg_gi M 127 (nI 2 * c).toNatClampNeg).toNatClampNeg + eg_gi M 125 (eg_gi M 127 (nI 2 * c + nI 1).toNatClampNeg).toNatClampNeg).toInt64 else
  if j = 5 then (m_cm (eg_gi M 126 (eg_gi M 127 (nI 2 * c).toNatClampNeg).toNatClampNeg &&& eg_gi M 126 (eg_gi M 127 (nI 2 * c + nI 1).toNatClampNeg).toNatClampNeg) 8).toInt64 else
  if j = 6 then (m_ts M c m).2.2.toInt64 else
  if j = 7 then (d - (m_ts M c m).1).toInt64 else
  if j = 8 then (d - eg_gi M 128 c.toNatClampNeg).toInt64 else
  if j = 9 then (m_ts M c m).2.1.toInt64 else
  if j = 10 then (d / nI 360).toInt64 else eg_gl M 149 j
theorem sl_11 {M : eg_M} {a b c d e f g h i j k : Int64} : eg_sl (eg_sl (eg_sl (eg_sl (eg_sl (eg_sl (eg_sl (eg_sl (eg_sl (eg_sl (eg_sl M 149 0 a) 149 1 b) 149 2 c) 149 3 d) 149 4 e) 149 5 f) 149 6 g) 149 7 h) 149 8 i) 149 9 j) 149 10 k = eg_rl M 149 (fun x => if x = 10 then k else if x = 9 then j else if x = 8 then i else if x = 7 then h else if x = 6 then g else if x = 5 then f else if x = 4 then e else if x = 3 then d else if x = 2 then c else if x = 1 then b else if x = 0 then a else eg_gl M 149 x) := by
  conv => lhs; rw [← rl_id M 149]
  simp only [sl_rl]
def k_X12_tellValues : eg_C := ([(0, .aload_n 0, 1), (1, .getfield 53, 3), (4, .iload_n 1, 1), (5, .iaload, 1), (6, .istore 4, 2), (8, .iconst 0, 1), (9, .istore 5, 2), (11, .iconst 0, 1), (12, .istore 6, 2), (14, .iconst 0, 1), (15, .istore 7, 2), (17, .iload 7, 2), (19, .iload_n 2, 1), (20, .if_icmp .ge 66, 3), (23, .aload_n 0, 1), (24, .getfield 127, 3), (27, .iload 7, 2), (29, .iaload, 1), (30, .istore 8, 2), (32, .aload_n 0, 1), (33, .getfield 62, 3), (36, .iload 8, 2), (38, .iaload, 1), (39, .iload_n 1, 1), (40, .if_icmp .ne 40, 3), (43, .aload_n 0, 1), (44, .getfield 59, 3), (47, .iload 8, 2), (49, .iaload, 1), (50, .iconst 1, 1), (51, .if_icmp .eq 6, 3), (54, .goto 26, 3), (57, .aload_n 0, 1), (58, .getfield 77, 3), (61, .iload 8, 2), (63, .iaload, 1), (64, .istore 4, 2), (66, .iconst 1, 1), (67, .aload_n 0, 1), (68, .getfield 68, 3), (71, .iload 8, 2), (73, .iaload, 1), (74, .isub, 1), (75, .istore 6, 2), (77, .iinc 5 1, 3), (80, .iinc 7 1, 3), (83, .goto (-66), 3), (86, .aload_n 0, 1), (87, .getfield 50, 3), (90, .iconst 2, 1), (91, .iload_n 1, 1), (92, .imul, 1), (93, .iaload, 1), (94, .istore 7, 2), (96, .aload_n 0, 1), (97, .getfield 50, 3), (100, .iconst 2, 1), (101, .iload_n 1, 1), (102, .imul, 1), (103, .iconst 1, 1), (104, .iadd, 1), (105, .iaload, 1), (106, .istore 8, 2), (108, .iconst 0, 1), (109, .istore 9, 2), (111, .iconst 0, 1), (112, .istore 10, 2), (114, .iload 10, 2), (116, .bipush 8, 2), (118, .if_icmp .ge 34, 3), (121, .iload 9, 2), (123, .aload_n 0, 1), (124, .getfield 47, 3), (127, .iload 7, 2), (129, .iaload, 1), (130, .aload_n 0, 1), (131, .getfield 47, 3), (134, .iload 8, 2), (136, .iaload, 1), (137, .iand, 1), (138, .iload 10, 2), (140, .ishr, 1), (141, .iconst 1, 1), (142, .iand, 1), (143, .iadd, 1), (144, .istore 9, 2), (146, .iinc 10 1, 3), (149, .goto (-35), 3), (152, .aload_n 0, 1), (153, .getfield 120, 3), (156, .iconst 0, 1), (157, .lconst 0, 1), (158, .lastore, 1), (159, .aload_n 0, 1), (160, .getfield 120, 3), (163, .iconst 1, 1), (164, .lconst 0, 1), (165, .lastore, 1), (166, .aload_n 0, 1), (167, .getfield 120, 3), (170, .iconst 2, 1), (171, .lconst 0, 1), (172, .lastore, 1), (173, .aload_n 0, 1), (174, .getfield 120, 3), (177, .iconst 3, 1), (178, .aload_n 0, 1), (179, .getfield 37, 3), (182, .iload 7, 2), (184, .iaload, 1), (185, .aload_n 0, 1), (186, .getfield 37, 3), (189, .iload 8, 2), (191, .iaload, 1), (192, .isub, 1), (193, .invokestatic 394, 3), (196, .aload_n 0, 1), (197, .getfield 41, 3), (200, .iload 7, 2), (202, .iaload, 1), (203, .aload_n 0, 1), (204, .getfield 41, 3), (207, .iload 8, 2), (209, .iaload, 1), (210, .isub, 1), (211, .invokestatic 394, 3), (214, .iadd, 1), (215, .i2l, 1), (216, .lastore, 1), (217, .aload_n 0, 1), (218, .getfield 120, 3), (221, .iconst 4, 1), (222, .aload_n 0, 1), (223, .getfield 44, 3), (226, .iload 7, 2), (228, .iaload, 1), (229, .aload_n 0, 1), (230, .getfield 44, 3), (233, .iload 8, 2), (235, .iaload, 1), (236, .iadd, 1), (237, .i2l, 1), (238, .lastore, 1), (239, .aload_n 0, 1), (240, .getfield 120, 3), (243, .iconst 5, 1), (244, .iload 9, 2), (246, .i2l, 1), (247, .lastore, 1), (248, .aload_n 0, 1), (249, .getfield 120, 3), (252, .bipush 6, 2), (254, .iload 6, 2), (256, .i2l, 1), (257, .lastore, 1), (258, .aload_n 0, 1), (259, .getfield 120, 3), (262, .bipush 7, 2), (264, .iload_n 3, 1), (265, .iload 4, 2), (267, .isub, 1), (268, .i2l, 1), (269, .lastore, 1), (270, .aload_n 0, 1), (271, .getfield 120, 3), (274, .bipush 8, 2), (276, .iload_n 3, 1), (277, .aload_n 0, 1), (278, .getfield 53, 3), (281, .iload_n 1, 1), (282, .iaload, 1), (283, .isub, 1), (284, .i2l, 1), (285, .lastore, 1), (286, .aload_n 0, 1), (287, .getfield 120, 3), (290, .bipush 9, 2), (292, .iload 5, 2), (294, .i2l, 1), (295, .lastore, 1), (296, .aload_n 0, 1), (297, .getfield 120, 3), (300, .bipush 10, 2), (302, .iload_n 3, 1), (303, .sipush 360, 3), (306, .idiv, 1), (307, .i2l, 1), (308, .lastore, 1), (309, .return_, 1)], [(37, 12, 6, false), (41, 12, 7, false), (44, 12, 8, false), (47, 12, 9, false), (50, 12, 10, false), (53, 12, 11, false), (59, 12, 13, false), (62, 12, 14, false), (68, 12, 16, false), (77, 12, 19, false), (120, 12, 45, false), (127, 12, 48, false)], [], [(394 + 100000, 1, 0, 0, s_J9_abs_0f7a4)], [], 0, 0, 0)
theorem mk_X12_tellValues : ∀ q ∈ k_X12_tellValues.2.2.2.1, eg_mono q.2.2.2.2 := (fc (mo_J9_abs_0f7a4) (fn))
set_option maxRecDepth 100000 in
theorem st_X12_tellValues_0 {Qp : eg_P} {M : eg_M} (c : Int32) (b : Int32) (d : Int32)
  (g0 : (vp_in c 24))
  (l0 : eg_T wd k_X12_tellValues Qp 17 0 0 [some (.ref 121), some (.int c), some (.int b), some (.int d), some (.int (eg_gi M 128 c.toNatClampNeg)), some (.int (nI 0)), some (.int (nI 0)), some (.int (nI 0)), none, none, none] [] M) :
  eg_T wd k_X12_tellValues Qp 0 0 0 [some (.ref 121), some (.int c), some (.int b), some (.int d), none, none, none, none, none, none, none] [] M := by
  refine eg_T_run mk_X12_tellValues (cut := [17, 114]) 192 ?_
  refine And.intro (show vp_in c 24 from ?_) ?_
  · exact g0
  show eg_T wd k_X12_tellValues Qp 17 0 0 [some (.ref 121), some (.int c), some (.int b), some (.int d), some (.int (eg_gi M 128 c.toNatClampNeg)), some (.int (nI 0)), some (.int (nI 0)), some (.int (nI 0)), none, none, none] [] M
  exact l0

set_option maxRecDepth 100000 in
theorem st_X12_tellValues_17 {Qp : eg_P} {M : eg_M} (c : Int32) (b : Int32) (d : Int32) (x4 : Int32) (x5 : Int32) (x6 : Int32) (x7 : Int32) (o8 : Option Value) (o9 : Option Value) (o10 : Option Value)
  (g0 : (b ≤ x7) → (vp_in ((nI 2) * c) 48))
  (g1 : (b ≤ x7) → (vp_in (((nI 2) * c) + (nI 1)) 48))
  (g2 : (¬ (b ≤ x7)) → (vp_in x7 200))
  (g3 : (¬ (b ≤ x7)) → (vp_in (eg_gi M 151 x7.toNatClampNeg) 200))
  (l0 : (b ≤ x7) → eg_T wd k_X12_tellValues Qp 114 0 0 [some (.ref 121), some (.int c), some (.int b), some (.int d), some (.int x4), some (.int x5), some (.int x6), some (.int (eg_gi M 127 ((nI 2) * c).toNatClampNeg)), some (.int (eg_gi M 127 (((nI 2) * c) + (nI 1)).toNatClampNeg)), some (.int (nI 0)), some (.int (nI 0))] [] M)
  (l1 : (¬ b ≤ x7 ∧ ((eg_gi M 131 (eg_gi M 151 x7.toNatClampNeg).toNatClampNeg) = c ∧ (eg_gi M 130 (eg_gi M 151 x7.toNatClampNeg).toNatClampNeg) = (nI 1))) → eg_T wd k_X12_tellValues Qp 17 0 0 [some (.ref 121), some (.int c), some (.int b), some (.int d), some (.int (eg_gi M 136 (eg_gi M 151 x7.toNatClampNeg).toNatClampNeg)), some (.int (x5 + (nI 1))), some (.int ((nI 1) - (eg_gi M 133 (eg_gi M 151 x7.toNatClampNeg).toNatClampNeg))), some (.int (x7 + (nI 1))), some (.int (eg_gi M 151 x7.toNatClampNeg)), o9, o10] [] M)
  (l2 : (¬ b ≤ x7 ∧ (¬ (eg_gi M 131 (eg_gi M 151 x7.toNatClampNeg).toNatClampNeg) = c ∨ ¬ (eg_gi M 130 (eg_gi M 151 x7.toNatClampNeg).toNatClampNeg) = (nI 1))) → eg_T wd k_X12_tellValues Qp 17 0 0 [some (.ref 121), some (.int c), some (.int b), some (.int d), some (.int x4), some (.int x5), some (.int x6), some (.int (x7 + (nI 1))), some (.int (eg_gi M 151 x7.toNatClampNeg)), o9, o10] [] M) :
  eg_T wd k_X12_tellValues Qp 17 0 0 [some (.ref 121), some (.int c), some (.int b), some (.int d), some (.int x4), some (.int x5), some (.int x6), some (.int x7), o8, o9, o10] [] M := by
  refine eg_T_run mk_X12_tellValues (cut := [17, 114]) 192 ?_
  refine And.intro (fun (c1 : b ≤ x7) => ?_) (fun (c1 : ¬ b ≤ x7) => ?_)
  · skip
    refine And.intro (show vp_in ((nI 2) * c) 48 from ?_) ?_
    · exact g0 c1
    refine And.intro (show vp_in (((nI 2) * c) + (nI 1)) 48 from ?_) ?_
    · exact g1 c1
    show eg_T wd k_X12_tellValues Qp 114 0 0 [some (.ref 121), some (.int c), some (.int b), some (.int d), some (.int x4), some (.int x5), some (.int x6), some (.int (eg_gi M 127 ((nI 2) * c).toNatClampNeg)), some (.int (eg_gi M 127 (((nI 2) * c) + (nI 1)).toNatClampNeg)), some (.int (nI 0)), some (.int (nI 0))] [] M
    exact l0 c1
  · skip
    refine And.intro (show vp_in x7 200 from ?_) ?_
    · exact g2 c1
    refine And.intro (show vp_in (eg_gi M 151 x7.toNatClampNeg) 200 from ?_) ?_
    · exact g3 c1
    refine And.intro (fun (c2 : (eg_gi M 131 (eg_gi M 151 x7.toNatClampNeg).toNatClampNeg) = c) => ?_) (fun (c2 : ¬ (eg_gi M 131 (eg_gi M 151 x7.toNatClampNeg).toNatClampNeg) = c) => ?_)
    · skip
      refine And.intro (show vp_in (eg_gi M 151 x7.toNatClampNeg) 200 from ?_) ?_
      · exact g3 c1
      refine And.intro (fun (c3 : (eg_gi M 130 (eg_gi M 151 x7.toNatClampNeg).toNatClampNeg) = (nI 1)) => ?_) (fun (c3 : ¬ (eg_gi M 130 (eg_gi M 151 x7.toNatClampNeg).toNatClampNeg) = (nI 1)) => ?_)
      · skip
        refine And.intro (show vp_in (eg_gi M 151 x7.toNatClampNeg) 200 from ?_) ?_
        · exact g3 c1
        refine And.intro (show vp_in (eg_gi M 151 x7.toNatClampNeg) 200 from ?_) ?_
        · exact g3 c1
        show eg_T wd k_X12_tellValues Qp 17 0 0 [some (.ref 121), some (.int c), some (.int b), some (.int d), some (.int (eg_gi M 136 (eg_gi M 151 x7.toNatClampNeg).toNatClampNeg)), some (.int (x5 + (nI 1))), some (.int ((nI 1) - (eg_gi M 133 (eg_gi M 151 x7.toNatClampNeg).toNatClampNeg))), some (.int (x7 + (nI 1))), some (.int (eg_gi M 151 x7.toNatClampNeg)), o9, o10] [] M
        exact l1 ⟨c1, ⟨c2, c3⟩⟩
      · skip
        show eg_T wd k_X12_tellValues Qp 17 0 0 [some (.ref 121), some (.int c), some (.int b), some (.int d), some (.int x4), some (.int x5), some (.int x6), some (.int (x7 + (nI 1))), some (.int (eg_gi M 151 x7.toNatClampNeg)), o9, o10] [] M
        exact l2 ⟨c1, (Or.inr c3)⟩
    · skip
      show eg_T wd k_X12_tellValues Qp 17 0 0 [some (.ref 121), some (.int c), some (.int b), some (.int d), some (.int x4), some (.int x5), some (.int x6), some (.int (x7 + (nI 1))), some (.int (eg_gi M 151 x7.toNatClampNeg)), o9, o10] [] M
      exact l2 ⟨c1, (Or.inl c2)⟩

set_option maxRecDepth 100000 in
theorem st_X12_tellValues_114 {Qp : eg_P} {M : eg_M} (c : Int32) (o2 : Option Value) (d : Int32) (x4 : Int32) (x5 : Int32) (x6 : Int32) (x7 : Int32) (x8 : Int32) (x9 : Int32) (x10 : Int32)
  (g0 : (vp_in x7 16))
  (g1 : (vp_in x8 16))
  (g2 : ((nI 8) ≤ x10) → (vp_in c 24))
  (l0 : ((nI 8) ≤ x10) → Qp (.inl none) (eg_sl (eg_sl (eg_sl (eg_sl (eg_sl (eg_sl (eg_sl (eg_sl (eg_sl (eg_sl (eg_sl M 149 (nI 0).toNatClampNeg (lN 0)) 149 (nI 1).toNatClampNeg (lN 0)) 149 (nI 2).toNatClampNeg (lN 0)) 149 (nI 3).toNatClampNeg (((if 0 ≤ ((eg_gi M 123 x7.toNatClampNeg) - (eg_gi M 123 x8.toNatClampNeg)) then ((eg_gi M 123 x7.toNatClampNeg) - (eg_gi M 123 x8.toNatClampNeg)) else 0 - ((eg_gi M 123 x7.toNatClampNeg) - (eg_gi M 123 x8.toNatClampNeg))) + (if 0 ≤ ((eg_gi M 124 x7.toNatClampNeg) - (eg_gi M 124 x8.toNatClampNeg)) then ((eg_gi M 124 x7.toNatClampNeg) - (eg_gi M 124 x8.toNatClampNeg)) else 0 - ((eg_gi M 124 x7.toNatClampNeg) - (eg_gi M 124 x8.toNatClampNeg)))).toInt64)) 149 (nI 4).toNatClampNeg (((eg_gi M 125 x7.toNatClampNeg) + (eg_gi M 125 x8.toNatClampNeg)).toInt64)) 149 (nI 5).toNatClampNeg x9.toInt64) 149 (nI 6).toNatClampNeg x6.toInt64) 149 (nI 7).toNatClampNeg ((d - x4).toInt64)) 149 (nI 8).toNatClampNeg ((d - (eg_gi M 128 c.toNatClampNeg)).toInt64)) 149 (nI 9).toNatClampNeg x5.toInt64) 149 (nI 10).toNatClampNeg ((d / (nI 360)).toInt64)))
  (l1 : (¬ (nI 8) ≤ x10) → eg_T wd k_X12_tellValues Qp 114 0 0 [some (.ref 121), some (.int c), o2, some (.int d), some (.int x4), some (.int x5), some (.int x6), some (.int x7), some (.int x8), some (.int (x9 + ((((eg_gi M 126 x7.toNatClampNeg) &&& (eg_gi M 126 x8.toNatClampNeg)) >>> (x10 &&& 31)) &&& (nI 1)))), some (.int (x10 + (nI 1)))] [] M) :
  eg_T wd k_X12_tellValues Qp 114 0 0 [some (.ref 121), some (.int c), o2, some (.int d), some (.int x4), some (.int x5), some (.int x6), some (.int x7), some (.int x8), some (.int x9), some (.int x10)] [] M := by
  refine eg_T_run mk_X12_tellValues (cut := [17, 114]) 192 ?_
  refine And.intro (fun (c1 : (nI 8) ≤ x10) => ?_) (fun (c1 : ¬ (nI 8) ≤ x10) => ?_)
  · skip
    refine And.intro (show vp_in (nI 0) 11 from ?_) ?_
    · exact vp_in_nI (by decide) (by decide)
    refine And.intro (show vp_in (nI 1) 11 from ?_) ?_
    · exact vp_in_nI (by decide) (by decide)
    refine And.intro (show vp_in (nI 2) 11 from ?_) ?_
    · exact vp_in_nI (by decide) (by decide)
    refine And.intro (show vp_in x7 16 from ?_) ?_
    · exact g0
    refine And.intro (show vp_in x8 16 from ?_) ?_
    · exact g1
    refine And.intro (show vp_in x7 16 from ?_) ?_
    · exact g0
    refine And.intro (show vp_in x8 16 from ?_) ?_
    · exact g1
    refine And.intro (show vp_in (nI 3) 11 from ?_) ?_
    · exact vp_in_nI (by decide) (by decide)
    refine And.intro (show vp_in x7 16 from ?_) ?_
    · exact g0
    refine And.intro (show vp_in x8 16 from ?_) ?_
    · exact g1
    refine And.intro (show vp_in (nI 4) 11 from ?_) ?_
    · exact vp_in_nI (by decide) (by decide)
    refine And.intro (show vp_in (nI 5) 11 from ?_) ?_
    · exact vp_in_nI (by decide) (by decide)
    refine And.intro (show vp_in (nI 6) 11 from ?_) ?_
    · exact vp_in_nI (by decide) (by decide)
    refine And.intro (show vp_in (nI 7) 11 from ?_) ?_
    · exact vp_in_nI (by decide) (by decide)
    refine And.intro (show vp_in c 24 from ?_) ?_
    · exact g2 c1
    refine And.intro (show vp_in (nI 8) 11 from ?_) ?_
    · exact vp_in_nI (by decide) (by decide)
    refine And.intro (show vp_in (nI 9) 11 from ?_) ?_
    · exact vp_in_nI (by decide) (by decide)
    refine And.intro (show ¬ (nI 360) = 0 from ?_) ?_
    · decide
    refine And.intro (show vp_in (nI 10) 11 from ?_) ?_
    · exact vp_in_nI (by decide) (by decide)
    show Qp (.inl none) (eg_sl (eg_sl (eg_sl (eg_sl (eg_sl (eg_sl (eg_sl (eg_sl (eg_sl (eg_sl (eg_sl M 149 (nI 0).toNatClampNeg (lN 0)) 149 (nI 1).toNatClampNeg (lN 0)) 149 (nI 2).toNatClampNeg (lN 0)) 149 (nI 3).toNatClampNeg (((if 0 ≤ ((eg_gi M 123 x7.toNatClampNeg) - (eg_gi M 123 x8.toNatClampNeg)) then ((eg_gi M 123 x7.toNatClampNeg) - (eg_gi M 123 x8.toNatClampNeg)) else 0 - ((eg_gi M 123 x7.toNatClampNeg) - (eg_gi M 123 x8.toNatClampNeg))) + (if 0 ≤ ((eg_gi M 124 x7.toNatClampNeg) - (eg_gi M 124 x8.toNatClampNeg)) then ((eg_gi M 124 x7.toNatClampNeg) - (eg_gi M 124 x8.toNatClampNeg)) else 0 - ((eg_gi M 124 x7.toNatClampNeg) - (eg_gi M 124 x8.toNatClampNeg)))).toInt64)) 149 (nI 4).toNatClampNeg (((eg_gi M 125 x7.toNatClampNeg) + (eg_gi M 125 x8.toNatClampNeg)).toInt64)) 149 (nI 5).toNatClampNeg x9.toInt64) 149 (nI 6).toNatClampNeg x6.toInt64) 149 (nI 7).toNatClampNeg ((d - x4).toInt64)) 149 (nI 8).toNatClampNeg ((d - (eg_gi M 128 c.toNatClampNeg)).toInt64)) 149 (nI 9).toNatClampNeg x5.toInt64) 149 (nI 10).toNatClampNeg ((d / (nI 360)).toInt64))
    exact l0 c1
  · skip
    refine And.intro (show vp_in x7 16 from ?_) ?_
    · exact g0
    refine And.intro (show vp_in x8 16 from ?_) ?_
    · exact g1
    show eg_T wd k_X12_tellValues Qp 114 0 0 [some (.ref 121), some (.int c), o2, some (.int d), some (.int x4), some (.int x5), some (.int x6), some (.int x7), some (.int x8), some (.int (x9 + ((((eg_gi M 126 x7.toNatClampNeg) &&& (eg_gi M 126 x8.toNatClampNeg)) >>> (x10 &&& 31)) &&& (nI 1)))), some (.int (x10 + (nI 1)))] [] M
    exact l1 c1

def s_X12_tellValues : eg_S := fun argv M Qp => match argv with
  | [.ref 121, .int c, .int b, .int d] => (vp_in c 24 ∧ eg_cn b 200 ∧ (∀ i, i < b.toNatClampNeg → vp_in (eg_gi M 151 i) 200) ∧ vp_in (eg_gi M 127 (nI 2 * c).toNatClampNeg) 16 ∧ vp_in (eg_gi M 127 (nI 2 * c + nI 1).toNatClampNeg) 16) ∧ Qp (.inl none) (eg_rl M 149 (m_vr M c d b.toNatClampNeg))
  | _ => False
theorem mo_X12_tellValues : eg_mono s_X12_tellValues := by
  intro argv M Q Q' h
  unfold s_X12_tellValues
  split
  · exact fun z => ⟨z.1, h _ _ z.2⟩
  · exact id
theorem sz_X12_tellValues : ∀ argv M Qp, s_X12_tellValues argv M Qp → (eg_ls0 argv).length ≤ 11 := by
  intro argv M Qp h
  unfold s_X12_tellValues at h
  split at h
  · exact Nat.le_of_ble_eq_true rfl
  · exact h.elim
theorem sr_X12_tellValues : ∀ argv M Qp, s_X12_tellValues argv M Qp → ∃ p0 As, argv = .ref p0 :: As ∧ eg_isO wd M p0 12 = true := by
  intro argv M Qp h
  unfold s_X12_tellValues at h
  split at h
  · exact ⟨_, _, rfl, rfl⟩
  · exact h.elim
set_option maxRecDepth 100000 in
set_option maxHeartbeats 4000000 in
theorem T_X12_tellValues {argv : List Value} {M : eg_M} {Qp : eg_P} (h : s_X12_tellValues argv M Qp) : eg_T wd k_X12_tellValues Qp 0 0 0 (eg_lsN 11 argv) [] M := by
  unfold s_X12_tellValues at h
  split at h
  · rename_i c b d
    obtain ⟨hp, hq⟩ := h
    obtain ⟨hc, ⟨n, hn, rfl⟩, ho, ha, hb⟩ := hp
    rw [n_c (by omega)] at hq ho
    have lq : ∀ t (x : Int32), t ≤ 8 → x = m_cm (eg_gi M 126 (eg_gi M 127 (nI 2 * c).toNatClampNeg).toNatClampNeg &&& eg_gi M 126 (eg_gi M 127 (nI 2 * c + nI 1).toNatClampNeg).toNatClampNeg) t → eg_T wd k_X12_tellValues Qp 114 0 0 [some (.ref 121), some (.int c), some (.int (nI n)), some (.int d), some (.int ((m_ts M c n).1)), some (.int ((m_ts M c n).2.1)), some (.int ((m_ts M c n).2.2)), some (.int (eg_gi M 127 (nI 2 * c).toNatClampNeg)), some (.int (eg_gi M 127 (nI 2 * c + nI 1).toNatClampNeg)), some (.int x), some (.int (nI t))] [] M := by
      refine eg_for ?_
      intro t x ht hx kk
      have st := st_X12_tellValues_114 (Qp := Qp) (M := M) c (some (.int (nI n))) d (m_ts M c n).1 (m_ts M c n).2.1 (m_ts M c n).2.2 (eg_gi M 127 (nI 2 * c).toNatClampNeg) (eg_gi M 127 (nI 2 * c + nI 1).toNatClampNeg) x (nI t) ha hb
      simp (disch := omega) only [n_s, n_le, n_c, Nat.not_le] at st
      refine st (fun _ => hc) (fun z => ?_) (fun z => kk _ z ?_)
      · have : t = 8 := by omega
        subst this
        rw [sl_11]
        refine cast (congrArg (Qp (.inl none)) (congrArg (eg_rl M 149) ?_)) hq
        funext j
        unfold m_vr ab
        rw [hx]
        rcases Nat.lt_or_ge j 11 with y | y
        · rcases (show j = 0 ∨ j = 1 ∨ j = 2 ∨ j = 3 ∨ j = 4 ∨ j = 5 ∨ j = 6 ∨ j = 7 ∨ j = 8 ∨ j = 9 ∨ j = 10 by omega) with rfl | rfl | rfl | rfl | rfl | rfl | rfl | rfl | rfl | rfl | rfl <;> simp
        · simp (disch := omega) only [if_neg]
      · rw [hx, m_cm]
    have lp : ∀ i (x : (Int32 × Int32 × Int32) × Option Value × Option Value × Option Value), i ≤ n → x.1 = m_ts M c i → eg_T wd k_X12_tellValues Qp 17 0 0 [some (.ref 121), some (.int c), some (.int (nI n)), some (.int d), some (.int x.1.1), some (.int x.1.2.1), some (.int x.1.2.2), some (.int (nI i)), x.2.1, x.2.2.1, x.2.2.2] [] M := by
      refine eg_for ?_
      intro i ⟨x, o8, o9, o10⟩ hi hx kk
      have st := st_X12_tellValues_17 (Qp := Qp) (M := M) c (nI n) d x.1 x.2.1 x.2.2 (nI i) o8 o9 o10
      simp (disch := omega) only [n_s, n_le, n_c, Nat.not_le, n_in] at st
      have hx' : x = m_ts M c i := hx
      obtain ⟨j, hj, rfl⟩ := vp_in_of hc (by decide)
      refine st (fun _ => by rw [n_m]; exact vp_in_nI (by omega) (by decide)) (fun _ => by rw [n_m, n_s]; exact vp_in_nI (by omega) (by decide)) (fun z => by omega) (fun z => ho i z) (fun z => ?_) (fun ⟨z1, z⟩ => ?_) (fun ⟨z1, z⟩ => ?_)
      · have : i = n := by omega
        subst this
        rw [hx']
        exact lq 0 _ (by omega) rfl
      · refine kk ((eg_gi M 136 (eg_gi M 151 i).toNatClampNeg, x.2.1 + nI 1, nI 1 - eg_gi M 133 (eg_gi M 151 i).toNatClampNeg), some (.int (eg_gi M 151 i)), o9, o10) z1 ?_
        rw [m_ts, if_pos z, ← hx']
      · refine kk (x, some (.int (eg_gi M 151 i)), o9, o10) z1 ?_
        show x = _
        rw [m_ts, if_neg (by grind), ← hx']
    exact st_X12_tellValues_0 _ _ _ hc (lp 0 ((_, _, _), none, none, none) (Nat.zero_le _) rfl)
  · exact h.elim
theorem de_X12_tellValues : ∀ q ∈ k_X12_tellValues.1, decode cX12_tellValues q.1 = .ok q.2 := by decide +kernel
theorem me_X12_tellValues (g : gl_T) : MT g yX12_tellValues cX12_tellValues 11 none ⟨1, 0, 0, 24⟩ 0 0 s_X12_tellValues := by
  intro hl
  exact eg_met_of (k := k_X12_tellValues) (by decide) rfl ⟨Nat.le_refl _, Nat.le_refl _⟩ rfl sz_X12_tellValues de_X12_tellValues (fun meth hn => (fc (eg_FL_of wd_c12 (by decide) lf_RX12_37 (fun h => absurd h (by decide))) (fc (eg_FL_of wd_c12 (by decide) lf_RX12_41 (fun h => absurd h (by decide))) (fc (eg_FL_of wd_c12 (by decide) lf_RX12_44 (fun h => absurd h (by decide))) (fc (eg_FL_of wd_c12 (by decide) lf_RX12_47 (fun h => absurd h (by decide))) (fc (eg_FL_of wd_c12 (by decide) lf_RX12_50 (fun h => absurd h (by decide))) (fc (eg_FL_of wd_c12 (by decide) lf_RX12_53 (fun h => absurd h (by decide))) (fc (eg_FL_of wd_c12 (by decide) lf_RX12_59 (fun h => absurd h (by decide))) (fc (eg_FL_of wd_c12 (by decide) lf_RX12_62 (fun h => absurd h (by decide))) (fc (eg_FL_of wd_c12 (by decide) lf_RX12_68 (fun h => absurd h (by decide))) (fc (eg_FL_of wd_c12 (by decide) lf_RX12_77 (fun h => absurd h (by decide))) (fc (eg_FL_of wd_c12 (by decide) lf_RX12_120 (fun h => absurd h (by decide))) (fc (eg_FL_of wd_c12 (by decide) lf_RX12_127 (fun h => absurd h (by decide))) (fn)))))))))))))) (fun A s H hE => (fn)) (fun p e s m args below meth c Q A ad0 N0 S0 hK hEx hA => (fc (mt_J9_abs_0f7a4 S0 lm_RX12_394 (by decide) (by decide) (by decide)) (fn))) (fun p e s m args below meth c Qc XC A ad0 N0 P S0 hK hEx hA hlk hout hPX => (fn)) (fun argv M Qp h => T_X12_tellValues h)

/-- the model: the generous side, looking from i down, n gifts of side s seen -/
def m_ge (M : eg_M) (c : Int32) (s : Int32) (n : Nat) : Nat → Int32
  | 0 => if n = 3 then s else -nI 1
  | i + 1 => if n = 3 then s else
    if eg_gi M 131 (eg_gi M 151 i).toNatClampNeg = c ∧ eg_gi M 130 (eg_gi M 151 i).toNatClampNeg = nI 2 then
      (if 0 < n ∧ ¬ eg_gi M 133 (eg_gi M 151 i).toNatClampNeg = s then -nI 1 else m_ge M c (eg_gi M 133 (eg_gi M 151 i).toNatClampNeg) (n + 1) i)
    else m_ge M c s n i
theorem m_mb_le (M : eg_M) (d : Int32) (r i : Nat) : ∃ j, j ≤ i + r ∧ m_mb M d i r = nI j := by
  induction r generalizing i with
  | zero => exact ⟨i, by omega, rfl⟩
  | succ r ih =>
    unfold m_mb
    split
    · exact ⟨i, by omega, rfl⟩
    · obtain ⟨j, h, e⟩ := ih (i + 1)
      exact ⟨j, by omega, e⟩
def k_X12_generous : eg_C := ([(0, .iconst (-1), 1), (1, .istore_n 3, 1), (2, .iconst 0, 1), (3, .istore 4, 2), (5, .aload_n 0, 1), (6, .iload_n 2, 1), (7, .invokevirtual 397, 3), (10, .iconst 1, 1), (11, .isub, 1), (12, .istore 5, 2), (14, .iload 5, 2), (16, .ifCond .lt 78, 3), (19, .iload 4, 2), (21, .iconst 3, 1), (22, .if_icmp .ge 72, 3), (25, .aload_n 0, 1), (26, .getfield 127, 3), (29, .iload 5, 2), (31, .iaload, 1), (32, .istore 6, 2), (34, .aload_n 0, 1), (35, .getfield 62, 3), (38, .iload 6, 2), (40, .iaload, 1), (41, .iload_n 1, 1), (42, .if_icmp .ne 46, 3), (45, .aload_n 0, 1), (46, .getfield 59, 3), (49, .iload 6, 2), (51, .iaload, 1), (52, .iconst 2, 1), (53, .if_icmp .eq 6, 3), (56, .goto 32, 3), (59, .iload 4, 2), (61, .ifCond .le 16, 3), (64, .aload_n 0, 1), (65, .getfield 68, 3), (68, .iload 6, 2), (70, .iaload, 1), (71, .iload_n 3, 1), (72, .if_icmp .eq 5, 3), (75, .iconst (-1), 1), (76, .ireturn, 1), (77, .aload_n 0, 1), (78, .getfield 68, 3), (81, .iload 6, 2), (83, .iaload, 1), (84, .istore_n 3, 1), (85, .iinc 4 1, 3), (88, .iinc 5 (-1), 3), (91, .goto (-77), 3), (94, .iload 4, 2), (96, .iconst 3, 1), (97, .if_icmp .ne 7, 3), (100, .iload_n 3, 1), (101, .goto 4, 3), (104, .iconst (-1), 1), (105, .ireturn, 1)], [(59, 12, 13, false), (62, 12, 14, false), (68, 12, 16, false), (127, 12, 48, false)], [], [(397, 1 + 1, 0, 0, s_X12_manyBy)], [], 1, 0, 0)
theorem mk_X12_generous : ∀ q ∈ k_X12_generous.2.2.2.1, eg_mono q.2.2.2.2 := (fc (mo_X12_manyBy) (fn))
set_option maxRecDepth 100000 in
theorem st_X12_generous_0 {Qp : eg_P} {M : eg_M} (c : Int32) (d : Int32)
  (g0 : (eg_cn (eg_gi M 121 47) 200 ∧ ∀ i, i < (eg_gi M 121 47).toNatClampNeg → vp_in (eg_gi M 151 i) 200))
  (l0 : eg_T wd k_X12_generous Qp 14 0 0 [some (.ref 121), some (.int c), some (.int d), some (.int (-nI 1)), some (.int (nI 0)), some (.int ((m_mb M d 0 (eg_gi M 121 47).toNatClampNeg) - (nI 1))), none] [] M) :
  eg_T wd k_X12_generous Qp 0 0 0 [some (.ref 121), some (.int c), some (.int d), none, none, none, none] [] M := by
  refine eg_T_run mk_X12_generous (cut := [14]) 61 ?_
  refine And.intro (show (eg_cn (eg_gi M 121 47) 200 ∧ ∀ i, i < (eg_gi M 121 47).toNatClampNeg → vp_in (eg_gi M 151 i) 200) from ?_) ?_
  · exact g0
  show eg_T wd k_X12_generous Qp 14 0 0 [some (.ref 121), some (.int c), some (.int d), some (.int (-nI 1)), some (.int (nI 0)), some (.int ((m_mb M d 0 (eg_gi M 121 47).toNatClampNeg) - (nI 1))), none] [] M
  exact l0

set_option maxRecDepth 100000 in
theorem st_X12_generous_14 {Qp : eg_P} {M : eg_M} (c : Int32) (d : Int32) (x3 : Int32) (x4 : Int32) (x5 : Int32) (o6 : Option Value)
  (g0 : (¬ (x5 < 0)) → (¬ ((nI 3) ≤ x4)) → (vp_in x5 200))
  (g1 : (¬ (x5 < 0)) → (¬ ((nI 3) ≤ x4)) → (vp_in (eg_gi M 151 x5.toNatClampNeg) 200))
  (l0 : ((x5 < 0 ∧ x4 = (nI 3)) ∨ (¬ x5 < 0 ∧ ((nI 3) ≤ x4 ∧ x4 = (nI 3)))) → Qp (.inl (some (.int x3))) M)
  (l1 : ((x5 < 0 ∧ ¬ x4 = (nI 3)) ∨ (¬ x5 < 0 ∧ (((nI 3) ≤ x4 ∧ ¬ x4 = (nI 3)) ∨ (¬ (nI 3) ≤ x4 ∧ ((eg_gi M 131 (eg_gi M 151 x5.toNatClampNeg).toNatClampNeg) = c ∧ ((eg_gi M 130 (eg_gi M 151 x5.toNatClampNeg).toNatClampNeg) = (nI 2) ∧ (¬ x4 ≤ 0 ∧ ¬ (eg_gi M 133 (eg_gi M 151 x5.toNatClampNeg).toNatClampNeg) = x3))))))) → Qp (.inl (some (.int (-nI 1)))) M)
  (l2 : (¬ x5 < 0 ∧ (¬ (nI 3) ≤ x4 ∧ ((eg_gi M 131 (eg_gi M 151 x5.toNatClampNeg).toNatClampNeg) = c ∧ ((eg_gi M 130 (eg_gi M 151 x5.toNatClampNeg).toNatClampNeg) = (nI 2) ∧ (x4 ≤ 0 ∨ (eg_gi M 133 (eg_gi M 151 x5.toNatClampNeg).toNatClampNeg) = x3))))) → eg_T wd k_X12_generous Qp 14 0 0 [some (.ref 121), some (.int c), some (.int d), some (.int (eg_gi M 133 (eg_gi M 151 x5.toNatClampNeg).toNatClampNeg)), some (.int (x4 + (nI 1))), some (.int (x5 + (-nI 1))), some (.int (eg_gi M 151 x5.toNatClampNeg))] [] M)
  (l3 : (¬ x5 < 0 ∧ (¬ (nI 3) ≤ x4 ∧ (¬ (eg_gi M 131 (eg_gi M 151 x5.toNatClampNeg).toNatClampNeg) = c ∨ ¬ (eg_gi M 130 (eg_gi M 151 x5.toNatClampNeg).toNatClampNeg) = (nI 2)))) → eg_T wd k_X12_generous Qp 14 0 0 [some (.ref 121), some (.int c), some (.int d), some (.int x3), some (.int x4), some (.int (x5 + (-nI 1))), some (.int (eg_gi M 151 x5.toNatClampNeg))] [] M) :
  eg_T wd k_X12_generous Qp 14 0 0 [some (.ref 121), some (.int c), some (.int d), some (.int x3), some (.int x4), some (.int x5), o6] [] M := by
  refine eg_T_run mk_X12_generous (cut := [14]) 61 ?_
  refine And.intro (fun (c1 : x5 < 0) => ?_) (fun (c1 : ¬ x5 < 0) => ?_)
  · skip
    refine And.intro (fun (c2 : x4 = (nI 3)) => ?_) (fun (c2 : ¬ x4 = (nI 3)) => ?_)
    · skip
      refine And.intro (fun z => absurd z (by decide)) ?_
      show Qp (.inl (some (.int x3))) M
      exact l0 (Or.inl ⟨c1, c2⟩)
    · skip
      refine And.intro (fun z => absurd z (by decide)) ?_
      show Qp (.inl (some (.int (-nI 1)))) M
      exact l1 (Or.inl ⟨c1, c2⟩)
  · skip
    refine And.intro (fun (c3 : (nI 3) ≤ x4) => ?_) (fun (c3 : ¬ (nI 3) ≤ x4) => ?_)
    · skip
      refine And.intro (fun (c4 : x4 = (nI 3)) => ?_) (fun (c4 : ¬ x4 = (nI 3)) => ?_)
      · skip
        refine And.intro (fun z => absurd z (by decide)) ?_
        show Qp (.inl (some (.int x3))) M
        exact l0 (Or.inr ⟨c1, ⟨c3, c4⟩⟩)
      · skip
        refine And.intro (fun z => absurd z (by decide)) ?_
        show Qp (.inl (some (.int (-nI 1)))) M
        exact l1 (Or.inr ⟨c1, (Or.inl ⟨c3, c4⟩)⟩)
    · skip
      refine And.intro (show vp_in x5 200 from ?_) ?_
      · exact g0 c1 c3
      refine And.intro (show vp_in (eg_gi M 151 x5.toNatClampNeg) 200 from ?_) ?_
      · exact g1 c1 c3
      refine And.intro (fun (c5 : (eg_gi M 131 (eg_gi M 151 x5.toNatClampNeg).toNatClampNeg) = c) => ?_) (fun (c5 : ¬ (eg_gi M 131 (eg_gi M 151 x5.toNatClampNeg).toNatClampNeg) = c) => ?_)
      · skip
        refine And.intro (show vp_in (eg_gi M 151 x5.toNatClampNeg) 200 from ?_) ?_
        · exact g1 c1 c3
        refine And.intro (fun (c6 : (eg_gi M 130 (eg_gi M 151 x5.toNatClampNeg).toNatClampNeg) = (nI 2)) => ?_) (fun (c6 : ¬ (eg_gi M 130 (eg_gi M 151 x5.toNatClampNeg).toNatClampNeg) = (nI 2)) => ?_)
        · skip
          refine And.intro (fun (c7 : x4 ≤ 0) => ?_) (fun (c7 : ¬ x4 ≤ 0) => ?_)
          · skip
            refine And.intro (show vp_in (eg_gi M 151 x5.toNatClampNeg) 200 from ?_) ?_
            · exact g1 c1 c3
            show eg_T wd k_X12_generous Qp 14 0 0 [some (.ref 121), some (.int c), some (.int d), some (.int (eg_gi M 133 (eg_gi M 151 x5.toNatClampNeg).toNatClampNeg)), some (.int (x4 + (nI 1))), some (.int (x5 + (-nI 1))), some (.int (eg_gi M 151 x5.toNatClampNeg))] [] M
            exact l2 ⟨c1, ⟨c3, ⟨c5, ⟨c6, (Or.inl c7)⟩⟩⟩⟩
          · skip
            refine And.intro (show vp_in (eg_gi M 151 x5.toNatClampNeg) 200 from ?_) ?_
            · exact g1 c1 c3
            refine And.intro (fun (c8 : (eg_gi M 133 (eg_gi M 151 x5.toNatClampNeg).toNatClampNeg) = x3) => ?_) (fun (c8 : ¬ (eg_gi M 133 (eg_gi M 151 x5.toNatClampNeg).toNatClampNeg) = x3) => ?_)
            · skip
              refine And.intro (show vp_in (eg_gi M 151 x5.toNatClampNeg) 200 from ?_) ?_
              · exact g1 c1 c3
              show eg_T wd k_X12_generous Qp 14 0 0 [some (.ref 121), some (.int c), some (.int d), some (.int (eg_gi M 133 (eg_gi M 151 x5.toNatClampNeg).toNatClampNeg)), some (.int (x4 + (nI 1))), some (.int (x5 + (-nI 1))), some (.int (eg_gi M 151 x5.toNatClampNeg))] [] M
              exact l2 ⟨c1, ⟨c3, ⟨c5, ⟨c6, (Or.inr c8)⟩⟩⟩⟩
            · skip
              refine And.intro (fun z => absurd z (by decide)) ?_
              show Qp (.inl (some (.int (-nI 1)))) M
              exact l1 (Or.inr ⟨c1, (Or.inr ⟨c3, ⟨c5, ⟨c6, ⟨c7, c8⟩⟩⟩⟩)⟩)
        · skip
          show eg_T wd k_X12_generous Qp 14 0 0 [some (.ref 121), some (.int c), some (.int d), some (.int x3), some (.int x4), some (.int (x5 + (-nI 1))), some (.int (eg_gi M 151 x5.toNatClampNeg))] [] M
          exact l3 ⟨c1, ⟨c3, (Or.inr c6)⟩⟩
      · skip
        show eg_T wd k_X12_generous Qp 14 0 0 [some (.ref 121), some (.int c), some (.int d), some (.int x3), some (.int x4), some (.int (x5 + (-nI 1))), some (.int (eg_gi M 151 x5.toNatClampNeg))] [] M
        exact l3 ⟨c1, ⟨c3, (Or.inl c5)⟩⟩

def s_X12_generous : eg_S := fun argv M Qp => match argv with
  | [.ref 121, .int c, .int d] => (eg_cn (eg_gi M 121 47) 200 ∧ ∀ i, i < (eg_gi M 121 47).toNatClampNeg → vp_in (eg_gi M 151 i) 200) ∧ Qp (.inl (some (.int (m_ge M c (-nI 1) 0 (m_mb M d 0 (eg_gi M 121 47).toNatClampNeg).toNatClampNeg)))) M
  | _ => False
theorem mo_X12_generous : eg_mono s_X12_generous := by
  intro argv M Q Q' h
  unfold s_X12_generous
  split
  · exact fun z => ⟨z.1, h _ _ z.2⟩
  · exact id
theorem sz_X12_generous : ∀ argv M Qp, s_X12_generous argv M Qp → (eg_ls0 argv).length ≤ 7 := by
  intro argv M Qp h
  unfold s_X12_generous at h
  split at h
  · exact Nat.le_of_ble_eq_true rfl
  · exact h.elim
theorem sr_X12_generous : ∀ argv M Qp, s_X12_generous argv M Qp → ∃ p0 As, argv = .ref p0 :: As ∧ eg_isO wd M p0 12 = true := by
  intro argv M Qp h
  unfold s_X12_generous at h
  split at h
  · exact ⟨_, _, rfl, rfl⟩
  · exact h.elim
set_option maxRecDepth 100000 in
set_option maxHeartbeats 4000000 in
theorem T_X12_generous {argv : List Value} {M : eg_M} {Qp : eg_P} (h : s_X12_generous argv M Qp) : eg_T wd k_X12_generous Qp 0 0 0 (eg_lsN 7 argv) [] M := by
  unfold s_X12_generous at h
  split at h
  · rename_i c d
    obtain ⟨hp, hq⟩ := h
    obtain ⟨n, hn, hN⟩ := hp.1
    have ho := hp.2
    rw [hN, n_c (by omega)] at hq ho
    obtain ⟨m, hm, hM⟩ := m_mb_le M d n 0
    rw [hM, n_c (by omega)] at hq
    have lp : ∀ i (s : Int32) (g : Nat) (o6 : Option Value), i ≤ n → g ≤ 3 → m_ge M c s g i = m_ge M c (-nI 1) 0 m → eg_T wd k_X12_generous Qp 14 0 0 [some (.ref 121), some (.int c), some (.int d), some (.int s), some (.int (nI g)), some (.int (nI i - nI 1)), o6] [] M := by
      intro i
      induction i with
      | zero =>
        intro s g o6 hi hg he
        have st := st_X12_generous_14 (Qp := Qp) (M := M) c d s (nI g) (nI 0 - nI 1) o6 (fun z => absurd (by decide) z) (fun z => absurd (by decide) z)
        rw [← he, m_ge] at hq
        simp (disch := omega) only [n_eq] at st
        refine st (fun z => ?_) (fun z => ?_) (fun z => absurd (by decide) z.1) (fun z => absurd (by decide) z.1)
        · rw [if_pos (by have : (nI 0 - nI 1 < 0) := by decide
                         grind)] at hq
          exact hq
        · rw [if_neg (by have : (nI 0 - nI 1 < 0) := by decide
                         grind)] at hq
          exact hq
      | succ i ih =>
        intro s g o6 hi hg he
        have st := st_X12_generous_14 (Qp := Qp) (M := M) c d s (nI g) (nI i) o6
        rw [n_p]
        have hi0 : ¬ nI i < 0 := nI_pos (by omega)
        have hg0 : nI g ≤ 0 ↔ g ≤ 0 := by
          rw [← nI_0, n_le (by omega) (by decide)]
        simp (disch := omega) only [n_eq, n_le, n_c, n_in, hi0, false_and, not_false_iff, true_and, false_or, hg0, n_s, ← Int32.sub_eq_add_neg] at st
        rw [m_ge] at he
        refine st (fun _ _ => by omega) (fun _ _ => ho i (by omega)) (fun z => ?_) (fun z => ?_) (fun z => ?_) (fun z => ?_)
        · rw [← he, if_pos z.2] at hq
          exact hq
        · rw [← he] at hq
          split at hq
          · omega
          · split at hq
            · split at hq
              · exact hq
              · exfalso
                grind
            · exfalso
              grind
        · refine ih _ (g + 1) _ (by omega) (by omega) ?_
          rw [← he, if_neg (by omega), if_pos ⟨z.2.1, z.2.2.1⟩, if_neg (by grind)]
        · refine ih s g _ (by omega) hg ?_
          rw [← he, if_neg (by omega), if_neg (by grind)]
    refine st_X12_generous_0 _ _ hp ?_
    rw [hN, n_c (by omega), hM]
    exact lp m _ 0 none (by omega) (by omega) rfl
    
  · exact h.elim
theorem de_X12_generous : ∀ q ∈ k_X12_generous.1, decode cX12_generous q.1 = .ok q.2 := by decide +kernel
theorem me_X12_generous (g : gl_T) : MT g yX12_generous cX12_generous 7 (some .int) ⟨1, 0, 0, 22⟩ 0 0 s_X12_generous := by
  intro hl
  exact eg_met_of (k := k_X12_generous) (by decide) rfl ⟨Nat.le_refl _, Nat.le_refl _⟩ rfl sz_X12_generous de_X12_generous (fun meth hn => (fc (eg_FL_of wd_c12 (by decide) lf_RX12_59 (fun h => absurd h (by decide))) (fc (eg_FL_of wd_c12 (by decide) lf_RX12_62 (fun h => absurd h (by decide))) (fc (eg_FL_of wd_c12 (by decide) lf_RX12_68 (fun h => absurd h (by decide))) (fc (eg_FL_of wd_c12 (by decide) lf_RX12_127 (fun h => absurd h (by decide))) (fn)))))) (fun A s H hE => (fn)) (fun p e s m args below meth c Q A ad0 N0 S0 hK hEx hA => (fc (mt_V hl S0 hK hEx hA (me_X12_manyBy g) lm_RX12_397 li_X12_manyBy lx_X12_manyBy ln_RX12 lc_X12_manyBy ⟨rfl, by decide, by decide, by decide +kernel⟩ ⟨rfl, rfl⟩ ⟨by decide, by decide⟩ (ci := 12) rfl rfl sr_X12_manyBy (by decide)) (fn))) (fun p e s m args below meth c Qc XC A ad0 N0 P S0 hK hEx hA hlk hout hPX => (fn)) (fun argv M Qp h => T_X12_generous h)

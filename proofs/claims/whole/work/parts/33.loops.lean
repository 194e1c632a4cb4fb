theorem m_mb_g {M N : eg_M} (h : ∀ p j, p ≠ 121 → eg_gi N p j = eg_gi M p j) (d : Int32) (i n : Nat) : m_mb N d i n = m_mb M d i n := by
  induction n generalizing i with
  | zero => rfl
  | succ n ih => rw [m_mb, m_mb, ih, h 151 _ (by decide), h 136 _ (by decide)]
theorem m_ge_g {M N : eg_M} (h : ∀ p j, p ≠ 121 → eg_gi N p j = eg_gi M p j) (c : Int32) : ∀ (n : Nat) (s : Int32) (m : Nat), m_ge N c s m n = m_ge M c s m n := by
  intro n
  induction n with
  | zero => intro s m; rfl
  | succ n ih =>
    intro s m
    rw [m_ge, m_ge]
    simp only [h 131 _ (by decide), h 151 _ (by decide), h 130 _ (by decide), h 133 _ (by decide), ih]
/-- the model: what the i-th of what counts adds to a balance -/
def m_bt (M : eg_M) (g : Nat → Int64) (a b d : Int32) (i : Nat) : Int64 :=
  if eg_gi M 131 (eg_gi M 151 i).toNatClampNeg = a then
    (if eg_gi M 130 (eg_gi M 151 i).toNatClampNeg = nI 2 then (if eg_gi M 133 (eg_gi M 151 i).toNatClampNeg = b then (eg_gi M 132 (eg_gi M 151 i).toNatClampNeg).toInt64 else lN 0)
    else (if eg_gi M 133 (eg_gi M 151 i).toNatClampNeg = b then m_co M (eg_gi M 151 i) d - m_co M (eg_gi M 151 i) d / lN 2 - g i else m_co M (eg_gi M 151 i) d / lN 2))
  else lN 0
def m_bl (M : eg_M) (g : Nat → Int64) (a b d : Int32) : Nat → Int64
  | 0 => lN 0
  | i + 1 => m_bl M g a b d i + m_bt M g a b d i
/-- the model: how many of L lie up to day c -/
def m_up (M : eg_M) (L : List Nat) (f : Nat → Int32) (c : Int32) : Nat := (m_mb (m_L M L f) c 0 L.length).toNatClampNeg
def k_X12_balance : eg_C := ([(0, .aload_n 0, 1), (1, .iconst 0, 1), (2, .putfield 213, 3), (5, .aload_n 0, 1), (6, .iload_n 1, 1), (7, .invokevirtual 238, 3), (10, .ifCond .eq 20, 3), (13, .iload_n 2, 1), (14, .ifCond .lt 16, 3), (17, .iload_n 2, 1), (18, .iconst 1, 1), (19, .if_icmp .gt 11, 3), (22, .aload_n 0, 1), (23, .iload_n 3, 1), (24, .invokevirtual 412, 3), (27, .ifCond .ne 10, 3), (30, .aload_n 0, 1), (31, .iconst 1, 1), (32, .invokevirtual 230, 3), (35, .i2l, 1), (36, .lreturn, 1), (37, .iload 4, 2), (39, .ifCond .lt 12, 3), (42, .iload 4, 2), (44, .aload_n 0, 1), (45, .getfield 234, 3), (48, .if_icmp .le 10, 3), (51, .aload_n 0, 1), (52, .iconst 2, 1), (53, .invokevirtual 230, 3), (56, .i2l, 1), (57, .lreturn, 1), (58, .aload_n 0, 1), (59, .iload 4, 2), (61, .invokevirtual 446, 3), (64, .lconst 0, 1), (65, .lstore 5, 2), (67, .iconst 0, 1), (68, .istore 7, 2), (70, .iload 7, 2), (72, .aload_n 0, 1), (73, .iload_n 3, 1), (74, .invokevirtual 397, 3), (77, .if_icmp .ge 132, 3), (80, .aload_n 0, 1), (81, .getfield 127, 3), (84, .iload 7, 2), (86, .iaload, 1), (87, .istore 8, 2), (89, .aload_n 0, 1), (90, .getfield 62, 3), (93, .iload 8, 2), (95, .iaload, 1), (96, .iload_n 1, 1), (97, .if_icmp .eq 6, 3), (100, .goto 103, 3), (103, .aload_n 0, 1), (104, .getfield 68, 3), (107, .iload 8, 2), (109, .iaload, 1), (110, .iload_n 2, 1), (111, .if_icmp .ne 7, 3), (114, .iconst 1, 1), (115, .goto 4, 3), (118, .iconst 0, 1), (119, .istore 9, 2), (121, .aload_n 0, 1), (122, .getfield 59, 3), (125, .iload 8, 2), (127, .iaload, 1), (128, .iconst 2, 1), (129, .if_icmp .ne 28, 3), (132, .lload 5, 2), (134, .iload 9, 2), (136, .ifCond .eq 14, 3), (139, .aload_n 0, 1), (140, .getfield 65, 3), (143, .iload 8, 2), (145, .iaload, 1), (146, .i2l, 1), (147, .goto 4, 3), (150, .lconst 0, 1), (151, .ladd, 1), (152, .lstore 5, 2), (154, .goto 49, 3), (157, .aload_n 0, 1), (158, .iload 8, 2), (160, .iload 4, 2), (162, .invokevirtual 452, 3), (165, .lstore 10, 2), (167, .lload 5, 2), (169, .iload 9, 2), (171, .ifCond .eq 23, 3), (174, .lload 10, 2), (176, .lload 10, 2), (178, .ldc2_w 455, 3), (181, .ldiv, 1), (182, .lsub, 1), (183, .aload_n 0, 1), (184, .getfield 133, 3), (187, .iload 7, 2), (189, .laload, 1), (190, .lsub, 1), (191, .goto 9, 3), (194, .lload 10, 2), (196, .ldc2_w 455, 3), (199, .ldiv, 1), (200, .ladd, 1), (201, .lstore 5, 2), (203, .iinc 7 1, 3), (206, .goto (-136), 3), (209, .lload 5, 2), (211, .lreturn, 1)], [(59, 12, 13, false), (62, 12, 14, false), (65, 12, 15, false), (68, 12, 16, false), (127, 12, 48, false), (133, 12, 50, false), (213, 12, 1, true), (234, 12, 2, false)], [(455, .long (lN 2))], [(230, 1 + 1, 0, 0, s_X12_fail), (238, 1 + 1, 0, 0, s_X12_isCharter), (397, 1 + 1, 0, 0, s_X12_manyBy), (412, 1 + 1, 0, 0, s_X12_isDay), (446, 1 + 1, 0, 0, s_X12_tellGrants), (452, 2 + 1, 0, 0, s_X12_costOf)], [], 3, 0, 0)
theorem mk_X12_balance : ∀ q ∈ k_X12_balance.2.2.2.1, eg_mono q.2.2.2.2 := (fc (mo_X12_fail) (fc (mo_X12_isCharter) (fc (mo_X12_manyBy) (fc (mo_X12_isDay) (fc (mo_X12_tellGrants) (fc (mo_X12_costOf) (fn)))))))
set_option maxRecDepth 100000 in
theorem st_X12_balance_0 {Qp : eg_P} {M : eg_M} (a : Int32) (b : Int32) (c : Int32) (d : Int32)
  (g0 : (¬ (¬ (¬ a < 0 ∧ ¬ (eg_gi (eg_si M 121 1 (nI 0)) 121 4) ≤ a))) → (¬ (b < 0)) → (¬ ((nI 1) < b)) → (¬ (¬ (¬ c < (nI 0) ∧ ¬ (nI 3599) < c))) → (¬ (d < 0)) → (d ≤ (eg_gi M 121 2)) → (m_EV (eg_si M 121 1 (nI 0)) ∧ m_RK (eg_si M 121 1 (nI 0)) d))
  (l0 : ((¬ (¬ a < 0 ∧ ¬ (eg_gi (eg_si M 121 1 (nI 0)) 121 4) ≤ a)) ∨ (b < 0 ∨ ((nI 1) < b ∨ (¬ (¬ c < (nI 0) ∧ ¬ (nI 3599) < c))))) → Qp (.inl (some (.long ((nI 0).toInt64)))) (eg_si (eg_si M 121 1 (nI 0)) 121 1 (nI 1)))
  (l1 : ((¬ a < 0 ∧ ¬ (eg_gi (eg_si M 121 1 (nI 0)) 121 4) ≤ a) ∧ (¬ b < 0 ∧ (¬ (nI 1) < b ∧ ((¬ c < (nI 0) ∧ ¬ (nI 3599) < c) ∧ (d < 0 ∨ ¬ d ≤ (eg_gi M 121 2)))))) → Qp (.inl (some (.long ((nI 0).toInt64)))) (eg_si (eg_si M 121 1 (nI 0)) 121 1 (nI 2)))
  (l2 : ((¬ a < 0 ∧ ¬ (eg_gi (eg_si M 121 1 (nI 0)) 121 4) ≤ a) ∧ (¬ b < 0 ∧ (¬ (nI 1) < b ∧ ((¬ c < (nI 0) ∧ ¬ (nI 3599) < c) ∧ (¬ d < 0 ∧ d ≤ (eg_gi M 121 2)))))) → ∀ (L_1 : List Nat) (f_1 : Nat → Int32) (v_1 : Nat → Int64) (s_1 : Nat → Int64) (cl_1 : Nat → Int64) (g_1 : Nat → Int64) (o_1 : Nat → Int64), (m_TG (eg_si M 121 1 (nI 0)) d L_1 f_1 cl_1 g_1) → eg_T wd k_X12_balance Qp 64 0 0 [some (.ref 121), some (.int a), some (.int b), some (.int c), some (.int d), none, none, none, none, none, none, none] [] (eg_rl (eg_rl (eg_rl (eg_rl (eg_rl (m_L (eg_si M 121 1 (nI 0)) L_1 f_1) 149 v_1) 150 s_1) 152 cl_1) 153 g_1) 154 o_1)) :
  eg_T wd k_X12_balance Qp 0 0 0 [some (.ref 121), some (.int a), some (.int b), some (.int c), some (.int d), none, none, none, none, none, none, none] [] M := by
  refine eg_T_run mk_X12_balance (cut := [64, 70]) 116 ?_
  refine And.intro (show (True) from ?_) ?_
  · exact trivial
  refine And.intro (fun (c1 : (b2i (decide (¬ a < 0 ∧ ¬ (eg_gi (eg_si M 121 1 (nI 0)) 121 4) ≤ a))) = 0) => ?_) (fun (c1 : ¬ (b2i (decide (¬ a < 0 ∧ ¬ (eg_gi (eg_si M 121 1 (nI 0)) 121 4) ≤ a))) = 0) => ?_)
  · replace c1 := b2i_d0.mp c1
    refine And.intro (fun z => absurd z (by decide)) ?_
    show Qp (.inl (some (.long ((nI 0).toInt64)))) (eg_si (eg_si M 121 1 (nI 0)) 121 1 (nI 1))
    exact l0 (Or.inl c1)
  · replace c1 := b2i_dn.mp c1
    refine And.intro (fun (c2 : b < 0) => ?_) (fun (c2 : ¬ b < 0) => ?_)
    · skip
      refine And.intro (fun z => absurd z (by decide)) ?_
      show Qp (.inl (some (.long ((nI 0).toInt64)))) (eg_si (eg_si M 121 1 (nI 0)) 121 1 (nI 1))
      exact l0 (Or.inr (Or.inl c2))
    · skip
      refine And.intro (fun (c3 : (nI 1) < b) => ?_) (fun (c3 : ¬ (nI 1) < b) => ?_)
      · skip
        refine And.intro (fun z => absurd z (by decide)) ?_
        show Qp (.inl (some (.long ((nI 0).toInt64)))) (eg_si (eg_si M 121 1 (nI 0)) 121 1 (nI 1))
        exact l0 (Or.inr (Or.inr (Or.inl c3)))
      · skip
        refine And.intro (show (True) from ?_) ?_
        · exact trivial
        refine And.intro (fun (c4 : (b2i (decide (¬ c < (nI 0) ∧ ¬ (nI 3599) < c))) = 0) => ?_) (fun (c4 : ¬ (b2i (decide (¬ c < (nI 0) ∧ ¬ (nI 3599) < c))) = 0) => ?_)
        · replace c4 := b2i_d0.mp c4
          refine And.intro (fun z => absurd z (by decide)) ?_
          show Qp (.inl (some (.long ((nI 0).toInt64)))) (eg_si (eg_si M 121 1 (nI 0)) 121 1 (nI 1))
          exact l0 (Or.inr (Or.inr (Or.inr c4)))
        · replace c4 := b2i_dn.mp c4
          refine And.intro (fun (c5 : d < 0) => ?_) (fun (c5 : ¬ d < 0) => ?_)
          · skip
            refine And.intro (fun z => absurd z (by decide)) ?_
            show Qp (.inl (some (.long ((nI 0).toInt64)))) (eg_si (eg_si M 121 1 (nI 0)) 121 1 (nI 2))
            exact l1 ⟨(Classical.byContradiction c1), ⟨c2, ⟨c3, ⟨(Classical.byContradiction c4), (Or.inl c5)⟩⟩⟩⟩
          · skip
            refine And.intro (fun (c6 : d ≤ (eg_gi M 121 2)) => ?_) (fun (c6 : ¬ d ≤ (eg_gi M 121 2)) => ?_)
            · skip
              refine And.intro (show (m_EV (eg_si M 121 1 (nI 0)) ∧ m_RK (eg_si M 121 1 (nI 0)) d) from ?_) ?_
              · exact g0 c1 c2 c3 c4 c5 c6
              intro L_1 f_1 v_1 s_1 cl_1 g_1 o_1 ha_1
              show eg_T wd k_X12_balance Qp 64 0 0 [some (.ref 121), some (.int a), some (.int b), some (.int c), some (.int d), none, none, none, none, none, none, none] [] (eg_rl (eg_rl (eg_rl (eg_rl (eg_rl (m_L (eg_si M 121 1 (nI 0)) L_1 f_1) 149 v_1) 150 s_1) 152 cl_1) 153 g_1) 154 o_1)
              exact l2 ⟨(Classical.byContradiction c1), ⟨c2, ⟨c3, ⟨(Classical.byContradiction c4), ⟨c5, c6⟩⟩⟩⟩⟩ L_1 f_1 v_1 s_1 cl_1 g_1 o_1 ha_1
            · skip
              refine And.intro (fun z => absurd z (by decide)) ?_
              show Qp (.inl (some (.long ((nI 0).toInt64)))) (eg_si (eg_si M 121 1 (nI 0)) 121 1 (nI 2))
              exact l1 ⟨(Classical.byContradiction c1), ⟨c2, ⟨c3, ⟨(Classical.byContradiction c4), (Or.inr c6)⟩⟩⟩⟩

set_option maxRecDepth 100000 in
theorem st_X12_balance_64 {Qp : eg_P} {M : eg_M} (a : Int32) (b : Int32) (c : Int32) (d : Int32) (o5 : Option Value) (o6 : Option Value) (o7 : Option Value) (o8 : Option Value) (o9 : Option Value) (o10 : Option Value) (o11 : Option Value)
  (l0 : eg_T wd k_X12_balance Qp 70 0 0 [some (.ref 121), some (.int a), some (.int b), some (.int c), some (.int d), some (.long (lN 0)), none, some (.int (nI 0)), o8, o9, o10, o11] [] M) :
  eg_T wd k_X12_balance Qp 64 0 0 [some (.ref 121), some (.int a), some (.int b), some (.int c), some (.int d), o5, o6, o7, o8, o9, o10, o11] [] M := by
  refine eg_T_run mk_X12_balance (cut := [64, 70]) 116 ?_
  show eg_T wd k_X12_balance Qp 70 0 0 [some (.ref 121), some (.int a), some (.int b), some (.int c), some (.int d), some (.long (lN 0)), none, some (.int (nI 0)), o8, o9, o10, o11] [] M
  exact l0

set_option maxRecDepth 100000 in
theorem st_X12_balance_70 {Qp : eg_P} {M : eg_M} (a : Int32) (b : Int32) (c : Int32) (d : Int32) (x5 : Int64) (x7 : Int32) (o8 : Option Value) (o9 : Option Value) (o10 : Option Value) (o11 : Option Value)
  (g0 : (eg_cn (eg_gi M 121 47) 200 ∧ ∀ i, i < (eg_gi M 121 47).toNatClampNeg → vp_in (eg_gi M 151 i) 200))
  (g1 : (¬ ((m_mb M c 0 (eg_gi M 121 47).toNatClampNeg) ≤ x7)) → (vp_in x7 200))
  (g2 : (¬ ((m_mb M c 0 (eg_gi M 121 47).toNatClampNeg) ≤ x7)) → (vp_in (eg_gi M 151 x7.toNatClampNeg) 200))
  (g3 : (¬ ((m_mb M c 0 (eg_gi M 121 47).toNatClampNeg) ≤ x7)) → ((eg_gi M 131 (eg_gi M 151 x7.toNatClampNeg).toNatClampNeg) = a) → (¬ ((eg_gi M 130 (eg_gi M 151 x7.toNatClampNeg).toNatClampNeg) = (nI 2))) → (eg_cn (eg_gi M 121 35) 8 ∧ vp_in (eg_gi M 151 x7.toNatClampNeg) 200))
  (l0 : ((m_mb M c 0 (eg_gi M 121 47).toNatClampNeg) ≤ x7) → Qp (.inl (some (.long x5))) M)
  (l1 : (¬ (m_mb M c 0 (eg_gi M 121 47).toNatClampNeg) ≤ x7 ∧ ((eg_gi M 131 (eg_gi M 151 x7.toNatClampNeg).toNatClampNeg) = a ∧ ((eg_gi M 133 (eg_gi M 151 x7.toNatClampNeg).toNatClampNeg) = b ∧ (eg_gi M 130 (eg_gi M 151 x7.toNatClampNeg).toNatClampNeg) = (nI 2)))) → eg_T wd k_X12_balance Qp 70 0 0 [some (.ref 121), some (.int a), some (.int b), some (.int c), some (.int d), some (.long (x5 + ((eg_gi M 132 (eg_gi M 151 x7.toNatClampNeg).toNatClampNeg).toInt64))), none, some (.int (x7 + (nI 1))), some (.int (eg_gi M 151 x7.toNatClampNeg)), some (.int (nI 1)), o10, o11] [] M)
  (l2 : (¬ (m_mb M c 0 (eg_gi M 121 47).toNatClampNeg) ≤ x7 ∧ ((eg_gi M 131 (eg_gi M 151 x7.toNatClampNeg).toNatClampNeg) = a ∧ ((eg_gi M 133 (eg_gi M 151 x7.toNatClampNeg).toNatClampNeg) = b ∧ ¬ (eg_gi M 130 (eg_gi M 151 x7.toNatClampNeg).toNatClampNeg) = (nI 2)))) → eg_T wd k_X12_balance Qp 70 0 0 [some (.ref 121), some (.int a), some (.int b), some (.int c), some (.int d), some (.long (x5 + (((m_co M (eg_gi M 151 x7.toNatClampNeg) d) - ((m_co M (eg_gi M 151 x7.toNatClampNeg) d) / (lN 2))) - (eg_gl M 153 x7.toNatClampNeg)))), none, some (.int (x7 + (nI 1))), some (.int (eg_gi M 151 x7.toNatClampNeg)), some (.int (nI 1)), some (.long (m_co M (eg_gi M 151 x7.toNatClampNeg) d)), none] [] M)
  (l3 : (¬ (m_mb M c 0 (eg_gi M 121 47).toNatClampNeg) ≤ x7 ∧ ((eg_gi M 131 (eg_gi M 151 x7.toNatClampNeg).toNatClampNeg) = a ∧ (¬ (eg_gi M 133 (eg_gi M 151 x7.toNatClampNeg).toNatClampNeg) = b ∧ (eg_gi M 130 (eg_gi M 151 x7.toNatClampNeg).toNatClampNeg) = (nI 2)))) → eg_T wd k_X12_balance Qp 70 0 0 [some (.ref 121), some (.int a), some (.int b), some (.int c), some (.int d), some (.long (x5 + (lN 0))), none, some (.int (x7 + (nI 1))), some (.int (eg_gi M 151 x7.toNatClampNeg)), some (.int (nI 0)), o10, o11] [] M)
  (l4 : (¬ (m_mb M c 0 (eg_gi M 121 47).toNatClampNeg) ≤ x7 ∧ ((eg_gi M 131 (eg_gi M 151 x7.toNatClampNeg).toNatClampNeg) = a ∧ (¬ (eg_gi M 133 (eg_gi M 151 x7.toNatClampNeg).toNatClampNeg) = b ∧ ¬ (eg_gi M 130 (eg_gi M 151 x7.toNatClampNeg).toNatClampNeg) = (nI 2)))) → eg_T wd k_X12_balance Qp 70 0 0 [some (.ref 121), some (.int a), some (.int b), some (.int c), some (.int d), some (.long (x5 + ((m_co M (eg_gi M 151 x7.toNatClampNeg) d) / (lN 2)))), none, some (.int (x7 + (nI 1))), some (.int (eg_gi M 151 x7.toNatClampNeg)), some (.int (nI 0)), some (.long (m_co M (eg_gi M 151 x7.toNatClampNeg) d)), none] [] M)
  (l5 : (¬ (m_mb M c 0 (eg_gi M 121 47).toNatClampNeg) ≤ x7 ∧ ¬ (eg_gi M 131 (eg_gi M 151 x7.toNatClampNeg).toNatClampNeg) = a) → eg_T wd k_X12_balance Qp 70 0 0 [some (.ref 121), some (.int a), some (.int b), some (.int c), some (.int d), some (.long x5), none, some (.int (x7 + (nI 1))), some (.int (eg_gi M 151 x7.toNatClampNeg)), o9, o10, o11] [] M) :
  eg_T wd k_X12_balance Qp 70 0 0 [some (.ref 121), some (.int a), some (.int b), some (.int c), some (.int d), some (.long x5), none, some (.int x7), o8, o9, o10, o11] [] M := by
  refine eg_T_run mk_X12_balance (cut := [64, 70]) 116 ?_
  refine And.intro (show (eg_cn (eg_gi M 121 47) 200 ∧ ∀ i, i < (eg_gi M 121 47).toNatClampNeg → vp_in (eg_gi M 151 i) 200) from ?_) ?_
  · exact g0
  refine And.intro (fun (c1 : (m_mb M c 0 (eg_gi M 121 47).toNatClampNeg) ≤ x7) => ?_) (fun (c1 : ¬ (m_mb M c 0 (eg_gi M 121 47).toNatClampNeg) ≤ x7) => ?_)
  · skip
    show Qp (.inl (some (.long x5))) M
    exact l0 c1
  · skip
    refine And.intro (show vp_in x7 200 from ?_) ?_
    · exact g1 c1
    refine And.intro (show vp_in (eg_gi M 151 x7.toNatClampNeg) 200 from ?_) ?_
    · exact g2 c1
    refine And.intro (fun (c2 : (eg_gi M 131 (eg_gi M 151 x7.toNatClampNeg).toNatClampNeg) = a) => ?_) (fun (c2 : ¬ (eg_gi M 131 (eg_gi M 151 x7.toNatClampNeg).toNatClampNeg) = a) => ?_)
    · skip
      refine And.intro (show vp_in (eg_gi M 151 x7.toNatClampNeg) 200 from ?_) ?_
      · exact g2 c1
      refine And.intro (fun (c3 : (eg_gi M 133 (eg_gi M 151 x7.toNatClampNeg).toNatClampNeg) = b) => ?_) (fun (c3 : ¬ (eg_gi M 133 (eg_gi M 151 x7.toNatClampNeg).toNatClampNeg) = b) => ?_)
      · skip
        refine And.intro (show vp_in (eg_gi M 151 x7.toNatClampNeg) 200 from ?_) ?_
        · exact g2 c1
        refine And.intro (fun (c4 : (eg_gi M 130 (eg_gi M 151 x7.toNatClampNeg).toNatClampNeg) = (nI 2)) => ?_) (fun (c4 : ¬ (eg_gi M 130 (eg_gi M 151 x7.toNatClampNeg).toNatClampNeg) = (nI 2)) => ?_)
        · skip
          refine And.intro (fun (c5 : (nI 1) = 0) => ?_) (fun (c5 : ¬ (nI 1) = 0) => ?_)
          · exact absurd c5 (show ¬ (nI 1) = 0 by decide)
          · skip
            refine And.intro (show vp_in (eg_gi M 151 x7.toNatClampNeg) 200 from ?_) ?_
            · exact g2 c1
            show eg_T wd k_X12_balance Qp 70 0 0 [some (.ref 121), some (.int a), some (.int b), some (.int c), some (.int d), some (.long (x5 + ((eg_gi M 132 (eg_gi M 151 x7.toNatClampNeg).toNatClampNeg).toInt64))), none, some (.int (x7 + (nI 1))), some (.int (eg_gi M 151 x7.toNatClampNeg)), some (.int (nI 1)), o10, o11] [] M
            exact l1 ⟨c1, ⟨c2, ⟨c3, c4⟩⟩⟩
        · skip
          refine And.intro (show (eg_cn (eg_gi M 121 35) 8 ∧ vp_in (eg_gi M 151 x7.toNatClampNeg) 200) from ?_) ?_
          · exact g3 c1 c2 (by clear g0 g1 g2 g3 l0 l1 l2 l3 l4 l5; grind)
          refine And.intro (fun (c6 : (nI 1) = 0) => ?_) (fun (c6 : ¬ (nI 1) = 0) => ?_)
          · exact absurd c6 (show ¬ (nI 1) = 0 by decide)
          · skip
            refine And.intro (show ¬ (lN 2) = 0 from ?_) ?_
            · decide
            refine And.intro (show vp_in x7 200 from ?_) ?_
            · exact g1 c1
            show eg_T wd k_X12_balance Qp 70 0 0 [some (.ref 121), some (.int a), some (.int b), some (.int c), some (.int d), some (.long (x5 + (((m_co M (eg_gi M 151 x7.toNatClampNeg) d) - ((m_co M (eg_gi M 151 x7.toNatClampNeg) d) / (lN 2))) - (eg_gl M 153 x7.toNatClampNeg)))), none, some (.int (x7 + (nI 1))), some (.int (eg_gi M 151 x7.toNatClampNeg)), some (.int (nI 1)), some (.long (m_co M (eg_gi M 151 x7.toNatClampNeg) d)), none] [] M
            exact l2 ⟨c1, ⟨c2, ⟨c3, c4⟩⟩⟩
      · skip
        refine And.intro (show vp_in (eg_gi M 151 x7.toNatClampNeg) 200 from ?_) ?_
        · exact g2 c1
        refine And.intro (fun (c7 : (eg_gi M 130 (eg_gi M 151 x7.toNatClampNeg).toNatClampNeg) = (nI 2)) => ?_) (fun (c7 : ¬ (eg_gi M 130 (eg_gi M 151 x7.toNatClampNeg).toNatClampNeg) = (nI 2)) => ?_)
        · skip
          refine And.intro (fun (c8 : (nI 0) = 0) => ?_) (fun (c8 : ¬ (nI 0) = 0) => ?_)
          · skip
            show eg_T wd k_X12_balance Qp 70 0 0 [some (.ref 121), some (.int a), some (.int b), some (.int c), some (.int d), some (.long (x5 + (lN 0))), none, some (.int (x7 + (nI 1))), some (.int (eg_gi M 151 x7.toNatClampNeg)), some (.int (nI 0)), o10, o11] [] M
            exact l3 ⟨c1, ⟨c2, ⟨c3, c7⟩⟩⟩
          · exact absurd (show (nI 0) = 0 by decide) c8
        · skip
          refine And.intro (show (eg_cn (eg_gi M 121 35) 8 ∧ vp_in (eg_gi M 151 x7.toNatClampNeg) 200) from ?_) ?_
          · exact g3 c1 c2 (by clear g0 g1 g2 g3 l0 l1 l2 l3 l4 l5; grind)
          refine And.intro (fun (c9 : (nI 0) = 0) => ?_) (fun (c9 : ¬ (nI 0) = 0) => ?_)
          · skip
            refine And.intro (show ¬ (lN 2) = 0 from ?_) ?_
            · decide
            show eg_T wd k_X12_balance Qp 70 0 0 [some (.ref 121), some (.int a), some (.int b), some (.int c), some (.int d), some (.long (x5 + ((m_co M (eg_gi M 151 x7.toNatClampNeg) d) / (lN 2)))), none, some (.int (x7 + (nI 1))), some (.int (eg_gi M 151 x7.toNatClampNeg)), some (.int (nI 0)), some (.long (m_co M (eg_gi M 151 x7.toNatClampNeg) d)), none] [] M
            exact l4 ⟨c1, ⟨c2, ⟨c3, c7⟩⟩⟩
          · exact absurd (show (nI 0) = 0 by decide) c9
    · skip
      show eg_T wd k_X12_balance Qp 70 0 0 [some (.ref 121), some (.int a), some (.int b), some (.int c), some (.int d), some (.long x5), none, some (.int (x7 + (nI 1))), some (.int (eg_gi M 151 x7.toNatClampNeg)), o9, o10, o11] [] M
      exact l5 ⟨c1, c2⟩

def s_X12_balance : eg_S := fun argv M Qp => match argv with
  | [.ref 121, .int a, .int b, .int c, .int d] => (m_EV M ∧ ((¬ d < 0 ∧ d ≤ eg_gi M 121 2) → m_RK M d)) ∧ ∀ (v : Int64) (M2 : eg_M), ((¬ ((¬ a < 0 ∧ ¬ eg_gi M 121 4 ≤ a) ∧ (¬ b < 0 ∧ ¬ nI 1 < b) ∧ ¬ c < nI 0 ∧ ¬ nI 3599 < c) ∧ v = lN 0 ∧ M2 = eg_si M 121 1 (nI 1)) ∨ (((¬ a < 0 ∧ ¬ eg_gi M 121 4 ≤ a) ∧ (¬ b < 0 ∧ ¬ nI 1 < b) ∧ ¬ c < nI 0 ∧ ¬ nI 3599 < c) ∧ ¬ (¬ d < 0 ∧ d ≤ eg_gi M 121 2) ∧ v = lN 0 ∧ M2 = eg_si M 121 1 (nI 2)) ∨ (((¬ a < 0 ∧ ¬ eg_gi M 121 4 ≤ a) ∧ (¬ b < 0 ∧ ¬ nI 1 < b) ∧ ¬ c < nI 0 ∧ ¬ nI 3599 < c) ∧ (¬ d < 0 ∧ d ≤ eg_gi M 121 2) ∧ m_sc (eg_si M 121 1 (nI 0)) M2 ∧ ∃ L f cl g, m_TG M d L f cl g ∧ v = m_bl (m_L M L f) g a b d (m_up M L f c))) → Qp (.inl (some (.long (v)))) M2
  | _ => False
theorem mo_X12_balance : eg_mono s_X12_balance := by
  intro argv M Q Q' h
  unfold s_X12_balance
  split
  · exact fun z => ⟨z.1, fun v M2 y => h _ _ (z.2 v M2 y)⟩
  · exact id
theorem sz_X12_balance : ∀ argv M Qp, s_X12_balance argv M Qp → (eg_ls0 argv).length ≤ 12 := by
  intro argv M Qp h
  unfold s_X12_balance at h
  split at h
  · exact Nat.le_of_ble_eq_true rfl
  · exact h.elim
theorem sr_X12_balance : ∀ argv M Qp, s_X12_balance argv M Qp → ∃ p0 As, argv = .ref p0 :: As ∧ eg_isO wd M p0 12 = true := by
  intro argv M Qp h
  unfold s_X12_balance at h
  split at h
  · exact ⟨_, _, rfl, rfl⟩
  · exact h.elim
set_option maxRecDepth 100000 in
set_option maxHeartbeats 1000000 in
theorem T_X12_balance {argv : List Value} {M : eg_M} {Qp : eg_P} (h : s_X12_balance argv M Qp) : eg_T wd k_X12_balance Qp 0 0 0 (eg_lsN 12 argv) [] M := by
  unfold s_X12_balance at h
  split at h
  · rename_i a b c d
    obtain ⟨hp, hq⟩ := h
    obtain ⟨hEV, hRK⟩ := hp
    have hEV' := hEV
    obtain ⟨⟨n, hn, hN⟩, hE⟩ := hEV
    have z0 : (nI 0).toInt64 = lN 0 := by decide
    have st := st_X12_balance_0 (Qp := Qp) (M := M) a b c d
    have r4 : eg_gi (eg_si M 121 1 (nI 0)) 121 4 = eg_gi M 121 4 := rfl
    simp only [r4, z0, si_si] at st
    refine st (fun _ _ _ _ z3 z4 => ⟨hEV', m_RK_c (hRK ⟨z3, z4⟩)⟩) (fun z => hq _ _ (Or.inl ⟨by grind, rfl, rfl⟩)) (fun z => hq _ _ (Or.inr (Or.inl ⟨⟨z.1, ⟨z.2.1, z.2.2.1⟩, z.2.2.2.1⟩, by grind, rfl, rfl⟩))) (fun z L f v s cl g o hTG => ?_)
    have hTG' := m_TG_c hTG
    have zd : ¬ d < 0 ∧ d ≤ eg_gi M 121 2 := ⟨z.2.2.2.2.1, z.2.2.2.2.2⟩
    have hR8 := (hRK zd).1
    have fin : ∀ x, x = m_bl (m_L M L f) g a b d (m_up M L f c) → Qp (.inl (some (.long x))) (eg_rl (eg_rl (eg_rl (eg_rl (eg_rl (m_L (eg_si M 121 1 (nI 0)) L f) 149 v) 150 s) 152 cl) 153 g) 154 o) := fun x hx => hq _ _ (Or.inr (Or.inr ⟨⟨z.1, ⟨z.2.1, z.2.2.1⟩, z.2.2.2.1⟩, zd, ⟨_, f, v, s, cl, g, o, rfl⟩, L, f, cl, g, hTG', hx⟩))
    have hlen : L.length ≤ n := by
      have := hTG'.1.1
      rw [hN, n_c (by omega)] at this
      exact this
    have hlt : ∀ j (h : j < L.length), L[j] < n := fun j h => by
      have := ((hTG'.1.2.2 L[j]).mp (List.getElem_mem h)).1
      rw [hN, n_c (by omega)] at this
      exact this
    have rX : ∀ p j, p ≠ 121 → eg_gi (eg_rl (eg_rl (eg_rl (eg_rl (eg_rl (m_L (eg_si M 121 1 (nI 0)) L f) 149 v) 150 s) 152 cl) 153 g) 154 o) p j = eg_gi (m_L M L f) p j := fun p j h => m_L_ne h
    have r47 : eg_gi (eg_rl (eg_rl (eg_rl (eg_rl (eg_rl (m_L (eg_si M 121 1 (nI 0)) L f) 149 v) 150 s) 152 cl) 153 g) 154 o) 121 47 = nI L.length := rfl
    have r35 : eg_gi (eg_rl (eg_rl (eg_rl (eg_rl (eg_rl (m_L (eg_si M 121 1 (nI 0)) L f) 149 v) 150 s) 152 cl) 153 g) 154 o) 121 35 = eg_gi M 121 35 := rfl
    have rg : ∀ j, eg_gl (eg_rl (eg_rl (eg_rl (eg_rl (eg_rl (m_L (eg_si M 121 1 (nI 0)) L f) 149 v) 150 s) 152 cl) 153 g) 154 o) 153 j = g j := fun _ => rfl
    have rco : ∀ e, m_co (eg_rl (eg_rl (eg_rl (eg_rl (eg_rl (m_L (eg_si M 121 1 (nI 0)) L f) 149 v) 150 s) 152 cl) 153 g) 154 o) e d = m_co (m_L M L f) e d := by
      intro e
      unfold m_co
      rw [r35, show eg_gi (m_L M L f) 121 35 = eg_gi M 121 35 from rfl, m_ra_g (M := m_L M L f) (fun j => rX 140 j (by decide))]
      rfl
    generalize eg_rl (eg_rl (eg_rl (eg_rl (eg_rl (m_L (eg_si M 121 1 (nI 0)) L f) 149 v) 150 s) 152 cl) 153 g) 154 o = X at *
    obtain ⟨m, hm, eM⟩ := m_mb_le (m_L M L f) c L.length 0
    have eup : m_up M L f c = m := by unfold m_up; rw [eM, n_c (by omega)]
    rw [eup] at fin
    have r151 : ∀ j (h : j < L.length), eg_gi (m_L M L f) 151 j = nI L[j] := fun j h => hTG'.2.1 j h
    have lp : ∀ i (x : Int64 × Option Value × Option Value × Option Value × Option Value), i ≤ m → x.1 = m_bl (m_L M L f) g a b d i → eg_T wd k_X12_balance Qp 70 0 0 [some (.ref 121), some (.int a), some (.int b), some (.int c), some (.int d), some (.long x.1), none, some (.int (nI i)), x.2.1, x.2.2.1, x.2.2.2.1, x.2.2.2.2] [] X := by
      refine eg_for ?_
      intro i ⟨x, o8, o9, o10, o11⟩ hi hx kk
      have hx : x = m_bl (m_L M L f) g a b d i := hx
      have s7 := st_X12_balance_70 (Qp := Qp) (M := X) a b c d x (nI i) o8 o9 o10 o11
      rw [r47, n_c (by omega), m_mb_g rX, eM] at s7
      simp (disch := omega) only [r35, rg, rco, n_c, n_le, n_in, n_s, Nat.not_le, rX 151 _ (by decide), rX 131 _ (by decide), rX 133 _ (by decide), rX 130 _ (by decide), rX 132 _ (by decide)] at s7
      have hs : m_bl (m_L M L f) g a b d (i + 1) = x + m_bt (m_L M L f) g a b d i := by rw [m_bl, hx]
      have hv : ∀ j, j < L.length → vp_in (eg_gi (m_L M L f) 151 j) 200 := fun j hj => by
        rw [r151 j hj]
        exact vp_in_nI (by have := hlt j hj; omega) (by decide)
      have nx : ∀ (w : Int64) (p8 p9 p10 p11 : Option Value), i < m → w = m_bt (m_L M L f) g a b d i → eg_T wd k_X12_balance Qp 70 0 0 [some (.ref 121), some (.int a), some (.int b), some (.int c), some (.int d), some (.long (x + w)), none, some (.int (nI (i + 1))), p8, p9, p10, p11] [] X := by
        intro w p8 p9 p10 p11 y hw
        exact kk (x + w, p8, p9, p10, p11) y (by rw [hs, hw])
      refine s7 ⟨⟨L.length, by omega, rfl⟩, fun j hj => hv j hj⟩ (fun y => by omega) (fun y => hv i (by omega)) (fun y _ _ => ⟨hR8, hv i (by omega)⟩) (fun y => ?_) (fun y => ?_) (fun y => ?_) (fun y => ?_) (fun y => ?_) (fun y => ?_)
      · have : i = m := by omega
        subst this
        exact fin x hx
      · refine nx _ _ _ _ _ y.1 ?_
        unfold m_bt
        rw [if_pos y.2.1, if_pos y.2.2.2, if_pos y.2.2.1]
      · refine nx _ _ _ _ _ y.1 ?_
        unfold m_bt
        rw [if_pos y.2.1, if_neg y.2.2.2, if_pos y.2.2.1]
      · refine nx _ _ _ _ _ y.1 ?_
        unfold m_bt
        rw [if_pos y.2.1, if_pos y.2.2.2, if_neg y.2.2.1]
      · refine nx _ _ _ _ _ y.1 ?_
        unfold m_bt
        rw [if_pos y.2.1, if_neg y.2.2.2, if_neg y.2.2.1]
      · have := nx (lN 0) (some (.int (eg_gi (m_L M L f) 151 i))) o9 o10 o11 y.1 (by unfold m_bt; rw [if_neg y.2])
        rw [show x + lN 0 = x from Int64.add_zero x] at this
        exact this
    refine st_X12_balance_64 _ _ _ _ _ _ _ _ _ _ _ ?_
    exact lp 0 (lN 0, none, none, none, none) (Nat.zero_le _) rfl
  · exact h.elim
theorem de_X12_balance : ∀ q ∈ k_X12_balance.1, decode cX12_balance q.1 = .ok q.2 := by decide +kernel
theorem me_X12_balance (g : gl_T) : MT g yX12_balance cX12_balance 12 (some .long) ⟨5, 0, 0, 123⟩ 0 0 s_X12_balance := by
  intro hl
  exact eg_met_of (k := k_X12_balance) (by decide) rfl ⟨Nat.le_refl _, Nat.le_refl _⟩ rfl sz_X12_balance de_X12_balance (fun meth hn => (fc (eg_FL_of wd_c12 (by decide) lf_RX12_59 (fun h => absurd h (by decide))) (fc (eg_FL_of wd_c12 (by decide) lf_RX12_62 (fun h => absurd h (by decide))) (fc (eg_FL_of wd_c12 (by decide) lf_RX12_65 (fun h => absurd h (by decide))) (fc (eg_FL_of wd_c12 (by decide) lf_RX12_68 (fun h => absurd h (by decide))) (fc (eg_FL_of wd_c12 (by decide) lf_RX12_127 (fun h => absurd h (by decide))) (fc (eg_FL_of wd_c12 (by decide) lf_RX12_133 (fun h => absurd h (by decide))) (fc (eg_FL_of wd_c12 (by decide) lf_RX12_213 (fun _ => Or.inl rfl)) (fc (eg_FL_of wd_c12 (by decide) lf_RX12_234 (fun h => absurd h (by decide))) (fn)))))))))) (fun A s H hE => (fc (List.mem_cons_of_mem _ ll_RX12_455) (fn))) (fun p e s m args below meth c Q A ad0 N0 S0 hK hEx hA => (fc (mt_V hl S0 hK hEx hA (me_X12_fail g) lm_RX12_230 li_X12_fail lx_X12_fail ln_RX12 lc_X12_fail ⟨rfl, by decide, by decide, by decide +kernel⟩ ⟨rfl, rfl⟩ ⟨by decide, by decide⟩ (ci := 12) rfl rfl eg_auto_rec (by decide)) (fc (mt_V hl S0 hK hEx hA (me_X12_isCharter g) lm_RX12_238 li_X12_isCharter lx_X12_isCharter ln_RX12 lc_X12_isCharter ⟨rfl, by decide, by decide, by decide +kernel⟩ ⟨rfl, rfl⟩ ⟨by decide, by decide⟩ (ci := 12) rfl rfl sr_X12_isCharter (by decide)) (fc (mt_V hl S0 hK hEx hA (me_X12_manyBy g) lm_RX12_397 li_X12_manyBy lx_X12_manyBy ln_RX12 lc_X12_manyBy ⟨rfl, by decide, by decide, by decide +kernel⟩ ⟨rfl, rfl⟩ ⟨by decide, by decide⟩ (ci := 12) rfl rfl sr_X12_manyBy (by decide)) (fc (mt_V hl S0 hK hEx hA (me_X12_isDay g) lm_RX12_412 li_X12_isDay lx_X12_isDay ln_RX12 lc_X12_isDay ⟨rfl, by decide, by decide, by decide +kernel⟩ ⟨rfl, rfl⟩ ⟨by decide, by decide⟩ (ci := 12) rfl rfl sr_X12_isDay (by decide)) (fc (mt_V hl S0 hK hEx hA (me_X12_tellGrants g) lm_RX12_446 li_X12_tellGrants lx_X12_tellGrants ln_RX12 lc_X12_tellGrants ⟨rfl, by decide, by decide, by decide +kernel⟩ ⟨rfl, rfl⟩ ⟨by decide, by decide⟩ (ci := 12) rfl rfl sr_X12_tellGrants (by decide)) (fc (mt_V hl S0 hK hEx hA (me_X12_costOf g) lm_RX12_452 li_X12_costOf lx_X12_costOf ln_RX12 lc_X12_costOf ⟨rfl, by decide, by decide, by decide +kernel⟩ ⟨rfl, rfl⟩ ⟨by decide, by decide⟩ (ci := 12) rfl rfl sr_X12_costOf (by decide)) (fn)))))))) (fun p e s m args below meth c Qc XC A ad0 N0 P S0 hK hEx hA hlk hout hPX => (fn)) (fun argv M Qp h => T_X12_balance h)

/-- the model: its charters are as told -/
def m_CH (M : eg_M) : Prop := eg_cn (eg_gi M 121 4) 24 ∧ ∀ c, c < (eg_gi M 121 4).toNatClampNeg → vp_in (eg_gi M 127 (2 * c)) 16 ∧ vp_in (eg_gi M 127 (2 * c + 1)) 16
/-- the model: what is told about charter a on day c, by what was known on day d -/
def m_av (M : eg_M) (a b c d v : Int32) : Prop :=
  if ¬ eg_gi M 129 a.toNatClampNeg ≤ d then v = (if b = nI 4 then -nI 1 else nI 0)
  else ∃ L f, m_lay M d (eg_gi M 121 5).toNatClampNeg L ∧ isL f L ∧ (b = nI 0 → v = b2i (m_al M a c d)) ∧ (b = nI 1 → v = (m_vr (m_L M L f) a c (m_up M L f c) 6).toInt32) ∧ (b = nI 2 → ∀ CL, m_rr M (m_ra M d (eg_gi M 121 35).toNatClampNeg) CL → v = b2i (m_al M a c d && p_slp (m_vr (m_L M L f) a c (m_up M L f c)) CL)) ∧ (b = nI 3 → v = (m_vr (m_L M L f) a c (m_up M L f c) 9).toInt32) ∧ (b = nI 4 → v = m_ge (m_L M L f) a (-nI 1) 0 (m_up M L f c))
def k_X12_about : eg_C := ([(0, .aload_n 0, 1), (1, .iconst 0, 1), (2, .putfield 213, 3), (5, .aload_n 0, 1), (6, .iload_n 1, 1), (7, .invokevirtual 238, 3), (10, .ifCond .eq 20, 3), (13, .iload_n 2, 1), (14, .ifCond .lt 16, 3), (17, .iload_n 2, 1), (18, .iconst 4, 1), (19, .if_icmp .gt 11, 3), (22, .aload_n 0, 1), (23, .iload_n 3, 1), (24, .invokevirtual 412, 3), (27, .ifCond .ne 9, 3), (30, .aload_n 0, 1), (31, .iconst 1, 1), (32, .invokevirtual 230, 3), (35, .ireturn, 1), (36, .iload 4, 2), (38, .ifCond .lt 12, 3), (41, .iload 4, 2), (43, .aload_n 0, 1), (44, .getfield 234, 3), (47, .if_icmp .le 9, 3), (50, .aload_n 0, 1), (51, .iconst 2, 1), (52, .invokevirtual 230, 3), (55, .ireturn, 1), (56, .aload_n 0, 1), (57, .getfield 56, 3), (60, .iload_n 1, 1), (61, .iaload, 1), (62, .iload 4, 2), (64, .if_icmp .le 14, 3), (67, .iload_n 2, 1), (68, .iconst 4, 1), (69, .if_icmp .ne 7, 3), (72, .iconst (-1), 1), (73, .goto 4, 3), (76, .iconst 0, 1), (77, .ireturn, 1), (78, .aload_n 0, 1), (79, .iload 4, 2), (81, .invokevirtual 415, 3), (84, .iload_n 2, 1), (85, .tableswitch 76 0 4 #[35, 76, 52, 76, 69], 35), (120, .aload_n 0, 1), (121, .iload_n 1, 1), (122, .iload_n 3, 1), (123, .iload 4, 2), (125, .invokevirtual 391, 3), (128, .ifCond .eq 7, 3), (131, .iconst 1, 1), (132, .goto 4, 3), (135, .iconst 0, 1), (136, .ireturn, 1), (137, .aload_n 0, 1), (138, .iload_n 1, 1), (139, .iload_n 3, 1), (140, .iload 4, 2), (142, .invokevirtual 418, 3), (145, .ifCond .eq 7, 3), (148, .iconst 1, 1), (149, .goto 4, 3), (152, .iconst 0, 1), (153, .ireturn, 1), (154, .aload_n 0, 1), (155, .iload_n 1, 1), (156, .iload_n 3, 1), (157, .invokevirtual 421, 3), (160, .ireturn, 1), (161, .aload_n 0, 1), (162, .iload_n 1, 1), (163, .aload_n 0, 1), (164, .iload_n 3, 1), (165, .invokevirtual 397, 3), (168, .iload_n 3, 1), (169, .invokevirtual 400, 3), (172, .iload_n 2, 1), (173, .iconst 1, 1), (174, .if_icmp .ne 13, 3), (177, .aload_n 0, 1), (178, .getfield 120, 3), (181, .bipush 6, 2), (183, .laload, 1), (184, .goto 10, 3), (187, .aload_n 0, 1), (188, .getfield 120, 3), (191, .bipush 9, 2), (193, .laload, 1), (194, .l2i, 1), (195, .ireturn, 1)], [(56, 12, 12, false), (120, 12, 45, false), (213, 12, 1, true), (234, 12, 2, false)], [], [(230, 1 + 1, 0, 0, s_X12_fail), (238, 1 + 1, 0, 0, s_X12_isCharter), (391, 3 + 1, 0, 0, s_X12_isAlive), (397, 1 + 1, 0, 0, s_X12_manyBy), (400, 3 + 1, 0, 0, s_X12_tellValues), (412, 1 + 1, 0, 0, s_X12_isDay), (415, 1 + 1, 0, 0, s_X12_lay), (418, 3 + 1, 0, 0, s_X12_sleeps), (421, 2 + 1, 0, 0, s_X12_generous)], [], 1, 0, 0)
theorem mk_X12_about : ∀ q ∈ k_X12_about.2.2.2.1, eg_mono q.2.2.2.2 := (fc (mo_X12_fail) (fc (mo_X12_isCharter) (fc (mo_X12_isAlive) (fc (mo_X12_manyBy) (fc (mo_X12_tellValues) (fc (mo_X12_isDay) (fc (mo_X12_lay) (fc (mo_X12_sleeps) (fc (mo_X12_generous) (fn))))))))))
set_option maxRecDepth 100000 in
theorem st_X12_about_0 {Qp : eg_P} {M : eg_M} (a : Int32) (b : Int32) (c : Int32) (d : Int32)
  (g0 : (¬ (¬ (¬ a < 0 ∧ ¬ (eg_gi (eg_si M 121 1 (nI 0)) 121 4) ≤ a))) → (¬ (b < 0)) → (¬ ((nI 4) < b)) → (¬ (¬ (¬ c < (nI 0) ∧ ¬ (nI 3599) < c))) → (¬ (d < 0)) → (d ≤ (eg_gi M 121 2)) → (vp_in a 24))
  (g1 : (¬ (¬ (¬ a < 0 ∧ ¬ (eg_gi (eg_si M 121 1 (nI 0)) 121 4) ≤ a))) → (¬ (b < 0)) → (¬ ((nI 4) < b)) → (¬ (¬ (¬ c < (nI 0) ∧ ¬ (nI 3599) < c))) → (¬ (d < 0)) → (d ≤ (eg_gi M 121 2)) → ((eg_gi M 129 a.toNatClampNeg) ≤ d) → (eg_cn (eg_gi (eg_si M 121 1 (nI 0)) 121 5) 200 ∧ ∀ e, e < (eg_gi (eg_si M 121 1 (nI 0)) 121 5).toNatClampNeg → ¬ eg_gi (eg_si M 121 1 (nI 0)) 130 e = 0 → vp_in (eg_gi (eg_si M 121 1 (nI 0)) 131 e) 24))
  (l0 : ((¬ (¬ a < 0 ∧ ¬ (eg_gi (eg_si M 121 1 (nI 0)) 121 4) ≤ a)) ∨ (b < 0 ∨ ((nI 4) < b ∨ (¬ (¬ c < (nI 0) ∧ ¬ (nI 3599) < c))))) → Qp (.inl (some (.int (nI 0)))) (eg_si (eg_si M 121 1 (nI 0)) 121 1 (nI 1)))
  (l1 : ((¬ a < 0 ∧ ¬ (eg_gi (eg_si M 121 1 (nI 0)) 121 4) ≤ a) ∧ (¬ b < 0 ∧ (¬ (nI 4) < b ∧ ((¬ c < (nI 0) ∧ ¬ (nI 3599) < c) ∧ (d < 0 ∨ ¬ d ≤ (eg_gi M 121 2)))))) → Qp (.inl (some (.int (nI 0)))) (eg_si (eg_si M 121 1 (nI 0)) 121 1 (nI 2)))
  (l2 : ((¬ a < 0 ∧ ¬ (eg_gi (eg_si M 121 1 (nI 0)) 121 4) ≤ a) ∧ (¬ b < 0 ∧ (¬ (nI 4) < b ∧ ((¬ c < (nI 0) ∧ ¬ (nI 3599) < c) ∧ (¬ d < 0 ∧ (d ≤ (eg_gi M 121 2) ∧ (eg_gi M 129 a.toNatClampNeg) ≤ d)))))) → ∀ (L_1 : List Nat) (f_1 : Nat → Int32), (m_lay (eg_si M 121 1 (nI 0)) d (eg_gi (eg_si M 121 1 (nI 0)) 121 5).toNatClampNeg L_1 ∧ ∀ i (h : i < L_1.length), f_1 i = nI L_1[i]) → eg_T wd k_X12_about Qp 84 0 0 [some (.ref 121), some (.int a), some (.int b), some (.int c), some (.int d)] [] (eg_ri (eg_si (eg_si M 121 1 (nI 0)) 121 47 (nI L_1.length)) 151 f_1))
  (l3 : ((¬ a < 0 ∧ ¬ (eg_gi (eg_si M 121 1 (nI 0)) 121 4) ≤ a) ∧ (¬ b < 0 ∧ (¬ (nI 4) < b ∧ ((¬ c < (nI 0) ∧ ¬ (nI 3599) < c) ∧ (¬ d < 0 ∧ (d ≤ (eg_gi M 121 2) ∧ (¬ (eg_gi M 129 a.toNatClampNeg) ≤ d ∧ b = (nI 4)))))))) → Qp (.inl (some (.int (-nI 1)))) (eg_si M 121 1 (nI 0)))
  (l4 : ((¬ a < 0 ∧ ¬ (eg_gi (eg_si M 121 1 (nI 0)) 121 4) ≤ a) ∧ (¬ b < 0 ∧ (¬ (nI 4) < b ∧ ((¬ c < (nI 0) ∧ ¬ (nI 3599) < c) ∧ (¬ d < 0 ∧ (d ≤ (eg_gi M 121 2) ∧ (¬ (eg_gi M 129 a.toNatClampNeg) ≤ d ∧ ¬ b = (nI 4)))))))) → Qp (.inl (some (.int (nI 0)))) (eg_si M 121 1 (nI 0))) :
  eg_T wd k_X12_about Qp 0 0 0 [some (.ref 121), some (.int a), some (.int b), some (.int c), some (.int d)] [] M := by
  refine eg_T_run mk_X12_about (cut := [84, 145]) 97 ?_
  refine And.intro (show (True) from ?_) ?_
  · exact trivial
  refine And.intro (fun (c1 : (b2i (decide (¬ a < 0 ∧ ¬ (eg_gi (eg_si M 121 1 (nI 0)) 121 4) ≤ a))) = 0) => ?_) (fun (c1 : ¬ (b2i (decide (¬ a < 0 ∧ ¬ (eg_gi (eg_si M 121 1 (nI 0)) 121 4) ≤ a))) = 0) => ?_)
  · replace c1 := b2i_d0.mp c1
    refine And.intro (fun z => absurd z (by decide)) ?_
    refine And.intro (fun z => absurd z (by decide)) ?_
    show Qp (.inl (some (.int (nI 0)))) (eg_si (eg_si M 121 1 (nI 0)) 121 1 (nI 1))
    exact l0 (Or.inl c1)
  · replace c1 := b2i_dn.mp c1
    refine And.intro (fun (c2 : b < 0) => ?_) (fun (c2 : ¬ b < 0) => ?_)
    · skip
      refine And.intro (fun z => absurd z (by decide)) ?_
      refine And.intro (fun z => absurd z (by decide)) ?_
      show Qp (.inl (some (.int (nI 0)))) (eg_si (eg_si M 121 1 (nI 0)) 121 1 (nI 1))
      exact l0 (Or.inr (Or.inl c2))
    · skip
      refine And.intro (fun (c3 : (nI 4) < b) => ?_) (fun (c3 : ¬ (nI 4) < b) => ?_)
      · skip
        refine And.intro (fun z => absurd z (by decide)) ?_
        refine And.intro (fun z => absurd z (by decide)) ?_
        show Qp (.inl (some (.int (nI 0)))) (eg_si (eg_si M 121 1 (nI 0)) 121 1 (nI 1))
        exact l0 (Or.inr (Or.inr (Or.inl c3)))
      · skip
        refine And.intro (show (True) from ?_) ?_
        · exact trivial
        refine And.intro (fun (c4 : (b2i (decide (¬ c < (nI 0) ∧ ¬ (nI 3599) < c))) = 0) => ?_) (fun (c4 : ¬ (b2i (decide (¬ c < (nI 0) ∧ ¬ (nI 3599) < c))) = 0) => ?_)
        · replace c4 := b2i_d0.mp c4
          refine And.intro (fun z => absurd z (by decide)) ?_
          refine And.intro (fun z => absurd z (by decide)) ?_
          show Qp (.inl (some (.int (nI 0)))) (eg_si (eg_si M 121 1 (nI 0)) 121 1 (nI 1))
          exact l0 (Or.inr (Or.inr (Or.inr c4)))
        · replace c4 := b2i_dn.mp c4
          refine And.intro (fun (c5 : d < 0) => ?_) (fun (c5 : ¬ d < 0) => ?_)
          · skip
            refine And.intro (fun z => absurd z (by decide)) ?_
            refine And.intro (fun z => absurd z (by decide)) ?_
            show Qp (.inl (some (.int (nI 0)))) (eg_si (eg_si M 121 1 (nI 0)) 121 1 (nI 2))
            exact l1 ⟨(Classical.byContradiction c1), ⟨c2, ⟨c3, ⟨(Classical.byContradiction c4), (Or.inl c5)⟩⟩⟩⟩
          · skip
            refine And.intro (fun (c6 : d ≤ (eg_gi M 121 2)) => ?_) (fun (c6 : ¬ d ≤ (eg_gi M 121 2)) => ?_)
            · skip
              refine And.intro (show vp_in a 24 from ?_) ?_
              · exact g0 c1 c2 c3 c4 c5 c6
              refine And.intro (fun (c7 : (eg_gi M 129 a.toNatClampNeg) ≤ d) => ?_) (fun (c7 : ¬ (eg_gi M 129 a.toNatClampNeg) ≤ d) => ?_)
              · skip
                refine And.intro (show (eg_cn (eg_gi (eg_si M 121 1 (nI 0)) 121 5) 200 ∧ ∀ e, e < (eg_gi (eg_si M 121 1 (nI 0)) 121 5).toNatClampNeg → ¬ eg_gi (eg_si M 121 1 (nI 0)) 130 e = 0 → vp_in (eg_gi (eg_si M 121 1 (nI 0)) 131 e) 24) from ?_) ?_
                · exact g1 c1 c2 c3 c4 c5 c6 c7
                intro L_1 f_1 ha_1
                show eg_T wd k_X12_about Qp 84 0 0 [some (.ref 121), some (.int a), some (.int b), some (.int c), some (.int d)] [] (eg_ri (eg_si (eg_si M 121 1 (nI 0)) 121 47 (nI L_1.length)) 151 f_1)
                exact l2 ⟨(Classical.byContradiction c1), ⟨c2, ⟨c3, ⟨(Classical.byContradiction c4), ⟨c5, ⟨c6, c7⟩⟩⟩⟩⟩⟩ L_1 f_1 ha_1
              · skip
                refine And.intro (fun (c8 : b = (nI 4)) => ?_) (fun (c8 : ¬ b = (nI 4)) => ?_)
                · skip
                  refine And.intro (fun z => absurd z (by decide)) ?_
                  show Qp (.inl (some (.int (-nI 1)))) (eg_si M 121 1 (nI 0))
                  exact l3 ⟨(Classical.byContradiction c1), ⟨c2, ⟨c3, ⟨(Classical.byContradiction c4), ⟨c5, ⟨c6, ⟨c7, c8⟩⟩⟩⟩⟩⟩⟩
                · skip
                  refine And.intro (fun z => absurd z (by decide)) ?_
                  show Qp (.inl (some (.int (nI 0)))) (eg_si M 121 1 (nI 0))
                  exact l4 ⟨(Classical.byContradiction c1), ⟨c2, ⟨c3, ⟨(Classical.byContradiction c4), ⟨c5, ⟨c6, ⟨c7, c8⟩⟩⟩⟩⟩⟩⟩
            · skip
              refine And.intro (fun z => absurd z (by decide)) ?_
              refine And.intro (fun z => absurd z (by decide)) ?_
              show Qp (.inl (some (.int (nI 0)))) (eg_si (eg_si M 121 1 (nI 0)) 121 1 (nI 2))
              exact l1 ⟨(Classical.byContradiction c1), ⟨c2, ⟨c3, ⟨(Classical.byContradiction c4), (Or.inr c6)⟩⟩⟩⟩

set_option maxRecDepth 100000 in
theorem st_X12_about_84 {Qp : eg_P} {M : eg_M} (a : Int32) (b : Int32) (c : Int32) (d : Int32)
  (g0 : (eg_cn (eg_gi M 121 47) 200 ∧ ∀ i, i < (eg_gi M 121 47).toNatClampNeg → vp_in (eg_gi M 151 i) 200))
  (g1 : (vp_in a 24 ∧ eg_cn (m_mb M c 0 (eg_gi M 121 47).toNatClampNeg) 200 ∧ (∀ i, i < (m_mb M c 0 (eg_gi M 121 47).toNatClampNeg).toNatClampNeg → vp_in (eg_gi M 151 i) 200) ∧ vp_in (eg_gi M 127 (nI 2 * a).toNatClampNeg) 16 ∧ vp_in (eg_gi M 127 (nI 2 * a + nI 1).toNatClampNeg) 16))
  (g2 : (b.toInt = 0) → (vp_in a 24 ∧ eg_cn (eg_gi M 121 5) 200))
  (g3 : (b.toInt = 2) → ((vp_in a 24 ∧ eg_cn (eg_gi M 121 5) 200) ∧ (eg_cn (eg_gi M 121 47) 200 ∧ ∀ i, i < (eg_gi M 121 47).toNatClampNeg → vp_in (eg_gi M 151 i) 200) ∧ (vp_in (eg_gi M 127 (nI 2 * a).toNatClampNeg) 16 ∧ vp_in (eg_gi M 127 (nI 2 * a + nI 1).toNatClampNeg) 16) ∧ eg_cn (eg_gi M 121 35) 8 ∧ ∃ CL, m_rr M (m_ra M d (eg_gi M 121 35).toNatClampNeg) CL))
  (l0 : (((b.toInt < 0 ∨ 4 < b.toInt) ∧ b = (nI 1)) ∨ (¬ (b.toInt < 0 ∨ 4 < b.toInt) ∧ (¬ b.toInt = 0 ∧ ((b.toInt = 1 ∧ b = (nI 1)) ∨ (¬ b.toInt = 1 ∧ (¬ b.toInt = 2 ∧ (b.toInt = 3 ∧ b = (nI 1)))))))) → Qp (.inl (some (.int ((eg_gl (eg_rl M 149 (m_vr M a c (m_mb M c 0 (eg_gi M 121 47).toNatClampNeg).toNatClampNeg)) 149 6).toInt32)))) (eg_rl M 149 (m_vr M a c (m_mb M c 0 (eg_gi M 121 47).toNatClampNeg).toNatClampNeg)))
  (l1 : (((b.toInt < 0 ∨ 4 < b.toInt) ∧ ¬ b = (nI 1)) ∨ (¬ (b.toInt < 0 ∨ 4 < b.toInt) ∧ (¬ b.toInt = 0 ∧ ((b.toInt = 1 ∧ ¬ b = (nI 1)) ∨ (¬ b.toInt = 1 ∧ (¬ b.toInt = 2 ∧ (b.toInt = 3 ∧ ¬ b = (nI 1)))))))) → Qp (.inl (some (.int ((eg_gl (eg_rl M 149 (m_vr M a c (m_mb M c 0 (eg_gi M 121 47).toNatClampNeg).toNatClampNeg)) 149 9).toInt32)))) (eg_rl M 149 (m_vr M a c (m_mb M c 0 (eg_gi M 121 47).toNatClampNeg).toNatClampNeg)))
  (l2 : (¬ (b.toInt < 0 ∨ 4 < b.toInt) ∧ (b.toInt = 0 ∧ (m_al M a c d) = false)) → Qp (.inl (some (.int (nI 0)))) M)
  (l3 : (¬ (b.toInt < 0 ∨ 4 < b.toInt) ∧ (b.toInt = 0 ∧ ¬ (m_al M a c d) = false)) → Qp (.inl (some (.int (nI 1)))) M)
  (l4 : (¬ (b.toInt < 0 ∨ 4 < b.toInt) ∧ (¬ b.toInt = 0 ∧ (¬ b.toInt = 1 ∧ b.toInt = 2))) → ∀ (g_1 : Nat → Int64) (f_1 : Nat → Int64) (v_1 : Bool), (∀ CL, m_rr M (m_ra M d (eg_gi M 121 35).toNatClampNeg) CL → v_1 = (m_al M a c d && p_slp (m_vr M a c (m_mb M c 0 (eg_gi M 121 47).toNatClampNeg).toNatClampNeg) CL)) → eg_T wd k_X12_about Qp 145 0 0 [some (.ref 121), some (.int a), some (.int b), some (.int c), some (.int d)] [.int (b2i v_1)] (eg_rl (eg_rl M 149 g_1) 150 f_1))
  (l5 : (¬ (b.toInt < 0 ∨ 4 < b.toInt) ∧ (¬ b.toInt = 0 ∧ (¬ b.toInt = 1 ∧ (¬ b.toInt = 2 ∧ ¬ b.toInt = 3)))) → Qp (.inl (some (.int (m_ge M a (-nI 1) 0 (m_mb M c 0 (eg_gi M 121 47).toNatClampNeg).toNatClampNeg)))) M) :
  eg_T wd k_X12_about Qp 84 0 0 [some (.ref 121), some (.int a), some (.int b), some (.int c), some (.int d)] [] M := by
  refine eg_T_run mk_X12_about (cut := [84, 145]) 97 ?_
  refine And.intro (fun (c1 : b.toInt < 0 ∨ 4 < b.toInt) => ?_) ?_
  · skip
    refine And.intro (show (eg_cn (eg_gi M 121 47) 200 ∧ ∀ i, i < (eg_gi M 121 47).toNatClampNeg → vp_in (eg_gi M 151 i) 200) from ?_) ?_
    · exact g0
    refine And.intro (show (vp_in a 24 ∧ eg_cn (m_mb M c 0 (eg_gi M 121 47).toNatClampNeg) 200 ∧ (∀ i, i < (m_mb M c 0 (eg_gi M 121 47).toNatClampNeg).toNatClampNeg → vp_in (eg_gi M 151 i) 200) ∧ vp_in (eg_gi M 127 (nI 2 * a).toNatClampNeg) 16 ∧ vp_in (eg_gi M 127 (nI 2 * a + nI 1).toNatClampNeg) 16) from ?_) ?_
    · exact g1
    refine And.intro (fun (c2 : b = (nI 1)) => ?_) (fun (c2 : ¬ b = (nI 1)) => ?_)
    · skip
      refine And.intro (show vp_in (nI 6) 11 from ?_) ?_
      · exact vp_in_nI (by decide) (by decide)
      refine And.intro (fun z => absurd z (by decide)) ?_
      show Qp (.inl (some (.int ((eg_gl (eg_rl M 149 (m_vr M a c (m_mb M c 0 (eg_gi M 121 47).toNatClampNeg).toNatClampNeg)) 149 6).toInt32)))) (eg_rl M 149 (m_vr M a c (m_mb M c 0 (eg_gi M 121 47).toNatClampNeg).toNatClampNeg))
      exact l0 (Or.inl ⟨c1, c2⟩)
    · skip
      refine And.intro (show vp_in (nI 9) 11 from ?_) ?_
      · exact vp_in_nI (by decide) (by decide)
      refine And.intro (fun z => absurd z (by decide)) ?_
      show Qp (.inl (some (.int ((eg_gl (eg_rl M 149 (m_vr M a c (m_mb M c 0 (eg_gi M 121 47).toNatClampNeg).toNatClampNeg)) 149 9).toInt32)))) (eg_rl M 149 (m_vr M a c (m_mb M c 0 (eg_gi M 121 47).toNatClampNeg).toNatClampNeg))
      exact l1 (Or.inl ⟨c1, c2⟩)
  refine And.intro (fun (c3 : b.toInt = 0) => ?_) ?_
  · skip
    refine And.intro (show (vp_in a 24 ∧ eg_cn (eg_gi M 121 5) 200) from ?_) ?_
    · exact g2 c3
    refine And.intro (fun (c4 : (b2i (m_al M a c d)) = 0) => ?_) (fun (c4 : ¬ (b2i (m_al M a c d)) = 0) => ?_)
    · replace c4 := b2i_0.mp c4
      refine And.intro (fun z => absurd z (by decide)) ?_
      show Qp (.inl (some (.int (nI 0)))) M
      exact l2 (by clear g0 g1 g2 g3 l0 l1 l2 l3 l4 l5; grind)
    · replace c4 := b2i_ff c4
      refine And.intro (fun z => absurd z (by decide)) ?_
      show Qp (.inl (some (.int (nI 1)))) M
      exact l3 (by clear g0 g1 g2 g3 l0 l1 l2 l3 l4 l5; grind)
  refine And.intro (fun (c5 : b.toInt = 1) => ?_) ?_
  · skip
    refine And.intro (show (eg_cn (eg_gi M 121 47) 200 ∧ ∀ i, i < (eg_gi M 121 47).toNatClampNeg → vp_in (eg_gi M 151 i) 200) from ?_) ?_
    · exact g0
    refine And.intro (show (vp_in a 24 ∧ eg_cn (m_mb M c 0 (eg_gi M 121 47).toNatClampNeg) 200 ∧ (∀ i, i < (m_mb M c 0 (eg_gi M 121 47).toNatClampNeg).toNatClampNeg → vp_in (eg_gi M 151 i) 200) ∧ vp_in (eg_gi M 127 (nI 2 * a).toNatClampNeg) 16 ∧ vp_in (eg_gi M 127 (nI 2 * a + nI 1).toNatClampNeg) 16) from ?_) ?_
    · exact g1
    refine And.intro (fun (c6 : b = (nI 1)) => ?_) (fun (c6 : ¬ b = (nI 1)) => ?_)
    · skip
      refine And.intro (show vp_in (nI 6) 11 from ?_) ?_
      · exact vp_in_nI (by decide) (by decide)
      refine And.intro (fun z => absurd z (by decide)) ?_
      show Qp (.inl (some (.int ((eg_gl (eg_rl M 149 (m_vr M a c (m_mb M c 0 (eg_gi M 121 47).toNatClampNeg).toNatClampNeg)) 149 6).toInt32)))) (eg_rl M 149 (m_vr M a c (m_mb M c 0 (eg_gi M 121 47).toNatClampNeg).toNatClampNeg))
      exact l0 (by clear g0 g1 g2 g3 l0 l1 l2 l3 l4 l5; grind)
    · skip
      refine And.intro (show vp_in (nI 9) 11 from ?_) ?_
      · exact vp_in_nI (by decide) (by decide)
      refine And.intro (fun z => absurd z (by decide)) ?_
      show Qp (.inl (some (.int ((eg_gl (eg_rl M 149 (m_vr M a c (m_mb M c 0 (eg_gi M 121 47).toNatClampNeg).toNatClampNeg)) 149 9).toInt32)))) (eg_rl M 149 (m_vr M a c (m_mb M c 0 (eg_gi M 121 47).toNatClampNeg).toNatClampNeg))
      exact l1 (by clear g0 g1 g2 g3 l0 l1 l2 l3 l4 l5; grind)
  refine And.intro (fun (c7 : b.toInt = 2) => ?_) ?_
  · skip
    refine And.intro (show ((vp_in a 24 ∧ eg_cn (eg_gi M 121 5) 200) ∧ (eg_cn (eg_gi M 121 47) 200 ∧ ∀ i, i < (eg_gi M 121 47).toNatClampNeg → vp_in (eg_gi M 151 i) 200) ∧ (vp_in (eg_gi M 127 (nI 2 * a).toNatClampNeg) 16 ∧ vp_in (eg_gi M 127 (nI 2 * a + nI 1).toNatClampNeg) 16) ∧ eg_cn (eg_gi M 121 35) 8 ∧ ∃ CL, m_rr M (m_ra M d (eg_gi M 121 35).toNatClampNeg) CL) from ?_) ?_
    · exact g3 c7
    intro g_1 f_1 v_1 ha_1
    show eg_T wd k_X12_about Qp 145 0 0 [some (.ref 121), some (.int a), some (.int b), some (.int c), some (.int d)] [.int (b2i v_1)] (eg_rl (eg_rl M 149 g_1) 150 f_1)
    exact l4 (by clear g0 g1 g2 g3 l0 l1 l2 l3 l4 l5; grind) g_1 f_1 v_1 ha_1
  refine And.intro (fun (c8 : b.toInt = 3) => ?_) ?_
  · skip
    refine And.intro (show (eg_cn (eg_gi M 121 47) 200 ∧ ∀ i, i < (eg_gi M 121 47).toNatClampNeg → vp_in (eg_gi M 151 i) 200) from ?_) ?_
    · exact g0
    refine And.intro (show (vp_in a 24 ∧ eg_cn (m_mb M c 0 (eg_gi M 121 47).toNatClampNeg) 200 ∧ (∀ i, i < (m_mb M c 0 (eg_gi M 121 47).toNatClampNeg).toNatClampNeg → vp_in (eg_gi M 151 i) 200) ∧ vp_in (eg_gi M 127 (nI 2 * a).toNatClampNeg) 16 ∧ vp_in (eg_gi M 127 (nI 2 * a + nI 1).toNatClampNeg) 16) from ?_) ?_
    · exact g1
    refine And.intro (fun (c9 : b = (nI 1)) => ?_) (fun (c9 : ¬ b = (nI 1)) => ?_)
    · skip
      refine And.intro (show vp_in (nI 6) 11 from ?_) ?_
      · exact vp_in_nI (by decide) (by decide)
      refine And.intro (fun z => absurd z (by decide)) ?_
      show Qp (.inl (some (.int ((eg_gl (eg_rl M 149 (m_vr M a c (m_mb M c 0 (eg_gi M 121 47).toNatClampNeg).toNatClampNeg)) 149 6).toInt32)))) (eg_rl M 149 (m_vr M a c (m_mb M c 0 (eg_gi M 121 47).toNatClampNeg).toNatClampNeg))
      exact l0 (by clear g0 g1 g2 g3 l0 l1 l2 l3 l4 l5; grind)
    · skip
      refine And.intro (show vp_in (nI 9) 11 from ?_) ?_
      · exact vp_in_nI (by decide) (by decide)
      refine And.intro (fun z => absurd z (by decide)) ?_
      show Qp (.inl (some (.int ((eg_gl (eg_rl M 149 (m_vr M a c (m_mb M c 0 (eg_gi M 121 47).toNatClampNeg).toNatClampNeg)) 149 9).toInt32)))) (eg_rl M 149 (m_vr M a c (m_mb M c 0 (eg_gi M 121 47).toNatClampNeg).toNatClampNeg))
      exact l1 (by clear g0 g1 g2 g3 l0 l1 l2 l3 l4 l5; grind)
  refine And.intro (fun (c10 : b.toInt = 4) => ?_) ?_
  · skip
    refine And.intro (show (eg_cn (eg_gi M 121 47) 200 ∧ ∀ i, i < (eg_gi M 121 47).toNatClampNeg → vp_in (eg_gi M 151 i) 200) from ?_) ?_
    · exact g0
    refine And.intro (fun z => absurd z (by decide)) ?_
    show Qp (.inl (some (.int (m_ge M a (-nI 1) 0 (m_mb M c 0 (eg_gi M 121 47).toNatClampNeg).toNatClampNeg)))) M
    exact l5 (by clear g0 g1 g2 g3 l0 l1 l2 l3 l4 l5; grind)
  exact trivial

set_option maxRecDepth 100000 in
theorem st_X12_about_145 {Qp : eg_P} {M : eg_M} (o0 : Option Value) (o1 : Option Value) (o2 : Option Value) (o3 : Option Value) (o4 : Option Value) (s0 : Int32)
  (l0 : (s0 = 0) → Qp (.inl (some (.int (nI 0)))) M)
  (l1 : (¬ s0 = 0) → Qp (.inl (some (.int (nI 1)))) M) :
  eg_T wd k_X12_about Qp 145 0 0 [o0, o1, o2, o3, o4] [.int s0] M := by
  refine eg_T_run mk_X12_about (cut := [84, 145]) 97 ?_
  refine And.intro (fun (c1 : s0 = 0) => ?_) (fun (c1 : ¬ s0 = 0) => ?_)
  · skip
    refine And.intro (fun z => absurd z (by decide)) ?_
    show Qp (.inl (some (.int (nI 0)))) M
    exact l0 c1
  · skip
    refine And.intro (fun z => absurd z (by decide)) ?_
    show Qp (.inl (some (.int (nI 1)))) M
    exact l1 c1

def s_X12_about : eg_S := fun argv M Qp => match argv with
  | [.ref 121, .int a, .int b, .int c, .int d] => (m_EV M ∧ m_CH M ∧ ((¬ d < 0 ∧ d ≤ eg_gi M 121 2) → m_RK M d)) ∧ ∀ (v : Int32) (M2 : eg_M), ((¬ ((¬ a < 0 ∧ ¬ eg_gi M 121 4 ≤ a) ∧ (¬ b < 0 ∧ ¬ nI 4 < b) ∧ ¬ c < nI 0 ∧ ¬ nI 3599 < c) ∧ v = nI 0 ∧ M2 = eg_si M 121 1 (nI 1)) ∨ (((¬ a < 0 ∧ ¬ eg_gi M 121 4 ≤ a) ∧ (¬ b < 0 ∧ ¬ nI 4 < b) ∧ ¬ c < nI 0 ∧ ¬ nI 3599 < c) ∧ ¬ (¬ d < 0 ∧ d ≤ eg_gi M 121 2) ∧ v = nI 0 ∧ M2 = eg_si M 121 1 (nI 2)) ∨ (((¬ a < 0 ∧ ¬ eg_gi M 121 4 ≤ a) ∧ (¬ b < 0 ∧ ¬ nI 4 < b) ∧ ¬ c < nI 0 ∧ ¬ nI 3599 < c) ∧ (¬ d < 0 ∧ d ≤ eg_gi M 121 2) ∧ m_sc (eg_si M 121 1 (nI 0)) M2 ∧ m_av M a b c d v)) → Qp (.inl (some (.int (v)))) M2
  | _ => False
theorem mo_X12_about : eg_mono s_X12_about := by
  intro argv M Q Q' h
  unfold s_X12_about
  split
  · exact fun z => ⟨z.1, fun v M2 y => h _ _ (z.2 v M2 y)⟩
  · exact id
theorem sz_X12_about : ∀ argv M Qp, s_X12_about argv M Qp → (eg_ls0 argv).length ≤ 5 := by
  intro argv M Qp h
  unfold s_X12_about at h
  split at h
  · exact Nat.le_of_ble_eq_true rfl
  · exact h.elim
theorem sr_X12_about : ∀ argv M Qp, s_X12_about argv M Qp → ∃ p0 As, argv = .ref p0 :: As ∧ eg_isO wd M p0 12 = true := by
  intro argv M Qp h
  unfold s_X12_about at h
  split at h
  · exact ⟨_, _, rfl, rfl⟩
  · exact h.elim
set_option maxRecDepth 100000 in
set_option maxHeartbeats 1000000 in
theorem T_X12_about {argv : List Value} {M : eg_M} {Qp : eg_P} (h : s_X12_about argv M Qp) : eg_T wd k_X12_about Qp 0 0 0 (eg_lsN 5 argv) [] M := by
  unfold s_X12_about at h
  split at h
  · rename_i a b c d
    obtain ⟨hp, hq⟩ := h
    obtain ⟨hEV, ⟨⟨nc, hnc, hC⟩, hCT⟩, hRK⟩ := hp
    rw [hC, n_c (by omega)] at hCT
    have hEV' := hEV
    obtain ⟨⟨n, hn, hN⟩, hE⟩ := hEV
    have st := st_X12_about_0 (Qp := Qp) (M := M) a b c d
    have r4 : eg_gi (eg_si M 121 1 (nI 0)) 121 4 = eg_gi M 121 4 := rfl
    simp only [r4, si_si] at st
    have ha : (¬ a < 0 ∧ ¬ eg_gi M 121 4 ≤ a) → ∃ e, e < nc ∧ a = nI e := by
      rintro ⟨h1, h2⟩
      obtain ⟨e, he, rfl⟩ := nI_of h1
      rw [hC, n_le (by omega) (by omega)] at h2
      exact ⟨e, by omega, rfl⟩
    refine st (fun z _ _ _ _ _ => ?_) (fun _ _ _ _ _ _ _ => ⟨⟨n, hn, hN⟩, fun e he _ => (hE e he).2.1⟩) (fun z => hq _ _ (Or.inl ⟨by grind, rfl, rfl⟩)) (fun z => hq _ _ (Or.inr (Or.inl ⟨⟨z.1, ⟨z.2.1, z.2.2.1⟩, z.2.2.2.1⟩, by grind, rfl, rfl⟩))) (fun z L f hL => ?_) (fun z => ?_) (fun z => ?_)
    · obtain ⟨e, he, rfl⟩ := ha (Classical.not_not.mp z)
      exact vp_in_nI (by omega) (by decide)
    rotate_left
    · refine hq _ _ (Or.inr (Or.inr ⟨⟨z.1, ⟨z.2.1, z.2.2.1⟩, z.2.2.2.1⟩, ⟨z.2.2.2.2.1, z.2.2.2.2.2.1⟩, m_sc_r _, ?_⟩))
      unfold m_av
      rw [if_pos z.2.2.2.2.2.2.1, if_pos z.2.2.2.2.2.2.2]
    · refine hq _ _ (Or.inr (Or.inr ⟨⟨z.1, ⟨z.2.1, z.2.2.1⟩, z.2.2.2.1⟩, ⟨z.2.2.2.2.1, z.2.2.2.2.2.1⟩, m_sc_r _, ?_⟩))
      unfold m_av
      rw [if_pos z.2.2.2.2.2.2.1, if_neg z.2.2.2.2.2.2.2]
    have hL1 : m_lay M d (eg_gi M 121 5).toNatClampNeg L := hL.1
    have hf : isL f L := hL.2
    have zd : ¬ d < 0 ∧ d ≤ eg_gi M 121 2 := ⟨z.2.2.2.2.1, z.2.2.2.2.2.1⟩
    have hR := hRK zd
    have fin : ∀ (x : Int32) (M2 : eg_M), m_sc (eg_si M 121 1 (nI 0)) M2 → ((b = nI 0 → x = b2i (m_al M a c d)) ∧ (b = nI 1 → x = (m_vr (m_L M L f) a c (m_up M L f c) 6).toInt32) ∧ (b = nI 2 → ∀ CL, m_rr M (m_ra M d (eg_gi M 121 35).toNatClampNeg) CL → x = b2i (m_al M a c d && p_slp (m_vr (m_L M L f) a c (m_up M L f c)) CL)) ∧ (b = nI 3 → x = (m_vr (m_L M L f) a c (m_up M L f c) 9).toInt32) ∧ (b = nI 4 → x = m_ge (m_L M L f) a (-nI 1) 0 (m_up M L f c))) → Qp (.inl (some (.int x))) M2 := by
      intro x M2 h1 h2
      refine hq _ _ (Or.inr (Or.inr ⟨⟨z.1, ⟨z.2.1, z.2.2.1⟩, z.2.2.2.1⟩, zd, h1, ?_⟩))
      unfold m_av
      rw [if_neg (fun w => w z.2.2.2.2.2.2)]
      exact ⟨L, f, hL1, hf, h2⟩
    have hlen : L.length ≤ n := by
      have := hL1.1
      rw [hN, n_c (by omega)] at this
      exact this
    have hlt : ∀ j (h : j < L.length), L[j] < n := fun j h => by
      have := ((hL1.2.2 L[j]).mp (List.getElem_mem h)).1
      rw [hN, n_c (by omega)] at this
      exact this
    have rX : ∀ p j, p ≠ 121 → eg_gi (eg_ri (eg_si (eg_si M 121 1 (nI 0)) 121 47 (nI L.length)) 151 f) p j = eg_gi (m_L M L f) p j := fun p j h => m_L_ne h
    have r47 : eg_gi (eg_ri (eg_si (eg_si M 121 1 (nI 0)) 121 47 (nI L.length)) 151 f) 121 47 = nI L.length := rfl
    have r5 : eg_gi (eg_ri (eg_si (eg_si M 121 1 (nI 0)) 121 47 (nI L.length)) 151 f) 121 5 = eg_gi M 121 5 := rfl
    have r35 : eg_gi (eg_ri (eg_si (eg_si M 121 1 (nI 0)) 121 47 (nI L.length)) 151 f) 121 35 = eg_gi M 121 35 := rfl
    have rvr : ∀ m, m_vr (eg_ri (eg_si (eg_si M 121 1 (nI 0)) 121 47 (nI L.length)) 151 f) a c m = m_vr (m_L M L f) a c m := fun m => by
      funext j
      exact m_vr_g rX (fun _ => rfl) a c m j
    have rra : m_ra (eg_ri (eg_si (eg_si M 121 1 (nI 0)) 121 47 (nI L.length)) 151 f) d (eg_gi M 121 35).toNatClampNeg = m_ra M d (eg_gi M 121 35).toNatClampNeg := m_ra_g (M := M) (N := eg_ri (eg_si (eg_si M 121 1 (nI 0)) 121 47 (nI L.length)) 151 f) (fun _ => rfl) _ _
    have ral : m_al (eg_ri (eg_si (eg_si M 121 1 (nI 0)) 121 47 (nI L.length)) 151 f) a c d = m_al M a c d := rfl
    have rrr : ∀ x CL, m_rr (eg_ri (eg_si (eg_si M 121 1 (nI 0)) 121 47 (nI L.length)) 151 f) x CL ↔ m_rr M x CL := fun _ _ => Iff.rfl
    have hs0 := m_sc0 (eg_si M 121 1 (nI 0)) (nI L.length) f
    have hs1 := m_sc1 (eg_si M 121 1 (nI 0)) (nI L.length) f
    have hs2 := m_sc2 (eg_si M 121 1 (nI 0)) (nI L.length) f
    have rgl : ∀ V : Nat → Int64, ∀ j, eg_gl (eg_rl (eg_ri (eg_si (eg_si M 121 1 (nI 0)) 121 47 (nI L.length)) 151 f) 149 V) 149 j = V j := fun _ _ => rfl
    generalize eg_ri (eg_si (eg_si M 121 1 (nI 0)) 121 47 (nI L.length)) 151 f = X at *
    obtain ⟨m, hm, eM⟩ := m_mb_le (m_L M L f) c L.length 0
    have eup : m_up M L f c = m := by unfold m_up; rw [eM, n_c (by omega)]
    rw [eup] at fin
    have s8 := st_X12_about_84 (Qp := Qp) (M := X) a b c d
    rw [r47, r5, r35, n_c (by omega), m_mb_g rX, eM, n_c (by omega), rvr, rra, ral, m_ge_g rX] at s8
    simp only [rX 151 _ (by decide), rX 127 _ (by decide), rrr, rgl] at s8
    obtain ⟨e, he, rfl⟩ := ha z.1
    have hv : ∀ j, j < L.length → vp_in (eg_gi (m_L M L f) 151 j) 200 := fun j hj => by
      rw [show eg_gi (m_L M L f) 151 j = nI L[j] from hf j hj]
      exact vp_in_nI (by have := hlt j hj; omega) (by decide)
    have ht : vp_in (eg_gi (m_L M L f) 127 (nI 2 * nI e).toNatClampNeg) 16 ∧ vp_in (eg_gi (m_L M L f) 127 (nI 2 * nI e + nI 1).toNatClampNeg) 16 := by
      rw [n_m, n_s, n_c (by omega), n_c (by omega)]
      exact hCT e he
    have hin : vp_in (nI e) 24 := vp_in_nI (by omega) (by decide)
    have g1 : eg_cn (nI L.length) 200 ∧ ∀ i, i < L.length → vp_in (eg_gi (m_L M L f) 151 i) 200 := ⟨⟨L.length, by omega, rfl⟩, hv⟩
    have g2 : vp_in (nI e) 24 ∧ eg_cn (nI m) 200 ∧ (∀ i, i < m → vp_in (eg_gi (m_L M L f) 151 i) 200) ∧ vp_in (eg_gi (m_L M L f) 127 (nI 2 * nI e).toNatClampNeg) 16 ∧ vp_in (eg_gi (m_L M L f) 127 (nI 2 * nI e + nI 1).toNatClampNeg) 16 := ⟨hin, ⟨m, by omega, rfl⟩, fun i hi => hv i (by omega), ht⟩
    have hn5 : eg_cn (eg_gi M 121 5) 200 := ⟨n, hn, hN⟩
    obtain ⟨w, hw, rfl⟩ : ∃ w, w ≤ 4 ∧ b = nI w := nI_of2 (M := nI 4) (by decide) z.2.1 (Int32.not_lt.mp z.2.2.1)
    refine s8 g1 g2 (fun _ => ⟨hin, hn5⟩) (fun _ => ⟨⟨hin, hn5⟩, g1, ht, hR.1, hR.2.1⟩) (fun y => ?_) (fun y => ?_) (fun y => ?_) (fun y => ?_) (fun y v' s' x hx => ?_) (fun y => ?_)
    · have : w = 1 := by
        rcases (show w = 0 ∨ w = 1 ∨ w = 2 ∨ w = 3 ∨ w = 4 by omega) with rfl | rfl | rfl | rfl | rfl <;> first | rfl | exact absurd y (by decide)
      subst this
      exact fin _ _ (hs1 _) ⟨fun w => absurd w (by decide), fun _ => rfl, fun w => absurd w (by decide), fun w => absurd w (by decide), fun w => absurd w (by decide)⟩
    · have : w = 3 := by
        rcases (show w = 0 ∨ w = 1 ∨ w = 2 ∨ w = 3 ∨ w = 4 by omega) with rfl | rfl | rfl | rfl | rfl <;> first | rfl | exact absurd y (by decide)
      subst this
      exact fin _ _ (hs1 _) ⟨fun w => absurd w (by decide), fun w => absurd w (by decide), fun w => absurd w (by decide), fun _ => rfl, fun w => absurd w (by decide)⟩
    · have : w = 0 := (n_eq (by omega) (by decide)).mp (Int32.toInt_inj.mp y.2.1)
      subst this
      exact fin _ _ hs0 ⟨fun _ => by rw [y.2.2]; rfl, fun w => absurd w (by decide), fun w => absurd w (by decide), fun w => absurd w (by decide), fun w => absurd w (by decide)⟩
    · have : w = 0 := (n_eq (by omega) (by decide)).mp (Int32.toInt_inj.mp y.2.1)
      subst this
      exact fin _ _ hs0 ⟨fun _ => by rw [eq_true_of_ne_false y.2.2]; rfl, fun w => absurd w (by decide), fun w => absurd w (by decide), fun w => absurd w (by decide), fun w => absurd w (by decide)⟩
    · have : w = 2 := (n_eq (by omega) (by decide)).mp (Int32.toInt_inj.mp y.2.2.2)
      subst this
      have f2 : ∀ x', x' = b2i x → Qp (.inl (some (.int x'))) (eg_rl (eg_rl X 149 v') 150 s') := fun x' e => fin _ _ (hs2 _ _) ⟨fun w => absurd w (by decide), fun w => absurd w (by decide), fun _ CL hCL => by rw [e, hx CL hCL], fun w => absurd w (by decide), fun w => absurd w (by decide)⟩
      refine st_X12_about_145 _ _ _ _ _ _ (fun y2 => f2 _ ?_) (fun y2 => f2 _ ?_)
      · rw [b2i_0.mp y2]; rfl
      · rw [b2i_n0.mp y2]; rfl
    · have : w = 4 := by
        rcases (show w = 0 ∨ w = 1 ∨ w = 2 ∨ w = 3 ∨ w = 4 by omega) with rfl | rfl | rfl | rfl | rfl <;> first | rfl | exact absurd y (by decide)
      subst this
      exact fin _ _ hs0 ⟨fun w => absurd w (by decide), fun w => absurd w (by decide), fun w => absurd w (by decide), fun w => absurd w (by decide), fun _ => rfl⟩
    
  · exact h.elim
theorem de_X12_about : ∀ q ∈ k_X12_about.1, decode cX12_about q.1 = .ok q.2 := by decide +kernel
theorem me_X12_about (g : gl_T) : MT g yX12_about cX12_about 5 (some .int) ⟨4, 0, 0, 98⟩ 0 0 s_X12_about := by
  intro hl
  exact eg_met_of (k := k_X12_about) (by decide) rfl ⟨Nat.le_refl _, Nat.le_refl _⟩ rfl sz_X12_about de_X12_about (fun meth hn => (fc (eg_FL_of wd_c12 (by decide) lf_RX12_56 (fun h => absurd h (by decide))) (fc (eg_FL_of wd_c12 (by decide) lf_RX12_120 (fun h => absurd h (by decide))) (fc (eg_FL_of wd_c12 (by decide) lf_RX12_213 (fun _ => Or.inl rfl)) (fc (eg_FL_of wd_c12 (by decide) lf_RX12_234 (fun h => absurd h (by decide))) (fn)))))) (fun A s H hE => (fn)) (fun p e s m args below meth c Q A ad0 N0 S0 hK hEx hA => (fc (mt_V hl S0 hK hEx hA (me_X12_fail g) lm_RX12_230 li_X12_fail lx_X12_fail ln_RX12 lc_X12_fail ⟨rfl, by decide, by decide, by decide +kernel⟩ ⟨rfl, rfl⟩ ⟨by decide, by decide⟩ (ci := 12) rfl rfl eg_auto_rec (by decide)) (fc (mt_V hl S0 hK hEx hA (me_X12_isCharter g) lm_RX12_238 li_X12_isCharter lx_X12_isCharter ln_RX12 lc_X12_isCharter ⟨rfl, by decide, by decide, by decide +kernel⟩ ⟨rfl, rfl⟩ ⟨by decide, by decide⟩ (ci := 12) rfl rfl sr_X12_isCharter (by decide)) (fc (mt_V hl S0 hK hEx hA (me_X12_isAlive g) lm_RX12_391 li_X12_isAlive lx_X12_isAlive ln_RX12 lc_X12_isAlive ⟨rfl, by decide, by decide, by decide +kernel⟩ ⟨rfl, rfl⟩ ⟨by decide, by decide⟩ (ci := 12) rfl rfl sr_X12_isAlive (by decide)) (fc (mt_V hl S0 hK hEx hA (me_X12_manyBy g) lm_RX12_397 li_X12_manyBy lx_X12_manyBy ln_RX12 lc_X12_manyBy ⟨rfl, by decide, by decide, by decide +kernel⟩ ⟨rfl, rfl⟩ ⟨by decide, by decide⟩ (ci := 12) rfl rfl sr_X12_manyBy (by decide)) (fc (mt_V hl S0 hK hEx hA (me_X12_tellValues g) lm_RX12_400 li_X12_tellValues lx_X12_tellValues ln_RX12 lc_X12_tellValues ⟨rfl, by decide, by decide, by decide +kernel⟩ ⟨rfl, rfl⟩ ⟨by decide, by decide⟩ (ci := 12) rfl rfl sr_X12_tellValues (by decide)) (fc (mt_V hl S0 hK hEx hA (me_X12_isDay g) lm_RX12_412 li_X12_isDay lx_X12_isDay ln_RX12 lc_X12_isDay ⟨rfl, by decide, by decide, by decide +kernel⟩ ⟨rfl, rfl⟩ ⟨by decide, by decide⟩ (ci := 12) rfl rfl sr_X12_isDay (by decide)) (fc (mt_V hl S0 hK hEx hA (me_X12_lay g) lm_RX12_415 li_X12_lay lx_X12_lay ln_RX12 lc_X12_lay ⟨rfl, by decide, by decide, by decide +kernel⟩ ⟨rfl, rfl⟩ ⟨by decide, by decide⟩ (ci := 12) rfl rfl sr_X12_lay (by decide)) (fc (mt_V hl S0 hK hEx hA (me_X12_sleeps g) lm_RX12_418 li_X12_sleeps lx_X12_sleeps ln_RX12 lc_X12_sleeps ⟨rfl, by decide, by decide, by decide +kernel⟩ ⟨rfl, rfl⟩ ⟨by decide, by decide⟩ (ci := 12) rfl rfl sr_X12_sleeps (by decide)) (fc (mt_V hl S0 hK hEx hA (me_X12_generous g) lm_RX12_421 li_X12_generous lx_X12_generous ln_RX12 lc_X12_generous ⟨rfl, by decide, by decide, by decide +kernel⟩ ⟨rfl, rfl⟩ ⟨by decide, by decide⟩ (ci := 12) rfl rfl sr_X12_generous (by decide)) (fn))))))))))) (fun p e s m args below meth c Qc XC A ad0 N0 P S0 hK hEx hA hlk hout hPX => (fn)) (fun argv M Qp h => T_X12_about h)

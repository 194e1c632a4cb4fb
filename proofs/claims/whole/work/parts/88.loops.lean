def m_z0 (M : eg_M) : eg_M := eg_si (eg_si (eg_si M 121 1 (nI 0)) 121 23 (nI 0)) 121 33 (-nI 1)
def m_z1 (M : eg_M) (a : Int32) (r : Nat) : eg_M := eg_si (eg_si (eg_si (eg_si (eg_si (eg_si (eg_si (m_z0 M) 121 25 a) 121 24 (nI 0)) 121 31 (nI 0)) 121 34 (nI 0)) 141 r (nI 0)) 142 r (nI 100000)) 143 r (nI 20)
def m_fd (r : Nat) (M N : eg_M) : Prop := N.1 = M.1 ∧ N.2.2 = M.2.2 ∧ ∀ q j, ¬ (q = 121 ∧ 24 ≤ j ∧ j ≤ 34 ∧ ¬ j = 33) → ¬ (q = 148 ∧ 640 * r ≤ j ∧ j < 640 * r + 640) → ¬ (141 ≤ q ∧ q ≤ 143 ∧ j = r) → ¬ (144 ≤ q ∧ q ≤ 147 ∧ 12 * r ≤ j ∧ j < 12 * r + 12) → eg_gi N q j = eg_gi M q j
theorem fd_fc {r : Nat} {M N O : eg_M} (h1 : m_fd r M N) (h2 : m_fc r N O) : m_fd r M O := ⟨h2.1.trans h1.1, h2.2.1.trans h1.2.1, fun q j a b c d => (h2.2.2 q j (by omega) b c d).trans (h1.2.2 q j a b c d)⟩
theorem fd_z1 (M : eg_M) (a : Int32) (r : Nat) : m_fd r (m_z0 M) (m_z1 M a r) := ⟨rfl, rfl, fun q j _ _ _ _ => by
  unfold m_z1
  rw [si_g, if_neg (by omega), si_g, if_neg (by omega), si_g, if_neg (by omega), si_g, if_neg (by omega), si_g, if_neg (by omega), si_g, if_neg (by omega), si_g, if_neg (by omega)]⟩
theorem fd_139 {r : Nat} {M N : eg_M} (h : m_fd r M N) : eg_gi N 139 = eg_gi M 139 := funext (fun j => h.2.2 139 j (by omega) (by omega) (by omega) (by omega))
theorem z0_139 (M : eg_M) : eg_gi (m_z0 M) 139 = eg_gi M 139 := funext (fun j => by
  unfold m_z0
  rw [si_g, if_neg (by omega), si_g, if_neg (by omega), si_g, if_neg (by omega)])
theorem z1_139 (M : eg_M) (a : Int32) (r : Nat) : eg_gi (m_z1 M a r) 139 = eg_gi M 139 := (fd_139 (fd_z1 M a r)).trans (z0_139 M)
/-- the model: what rules leaves -/
def m_hr (M : eg_M) (a v : Int32) (M2 : eg_M) : Prop := (¬ (¬ a < nI 0 ∧ a ≤ eg_gi M 121 23) ∧ v = nI 0 ∧ M2 = eg_si M 121 1 (nI 1)) ∨ ((¬ a < nI 0 ∧ a ≤ eg_gi M 121 23) ∧ ((eg_gi M 121 35 = nI 8 ∧ v = nI 9 ∧ M2 = m_z0 M) ∨ ∃ r n, r < 8 ∧ n ≤ 400 ∧ a = nI n ∧ eg_gi M 121 35 = nI r ∧ ∃ N, m_fd r (m_z0 M) N ∧ m_rc r N (px_all (eg_gi M 139) n) ∧ eg_gi N 121 25 = nI n ∧ px_ok (eg_gi M 139) n (px_all (eg_gi M 139) n) ∧ (match px_all (eg_gi M 139) n with
  | .inl e => v = nI e.1 ∧ M2 = eg_si N 121 33 (nI e.2)
  | .inr _ => v = nI 0 ∧ M2 = eg_si (eg_si N 140 r (eg_gi M 121 2)) 121 35 (nI (r + 1)))))
theorem st_mrc {M N : eg_M} {n r : Nat} (hn : n ≤ 400) (h : m_fs (m_z1 M (nI n) r) N ∧ m_at (eg_gi M 139) N (lx (eg_gi M 139) n 0)) : m_rc r N (.inr (lx (eg_gi M 139) n 0, [], nI 100000, nI 20)) := by
  obtain ⟨h1, h2⟩ := h
  have e139 : eg_gi N 139 = eg_gi M 139 := (fs_139 h1).trans (z1_139 M _ _)
  have z : ∀ j, ¬ (j = 24 ∨ j = 26 ∨ j = 27 ∨ j = 28 ∨ j = 29 ∨ j = 30) → eg_gi N 121 j = eg_gi (m_z1 M (nI n) r) 121 j := fun j hj => h1.2.2 121 j (fun y => hj y.2)
  have t141 : eg_gi (m_z1 M (nI n) r) 141 r = nI 0 ∧ eg_gi (m_z1 M (nI n) r) 142 r = nI 100000 ∧ eg_gi (m_z1 M (nI n) r) 143 r = nI 20 := by
    unfold m_z1
    refine ⟨?_, ?_, ?_⟩
    · rw [si_g, if_neg (by omega), si_g, if_neg (by omega), si_g, if_pos ⟨rfl, rfl⟩]
    · rw [si_g, if_neg (by omega), si_g, if_pos ⟨rfl, rfl⟩]
    · rw [si_g, if_pos ⟨rfl, rfl⟩]
  refine ⟨⟨n, hn, (z 25 (by omega)).trans rfl, (z 31 (by omega)).trans rfl, ?_, ?_, Nat.zero_le _, Nat.zero_le _, (z 34 (by omega)).trans rfl, rfl⟩, ?_⟩
  · rw [e139]
    exact ⟨0, Nat.zero_le _, rfl⟩
  · rw [e139]
    exact h2
  · refine ⟨(h1.2.2 141 r (by omega)).trans t141.1, Nat.zero_le _, fun i hi => absurd hi (Nat.not_lt_zero _), (h1.2.2 142 r (by omega)).trans t141.2.1, (h1.2.2 143 r (by omega)).trans t141.2.2⟩
def k_X12_rules : eg_C := ([(0, .aload_n 0, 1), (1, .iconst 0, 1), (2, .putfield 213, 3), (5, .iload_n 1, 1), (6, .ifCond .lt 11, 3), (9, .iload_n 1, 1), (10, .aload_n 0, 1), (11, .getfield 254, 3), (14, .if_icmp .le 9, 3), (17, .aload_n 0, 1), (18, .iconst 1, 1), (19, .invokevirtual 230, 3), (22, .ireturn, 1), (23, .aload_n 0, 1), (24, .iconst 0, 1), (25, .putfield 254, 3), (28, .aload_n 0, 1), (29, .iconst (-1), 1), (30, .putfield 89, 3), (33, .aload_n 0, 1), (34, .getfield 369, 3), (37, .bipush 8, 2), (39, .if_icmp .ne 6, 3), (42, .bipush 9, 2), (44, .ireturn, 1), (45, .aload_n 0, 1), (46, .iload_n 1, 1), (47, .putfield 257, 3), (50, .aload_n 0, 1), (51, .iconst 0, 1), (52, .putfield 260, 3), (55, .aload_n 0, 1), (56, .iconst 0, 1), (57, .putfield 294, 3), (60, .aload_n 0, 1), (61, .iconst 0, 1), (62, .putfield 318, 3), (65, .aload_n 0, 1), (66, .getfield 96, 3), (69, .aload_n 0, 1), (70, .getfield 369, 3), (73, .iconst 0, 1), (74, .iastore, 1), (75, .aload_n 0, 1), (76, .getfield 99, 3), (79, .aload_n 0, 1), (80, .getfield 369, 3), (83, .ldc_w 372, 3), (86, .iastore, 1), (87, .aload_n 0, 1), (88, .getfield 102, 3), (91, .aload_n 0, 1), (92, .getfield 369, 3), (95, .bipush 20, 2), (97, .iastore, 1), (98, .aload_n 0, 1), (99, .invokevirtual 315, 3), (102, .iconst 0, 1), (103, .istore_n 2, 1), (104, .aload_n 0, 1), (105, .getfield 294, 3), (108, .ifCond .ne 25, 3), (111, .aload_n 0, 1), (112, .getfield 272, 3), (115, .ifCond .eq 18, 3), (118, .aload_n 0, 1), (119, .aload_n 0, 1), (120, .getfield 369, 3), (123, .iload_n 2, 1), (124, .invokevirtual 373, 3), (127, .iinc 2 1, 3), (130, .goto (-26), 3), (133, .aload_n 0, 1), (134, .getfield 294, 3), (137, .ifCond .eq 16, 3), (140, .aload_n 0, 1), (141, .aload_n 0, 1), (142, .getfield 297, 3), (145, .putfield 89, 3), (148, .aload_n 0, 1), (149, .getfield 294, 3), (152, .ireturn, 1), (153, .aload_n 0, 1), (154, .getfield 93, 3), (157, .aload_n 0, 1), (158, .getfield 369, 3), (161, .aload_n 0, 1), (162, .getfield 234, 3), (165, .iastore, 1), (166, .aload_n 0, 1), (167, .dup, 1), (168, .getfield 369, 3), (171, .iconst 1, 1), (172, .iadd, 1), (173, .putfield 369, 3), (176, .iconst 0, 1), (177, .ireturn, 1)], [(89, 12, 33, true), (93, 12, 36, false), (96, 12, 37, false), (99, 12, 38, false), (102, 12, 39, false), (213, 12, 1, true), (234, 12, 2, false), (254, 12, 23, true), (257, 12, 25, true), (260, 12, 24, true), (272, 12, 26, false), (294, 12, 31, true), (297, 12, 32, false), (318, 12, 34, true), (369, 12, 35, true)], [(372, .int (nI 100000))], [(230, 1 + 1, 0, 0, s_X12_fail), (315, 0 + 1, 0, 0, s_X12_step), (373, 2 + 1, 0, 0, s_X12_readClause)], [], 1, 0, 0)
theorem mk_X12_rules : ∀ q ∈ k_X12_rules.2.2.2.1, eg_mono q.2.2.2.2 := (fc (mo_X12_fail) (fc (mo_X12_step) (fc (mo_X12_readClause) (fn))))
set_option maxRecDepth 100000 in
theorem st_X12_rules_0 {Qp : eg_P} {M : eg_M} (a : Int32)
  (g0 : (¬ (a < 0)) → (a ≤ (eg_gi M 121 23)) → (¬ ((eg_gi M 121 35) = (nI 8))) → (vp_in (eg_gi M 121 35) 8))
  (g1 : (¬ (a < 0)) → (a ≤ (eg_gi M 121 23)) → (¬ ((eg_gi M 121 35) = (nI 8))) → ((∃ p n, p ≤ n ∧ n ≤ 400 ∧ eg_gi (eg_si (eg_si (eg_si (eg_si (eg_si (eg_si (eg_si (eg_si (eg_si (eg_si M 121 1 (nI 0)) 121 23 (nI 0)) 121 33 (-nI 1)) 121 25 a) 121 24 (nI 0)) 121 31 (nI 0)) 121 34 (nI 0)) 141 (eg_gi M 121 35).toNatClampNeg (nI 0)) 142 (eg_gi M 121 35).toNatClampNeg (nI 100000)) 143 (eg_gi M 121 35).toNatClampNeg (nI 20)) 121 24 = nI p ∧ eg_gi (eg_si (eg_si (eg_si (eg_si (eg_si (eg_si (eg_si (eg_si (eg_si (eg_si M 121 1 (nI 0)) 121 23 (nI 0)) 121 33 (-nI 1)) 121 25 a) 121 24 (nI 0)) 121 31 (nI 0)) 121 34 (nI 0)) 141 (eg_gi M 121 35).toNatClampNeg (nI 0)) 142 (eg_gi M 121 35).toNatClampNeg (nI 100000)) 143 (eg_gi M 121 35).toNatClampNeg (nI 20)) 121 25 = nI n) ∧ m_tb (eg_si (eg_si (eg_si (eg_si (eg_si (eg_si (eg_si (eg_si (eg_si (eg_si M 121 1 (nI 0)) 121 23 (nI 0)) 121 33 (-nI 1)) 121 25 a) 121 24 (nI 0)) 121 31 (nI 0)) 121 34 (nI 0)) 141 (eg_gi M 121 35).toNatClampNeg (nI 0)) 142 (eg_gi M 121 35).toNatClampNeg (nI 100000)) 143 (eg_gi M 121 35).toNatClampNeg (nI 20))))
  (l0 : (a < 0 ∨ ¬ a ≤ (eg_gi M 121 23)) → Qp (.inl (some (.int (nI 0)))) (eg_si (eg_si M 121 1 (nI 0)) 121 1 (nI 1)))
  (l1 : (¬ a < 0 ∧ (a ≤ (eg_gi M 121 23) ∧ (eg_gi M 121 35) = (nI 8))) → Qp (.inl (some (.int (nI 9)))) (eg_si (eg_si (eg_si M 121 1 (nI 0)) 121 23 (nI 0)) 121 33 (-nI 1)))
  (l2 : (¬ a < 0 ∧ (a ≤ (eg_gi M 121 23) ∧ ¬ (eg_gi M 121 35) = (nI 8))) → ∀ (M2_1 : eg_M), (m_fs (eg_si (eg_si (eg_si (eg_si (eg_si (eg_si (eg_si (eg_si (eg_si (eg_si M 121 1 (nI 0)) 121 23 (nI 0)) 121 33 (-nI 1)) 121 25 a) 121 24 (nI 0)) 121 31 (nI 0)) 121 34 (nI 0)) 141 (eg_gi M 121 35).toNatClampNeg (nI 0)) 142 (eg_gi M 121 35).toNatClampNeg (nI 100000)) 143 (eg_gi M 121 35).toNatClampNeg (nI 20)) M2_1 ∧ m_at (eg_gi (eg_si (eg_si (eg_si (eg_si (eg_si (eg_si (eg_si (eg_si (eg_si (eg_si M 121 1 (nI 0)) 121 23 (nI 0)) 121 33 (-nI 1)) 121 25 a) 121 24 (nI 0)) 121 31 (nI 0)) 121 34 (nI 0)) 141 (eg_gi M 121 35).toNatClampNeg (nI 0)) 142 (eg_gi M 121 35).toNatClampNeg (nI 100000)) 143 (eg_gi M 121 35).toNatClampNeg (nI 20)) 139) M2_1 (lx (eg_gi (eg_si (eg_si (eg_si (eg_si (eg_si (eg_si (eg_si (eg_si (eg_si (eg_si M 121 1 (nI 0)) 121 23 (nI 0)) 121 33 (-nI 1)) 121 25 a) 121 24 (nI 0)) 121 31 (nI 0)) 121 34 (nI 0)) 141 (eg_gi M 121 35).toNatClampNeg (nI 0)) 142 (eg_gi M 121 35).toNatClampNeg (nI 100000)) 143 (eg_gi M 121 35).toNatClampNeg (nI 20)) 139) (eg_gi (eg_si (eg_si (eg_si (eg_si (eg_si (eg_si (eg_si (eg_si (eg_si (eg_si M 121 1 (nI 0)) 121 23 (nI 0)) 121 33 (-nI 1)) 121 25 a) 121 24 (nI 0)) 121 31 (nI 0)) 121 34 (nI 0)) 141 (eg_gi M 121 35).toNatClampNeg (nI 0)) 142 (eg_gi M 121 35).toNatClampNeg (nI 100000)) 143 (eg_gi M 121 35).toNatClampNeg (nI 20)) 121 25).toNatClampNeg (eg_gi (eg_si (eg_si (eg_si (eg_si (eg_si (eg_si (eg_si (eg_si (eg_si (eg_si M 121 1 (nI 0)) 121 23 (nI 0)) 121 33 (-nI 1)) 121 25 a) 121 24 (nI 0)) 121 31 (nI 0)) 121 34 (nI 0)) 141 (eg_gi M 121 35).toNatClampNeg (nI 0)) 142 (eg_gi M 121 35).toNatClampNeg (nI 100000)) 143 (eg_gi M 121 35).toNatClampNeg (nI 20)) 121 24).toNatClampNeg)) → eg_T wd k_X12_rules Qp 102 0 0 [some (.ref 121), some (.int a), none] [] M2_1) :
  eg_T wd k_X12_rules Qp 0 0 0 [some (.ref 121), some (.int a), none] [] M := by
  refine eg_T_run mk_X12_rules (cut := [102, 104, 127, 133]) 100 ?_
  refine And.intro (fun (c1 : a < 0) => ?_) (fun (c1 : ¬ a < 0) => ?_)
  · skip
    refine And.intro (fun z => absurd z (by decide)) ?_
    refine And.intro (fun z => absurd z (by decide)) ?_
    show Qp (.inl (some (.int (nI 0)))) (eg_si (eg_si M 121 1 (nI 0)) 121 1 (nI 1))
    exact l0 (Or.inl c1)
  · skip
    refine And.intro (fun (c2 : a ≤ (eg_gi M 121 23)) => ?_) (fun (c2 : ¬ a ≤ (eg_gi M 121 23)) => ?_)
    · skip
      refine And.intro (fun (c3 : (eg_gi M 121 35) = (nI 8)) => ?_) (fun (c3 : ¬ (eg_gi M 121 35) = (nI 8)) => ?_)
      · skip
        refine And.intro (fun z => absurd z (by decide)) ?_
        show Qp (.inl (some (.int (nI 9)))) (eg_si (eg_si (eg_si M 121 1 (nI 0)) 121 23 (nI 0)) 121 33 (-nI 1))
        exact l1 ⟨c1, ⟨c2, c3⟩⟩
      · skip
        refine And.intro (show vp_in (eg_gi M 121 35) 8 from ?_) ?_
        · exact g0 c1 c2 c3
        refine And.intro (show vp_in (eg_gi M 121 35) 8 from ?_) ?_
        · exact g0 c1 c2 c3
        refine And.intro (show vp_in (eg_gi M 121 35) 8 from ?_) ?_
        · exact g0 c1 c2 c3
        refine And.intro (show ((∃ p n, p ≤ n ∧ n ≤ 400 ∧ eg_gi (eg_si (eg_si (eg_si (eg_si (eg_si (eg_si (eg_si (eg_si (eg_si (eg_si M 121 1 (nI 0)) 121 23 (nI 0)) 121 33 (-nI 1)) 121 25 a) 121 24 (nI 0)) 121 31 (nI 0)) 121 34 (nI 0)) 141 (eg_gi M 121 35).toNatClampNeg (nI 0)) 142 (eg_gi M 121 35).toNatClampNeg (nI 100000)) 143 (eg_gi M 121 35).toNatClampNeg (nI 20)) 121 24 = nI p ∧ eg_gi (eg_si (eg_si (eg_si (eg_si (eg_si (eg_si (eg_si (eg_si (eg_si (eg_si M 121 1 (nI 0)) 121 23 (nI 0)) 121 33 (-nI 1)) 121 25 a) 121 24 (nI 0)) 121 31 (nI 0)) 121 34 (nI 0)) 141 (eg_gi M 121 35).toNatClampNeg (nI 0)) 142 (eg_gi M 121 35).toNatClampNeg (nI 100000)) 143 (eg_gi M 121 35).toNatClampNeg (nI 20)) 121 25 = nI n) ∧ m_tb (eg_si (eg_si (eg_si (eg_si (eg_si (eg_si (eg_si (eg_si (eg_si (eg_si M 121 1 (nI 0)) 121 23 (nI 0)) 121 33 (-nI 1)) 121 25 a) 121 24 (nI 0)) 121 31 (nI 0)) 121 34 (nI 0)) 141 (eg_gi M 121 35).toNatClampNeg (nI 0)) 142 (eg_gi M 121 35).toNatClampNeg (nI 100000)) 143 (eg_gi M 121 35).toNatClampNeg (nI 20))) from ?_) ?_
        · exact g1 c1 c2 c3
        intro M2_1 ha_1
        show eg_T wd k_X12_rules Qp 102 0 0 [some (.ref 121), some (.int a), none] [] M2_1
        exact l2 ⟨c1, ⟨c2, c3⟩⟩ M2_1 ha_1
    · skip
      refine And.intro (fun z => absurd z (by decide)) ?_
      refine And.intro (fun z => absurd z (by decide)) ?_
      show Qp (.inl (some (.int (nI 0)))) (eg_si (eg_si M 121 1 (nI 0)) 121 1 (nI 1))
      exact l0 (Or.inr c2)

set_option maxRecDepth 100000 in
theorem st_X12_rules_102 {Qp : eg_P} {M : eg_M} (a : Int32) (o2 : Option Value)
  (l0 : eg_T wd k_X12_rules Qp 104 0 0 [some (.ref 121), some (.int a), some (.int (nI 0))] [] M) :
  eg_T wd k_X12_rules Qp 102 0 0 [some (.ref 121), some (.int a), o2] [] M := by
  refine eg_T_run mk_X12_rules (cut := [102, 104, 127, 133]) 100 ?_
  show eg_T wd k_X12_rules Qp 104 0 0 [some (.ref 121), some (.int a), some (.int (nI 0))] [] M
  exact l0

set_option maxRecDepth 100000 in
theorem st_X12_rules_104 {Qp : eg_P} {M : eg_M} (a : Int32) (x2 : Int32)
  (g0 : ((eg_gi M 121 31) = 0) → (¬ ((eg_gi M 121 26) = 0)) → (∃ r i, (eg_gi M 121 35) = nI r ∧ r < 8 ∧ x2 = nI i ∧ i ≤ 12 ∧ (∃ t CL p q, m_vd r M i t CL p q) ∧ m_tb M))
  (l0 : (¬ (eg_gi M 121 31) = 0 ∨ (eg_gi M 121 26) = 0) → eg_T wd k_X12_rules Qp 133 0 0 [some (.ref 121), some (.int a), some (.int x2)] [] M)
  (l1 : ((eg_gi M 121 31) = 0 ∧ ¬ (eg_gi M 121 26) = 0) → ∀ (M2_1 : eg_M), (∀ r i, (eg_gi M 121 35) = nI r → r < 8 → x2 = nI i → i ≤ 12 → m_fc r M M2_1 ∧ ∀ t CL p q, m_vd r M i t CL p q → m_rc r M2_1 (px_cl (eg_gi M 139) (eg_gi M 121 25).toNatClampNeg (decide (i < 12)) (.inr (t, CL, p, q)))) → eg_T wd k_X12_rules Qp 127 0 0 [some (.ref 121), some (.int a), some (.int x2)] [] M2_1) :
  eg_T wd k_X12_rules Qp 104 0 0 [some (.ref 121), some (.int a), some (.int x2)] [] M := by
  refine eg_T_run mk_X12_rules (cut := [102, 104, 127, 133]) 100 ?_
  refine And.intro (fun (c1 : (eg_gi M 121 31) = 0) => ?_) (fun (c1 : ¬ (eg_gi M 121 31) = 0) => ?_)
  · skip
    refine And.intro (fun (c2 : (eg_gi M 121 26) = 0) => ?_) (fun (c2 : ¬ (eg_gi M 121 26) = 0) => ?_)
    · skip
      show eg_T wd k_X12_rules Qp 133 0 0 [some (.ref 121), some (.int a), some (.int x2)] [] M
      exact l0 (Or.inr c2)
    · skip
      refine And.intro (show (∃ r i, (eg_gi M 121 35) = nI r ∧ r < 8 ∧ x2 = nI i ∧ i ≤ 12 ∧ (∃ t CL p q, m_vd r M i t CL p q) ∧ m_tb M) from ?_) ?_
      · exact g0 c1 c2
      intro M2_1 ha_1
      show eg_T wd k_X12_rules Qp 127 0 0 [some (.ref 121), some (.int a), some (.int x2)] [] M2_1
      exact l1 ⟨c1, c2⟩ M2_1 ha_1
  · skip
    show eg_T wd k_X12_rules Qp 133 0 0 [some (.ref 121), some (.int a), some (.int x2)] [] M
    exact l0 (Or.inl c1)

set_option maxRecDepth 100000 in
theorem st_X12_rules_127 {Qp : eg_P} {M : eg_M} (a : Int32) (x2 : Int32)
  (l0 : eg_T wd k_X12_rules Qp 104 0 0 [some (.ref 121), some (.int a), some (.int (x2 + (nI 1)))] [] M) :
  eg_T wd k_X12_rules Qp 127 0 0 [some (.ref 121), some (.int a), some (.int x2)] [] M := by
  refine eg_T_run mk_X12_rules (cut := [102, 104, 127, 133]) 100 ?_
  show eg_T wd k_X12_rules Qp 104 0 0 [some (.ref 121), some (.int a), some (.int (x2 + (nI 1)))] [] M
  exact l0

set_option maxRecDepth 100000 in
theorem st_X12_rules_133 {Qp : eg_P} {M : eg_M} (o1 : Option Value) (o2 : Option Value)
  (g0 : ((eg_gi M 121 31) = 0) → (vp_in (eg_gi M 121 35) 8))
  (l0 : ((eg_gi M 121 31) = 0) → Qp (.inl (some (.int (nI 0)))) (eg_si (eg_si M 140 (eg_gi M 121 35).toNatClampNeg (eg_gi M 121 2)) 121 35 ((eg_gi M 121 35) + (nI 1))))
  (l1 : (¬ (eg_gi M 121 31) = 0) → Qp (.inl (some (.int (eg_gi M 121 31)))) (eg_si M 121 33 (eg_gi M 121 32))) :
  eg_T wd k_X12_rules Qp 133 0 0 [some (.ref 121), o1, o2] [] M := by
  refine eg_T_run mk_X12_rules (cut := [102, 104, 127, 133]) 100 ?_
  refine And.intro (fun (c1 : (eg_gi M 121 31) = 0) => ?_) (fun (c1 : ¬ (eg_gi M 121 31) = 0) => ?_)
  · skip
    refine And.intro (show vp_in (eg_gi M 121 35) 8 from ?_) ?_
    · exact g0 c1
    refine And.intro (fun z => absurd z (by decide)) ?_
    show Qp (.inl (some (.int (nI 0)))) (eg_si (eg_si M 140 (eg_gi M 121 35).toNatClampNeg (eg_gi M 121 2)) 121 35 ((eg_gi M 121 35) + (nI 1)))
    exact l0 c1
  · skip
    refine And.intro (fun z => absurd z (by decide)) ?_
    show Qp (.inl (some (.int (eg_gi M 121 31)))) (eg_si M 121 33 (eg_gi M 121 32))
    exact l1 c1

def s_X12_rules : eg_S := fun argv M Qp => match argv with
  | [.ref 121, .int a] => (eg_cn (eg_gi M 121 23) 400 ∧ m_tb M ∧ eg_cn (eg_gi M 121 35) 8) ∧ ∀ (v : Int32) (M2 : eg_M), (m_hr M a v M2) → Qp (.inl (some (.int (v)))) M2
  | _ => False
theorem mo_X12_rules : eg_mono s_X12_rules := by
  intro argv M Q Q' h
  unfold s_X12_rules
  split
  · exact fun z => ⟨z.1, fun v M2 y => h _ _ (z.2 v M2 y)⟩
  · exact id
theorem sz_X12_rules : ∀ argv M Qp, s_X12_rules argv M Qp → (eg_ls0 argv).length ≤ 3 := by
  intro argv M Qp h
  unfold s_X12_rules at h
  split at h
  · exact Nat.le_of_ble_eq_true rfl
  · exact h.elim
theorem sr_X12_rules : ∀ argv M Qp, s_X12_rules argv M Qp → ∃ p0 As, argv = .ref p0 :: As ∧ eg_isO wd M p0 12 = true := by
  intro argv M Qp h
  unfold s_X12_rules at h
  split at h
  · exact ⟨_, _, rfl, rfl⟩
  · exact h.elim
set_option maxRecDepth 100000 in
set_option maxHeartbeats 1000000 in
theorem T_X12_rules {argv : List Value} {M : eg_M} {Qp : eg_P} (h : s_X12_rules argv M Qp) : eg_T wd k_X12_rules Qp 0 0 0 (eg_lsN 3 argv) [] M := by
  unfold s_X12_rules at h
  split at h
  · rename_i a
    obtain ⟨hp, hq⟩ := h
    obtain ⟨⟨m, hm, em⟩, hT, r, hr, er⟩ := hp
    have hrc : (nI r).toNatClampNeg = r := n_c (by omega)
    unfold m_hr at hq
    have s0 := st_X12_rules_0 (Qp := Qp) (M := M) a
    rw [er, hrc] at s0
    have main : ∀ (o2 : Option Value) n, n ≤ 400 → a = nI n → (¬ a < nI 0 ∧ a ≤ eg_gi M 121 23) → r < 8 → ∀ N, (m_fs (m_z1 M (nI n) r) N ∧ m_at (eg_gi M 139) N (lx (eg_gi M 139) n 0)) → eg_T wd k_X12_rules Qp 102 0 0 [some (.ref 121), some (.int a), o2] [] N := by
      intro o2 n hn ha hc hr8 N hN
      subst ha
      have hTT := mb_T hT hn
      have ok0 := px_0_ok (eg_gi M 139) n
      have fin : ∀ N2 (o1 o2 : Option Value), m_fd r (m_z0 M) N2 → eg_gi N2 121 25 = nI n → m_rc r N2 (px_all (eg_gi M 139) n) → eg_T wd k_X12_rules Qp 133 0 0 [some (.ref 121), o1, o2] [] N2 := by
        intro N2 o1 o2 hf h25 hc2
        have hok : px_ok (eg_gi M 139) n (px_all (eg_gi M 139) n) := px_rd_ok hn hTT 13 0 _ ok0
        have e35 : eg_gi N2 121 35 = nI r := (hf.2.2 121 35 (by omega) (by omega) (by omega) (by omega)).trans er
        have e2 : eg_gi N2 121 2 = eg_gi M 121 2 := hf.2.2 121 2 (by omega) (by omega) (by omega) (by omega)
        have hqq : ∀ v M2, (match px_all (eg_gi M 139) n with
            | .inl e => v = nI e.1 ∧ M2 = eg_si N2 121 33 (nI e.2)
            | .inr _ => v = nI 0 ∧ M2 = eg_si (eg_si N2 140 r (eg_gi M 121 2)) 121 35 (nI (r + 1))) → Qp (.inl (some (.int v))) M2 := fun v M2 h => hq v M2 (Or.inr ⟨hc, Or.inr ⟨r, n, hr8, hn, rfl, er, N2, hf, hc2, h25, hok, h⟩⟩)
        have st := st_X12_rules_133 (Qp := Qp) (M := N2) o1 o2
        rw [e35, hrc, e2, n_s] at st
        cases hx : px_all (eg_gi M 139) n with
        | inl e =>
          rw [hx] at hc2 hqq
          obtain ⟨⟨n9, h9, e9, k1, k2, k3, k4, k5⟩, _⟩ := hc2
          have kz : ¬ eg_gi N2 121 31 = 0 := by
            rw [k4]
            exact nI_ne0 k1 (show e.1 < 2 ^ 31 by omega)
          refine st (fun z => absurd z kz) (fun z => absurd z kz) (fun _ => hqq _ _ ⟨k4, ?_⟩)
          rw [k5]
        | inr y =>
          obtain ⟨t, CL, p, q⟩ := y
          rw [hx] at hc2 hqq
          have kz : eg_gi N2 121 31 = 0 := (ms_0 hc2.1).mpr ⟨t, px_fm CL, rfl⟩
          exact st (fun _ => (n_in (by omega) (by decide)).mpr hr8) (fun _ => hqq _ _ ⟨rfl, rfl⟩) (fun z => absurd kz z)
      have lp : ∀ f i N2 c, i + f = 13 → m_fd r (m_z0 M) N2 → eg_gi N2 121 25 = nI n → m_rc r N2 c → px_ok (eg_gi M 139) n c → (∀ t X, c = .inr (t, X) → X.1.length ≤ i) → px_all (eg_gi M 139) n = px_rd (eg_gi M 139) n f i c → eg_T wd k_X12_rules Qp 104 0 0 [some (.ref 121), some (.int (nI n)), some (.int (nI i))] [] N2 := by
        intro f
        induction f with
        | zero =>
          intro i N2 c hi hf h25 hc2 ho hl ha
          have ha : px_all (eg_gi M 139) n = c := ha
          have hmo : ¬ px_mo c = true := fun y => by
            have := px_rd_end (eg_gi M 139) n 13 0 (.inr (lx (eg_gi M 139) n 0, [], nI 100000, nI 20)) rfl (by
              show px_mo (px_all (eg_gi M 139) n) = true
              rw [ha]
              exact y)
            omega
          have ex : ¬ eg_gi N2 121 31 = 0 ∨ eg_gi N2 121 26 = 0 := by
            match c, hc2, hmo with
            | .inl e, hc2, hmo =>
              refine Or.inl (fun y => ?_)
              obtain ⟨t, S, e9⟩ := (ms_0 hc2.1).mp y
              cases e9
            | .inr (t, CL, p, q), hc2, hmo =>
              refine Or.inr ?_
              have k1 : t.2.2 = -nI 1 := Classical.not_not.mp (fun y => hmo (decide_eq_true y))
              obtain ⟨⟨n9, h9, e9, g1, g2, ⟨a1, a2, a3, a4, a5, a6⟩, _⟩, _⟩ := hc2
              rw [a2, k1]
              decide
          exact st_X12_rules_104 (nI n) (nI i) (fun y1 y2 => ex.elim (fun w => absurd y1 w) (fun w => absurd w y2)) (fun _ => fin N2 _ _ hf h25 (by rw [ha]; exact hc2)) (fun z => ex.elim (fun w => absurd z.1 w) (fun w => absurd w z.2))
        | succ f ih =>
          intro i N2 c hi hf h25 hc2 ho hl ha
          have e139 : eg_gi N2 139 = eg_gi M 139 := (fd_139 hf).trans (z0_139 M)
          have e35 : eg_gi N2 121 35 = nI r := (hf.2.2 121 35 (by omega) (by omega) (by omega) (by omega)).trans er
          have hTN : m_tb N2 := fun j hj => by
            rw [e139]
            exact hT j hj
          rw [px_rd] at ha
          have st := st_X12_rules_104 (Qp := Qp) (M := N2) (nI n) (nI i)
          match c, hc2, ho, hl, ha with
          | .inl e, hc2, ho, hl, ha =>
            have kz : ¬ eg_gi N2 121 31 = 0 := fun y => by
              obtain ⟨t, S, e9⟩ := (ms_0 hc2.1).mp y
              cases e9
            have ha : px_all (eg_gi M 139) n = .inl e := ha
            exact st (fun y => absurd y kz) (fun _ => fin N2 _ _ hf h25 (by rw [ha]; exact hc2)) (fun z => absurd z.1 kz)
          | .inr (t, CL, p, q), hc2, ho, hl, ha =>
            have kz : eg_gi N2 121 31 = 0 := (ms_0 hc2.1).mpr ⟨t, px_fm CL, rfl⟩
            have htk : eg_gi N2 121 26 = m_tk t.2.2 := by
              obtain ⟨⟨n9, h9, e9, g1, g2, ⟨a1, a2, a3, a4, a5, a6⟩, _⟩, _⟩ := id hc2
              exact a2
            have hvd : m_vd r N2 i t CL p q := by
              refine ⟨hc2, ?_, hl t _ rfl⟩
              rw [e139, h25, n_c (by omega)]
              exact ho
            refine st (fun _ _ => ⟨r, i, e35, hr8, rfl, by omega, ⟨t, CL, p, q, hvd⟩, hTN⟩) (fun z => ?_) (fun z N3 h3 => ?_)
            · have k1 : t.2.2 = -nI 1 := by
                rcases z with z | z
                · exact absurd kz z
                · exact mtk_0.mp (htk.symm.trans z)
              refine fin N2 _ _ hf h25 ?_
              rw [ha, if_neg (show ¬ px_mo (.inr (t, CL, p, q)) = true from fun y => (of_decide_eq_true (p := ¬ t.2.2 = -nI 1) y) k1)]
              exact hc2
            · have k1 : ¬ t.2.2 = -nI 1 := fun y => z.2 (htk.trans (mtk_0.mpr y))
              rw [if_pos (show px_mo (.inr (t, CL, p, q)) = true from decide_eq_true k1)] at ha
              obtain ⟨h4, h5⟩ := h3 r i e35 hr8 rfl (by omega)
              have hc3 := h5 t CL p q hvd
              rw [e139, h25, n_c (show n < 2 ^ 31 by omega)] at hc3
              refine st_X12_rules_127 (nI n) (nI i) ?_
              rw [n_s]
              exact ih (i + 1) N3 _ (by omega) (fd_fc hf h4) ((fc_25 h4).trans h25) hc3 (px_cl_ok hn hTT _ _ ho) (fun t' X' e => px_cl_len (hl t _ rfl) e) ha
      refine st_X12_rules_102 (nI n) _ (lp 13 0 N _ rfl (fd_fc (fd_z1 M (nI n) r) (fc_mr (mr_fq (fq_fs hN.1)))) ?_ (st_mrc hn hN) ok0 (fun t X e => by cases e; exact Nat.zero_le _) rfl)
      exact (hN.1.2.2 121 25 (by omega)).trans rfl
    have an : ¬ a < 0 → a ≤ eg_gi M 121 23 → ∃ n, n ≤ 400 ∧ a = nI n := by
      intro z1 z2
      rw [em] at z2
      have h0 : (0 : Int) ≤ a.toInt := Int32.le_iff_toInt_le.mp (Int32.not_lt.mp z1)
      have h2 := Int32.le_iff_toInt_le.mp z2
      rw [nI_toInt (by omega)] at h2
      have hv : vp_in a 401 := vp_in_iff.mpr ⟨h0, by omega⟩
      obtain ⟨n, hn, e⟩ := vp_in_of hv (by decide)
      exact ⟨n, by omega, e⟩
    have n8 : nI r = nI 8 ↔ r = 8 := n_eq (by omega) (by decide)
    refine s0 (fun _ _ z => (n_in (by omega) (by decide)).mpr (by have : ¬ r = 8 := fun y => z (n8.mpr y); omega)) (fun z1 z2 z => ?_) (fun z => ?_) (fun z => ?_) (fun z N h => ?_)
    · obtain ⟨n, hn, e⟩ := an z1 z2
      refine ⟨⟨0, n, Nat.zero_le _, hn, ?_, ?_⟩, fun j hj => ?_⟩
      · rw [si_g, if_neg (by omega), si_g, if_neg (by omega), si_g, if_neg (by omega)]
        rfl
      · rw [si_g, if_neg (by omega), si_g, if_neg (by omega), si_g, if_neg (by omega)]
        exact e
      · rw [si_g, if_neg (by omega), si_g, if_neg (by omega), si_g, if_neg (by omega)]
        exact hT j hj
    · refine hq _ _ (Or.inl ⟨fun y => z.elim (fun w => y.1 w) (fun w => w y.2), rfl, ?_⟩)
      exact si_si M 121 1 (nI 0) (nI 1)
    · exact hq _ _ (Or.inr ⟨⟨z.1, z.2.1⟩, Or.inl ⟨er.trans z.2.2, rfl, rfl⟩⟩)
    · obtain ⟨n, hn, e⟩ := an z.1 z.2.1
      have hr8 : r < 8 := by
        have : ¬ r = 8 := fun y => z.2.2 (n8.mpr y)
        omega
      subst e
      refine main _ n hn rfl ⟨z.1, z.2.1⟩ hr8 N ?_
      have h139 : eg_gi (m_z1 M (nI n) r) 139 = eg_gi M 139 := funext (fun j => by
        unfold m_z1
        rw [si_g, if_neg (by omega), si_g, if_neg (by omega), si_g, if_neg (by omega)]
        rfl)
      have h25 : eg_gi (m_z1 M (nI n) r) 121 25 = nI n := by
        unfold m_z1
        rw [si_g, if_neg (by omega), si_g, if_neg (by omega), si_g, if_neg (by omega)]
        rfl
      have h24 : eg_gi (m_z1 M (nI n) r) 121 24 = nI 0 := by
        unfold m_z1
        rw [si_g, if_neg (by omega), si_g, if_neg (by omega), si_g, if_neg (by omega)]
        rfl
      have h : m_fs (m_z1 M (nI n) r) N ∧ m_at (eg_gi (m_z1 M (nI n) r) 139) N (lx (eg_gi (m_z1 M (nI n) r) 139) (eg_gi (m_z1 M (nI n) r) 121 25).toNatClampNeg (eg_gi (m_z1 M (nI n) r) 121 24).toNatClampNeg) := h
      rw [h139, h25, h24, n_c (show n < 2 ^ 31 by omega), n_c (by decide)] at h
      exact h
    
  · exact h.elim
theorem de_X12_rules : ∀ q ∈ k_X12_rules.1, decode cX12_rules q.1 = .ok q.2 := by decide +kernel
theorem me_X12_rules (g : gl_T) : MT g yX12_rules cX12_rules 3 (some .int) ⟨50, 0, 0, 1144⟩ 0 0 s_X12_rules := by
  intro hl
  exact eg_met_of (k := k_X12_rules) (by decide) rfl ⟨Nat.le_refl _, Nat.le_refl _⟩ rfl sz_X12_rules de_X12_rules (fun meth hn => (fc (eg_FL_of wd_c12 (by decide) lf_RX12_89 (fun _ => Or.inl rfl)) (fc (eg_FL_of wd_c12 (by decide) lf_RX12_93 (fun h => absurd h (by decide))) (fc (eg_FL_of wd_c12 (by decide) lf_RX12_96 (fun h => absurd h (by decide))) (fc (eg_FL_of wd_c12 (by decide) lf_RX12_99 (fun h => absurd h (by decide))) (fc (eg_FL_of wd_c12 (by decide) lf_RX12_102 (fun h => absurd h (by decide))) (fc (eg_FL_of wd_c12 (by decide) lf_RX12_213 (fun _ => Or.inl rfl)) (fc (eg_FL_of wd_c12 (by decide) lf_RX12_234 (fun h => absurd h (by decide))) (fc (eg_FL_of wd_c12 (by decide) lf_RX12_254 (fun _ => Or.inl rfl)) (fc (eg_FL_of wd_c12 (by decide) lf_RX12_257 (fun _ => Or.inl rfl)) (fc (eg_FL_of wd_c12 (by decide) lf_RX12_260 (fun _ => Or.inl rfl)) (fc (eg_FL_of wd_c12 (by decide) lf_RX12_272 (fun h => absurd h (by decide))) (fc (eg_FL_of wd_c12 (by decide) lf_RX12_294 (fun _ => Or.inl rfl)) (fc (eg_FL_of wd_c12 (by decide) lf_RX12_297 (fun h => absurd h (by decide))) (fc (eg_FL_of wd_c12 (by decide) lf_RX12_318 (fun _ => Or.inl rfl)) (fc (eg_FL_of wd_c12 (by decide) lf_RX12_369 (fun _ => Or.inl rfl)) (fn))))))))))))))))) (fun A s H hE => (fc (List.mem_cons_of_mem _ lk_RX12_372) (fn))) (fun p e s m args below meth c Q A ad0 N0 S0 hK hEx hA => (fc (mt_V hl S0 hK hEx hA (me_X12_fail g) lm_RX12_230 li_X12_fail lx_X12_fail ln_RX12 lc_X12_fail ⟨rfl, by decide, by decide, by decide +kernel⟩ ⟨rfl, rfl⟩ ⟨by decide, by decide⟩ (ci := 12) rfl rfl eg_auto_rec (by decide)) (fc (mt_V hl S0 hK hEx hA (me_X12_step g) lm_RX12_315 li_X12_step lx_X12_step ln_RX12 lc_X12_step ⟨rfl, by decide, by decide, by decide +kernel⟩ ⟨rfl, rfl⟩ ⟨by decide, by decide⟩ (ci := 12) rfl rfl sr_X12_step (by decide)) (fc (mt_V hl S0 hK hEx hA (me_X12_readClause g) lm_RX12_373 li_X12_readClause lx_X12_readClause ln_RX12 lc_X12_readClause ⟨rfl, by decide, by decide, by decide +kernel⟩ ⟨rfl, rfl⟩ ⟨by decide, by decide⟩ (ci := 12) rfl rfl sr_X12_readClause (by decide)) (fn))))) (fun p e s m args below meth c Qc XC A ad0 N0 P S0 hK hEx hA hlk hout hPX => (fn)) (fun argv M Qp h => T_X12_rules h)

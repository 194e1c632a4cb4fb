/-! THE MODEL reads rules -/
def m_is (k : Int32) : Prop := k = nI 59 ∨ k = nI 40 ∨ k = nI 41 ∨ k = nI 43 ∨ k = nI 45 ∨ k = nI 42 ∨ k = nI 47 ∨ k = nI 60 ∨ k = nI 61
/-- the model's token of a kind, its sign -/
def m_tk (k : Int32) : Int32 := if k = -nI 1 then nI 0 else if k = -nI 2 then nI 1 else if k = -nI 3 then nI 2 else if k = nI 59 ∨ k = nI 40 ∨ k = nI 41 ∨ k = nI 43 ∨ k = nI 45 ∨ k = nI 42 ∨ k = nI 47 ∨ k = nI 60 ∨ k = nI 61 then nI 3 else nI 4
def m_sg (k : Int32) : Int32 := if k = -nI 1 ∨ k = -nI 2 ∨ k = -nI 3 then nI 0 else k
def m_tb (M : eg_M) : Prop := ∀ j, j < 400 → ∃ m, m < 256 ∧ eg_gi M 139 j = nI m
/-- the model: the tape's reader alone has moved -/
def m_fs (M N : eg_M) : Prop := N.1 = M.1 ∧ N.2.2 = M.2.2 ∧ ∀ q j, ¬ (q = 121 ∧ (j = 24 ∨ j = 26 ∨ j = 27 ∨ j = 28 ∨ j = 29 ∨ j = 30)) → eg_gi N q j = eg_gi M q j
theorem fs_rf (M : eg_M) : m_fs M M := ⟨rfl, rfl, fun _ _ _ => rfl⟩
theorem fs_tr {M N O : eg_M} (h1 : m_fs M N) (h2 : m_fs N O) : m_fs M O := ⟨h2.1.trans h1.1, h2.2.1.trans h1.2.1, fun q j a => (h2.2.2 q j a).trans (h1.2.2 q j a)⟩
theorem fs_si {M N : eg_M} {j : Nat} {v : Int32} (h : m_fs M N) (hj : j = 24 ∨ j = 26 ∨ j = 27 ∨ j = 28 ∨ j = 29 ∨ j = 30) : m_fs M (eg_si N 121 j v) := ⟨h.1, h.2.1, fun q i a => by
  rw [si_g, if_neg (fun z => a ⟨z.1, by rw [z.2]; exact hj⟩)]
  exact h.2.2 q i a⟩
theorem fs_139 {M N : eg_M} (h : m_fs M N) : eg_gi N 139 = eg_gi M 139 := funext (fun j => h.2.2 139 j (by omega))
theorem fs_25 {M N : eg_M} (h : m_fs M N) : eg_gi N 121 25 = eg_gi M 121 25 := h.2.2 121 25 (by omega)
/-- the model stands at token t -/
def m_at (T : Nat → Int32) (N : eg_M) (t : px_T) : Prop := eg_gi N 121 24 = nI t.2.1 ∧ eg_gi N 121 26 = m_tk t.2.2 ∧ eg_gi N 121 27 = m_sg t.2.2 ∧ eg_gi N 121 29 = nI t.1 ∧ eg_gi N 121 30 = nI t.2.1 ∧ (t.2.2 = -nI 3 → t.2.1 ≤ t.1 + 6 → eg_gi N 121 28 = px_n T t.1 (t.2.1 - t.1))
theorem lxk_2 : ∀ m, m < 256 → (lx_k (nI m) = -nI 2 ↔ (¬ nI m < nI 97 ∧ ¬ nI 122 < nI m)) := by decide +kernel
theorem lxk_3 : ∀ m, m < 256 → (lx_k (nI m) = -nI 3 ↔ (¬ nI m < nI 48 ∧ ¬ nI 57 < nI m)) := by decide +kernel
theorem lxk_o : ∀ m, m < 256 → ¬ (¬ nI m < nI 97 ∧ ¬ nI 122 < nI m) → ¬ (¬ nI m < nI 48 ∧ ¬ nI 57 < nI m) → lx_k (nI m) = nI m := by decide +kernel
theorem lxk_d : ∀ m, m < 256 → (¬ nI m < nI 48 ∧ ¬ nI 57 < nI m) → ∃ d, d < 10 ∧ nI m = nI (48 + d) := by
  intro m hm h
  rw [n_lt (by omega) (by decide), n_lt (by decide) (by omega)] at h
  exact ⟨m - 48, by omega, by rw [show 48 + (m - 48) = m by omega]⟩
theorem mtk_o : ∀ m, m < 256 → m_sg (nI m) = nI m ∧ (m_is (nI m) → m_tk (nI m) = nI 3) ∧ (¬ m_is (nI m) → m_tk (nI m) = nI 4) := by
  intro m hm
  have h1 : ¬ nI m = -nI 1 := nI_m1 (by omega)
  have h2 : ∀ m, m < 256 → ¬ nI m = -nI 2 ∧ ¬ nI m = -nI 3 := by decide +kernel
  obtain ⟨h2, h3⟩ := h2 m hm
  refine ⟨?_, fun z => ?_, fun z => ?_⟩
  · unfold m_sg
    rw [if_neg (by rintro (y | y | y); exact h1 y; exact h2 y; exact h3 y)]
  · unfold m_tk
    rw [if_neg h1, if_neg h2, if_neg h3]
    exact if_pos z
  · unfold m_tk
    rw [if_neg h1, if_neg h2, if_neg h3]
    exact if_neg z
theorem lx_bs {T : Nat → Int32} {n i : Nat} (h : i < n) : lx_b T n (n - i) i = if T i = nI 32 ∨ T i = nI 10 then lx_b T n (n - (i + 1)) (i + 1) else i := by
  rw [show n - i = n - (i + 1) + 1 by omega, lx_b]
  by_cases c : T i = nI 32 ∨ T i = nI 10
  · rw [if_pos ⟨h, c⟩, if_pos c]
  · rw [if_neg (fun z => c z.2), if_neg c]
theorem lx_es {T : Nat → Int32} {n i : Nat} {k : Int32} (h : i < n) : lx_e T n k (n - i) i = if lx_k (T i) = k then lx_e T n k (n - (i + 1)) (i + 1) else i := by
  rw [show n - i = n - (i + 1) + 1 by omega, lx_e]
  by_cases c : lx_k (T i) = k
  · rw [if_pos ⟨h, c⟩, if_pos c]
  · rw [if_neg (fun z => c z.2), if_neg c]
def k_X12_step : eg_C := ([(0, .aload_n 0, 1), (1, .aload_n 0, 1), (2, .getfield 260, 3), (5, .invokevirtual 263, 3), (8, .bipush 32, 2), (10, .if_icmp .eq 16, 3), (13, .aload_n 0, 1), (14, .aload_n 0, 1), (15, .getfield 260, 3), (18, .invokevirtual 263, 3), (21, .bipush 10, 2), (23, .if_icmp .ne 16, 3), (26, .aload_n 0, 1), (27, .dup, 1), (28, .getfield 260, 3), (31, .iconst 1, 1), (32, .iadd, 1), (33, .putfield 260, 3), (36, .goto (-36), 3), (39, .aload_n 0, 1), (40, .aload_n 0, 1), (41, .getfield 260, 3), (44, .putfield 266, 3), (47, .aload_n 0, 1), (48, .iconst 0, 1), (49, .putfield 269, 3), (52, .aload_n 0, 1), (53, .aload_n 0, 1), (54, .getfield 260, 3), (57, .invokevirtual 263, 3), (60, .istore_n 1, 1), (61, .iload_n 1, 1), (62, .iconst (-1), 1), (63, .if_icmp .ne 11, 3), (66, .aload_n 0, 1), (67, .iconst 0, 1), (68, .putfield 272, 3), (71, .goto 209, 3), (74, .iload_n 1, 1), (75, .invokestatic 275, 3), (78, .ifCond .eq 38, 3), (81, .aload_n 0, 1), (82, .aload_n 0, 1), (83, .getfield 260, 3), (86, .invokevirtual 263, 3), (89, .invokestatic 275, 3), (92, .ifCond .eq 16, 3), (95, .aload_n 0, 1), (96, .dup, 1), (97, .getfield 260, 3), (100, .iconst 1, 1), (101, .iadd, 1), (102, .putfield 260, 3), (105, .goto (-24), 3), (108, .aload_n 0, 1), (109, .iconst 1, 1), (110, .putfield 272, 3), (113, .goto 167, 3), (116, .iload_n 1, 1), (117, .invokestatic 278, 3), (120, .ifCond .eq 72, 3), (123, .aload_n 0, 1), (124, .iconst 0, 1), (125, .putfield 281, 3), (128, .aload_n 0, 1), (129, .aload_n 0, 1), (130, .getfield 260, 3), (133, .invokevirtual 263, 3), (136, .invokestatic 278, 3), (139, .ifCond .eq 45, 3), (142, .aload_n 0, 1), (143, .ldc_w 284, 3), (146, .bipush 10, 2), (148, .aload_n 0, 1), (149, .getfield 281, 3), (152, .imul, 1), (153, .aload_n 0, 1), (154, .aload_n 0, 1), (155, .getfield 260, 3), (158, .invokevirtual 263, 3), (161, .iadd, 1), (162, .bipush 48, 2), (164, .isub, 1), (165, .invokestatic 285, 3), (168, .putfield 281, 3), (171, .aload_n 0, 1), (172, .dup, 1), (173, .getfield 260, 3), (176, .iconst 1, 1), (177, .iadd, 1), (178, .putfield 260, 3), (181, .goto (-53), 3), (184, .aload_n 0, 1), (185, .iconst 2, 1), (186, .putfield 272, 3), (189, .goto 91, 3), (192, .aload_n 0, 1), (193, .dup, 1), (194, .getfield 260, 3), (197, .iconst 1, 1), (198, .iadd, 1), (199, .putfield 260, 3), (202, .iload_n 1, 1), (203, .bipush 59, 2), (205, .if_icmp .eq 51, 3), (208, .iload_n 1, 1), (209, .bipush 40, 2), (211, .if_icmp .eq 45, 3), (214, .iload_n 1, 1), (215, .bipush 41, 2), (217, .if_icmp .eq 39, 3), (220, .iload_n 1, 1), (221, .bipush 43, 2), (223, .if_icmp .eq 33, 3), (226, .iload_n 1, 1), (227, .bipush 45, 2), (229, .if_icmp .eq 27, 3), (232, .iload_n 1, 1), (233, .bipush 42, 2), (235, .if_icmp .eq 21, 3), (238, .iload_n 1, 1), (239, .bipush 47, 2), (241, .if_icmp .eq 15, 3), (244, .iload_n 1, 1), (245, .bipush 60, 2), (247, .if_icmp .eq 9, 3), (250, .iload_n 1, 1), (251, .bipush 61, 2), (253, .if_icmp .ne 7, 3), (256, .iconst 1, 1), (257, .goto 4, 3), (260, .iconst 0, 1), (261, .istore_n 2, 1), (262, .aload_n 0, 1), (263, .iload_n 2, 1), (264, .ifCond .eq 7, 3), (267, .iconst 3, 1), (268, .goto 4, 3), (271, .iconst 4, 1), (272, .putfield 272, 3), (275, .aload_n 0, 1), (276, .iload_n 1, 1), (277, .putfield 269, 3), (280, .aload_n 0, 1), (281, .aload_n 0, 1), (282, .getfield 260, 3), (285, .putfield 291, 3), (288, .return_, 1)], [(260, 12, 24, true), (266, 12, 29, true), (269, 12, 27, true), (272, 12, 26, true), (281, 12, 28, true), (291, 12, 30, true)], [(284, .int (nI 10000000))], [(275 + 100000, 1, 0, 0, s_X12_isLetter), (278 + 100000, 1, 0, 0, s_X12_isDigit), (285 + 100000, 2, 0, 0, s_J9_min_7cf53), (263, 1 + 1, 0, 0, s_X12_byteAt)], [], 0, 0, 0)
theorem mk_X12_step : ∀ q ∈ k_X12_step.2.2.2.1, eg_mono q.2.2.2.2 := (fc (mo_X12_isLetter) (fc (mo_X12_isDigit) (fc (mo_J9_min_7cf53) (fc (mo_X12_byteAt) (fn)))))
set_option maxRecDepth 100000 in
theorem st_X12_step_0 {Qp : eg_P} {M : eg_M} 
  (g0 : ((¬ (eg_gi M 121 25) ≤ (eg_gi M 121 24)) → vp_in (eg_gi M 121 24) 400))
  (l0 : ((if (eg_gi M 121 25) ≤ (eg_gi M 121 24) then (-nI 1) else (eg_gi M 139 (eg_gi M 121 24).toNatClampNeg)) = (nI 32) ∨ (if (eg_gi M 121 25) ≤ (eg_gi M 121 24) then (-nI 1) else (eg_gi M 139 (eg_gi M 121 24).toNatClampNeg)) = (nI 10)) → eg_T wd k_X12_step Qp 0 0 0 [some (.ref 121), none, none] [] (eg_si M 121 24 ((eg_gi M 121 24) + (nI 1))))
  (l1 : (¬ (if (eg_gi M 121 25) ≤ (eg_gi M 121 24) then (-nI 1) else (eg_gi M 139 (eg_gi M 121 24).toNatClampNeg)) = (nI 32) ∧ ¬ (if (eg_gi M 121 25) ≤ (eg_gi M 121 24) then (-nI 1) else (eg_gi M 139 (eg_gi M 121 24).toNatClampNeg)) = (nI 10)) → eg_T wd k_X12_step Qp 39 0 0 [some (.ref 121), none, none] [] M) :
  eg_T wd k_X12_step Qp 0 0 0 [some (.ref 121), none, none] [] M := by
  refine eg_T_run mk_X12_step (cut := [0, 39, 61, 81, 128, 192, 280]) 151 ?_
  refine And.intro (show (((¬ (eg_gi M 121 25) ≤ (eg_gi M 121 24)) → vp_in (eg_gi M 121 24) 400)) from ?_) ?_
  · exact g0
  refine And.intro (fun (c1 : (if (eg_gi M 121 25) ≤ (eg_gi M 121 24) then (-nI 1) else (eg_gi M 139 (eg_gi M 121 24).toNatClampNeg)) = (nI 32)) => ?_) (fun (c1 : ¬ (if (eg_gi M 121 25) ≤ (eg_gi M 121 24) then (-nI 1) else (eg_gi M 139 (eg_gi M 121 24).toNatClampNeg)) = (nI 32)) => ?_)
  · skip
    show eg_T wd k_X12_step Qp 0 0 0 [some (.ref 121), none, none] [] (eg_si M 121 24 ((eg_gi M 121 24) + (nI 1)))
    exact l0 (Or.inl c1)
  · skip
    refine And.intro (show (((¬ (eg_gi M 121 25) ≤ (eg_gi M 121 24)) → vp_in (eg_gi M 121 24) 400)) from ?_) ?_
    · exact g0
    refine And.intro (fun (c2 : (if (eg_gi M 121 25) ≤ (eg_gi M 121 24) then (-nI 1) else (eg_gi M 139 (eg_gi M 121 24).toNatClampNeg)) = (nI 10)) => ?_) (fun (c2 : ¬ (if (eg_gi M 121 25) ≤ (eg_gi M 121 24) then (-nI 1) else (eg_gi M 139 (eg_gi M 121 24).toNatClampNeg)) = (nI 10)) => ?_)
    · skip
      show eg_T wd k_X12_step Qp 0 0 0 [some (.ref 121), none, none] [] (eg_si M 121 24 ((eg_gi M 121 24) + (nI 1)))
      exact l0 (Or.inr c2)
    · skip
      show eg_T wd k_X12_step Qp 39 0 0 [some (.ref 121), none, none] [] M
      exact l1 ⟨c1, c2⟩

set_option maxRecDepth 100000 in
theorem st_X12_step_39 {Qp : eg_P} {M : eg_M} (o1 : Option Value) (o2 : Option Value)
  (g0 : ((¬ (eg_gi (eg_si (eg_si M 121 29 (eg_gi M 121 24)) 121 27 (nI 0)) 121 25) ≤ (eg_gi M 121 24)) → vp_in (eg_gi M 121 24) 400))
  (l0 : eg_T wd k_X12_step Qp 61 0 0 [some (.ref 121), some (.int (if (eg_gi (eg_si (eg_si M 121 29 (eg_gi M 121 24)) 121 27 (nI 0)) 121 25) ≤ (eg_gi M 121 24) then (-nI 1) else (eg_gi (eg_si (eg_si M 121 29 (eg_gi M 121 24)) 121 27 (nI 0)) 139 (eg_gi M 121 24).toNatClampNeg))), o2] [] (eg_si (eg_si M 121 29 (eg_gi M 121 24)) 121 27 (nI 0))) :
  eg_T wd k_X12_step Qp 39 0 0 [some (.ref 121), o1, o2] [] M := by
  refine eg_T_run mk_X12_step (cut := [0, 39, 61, 81, 128, 192, 280]) 151 ?_
  refine And.intro (show (((¬ (eg_gi (eg_si (eg_si M 121 29 (eg_gi M 121 24)) 121 27 (nI 0)) 121 25) ≤ (eg_gi M 121 24)) → vp_in (eg_gi M 121 24) 400)) from ?_) ?_
  · exact g0
  show eg_T wd k_X12_step Qp 61 0 0 [some (.ref 121), some (.int (if (eg_gi (eg_si (eg_si M 121 29 (eg_gi M 121 24)) 121 27 (nI 0)) 121 25) ≤ (eg_gi M 121 24) then (-nI 1) else (eg_gi (eg_si (eg_si M 121 29 (eg_gi M 121 24)) 121 27 (nI 0)) 139 (eg_gi M 121 24).toNatClampNeg))), o2] [] (eg_si (eg_si M 121 29 (eg_gi M 121 24)) 121 27 (nI 0))
  exact l0

set_option maxRecDepth 100000 in
theorem st_X12_step_61 {Qp : eg_P} {M : eg_M} (x1 : Int32) (o2 : Option Value)
  (l0 : (x1 = (-nI 1)) → eg_T wd k_X12_step Qp 280 0 0 [some (.ref 121), some (.int x1), o2] [] (eg_si M 121 26 (nI 0)))
  (l1 : (¬ x1 = (-nI 1) ∧ ((¬ (¬ x1 < (nI 97) ∧ ¬ (nI 122) < x1)) ∧ (¬ (¬ x1 < (nI 48) ∧ ¬ (nI 57) < x1)))) → eg_T wd k_X12_step Qp 192 0 0 [some (.ref 121), some (.int x1), o2] [] M)
  (l2 : (¬ x1 = (-nI 1) ∧ ((¬ (¬ x1 < (nI 97) ∧ ¬ (nI 122) < x1)) ∧ ((¬ x1 < (nI 48) ∧ ¬ (nI 57) < x1)))) → eg_T wd k_X12_step Qp 128 0 0 [some (.ref 121), some (.int x1), o2] [] (eg_si M 121 28 (nI 0)))
  (l3 : (¬ x1 = (-nI 1) ∧ ((¬ x1 < (nI 97) ∧ ¬ (nI 122) < x1))) → eg_T wd k_X12_step Qp 81 0 0 [some (.ref 121), some (.int x1), o2] [] M) :
  eg_T wd k_X12_step Qp 61 0 0 [some (.ref 121), some (.int x1), o2] [] M := by
  refine eg_T_run mk_X12_step (cut := [0, 39, 61, 81, 128, 192, 280]) 151 ?_
  refine And.intro (fun (c1 : x1 = (-nI 1)) => ?_) (fun (c1 : ¬ x1 = (-nI 1)) => ?_)
  · skip
    show eg_T wd k_X12_step Qp 280 0 0 [some (.ref 121), some (.int x1), o2] [] (eg_si M 121 26 (nI 0))
    exact l0 c1
  · skip
    refine And.intro (show (True) from ?_) ?_
    · exact trivial
    refine And.intro (fun (c2 : (b2i (decide (¬ x1 < (nI 97) ∧ ¬ (nI 122) < x1))) = 0) => ?_) (fun (c2 : ¬ (b2i (decide (¬ x1 < (nI 97) ∧ ¬ (nI 122) < x1))) = 0) => ?_)
    · replace c2 := b2i_d0.mp c2
      refine And.intro (show (True) from ?_) ?_
      · exact trivial
      refine And.intro (fun (c3 : (b2i (decide (¬ x1 < (nI 48) ∧ ¬ (nI 57) < x1))) = 0) => ?_) (fun (c3 : ¬ (b2i (decide (¬ x1 < (nI 48) ∧ ¬ (nI 57) < x1))) = 0) => ?_)
      · replace c3 := b2i_d0.mp c3
        show eg_T wd k_X12_step Qp 192 0 0 [some (.ref 121), some (.int x1), o2] [] M
        exact l1 ⟨c1, ⟨c2, c3⟩⟩
      · replace c3 := b2i_dn.mp c3
        show eg_T wd k_X12_step Qp 128 0 0 [some (.ref 121), some (.int x1), o2] [] (eg_si M 121 28 (nI 0))
        exact l2 ⟨c1, ⟨c2, (Classical.byContradiction c3)⟩⟩
    · replace c2 := b2i_dn.mp c2
      show eg_T wd k_X12_step Qp 81 0 0 [some (.ref 121), some (.int x1), o2] [] M
      exact l3 ⟨c1, (Classical.byContradiction c2)⟩

set_option maxRecDepth 100000 in
theorem st_X12_step_81 {Qp : eg_P} {M : eg_M} (x1 : Int32) (o2 : Option Value)
  (g0 : ((¬ (eg_gi M 121 25) ≤ (eg_gi M 121 24)) → vp_in (eg_gi M 121 24) 400))
  (l0 : (¬ (¬ (if (eg_gi M 121 25) ≤ (eg_gi M 121 24) then (-nI 1) else (eg_gi M 139 (eg_gi M 121 24).toNatClampNeg)) < (nI 97) ∧ ¬ (nI 122) < (if (eg_gi M 121 25) ≤ (eg_gi M 121 24) then (-nI 1) else (eg_gi M 139 (eg_gi M 121 24).toNatClampNeg)))) → eg_T wd k_X12_step Qp 280 0 0 [some (.ref 121), some (.int x1), o2] [] (eg_si M 121 26 (nI 1)))
  (l1 : (¬ (if (eg_gi M 121 25) ≤ (eg_gi M 121 24) then (-nI 1) else (eg_gi M 139 (eg_gi M 121 24).toNatClampNeg)) < (nI 97) ∧ ¬ (nI 122) < (if (eg_gi M 121 25) ≤ (eg_gi M 121 24) then (-nI 1) else (eg_gi M 139 (eg_gi M 121 24).toNatClampNeg))) → eg_T wd k_X12_step Qp 81 0 0 [some (.ref 121), some (.int x1), o2] [] (eg_si M 121 24 ((eg_gi M 121 24) + (nI 1)))) :
  eg_T wd k_X12_step Qp 81 0 0 [some (.ref 121), some (.int x1), o2] [] M := by
  refine eg_T_run mk_X12_step (cut := [0, 39, 61, 81, 128, 192, 280]) 151 ?_
  refine And.intro (show (((¬ (eg_gi M 121 25) ≤ (eg_gi M 121 24)) → vp_in (eg_gi M 121 24) 400)) from ?_) ?_
  · exact g0
  refine And.intro (show (True) from ?_) ?_
  · exact trivial
  refine And.intro (fun (c1 : (b2i (decide (¬ (if (eg_gi M 121 25) ≤ (eg_gi M 121 24) then (-nI 1) else (eg_gi M 139 (eg_gi M 121 24).toNatClampNeg)) < (nI 97) ∧ ¬ (nI 122) < (if (eg_gi M 121 25) ≤ (eg_gi M 121 24) then (-nI 1) else (eg_gi M 139 (eg_gi M 121 24).toNatClampNeg))))) = 0) => ?_) (fun (c1 : ¬ (b2i (decide (¬ (if (eg_gi M 121 25) ≤ (eg_gi M 121 24) then (-nI 1) else (eg_gi M 139 (eg_gi M 121 24).toNatClampNeg)) < (nI 97) ∧ ¬ (nI 122) < (if (eg_gi M 121 25) ≤ (eg_gi M 121 24) then (-nI 1) else (eg_gi M 139 (eg_gi M 121 24).toNatClampNeg))))) = 0) => ?_)
  · replace c1 := b2i_d0.mp c1
    show eg_T wd k_X12_step Qp 280 0 0 [some (.ref 121), some (.int x1), o2] [] (eg_si M 121 26 (nI 1))
    exact l0 c1
  · replace c1 := b2i_dn.mp c1
    show eg_T wd k_X12_step Qp 81 0 0 [some (.ref 121), some (.int x1), o2] [] (eg_si M 121 24 ((eg_gi M 121 24) + (nI 1)))
    exact l1 (Classical.byContradiction c1)

set_option maxRecDepth 100000 in
theorem st_X12_step_128 {Qp : eg_P} {M : eg_M} (x1 : Int32) (o2 : Option Value)
  (g0 : ((¬ (eg_gi M 121 25) ≤ (eg_gi M 121 24)) → vp_in (eg_gi M 121 24) 400))
  (l0 : (¬ (¬ (if (eg_gi M 121 25) ≤ (eg_gi M 121 24) then (-nI 1) else (eg_gi M 139 (eg_gi M 121 24).toNatClampNeg)) < (nI 48) ∧ ¬ (nI 57) < (if (eg_gi M 121 25) ≤ (eg_gi M 121 24) then (-nI 1) else (eg_gi M 139 (eg_gi M 121 24).toNatClampNeg)))) → eg_T wd k_X12_step Qp 280 0 0 [some (.ref 121), some (.int x1), o2] [] (eg_si M 121 26 (nI 2)))
  (l1 : (¬ (if (eg_gi M 121 25) ≤ (eg_gi M 121 24) then (-nI 1) else (eg_gi M 139 (eg_gi M 121 24).toNatClampNeg)) < (nI 48) ∧ ¬ (nI 57) < (if (eg_gi M 121 25) ≤ (eg_gi M 121 24) then (-nI 1) else (eg_gi M 139 (eg_gi M 121 24).toNatClampNeg))) → eg_T wd k_X12_step Qp 128 0 0 [some (.ref 121), some (.int x1), o2] [] (eg_si (eg_si M 121 28 (if ((((nI 10) * (eg_gi M 121 28)) + (if (eg_gi M 121 25) ≤ (eg_gi M 121 24) then (-nI 1) else (eg_gi M 139 (eg_gi M 121 24).toNatClampNeg))) - (nI 48)) < (nI 10000000) then ((((nI 10) * (eg_gi M 121 28)) + (if (eg_gi M 121 25) ≤ (eg_gi M 121 24) then (-nI 1) else (eg_gi M 139 (eg_gi M 121 24).toNatClampNeg))) - (nI 48)) else (nI 10000000))) 121 24 ((eg_gi M 121 24) + (nI 1)))) :
  eg_T wd k_X12_step Qp 128 0 0 [some (.ref 121), some (.int x1), o2] [] M := by
  refine eg_T_run mk_X12_step (cut := [0, 39, 61, 81, 128, 192, 280]) 151 ?_
  refine And.intro (show (((¬ (eg_gi M 121 25) ≤ (eg_gi M 121 24)) → vp_in (eg_gi M 121 24) 400)) from ?_) ?_
  · exact g0
  refine And.intro (show (True) from ?_) ?_
  · exact trivial
  refine And.intro (fun (c1 : (b2i (decide (¬ (if (eg_gi M 121 25) ≤ (eg_gi M 121 24) then (-nI 1) else (eg_gi M 139 (eg_gi M 121 24).toNatClampNeg)) < (nI 48) ∧ ¬ (nI 57) < (if (eg_gi M 121 25) ≤ (eg_gi M 121 24) then (-nI 1) else (eg_gi M 139 (eg_gi M 121 24).toNatClampNeg))))) = 0) => ?_) (fun (c1 : ¬ (b2i (decide (¬ (if (eg_gi M 121 25) ≤ (eg_gi M 121 24) then (-nI 1) else (eg_gi M 139 (eg_gi M 121 24).toNatClampNeg)) < (nI 48) ∧ ¬ (nI 57) < (if (eg_gi M 121 25) ≤ (eg_gi M 121 24) then (-nI 1) else (eg_gi M 139 (eg_gi M 121 24).toNatClampNeg))))) = 0) => ?_)
  · replace c1 := b2i_d0.mp c1
    show eg_T wd k_X12_step Qp 280 0 0 [some (.ref 121), some (.int x1), o2] [] (eg_si M 121 26 (nI 2))
    exact l0 c1
  · replace c1 := b2i_dn.mp c1
    refine And.intro (show (((¬ (eg_gi M 121 25) ≤ (eg_gi M 121 24)) → vp_in (eg_gi M 121 24) 400)) from ?_) ?_
    · exact g0
    show eg_T wd k_X12_step Qp 128 0 0 [some (.ref 121), some (.int x1), o2] [] (eg_si (eg_si M 121 28 (if ((((nI 10) * (eg_gi M 121 28)) + (if (eg_gi M 121 25) ≤ (eg_gi M 121 24) then (-nI 1) else (eg_gi M 139 (eg_gi M 121 24).toNatClampNeg))) - (nI 48)) < (nI 10000000) then ((((nI 10) * (eg_gi M 121 28)) + (if (eg_gi M 121 25) ≤ (eg_gi M 121 24) then (-nI 1) else (eg_gi M 139 (eg_gi M 121 24).toNatClampNeg))) - (nI 48)) else (nI 10000000))) 121 24 ((eg_gi M 121 24) + (nI 1)))
    exact l1 (Classical.byContradiction c1)

set_option maxRecDepth 100000 in
theorem st_X12_step_192 {Qp : eg_P} {M : eg_M} (x1 : Int32) (o2 : Option Value)
  (l0 : (x1 = (nI 59) ∨ (x1 = (nI 40) ∨ (x1 = (nI 41) ∨ (x1 = (nI 43) ∨ (x1 = (nI 45) ∨ (x1 = (nI 42) ∨ (x1 = (nI 47) ∨ (x1 = (nI 60) ∨ x1 = (nI 61))))))))) → eg_T wd k_X12_step Qp 280 0 0 [some (.ref 121), some (.int x1), some (.int (nI 1))] [] (eg_si (eg_si (eg_si M 121 24 ((eg_gi M 121 24) + (nI 1))) 121 26 (nI 3)) 121 27 x1))
  (l1 : (¬ x1 = (nI 59) ∧ (¬ x1 = (nI 40) ∧ (¬ x1 = (nI 41) ∧ (¬ x1 = (nI 43) ∧ (¬ x1 = (nI 45) ∧ (¬ x1 = (nI 42) ∧ (¬ x1 = (nI 47) ∧ (¬ x1 = (nI 60) ∧ ¬ x1 = (nI 61))))))))) → eg_T wd k_X12_step Qp 280 0 0 [some (.ref 121), some (.int x1), some (.int (nI 0))] [] (eg_si (eg_si (eg_si M 121 24 ((eg_gi M 121 24) + (nI 1))) 121 26 (nI 4)) 121 27 x1)) :
  eg_T wd k_X12_step Qp 192 0 0 [some (.ref 121), some (.int x1), o2] [] M := by
  refine eg_T_run mk_X12_step (cut := [0, 39, 61, 81, 128, 192, 280]) 151 ?_
  refine And.intro (fun (c1 : x1 = (nI 59)) => ?_) (fun (c1 : ¬ x1 = (nI 59)) => ?_)
  · skip
    refine And.intro (fun (c2 : (nI 1) = 0) => ?_) (fun (c2 : ¬ (nI 1) = 0) => ?_)
    · exact absurd c2 (show ¬ (nI 1) = 0 by decide)
    · skip
      show eg_T wd k_X12_step Qp 280 0 0 [some (.ref 121), some (.int x1), some (.int (nI 1))] [] (eg_si (eg_si (eg_si M 121 24 ((eg_gi M 121 24) + (nI 1))) 121 26 (nI 3)) 121 27 x1)
      exact l0 (Or.inl c1)
  · skip
    refine And.intro (fun (c3 : x1 = (nI 40)) => ?_) (fun (c3 : ¬ x1 = (nI 40)) => ?_)
    · skip
      refine And.intro (fun (c4 : (nI 1) = 0) => ?_) (fun (c4 : ¬ (nI 1) = 0) => ?_)
      · exact absurd c4 (show ¬ (nI 1) = 0 by decide)
      · skip
        show eg_T wd k_X12_step Qp 280 0 0 [some (.ref 121), some (.int x1), some (.int (nI 1))] [] (eg_si (eg_si (eg_si M 121 24 ((eg_gi M 121 24) + (nI 1))) 121 26 (nI 3)) 121 27 x1)
        exact l0 (Or.inr (Or.inl c3))
    · skip
      refine And.intro (fun (c5 : x1 = (nI 41)) => ?_) (fun (c5 : ¬ x1 = (nI 41)) => ?_)
      · skip
        refine And.intro (fun (c6 : (nI 1) = 0) => ?_) (fun (c6 : ¬ (nI 1) = 0) => ?_)
        · exact absurd c6 (show ¬ (nI 1) = 0 by decide)
        · skip
          show eg_T wd k_X12_step Qp 280 0 0 [some (.ref 121), some (.int x1), some (.int (nI 1))] [] (eg_si (eg_si (eg_si M 121 24 ((eg_gi M 121 24) + (nI 1))) 121 26 (nI 3)) 121 27 x1)
          exact l0 (Or.inr (Or.inr (Or.inl c5)))
      · skip
        refine And.intro (fun (c7 : x1 = (nI 43)) => ?_) (fun (c7 : ¬ x1 = (nI 43)) => ?_)
        · skip
          refine And.intro (fun (c8 : (nI 1) = 0) => ?_) (fun (c8 : ¬ (nI 1) = 0) => ?_)
          · exact absurd c8 (show ¬ (nI 1) = 0 by decide)
          · skip
            show eg_T wd k_X12_step Qp 280 0 0 [some (.ref 121), some (.int x1), some (.int (nI 1))] [] (eg_si (eg_si (eg_si M 121 24 ((eg_gi M 121 24) + (nI 1))) 121 26 (nI 3)) 121 27 x1)
            exact l0 (Or.inr (Or.inr (Or.inr (Or.inl c7))))
        · skip
          refine And.intro (fun (c9 : x1 = (nI 45)) => ?_) (fun (c9 : ¬ x1 = (nI 45)) => ?_)
          · skip
            refine And.intro (fun (c10 : (nI 1) = 0) => ?_) (fun (c10 : ¬ (nI 1) = 0) => ?_)
            · exact absurd c10 (show ¬ (nI 1) = 0 by decide)
            · skip
              show eg_T wd k_X12_step Qp 280 0 0 [some (.ref 121), some (.int x1), some (.int (nI 1))] [] (eg_si (eg_si (eg_si M 121 24 ((eg_gi M 121 24) + (nI 1))) 121 26 (nI 3)) 121 27 x1)
              exact l0 (Or.inr (Or.inr (Or.inr (Or.inr (Or.inl c9)))))
          · skip
            refine And.intro (fun (c11 : x1 = (nI 42)) => ?_) (fun (c11 : ¬ x1 = (nI 42)) => ?_)
            · skip
              refine And.intro (fun (c12 : (nI 1) = 0) => ?_) (fun (c12 : ¬ (nI 1) = 0) => ?_)
              · exact absurd c12 (show ¬ (nI 1) = 0 by decide)
              · skip
                show eg_T wd k_X12_step Qp 280 0 0 [some (.ref 121), some (.int x1), some (.int (nI 1))] [] (eg_si (eg_si (eg_si M 121 24 ((eg_gi M 121 24) + (nI 1))) 121 26 (nI 3)) 121 27 x1)
                exact l0 (Or.inr (Or.inr (Or.inr (Or.inr (Or.inr (Or.inl c11))))))
            · skip
              refine And.intro (fun (c13 : x1 = (nI 47)) => ?_) (fun (c13 : ¬ x1 = (nI 47)) => ?_)
              · skip
                refine And.intro (fun (c14 : (nI 1) = 0) => ?_) (fun (c14 : ¬ (nI 1) = 0) => ?_)
                · exact absurd c14 (show ¬ (nI 1) = 0 by decide)
                · skip
                  show eg_T wd k_X12_step Qp 280 0 0 [some (.ref 121), some (.int x1), some (.int (nI 1))] [] (eg_si (eg_si (eg_si M 121 24 ((eg_gi M 121 24) + (nI 1))) 121 26 (nI 3)) 121 27 x1)
                  exact l0 (Or.inr (Or.inr (Or.inr (Or.inr (Or.inr (Or.inr (Or.inl c13)))))))
              · skip
                refine And.intro (fun (c15 : x1 = (nI 60)) => ?_) (fun (c15 : ¬ x1 = (nI 60)) => ?_)
                · skip
                  refine And.intro (fun (c16 : (nI 1) = 0) => ?_) (fun (c16 : ¬ (nI 1) = 0) => ?_)
                  · exact absurd c16 (show ¬ (nI 1) = 0 by decide)
                  · skip
                    show eg_T wd k_X12_step Qp 280 0 0 [some (.ref 121), some (.int x1), some (.int (nI 1))] [] (eg_si (eg_si (eg_si M 121 24 ((eg_gi M 121 24) + (nI 1))) 121 26 (nI 3)) 121 27 x1)
                    exact l0 (Or.inr (Or.inr (Or.inr (Or.inr (Or.inr (Or.inr (Or.inr (Or.inl c15))))))))
                · skip
                  refine And.intro (fun (c17 : x1 = (nI 61)) => ?_) (fun (c17 : ¬ x1 = (nI 61)) => ?_)
                  · skip
                    refine And.intro (fun (c18 : (nI 1) = 0) => ?_) (fun (c18 : ¬ (nI 1) = 0) => ?_)
                    · exact absurd c18 (show ¬ (nI 1) = 0 by decide)
                    · skip
                      show eg_T wd k_X12_step Qp 280 0 0 [some (.ref 121), some (.int x1), some (.int (nI 1))] [] (eg_si (eg_si (eg_si M 121 24 ((eg_gi M 121 24) + (nI 1))) 121 26 (nI 3)) 121 27 x1)
                      exact l0 (Or.inr (Or.inr (Or.inr (Or.inr (Or.inr (Or.inr (Or.inr (Or.inr c17))))))))
                  · skip
                    refine And.intro (fun (c19 : (nI 0) = 0) => ?_) (fun (c19 : ¬ (nI 0) = 0) => ?_)
                    · skip
                      show eg_T wd k_X12_step Qp 280 0 0 [some (.ref 121), some (.int x1), some (.int (nI 0))] [] (eg_si (eg_si (eg_si M 121 24 ((eg_gi M 121 24) + (nI 1))) 121 26 (nI 4)) 121 27 x1)
                      exact l1 ⟨c1, ⟨c3, ⟨c5, ⟨c7, ⟨c9, ⟨c11, ⟨c13, ⟨c15, c17⟩⟩⟩⟩⟩⟩⟩⟩
                    · exact absurd (show (nI 0) = 0 by decide) c19

set_option maxRecDepth 100000 in
theorem st_X12_step_280 {Qp : eg_P} {M : eg_M} (o1 : Option Value) (o2 : Option Value)
  (l0 : Qp (.inl none) (eg_si M 121 30 (eg_gi M 121 24))) :
  eg_T wd k_X12_step Qp 280 0 0 [some (.ref 121), o1, o2] [] M := by
  refine eg_T_run mk_X12_step (cut := [0, 39, 61, 81, 128, 192, 280]) 151 ?_
  show Qp (.inl none) (eg_si M 121 30 (eg_gi M 121 24))
  exact l0

def s_X12_step : eg_S := fun argv M Qp => match argv with
  | [.ref 121] => ((∃ p n, p ≤ n ∧ n ≤ 400 ∧ eg_gi M 121 24 = nI p ∧ eg_gi M 121 25 = nI n) ∧ m_tb M) ∧ ∀ (M2 : eg_M), (m_fs M M2 ∧ m_at (eg_gi M 139) M2 (lx (eg_gi M 139) (eg_gi M 121 25).toNatClampNeg (eg_gi M 121 24).toNatClampNeg)) → Qp (.inl none) M2
  | _ => False
theorem mo_X12_step : eg_mono s_X12_step := by
  intro argv M Q Q' h
  unfold s_X12_step
  split
  · exact fun z => ⟨z.1, fun M2 y => h _ _ (z.2 M2 y)⟩
  · exact id
theorem sz_X12_step : ∀ argv M Qp, s_X12_step argv M Qp → (eg_ls0 argv).length ≤ 3 := by
  intro argv M Qp h
  unfold s_X12_step at h
  split at h
  · exact Nat.le_of_ble_eq_true rfl
  · exact h.elim
theorem sr_X12_step : ∀ argv M Qp, s_X12_step argv M Qp → ∃ p0 As, argv = .ref p0 :: As ∧ eg_isO wd M p0 12 = true := by
  intro argv M Qp h
  unfold s_X12_step at h
  split at h
  · exact ⟨_, _, rfl, rfl⟩
  · exact h.elim
set_option maxRecDepth 100000 in
set_option maxHeartbeats 1000000 in
theorem T_X12_step {argv : List Value} {M : eg_M} {Qp : eg_P} (h : s_X12_step argv M Qp) : eg_T wd k_X12_step Qp 0 0 0 (eg_lsN 3 argv) [] M := by
  unfold s_X12_step at h
  split at h
  · obtain ⟨hp, hq⟩ := h
    obtain ⟨⟨p, n, hp, hn, ep, en⟩, hT⟩ := hp
    rw [ep, en, n_c (by omega), n_c (by omega)] at hq
    have rd : ∀ N i, m_fs M N → i ≤ n → eg_gi N 121 24 = nI i → (if eg_gi N 121 25 ≤ eg_gi N 121 24 then -nI 1 else eg_gi N 139 (eg_gi N 121 24).toNatClampNeg) = if i < n then eg_gi M 139 i else -nI 1 := by
      intro N i hf hi ei
      rw [fs_25 hf, en, ei, fs_139 hf, n_c (show i < 2 ^ 31 by omega)]
      by_cases c : i < n
      · rw [if_neg (by rw [n_le (by omega) (by omega)]; omega), if_pos c]
      · rw [if_pos ((n_le (by omega) (by omega)).mpr (by omega)), if_neg c]
    have bd : ∀ N i, m_fs M N → i ≤ n → eg_gi N 121 24 = nI i → (¬ eg_gi N 121 25 ≤ eg_gi N 121 24 → vp_in (eg_gi N 121 24) 400) := by
      intro N i hf hi ei z
      rw [fs_25 hf, en, ei, n_le (by omega) (by omega)] at z
      rw [ei]
      exact (n_in (by omega) (by decide)).mpr (by omega)
    have f280 : ∀ N (o1 o2 : Option Value), m_fs M N → eg_gi N 121 24 = nI (lx (eg_gi M 139) n p).2.1 → eg_gi N 121 26 = m_tk (lx (eg_gi M 139) n p).2.2 → eg_gi N 121 27 = m_sg (lx (eg_gi M 139) n p).2.2 → eg_gi N 121 29 = nI (lx (eg_gi M 139) n p).1 → ((lx (eg_gi M 139) n p).2.2 = -nI 3 → (lx (eg_gi M 139) n p).2.1 ≤ (lx (eg_gi M 139) n p).1 + 6 → eg_gi N 121 28 = px_n (eg_gi M 139) (lx (eg_gi M 139) n p).1 ((lx (eg_gi M 139) n p).2.1 - (lx (eg_gi M 139) n p).1)) → eg_T wd k_X12_step Qp 280 0 0 [some (.ref 121), o1, o2] [] N := by
      intro N o1 o2 hf h1 h2 h3 h4 h5
      refine st_X12_step_280 o1 o2 (hq _ ⟨fs_si hf (by omega), h1, h2, h3, h4, ?_, h5⟩)
      exact h1
    have f61 : ∀ N b (o2 : Option Value), m_fs M N → lx_b (eg_gi M 139) n (n - p) p = b → b ≤ n → eg_gi N 121 24 = nI b → eg_gi N 121 27 = nI 0 → eg_gi N 121 29 = nI b → eg_T wd k_X12_step Qp 61 0 0 [some (.ref 121), some (.int (if b < n then eg_gi M 139 b else -nI 1)), o2] [] N := by
      intro N b o2 hf hb hbn e24 e27 e29
      have hlx : lx (eg_gi M 139) n p = if n ≤ b then (b, b, -nI 1) else (b, (if lx_k (eg_gi M 139 b) < 0 then lx_e (eg_gi M 139) n (lx_k (eg_gi M 139 b)) (n - (b + 1)) (b + 1) else b + 1), lx_k (eg_gi M 139 b)) := by
        unfold lx
        rw [hb]
      by_cases c : b < n
      · rw [if_neg (by omega)] at hlx
        rw [if_pos c]
        obtain ⟨m, hm, em⟩ := hT b (by omega)
        have st := st_X12_step_61 (Qp := Qp) (M := N) (eg_gi M 139 b) o2
        have n1 : ¬ eg_gi M 139 b = -nI 1 := by
          rw [em]
          exact nI_m1 (by omega)
        have n3 : ¬ eg_gi M 139 b = -nI 3 := by
          have : ∀ m, m < 256 → ¬ nI m = -nI 3 := by decide +kernel
          rw [em]
          exact this m hm
        refine st (fun z => absurd z n1) (fun z => ?_) (fun z => ?_) (fun z => ?_)
        · have hk : lx_k (eg_gi M 139 b) = eg_gi M 139 b := by
            rw [em] at z ⊢
            exact lxk_o m hm z.2.1 z.2.2
          have h0 : ¬ eg_gi M 139 b < 0 := by
            rw [em]
            intro y
            exact absurd y (Int32.not_lt.mpr ((n_le (i := 0) (by decide) (by omega)).mpr (Nat.zero_le _)))
          rw [hk, if_neg h0] at hlx
          rw [hlx] at f280
          obtain ⟨s1, s2, s3⟩ := mtk_o m hm
          rw [← em] at s1 s2 s3
          have e24' : eg_gi N 121 24 + nI 1 = nI (b + 1) := by rw [e24, n_s]
          refine st_X12_step_192 (eg_gi M 139 b) o2 (fun y => ?_) (fun y => ?_)
          · exact f280 _ _ _ (fs_si (fs_si (fs_si hf (by omega)) (by omega)) (by omega)) e24' (s2 y).symm s1.symm e29 (fun y2 => absurd y2 n3)
          · have y' : ¬ m_is (eg_gi M 139 b) := fun w => by
              rcases w with w | w | w | w | w | w | w | w | w
              · exact y.1 w
              · exact y.2.1 w
              · exact y.2.2.1 w
              · exact y.2.2.2.1 w
              · exact y.2.2.2.2.1 w
              · exact y.2.2.2.2.2.1 w
              · exact y.2.2.2.2.2.2.1 w
              · exact y.2.2.2.2.2.2.2.1 w
              · exact y.2.2.2.2.2.2.2.2 w
            exact f280 _ _ _ (fs_si (fs_si (fs_si hf (by omega)) (by omega)) (by omega)) e24' (s3 y').symm s1.symm e29 (fun y2 => absurd y2 n3)
        · have hk : lx_k (eg_gi M 139 b) = -nI 3 := by
            rw [em] at z ⊢
            exact (lxk_3 m hm).mpr z.2.2
          rw [hk, if_pos (by decide)] at hlx
          rw [hlx] at f280
          have hs := lx_es (T := eg_gi M 139) (k := -nI 3) c
          rw [if_pos hk] at hs
          rw [← hs] at f280
          have lp : ∀ f i N2 v (o2 : Option Value), i + f = n → b ≤ i → m_fs M N2 → eg_gi N2 121 24 = nI i → eg_gi N2 121 27 = nI 0 → eg_gi N2 121 29 = nI b → eg_gi N2 121 28 = v → (i ≤ b + 6 → v = px_n (eg_gi M 139) b (i - b)) → (∀ j, b ≤ j → j < i → ∃ d, d < 10 ∧ eg_gi M 139 j = nI (48 + d)) → lx_e (eg_gi M 139) n (-nI 3) (n - b) b = lx_e (eg_gi M 139) n (-nI 3) (n - i) i → eg_T wd k_X12_step Qp 128 0 0 [some (.ref 121), some (.int (eg_gi M 139 b)), o2] [] N2 := by
            intro f
            induction f with
            | zero =>
              intro i N2 v o2 hi hbi hf2 g24 g27 g29 g28 hv hd he
              have hin : i = n := by omega
              have st := st_X12_step_128 (Qp := Qp) (M := N2) (eg_gi M 139 b) o2
              rw [rd N2 i hf2 (by omega) g24, if_neg (by omega)] at st
              rw [show n - i = 0 by omega] at he
              have he : lx_e (eg_gi M 139) n (-nI 3) (n - b) b = i := he
              refine st (bd N2 i hf2 (by omega) g24) (fun _ => ?_) (fun z => absurd z.1 (by decide))
              rw [he] at f280
              exact f280 _ _ _ (fs_si hf2 (by omega)) g24 rfl g27 g29 (fun _ h6 => g28.trans (hv h6))
            | succ f ih =>
              intro i N2 v o2 hi hbi hf2 g24 g27 g29 g28 hv hd he
              have hin : i < n := by omega
              obtain ⟨mi, hmi, emi⟩ := hT i (by omega)
              have st := st_X12_step_128 (Qp := Qp) (M := N2) (eg_gi M 139 b) o2
              rw [rd N2 i hf2 (by omega) g24, if_pos hin, g24, n_s, g28] at st
              have bd9 := bd N2 i hf2 (by omega) g24
              rw [g24] at bd9
              rw [lx_es hin] at he
              refine st bd9 (fun z => ?_) (fun z => ?_)
              · have hk2 : ¬ lx_k (eg_gi M 139 i) = -nI 3 := by
                  rw [emi] at z ⊢
                  exact fun y => z ((lxk_3 mi hmi).mp y)
                rw [if_neg hk2] at he
                rw [he] at f280
                exact f280 _ _ _ (fs_si hf2 (by omega)) g24 rfl g27 g29 (fun _ h6 => g28.trans (hv h6))
              · have hk2 : lx_k (eg_gi M 139 i) = -nI 3 := by
                  rw [emi] at z ⊢
                  exact (lxk_3 mi hmi).mpr z
                rw [if_pos hk2] at he
                obtain ⟨d, hd1, hd2⟩ := lxk_d mi hmi (by rw [← emi]; exact z)
                have hd' : ∀ j, b ≤ j → j < i + 1 → ∃ d, d < 10 ∧ eg_gi M 139 j = nI (48 + d) := fun j h1 h2 => by
                  by_cases hji : j < i
                  · exact hd j h1 hji
                  · rw [show j = i by omega]
                    exact ⟨d, hd1, by rw [emi]; exact hd2⟩
                refine ih (i + 1) _ _ o2 (by omega) (by omega) (fs_si (fs_si hf2 (by omega)) (by omega)) rfl g27 g29 rfl (fun h6 => ?_) hd' he
                obtain ⟨w, hw, ew⟩ := px_n_v (T := eg_gi M 139) (b := b) (i + 1 - b) (by omega) (fun j hj => hd' (b + j) (by omega) (by omega))
                have hw6 : w < 10000000 := Nat.lt_of_lt_of_le hw (Nat.le_trans (Nat.pow_le_pow_right (by decide) (show i + 1 - b ≤ 6 by omega)) (by decide))
                have e1 : nI 10 * v + eg_gi M 139 i - nI 48 = px_n (eg_gi M 139) b (i + 1 - b) := by
                  rw [hv (by omega), show i + 1 - b = i - b + 1 by omega, px_n, show b + (i - b) = i by omega, Int32.mul_comm]
                have hlt : px_n (eg_gi M 139) b (i + 1 - b) < nI 10000000 := by
                  rw [ew, n_lt (by omega) (by decide)]
                  exact hw6
                rw [e1, if_pos hlt]
                rfl
          refine lp (n - b) b _ _ o2 (by omega) (Nat.le_refl _) (fs_si hf (by omega)) e24 e27 e29 rfl (fun _ => ?_) (fun j h1 h2 => by omega) rfl
          rw [Nat.sub_self]
          rfl
        · have hk : lx_k (eg_gi M 139 b) = -nI 2 := by
            rw [em] at z ⊢
            exact (lxk_2 m hm).mpr z.2
          rw [hk, if_pos (by decide)] at hlx
          rw [hlx] at f280
          have hs := lx_es (T := eg_gi M 139) (k := -nI 2) c
          rw [if_pos hk] at hs
          rw [← hs] at f280
          have lp : ∀ f i N2 (o2 : Option Value), i + f = n → b ≤ i → m_fs M N2 → eg_gi N2 121 24 = nI i → eg_gi N2 121 27 = nI 0 → eg_gi N2 121 29 = nI b → lx_e (eg_gi M 139) n (-nI 2) (n - b) b = lx_e (eg_gi M 139) n (-nI 2) (n - i) i → eg_T wd k_X12_step Qp 81 0 0 [some (.ref 121), some (.int (eg_gi M 139 b)), o2] [] N2 := by
            intro f
            induction f with
            | zero =>
              intro i N2 o2 hi hbi hf2 g24 g27 g29 he
              have hin : i = n := by omega
              have st := st_X12_step_81 (Qp := Qp) (M := N2) (eg_gi M 139 b) o2
              rw [rd N2 i hf2 (by omega) g24, if_neg (by omega)] at st
              rw [show n - i = 0 by omega] at he
              have he : lx_e (eg_gi M 139) n (-nI 2) (n - b) b = i := he
              refine st (bd N2 i hf2 (by omega) g24) (fun _ => ?_) (fun z => absurd z.1 (by decide))
              rw [he] at f280
              exact f280 _ _ _ (fs_si hf2 (by omega)) g24 rfl g27 g29 (fun y => absurd y (show ¬ -nI 2 = -nI 3 by decide))
            | succ f ih =>
              intro i N2 o2 hi hbi hf2 g24 g27 g29 he
              have hin : i < n := by omega
              obtain ⟨mi, hmi, emi⟩ := hT i (by omega)
              have st := st_X12_step_81 (Qp := Qp) (M := N2) (eg_gi M 139 b) o2
              rw [rd N2 i hf2 (by omega) g24, if_pos hin, g24, n_s] at st
              have bd9 := bd N2 i hf2 (by omega) g24
              rw [g24] at bd9
              rw [lx_es hin] at he
              refine st bd9 (fun z => ?_) (fun z => ?_)
              · have hk2 : ¬ lx_k (eg_gi M 139 i) = -nI 2 := by
                  rw [emi] at z ⊢
                  exact fun y => z ((lxk_2 mi hmi).mp y)
                rw [if_neg hk2] at he
                rw [he] at f280
                exact f280 _ _ _ (fs_si hf2 (by omega)) g24 rfl g27 g29 (fun y => absurd y (show ¬ -nI 2 = -nI 3 by decide))
              · have hk2 : lx_k (eg_gi M 139 i) = -nI 2 := by
                  rw [emi] at z ⊢
                  exact (lxk_2 mi hmi).mpr z
                rw [if_pos hk2] at he
                exact ih (i + 1) _ o2 (by omega) (by omega) (fs_si hf2 (by omega)) rfl g27 g29 he
          exact lp (n - b) b _ o2 (by omega) (Nat.le_refl _) hf e24 e27 e29 rfl
      · rw [if_pos (by omega)] at hlx
        rw [hlx] at f280
        rw [if_neg c]
        have st := st_X12_step_61 (Qp := Qp) (M := N) (-nI 1) o2
        exact st (fun _ => f280 _ _ _ (fs_si hf (by omega)) e24 rfl e27 e29 (fun y => absurd y (show ¬ -nI 1 = -nI 3 by decide))) (fun z => absurd rfl z.1) (fun z => absurd rfl z.1) (fun z => absurd rfl z.1)
    have f39 : ∀ N b (o1 o2 : Option Value), m_fs M N → lx_b (eg_gi M 139) n (n - p) p = b → b ≤ n → eg_gi N 121 24 = nI b → eg_T wd k_X12_step Qp 39 0 0 [some (.ref 121), o1, o2] [] N := by
      intro N b o1 o2 hf hb hbn e24
      have st := st_X12_step_39 (Qp := Qp) (M := N) o1 o2
      have hf2 : m_fs M (eg_si (eg_si N 121 29 (eg_gi N 121 24)) 121 27 (nI 0)) := fs_si (fs_si hf (by omega)) (by omega)
      have r9 := rd _ b hf2 hbn e24
      have b9 := bd _ b hf2 hbn e24
      refine st b9 ?_
      have := f61 _ b o2 hf2 hb hbn e24 rfl e24
      rw [← r9] at this
      exact this
    have lb : ∀ f i N, i + f = n → m_fs M N → eg_gi N 121 24 = nI i → lx_b (eg_gi M 139) n (n - p) p = lx_b (eg_gi M 139) n (n - i) i → eg_T wd k_X12_step Qp 0 0 0 [some (.ref 121), none, none] [] N := by
      intro f
      induction f with
      | zero =>
        intro i N hi hf e24 he
        have st := st_X12_step_0 (Qp := Qp) (M := N)
        rw [rd N i hf (by omega) e24, if_neg (by omega)] at st
        rw [show n - i = 0 by omega] at he
        exact st (bd N i hf (by omega) e24) (fun z => absurd z (by decide)) (fun _ => f39 N i _ _ hf he (by omega) e24)
      | succ f ih =>
        intro i N hi hf e24 he
        have hin : i < n := by omega
        have st := st_X12_step_0 (Qp := Qp) (M := N)
        rw [rd N i hf (by omega) e24, if_pos hin] at st
        rw [lx_bs hin] at he
        refine st (bd N i hf (by omega) e24) (fun z => ?_) (fun z => f39 N i _ _ hf ?_ (by omega) e24)
        · rw [if_pos z] at he
          refine ih (i + 1) _ (by omega) (fs_si hf (by omega)) ?_ he
          show eg_gi N 121 24 + nI 1 = _
          rw [e24, n_s]
        · rw [if_neg (fun y => y.elim z.1 z.2)] at he
          exact he
    exact lb (n - p) p M (by omega) (fs_rf M) ep rfl
    
  · exact h.elim
theorem de_X12_step : ∀ q ∈ k_X12_step.1, decode cX12_step q.1 = .ok q.2 := by decide +kernel
theorem me_X12_step (g : gl_T) : MT g yX12_step cX12_step 3 none ⟨1, 0, 0, 24⟩ 0 0 s_X12_step := by
  intro hl
  exact eg_met_of (k := k_X12_step) (by decide) rfl ⟨Nat.le_refl _, Nat.le_refl _⟩ rfl sz_X12_step de_X12_step (fun meth hn => (fc (eg_FL_of wd_c12 (by decide) lf_RX12_260 (fun _ => Or.inl rfl)) (fc (eg_FL_of wd_c12 (by decide) lf_RX12_266 (fun _ => Or.inl rfl)) (fc (eg_FL_of wd_c12 (by decide) lf_RX12_269 (fun _ => Or.inl rfl)) (fc (eg_FL_of wd_c12 (by decide) lf_RX12_272 (fun _ => Or.inl rfl)) (fc (eg_FL_of wd_c12 (by decide) lf_RX12_281 (fun _ => Or.inl rfl)) (fc (eg_FL_of wd_c12 (by decide) lf_RX12_291 (fun _ => Or.inl rfl)) (fn)))))))) (fun A s H hE => (fc (List.mem_cons_of_mem _ lk_RX12_284) (fn))) (fun p e s m args below meth c Q A ad0 N0 S0 hK hEx hA => (fc (mt_S hl S0 hK hEx hA (me_X12_isLetter g) lm_RX12_275 ls_X12_isLetter ln_RX12 lc_X12_isLetter ⟨rfl, by decide, by decide, by decide +kernel⟩ ⟨rfl, rfl⟩ ⟨by decide, by decide⟩ (by decide)) (fc (mt_S hl S0 hK hEx hA (me_X12_isDigit g) lm_RX12_278 ls_X12_isDigit ln_RX12 lc_X12_isDigit ⟨rfl, by decide, by decide, by decide +kernel⟩ ⟨rfl, rfl⟩ ⟨by decide, by decide⟩ (by decide)) (fc (mt_J9_min_7cf53 S0 lm_RX12_285 (by decide) (by decide) (by decide)) (fc (mt_V hl S0 hK hEx hA (me_X12_byteAt g) lm_RX12_263 li_X12_byteAt lx_X12_byteAt ln_RX12 lc_X12_byteAt ⟨rfl, by decide, by decide, by decide +kernel⟩ ⟨rfl, rfl⟩ ⟨by decide, by decide⟩ (ci := 12) rfl rfl sr_X12_byteAt (by decide)) (fn)))))) (fun p e s m args below meth c Qc XC A ad0 N0 P S0 hK hEx hA hlk hout hPX => (fn)) (fun argv M Qp h => T_X12_step h)

/-- the i-th of the wishes in a row -/
def w4 (row : Int32) (i : Nat) : Int32 := (row >>> (nI (4 * i) &&& 31)) &&& nI 15
/-- the model: the first i wishes are towns, not t itself, none twice -/
def m_wo (M : eg_M) (t row : Int32) (i : Nat) : Prop := (¬ w4 row i < 0 ∧ ¬ eg_gi M 121 3 ≤ w4 row i) ∧ ¬ w4 row i = t ∧ ∀ j, j < i → ¬ w4 row j = w4 row i
def m_wk (M : eg_M) (t b row : Int32) : Prop := (¬ b < nI 0 ∧ ¬ nI 6 < b) ∧ ∀ i, i < b.toNatClampNeg → m_wo M t row i
def m_wm (M : eg_M) (t b row : Int32) (n : Nat) : eg_M := eg_ri (eg_si (eg_si M 121 1 (nI 0)) 170 t.toNatClampNeg b) 171 (fun j => if 6 * t.toNatClampNeg ≤ j ∧ j < 6 * t.toNatClampNeg + n then w4 row (j - 6 * t.toNatClampNeg) else eg_gi M 171 j)
def k_X12_wish : eg_C := ([(0, .aload_n 0, 1), (1, .iconst 0, 1), (2, .putfield 213, 3), (5, .aload_n 0, 1), (6, .iload_n 1, 1), (7, .invokevirtual 226, 3), (10, .ifCond .ne 9, 3), (13, .aload_n 0, 1), (14, .iconst 1, 1), (15, .invokevirtual 251, 3), (18, .ireturn, 1), (19, .iload_n 2, 1), (20, .iconst 0, 1), (21, .bipush 6, 2), (23, .invokestatic 219, 3), (26, .ifCond .ne 5, 3), (29, .iconst 0, 1), (30, .ireturn, 1), (31, .iconst 0, 1), (32, .istore 4, 2), (34, .iload 4, 2), (36, .iload_n 2, 1), (37, .if_icmp .ge 69, 3), (40, .iload_n 3, 1), (41, .iconst 4, 1), (42, .iload 4, 2), (44, .imul, 1), (45, .ishr, 1), (46, .bipush 15, 2), (48, .iand, 1), (49, .istore 5, 2), (51, .aload_n 0, 1), (52, .iload 5, 2), (54, .invokevirtual 226, 3), (57, .ifCond .eq 9, 3), (60, .iload 5, 2), (62, .iload_n 1, 1), (63, .if_icmp .ne 5, 3), (66, .iconst 0, 1), (67, .ireturn, 1), (68, .iconst 0, 1), (69, .istore 6, 2), (71, .iload 6, 2), (73, .iload 4, 2), (75, .if_icmp .ge 25, 3), (78, .iload_n 3, 1), (79, .iconst 4, 1), (80, .iload 6, 2), (82, .imul, 1), (83, .ishr, 1), (84, .bipush 15, 2), (86, .iand, 1), (87, .iload 5, 2), (89, .if_icmp .ne 5, 3), (92, .iconst 0, 1), (93, .ireturn, 1), (94, .iinc 6 1, 3), (97, .goto (-26), 3), (100, .iinc 4 1, 3), (103, .goto (-69), 3), (106, .aload_n 0, 1), (107, .getfield 192, 3), (110, .iload_n 1, 1), (111, .iload_n 2, 1), (112, .iastore, 1), (113, .iconst 0, 1), (114, .istore 4, 2), (116, .iload 4, 2), (118, .iload_n 2, 1), (119, .if_icmp .ge 30, 3), (122, .aload_n 0, 1), (123, .getfield 195, 3), (126, .bipush 6, 2), (128, .iload_n 1, 1), (129, .imul, 1), (130, .iload 4, 2), (132, .iadd, 1), (133, .iload_n 3, 1), (134, .iconst 4, 1), (135, .iload 4, 2), (137, .imul, 1), (138, .ishr, 1), (139, .bipush 15, 2), (141, .iand, 1), (142, .iastore, 1), (143, .iinc 4 1, 3), (146, .goto (-30), 3), (149, .iconst 1, 1), (150, .ireturn, 1)], [(192, 12, 74, false), (195, 12, 75, false), (213, 12, 1, true)], [], [(219 + 100000, 3, 0, 0, s_X12_isIn), (226, 1 + 1, 0, 0, s_X12_isTown), (251, 1 + 1, 0, 0, s_X12_refuse)], [], 2, 0, 0)
theorem mk_X12_wish : ∀ q ∈ k_X12_wish.2.2.2.1, eg_mono q.2.2.2.2 := (fc (mo_X12_isIn) (fc (mo_X12_isTown) (fc (mo_X12_refuse) (fn))))
set_option maxRecDepth 100000 in
theorem st_X12_wish_0 {Qp : eg_P} {M : eg_M} (t : Int32) (b : Int32) (row : Int32)
  (l0 : (¬ (¬ t < 0 ∧ ¬ (eg_gi (eg_si M 121 1 (nI 0)) 121 3) ≤ t)) → Qp (.inl (some (.int (nI 0)))) (eg_si (eg_si M 121 1 (nI 0)) 121 1 (nI 1)))
  (l1 : ((¬ t < 0 ∧ ¬ (eg_gi (eg_si M 121 1 (nI 0)) 121 3) ≤ t) ∧ (¬ (¬ b < (nI 0) ∧ ¬ (nI 6) < b))) → Qp (.inl (some (.int (nI 0)))) (eg_si M 121 1 (nI 0)))
  (l2 : ((¬ t < 0 ∧ ¬ (eg_gi (eg_si M 121 1 (nI 0)) 121 3) ≤ t) ∧ ((¬ b < (nI 0) ∧ ¬ (nI 6) < b))) → eg_T wd k_X12_wish Qp 34 0 0 [some (.ref 121), some (.int t), some (.int b), some (.int row), some (.int (nI 0)), none, none] [] (eg_si M 121 1 (nI 0))) :
  eg_T wd k_X12_wish Qp 0 0 0 [some (.ref 121), some (.int t), some (.int b), some (.int row), none, none, none] [] M := by
  refine eg_T_run mk_X12_wish (cut := [34, 71, 116]) 92 ?_
  refine And.intro (show (True) from ?_) ?_
  · exact trivial
  refine And.intro (fun (c1 : (b2i (decide (¬ t < 0 ∧ ¬ (eg_gi (eg_si M 121 1 (nI 0)) 121 3) ≤ t))) = 0) => ?_) (fun (c1 : ¬ (b2i (decide (¬ t < 0 ∧ ¬ (eg_gi (eg_si M 121 1 (nI 0)) 121 3) ≤ t))) = 0) => ?_)
  · replace c1 := b2i_d0.mp c1
    refine And.intro (fun _ => (show (nI 0) = 0 ∨ (nI 0) = 1 from ?_)) ?_
    · exact Or.inl rfl
    refine And.intro (fun _ => (show (nI 0) = 0 ∨ (nI 0) = 1 from ?_)) ?_
    · exact Or.inl rfl
    show Qp (.inl (some (.int (nI 0)))) (eg_si (eg_si M 121 1 (nI 0)) 121 1 (nI 1))
    exact l0 c1
  · replace c1 := b2i_dn.mp c1
    refine And.intro (show (True) from ?_) ?_
    · exact trivial
    refine And.intro (fun (c2 : (b2i (decide (¬ b < (nI 0) ∧ ¬ (nI 6) < b))) = 0) => ?_) (fun (c2 : ¬ (b2i (decide (¬ b < (nI 0) ∧ ¬ (nI 6) < b))) = 0) => ?_)
    · replace c2 := b2i_d0.mp c2
      refine And.intro (fun _ => (show (nI 0) = 0 ∨ (nI 0) = 1 from ?_)) ?_
      · exact Or.inl rfl
      show Qp (.inl (some (.int (nI 0)))) (eg_si M 121 1 (nI 0))
      exact l1 ⟨(Classical.byContradiction c1), c2⟩
    · replace c2 := b2i_dn.mp c2
      show eg_T wd k_X12_wish Qp 34 0 0 [some (.ref 121), some (.int t), some (.int b), some (.int row), some (.int (nI 0)), none, none] [] (eg_si M 121 1 (nI 0))
      exact l2 ⟨(Classical.byContradiction c1), (Classical.byContradiction c2)⟩

set_option maxRecDepth 100000 in
theorem st_X12_wish_34 {Qp : eg_P} {M : eg_M} (t : Int32) (b : Int32) (row : Int32) (x4 : Int32) (o5 : Option Value) (o6 : Option Value)
  (g0 : (b ≤ x4) → (vp_in t 16))
  (l0 : (b ≤ x4) → eg_T wd k_X12_wish Qp 116 0 0 [some (.ref 121), some (.int t), some (.int b), some (.int row), some (.int (nI 0)), o5, o6] [] (eg_si M 170 t.toNatClampNeg b))
  (l1 : (¬ b ≤ x4 ∧ ((¬ (¬ ((row >>> (((nI 4) * x4) &&& 31)) &&& (nI 15)) < 0 ∧ ¬ (eg_gi M 121 3) ≤ ((row >>> (((nI 4) * x4) &&& 31)) &&& (nI 15)))) ∨ ((row >>> (((nI 4) * x4) &&& 31)) &&& (nI 15)) = t)) → Qp (.inl (some (.int (nI 0)))) M)
  (l2 : (¬ b ≤ x4 ∧ ((¬ ((row >>> (((nI 4) * x4) &&& 31)) &&& (nI 15)) < 0 ∧ ¬ (eg_gi M 121 3) ≤ ((row >>> (((nI 4) * x4) &&& 31)) &&& (nI 15))) ∧ ¬ ((row >>> (((nI 4) * x4) &&& 31)) &&& (nI 15)) = t)) → eg_T wd k_X12_wish Qp 71 0 0 [some (.ref 121), some (.int t), some (.int b), some (.int row), some (.int x4), some (.int ((row >>> (((nI 4) * x4) &&& 31)) &&& (nI 15))), some (.int (nI 0))] [] M) :
  eg_T wd k_X12_wish Qp 34 0 0 [some (.ref 121), some (.int t), some (.int b), some (.int row), some (.int x4), o5, o6] [] M := by
  refine eg_T_run mk_X12_wish (cut := [34, 71, 116]) 92 ?_
  refine And.intro (fun (c1 : b ≤ x4) => ?_) (fun (c1 : ¬ b ≤ x4) => ?_)
  · skip
    refine And.intro (show vp_in t 16 from ?_) ?_
    · exact g0 c1
    show eg_T wd k_X12_wish Qp 116 0 0 [some (.ref 121), some (.int t), some (.int b), some (.int row), some (.int (nI 0)), o5, o6] [] (eg_si M 170 t.toNatClampNeg b)
    exact l0 c1
  · skip
    refine And.intro (show (True) from ?_) ?_
    · exact trivial
    refine And.intro (fun (c2 : (b2i (decide (¬ ((row >>> (((nI 4) * x4) &&& 31)) &&& (nI 15)) < 0 ∧ ¬ (eg_gi M 121 3) ≤ ((row >>> (((nI 4) * x4) &&& 31)) &&& (nI 15))))) = 0) => ?_) (fun (c2 : ¬ (b2i (decide (¬ ((row >>> (((nI 4) * x4) &&& 31)) &&& (nI 15)) < 0 ∧ ¬ (eg_gi M 121 3) ≤ ((row >>> (((nI 4) * x4) &&& 31)) &&& (nI 15))))) = 0) => ?_)
    · replace c2 := b2i_d0.mp c2
      refine And.intro (fun _ => (show (nI 0) = 0 ∨ (nI 0) = 1 from ?_)) ?_
      · exact Or.inl rfl
      show Qp (.inl (some (.int (nI 0)))) M
      exact l1 ⟨c1, (Or.inl c2)⟩
    · replace c2 := b2i_dn.mp c2
      refine And.intro (fun (c3 : ((row >>> (((nI 4) * x4) &&& 31)) &&& (nI 15)) = t) => ?_) (fun (c3 : ¬ ((row >>> (((nI 4) * x4) &&& 31)) &&& (nI 15)) = t) => ?_)
      · skip
        refine And.intro (fun _ => (show (nI 0) = 0 ∨ (nI 0) = 1 from ?_)) ?_
        · exact Or.inl rfl
        show Qp (.inl (some (.int (nI 0)))) M
        exact l1 ⟨c1, (Or.inr c3)⟩
      · skip
        show eg_T wd k_X12_wish Qp 71 0 0 [some (.ref 121), some (.int t), some (.int b), some (.int row), some (.int x4), some (.int ((row >>> (((nI 4) * x4) &&& 31)) &&& (nI 15))), some (.int (nI 0))] [] M
        exact l2 ⟨c1, ⟨(Classical.byContradiction c2), c3⟩⟩

set_option maxRecDepth 100000 in
theorem st_X12_wish_71 {Qp : eg_P} {M : eg_M} (t : Int32) (b : Int32) (row : Int32) (x4 : Int32) (x5 : Int32) (x6 : Int32)
  (l0 : (x4 ≤ x6) → eg_T wd k_X12_wish Qp 34 0 0 [some (.ref 121), some (.int t), some (.int b), some (.int row), some (.int (x4 + (nI 1))), some (.int x5), some (.int x6)] [] M)
  (l1 : (¬ x4 ≤ x6 ∧ ((row >>> (((nI 4) * x6) &&& 31)) &&& (nI 15)) = x5) → Qp (.inl (some (.int (nI 0)))) M)
  (l2 : (¬ x4 ≤ x6 ∧ ¬ ((row >>> (((nI 4) * x6) &&& 31)) &&& (nI 15)) = x5) → eg_T wd k_X12_wish Qp 71 0 0 [some (.ref 121), some (.int t), some (.int b), some (.int row), some (.int x4), some (.int x5), some (.int (x6 + (nI 1)))] [] M) :
  eg_T wd k_X12_wish Qp 71 0 0 [some (.ref 121), some (.int t), some (.int b), some (.int row), some (.int x4), some (.int x5), some (.int x6)] [] M := by
  refine eg_T_run mk_X12_wish (cut := [34, 71, 116]) 92 ?_
  refine And.intro (fun (c1 : x4 ≤ x6) => ?_) (fun (c1 : ¬ x4 ≤ x6) => ?_)
  · skip
    show eg_T wd k_X12_wish Qp 34 0 0 [some (.ref 121), some (.int t), some (.int b), some (.int row), some (.int (x4 + (nI 1))), some (.int x5), some (.int x6)] [] M
    exact l0 c1
  · skip
    refine And.intro (fun (c2 : ((row >>> (((nI 4) * x6) &&& 31)) &&& (nI 15)) = x5) => ?_) (fun (c2 : ¬ ((row >>> (((nI 4) * x6) &&& 31)) &&& (nI 15)) = x5) => ?_)
    · skip
      refine And.intro (fun _ => (show (nI 0) = 0 ∨ (nI 0) = 1 from ?_)) ?_
      · exact Or.inl rfl
      show Qp (.inl (some (.int (nI 0)))) M
      exact l1 ⟨c1, c2⟩
    · skip
      show eg_T wd k_X12_wish Qp 71 0 0 [some (.ref 121), some (.int t), some (.int b), some (.int row), some (.int x4), some (.int x5), some (.int (x6 + (nI 1)))] [] M
      exact l2 ⟨c1, c2⟩

set_option maxRecDepth 100000 in
theorem st_X12_wish_116 {Qp : eg_P} {M : eg_M} (t : Int32) (b : Int32) (row : Int32) (x4 : Int32) (o5 : Option Value) (o6 : Option Value)
  (g0 : (¬ (b ≤ x4)) → (vp_in (((nI 6) * t) + x4) 96))
  (l0 : (b ≤ x4) → Qp (.inl (some (.int (nI 1)))) M)
  (l1 : (¬ b ≤ x4) → eg_T wd k_X12_wish Qp 116 0 0 [some (.ref 121), some (.int t), some (.int b), some (.int row), some (.int (x4 + (nI 1))), o5, o6] [] (eg_si M 171 (((nI 6) * t) + x4).toNatClampNeg ((row >>> (((nI 4) * x4) &&& 31)) &&& (nI 15)))) :
  eg_T wd k_X12_wish Qp 116 0 0 [some (.ref 121), some (.int t), some (.int b), some (.int row), some (.int x4), o5, o6] [] M := by
  refine eg_T_run mk_X12_wish (cut := [34, 71, 116]) 92 ?_
  refine And.intro (fun (c1 : b ≤ x4) => ?_) (fun (c1 : ¬ b ≤ x4) => ?_)
  · skip
    refine And.intro (fun _ => (show (nI 1) = 0 ∨ (nI 1) = 1 from ?_)) ?_
    · exact Or.inr rfl
    show Qp (.inl (some (.int (nI 1)))) M
    exact l0 c1
  · skip
    refine And.intro (show vp_in (((nI 6) * t) + x4) 96 from ?_) ?_
    · exact g0 c1
    show eg_T wd k_X12_wish Qp 116 0 0 [some (.ref 121), some (.int t), some (.int b), some (.int row), some (.int (x4 + (nI 1))), o5, o6] [] (eg_si M 171 (((nI 6) * t) + x4).toNatClampNeg ((row >>> (((nI 4) * x4) &&& 31)) &&& (nI 15)))
    exact l1 c1

def s_X12_wish : eg_S := fun argv M Qp => match argv with
  | [.ref 121, .int t, .int b, .int row] => (eg_cn (eg_gi M 121 3) 16) ∧ ∀ (v : Bool) (M2 : eg_M), ((¬ (¬ t < 0 ∧ ¬ eg_gi M 121 3 ≤ t) ∧ v = false ∧ M2 = eg_si M 121 1 (nI 1)) ∨ ((¬ t < 0 ∧ ¬ eg_gi M 121 3 ≤ t) ∧ ¬ m_wk M t b row ∧ v = false ∧ M2 = eg_si M 121 1 (nI 0)) ∨ ((¬ t < 0 ∧ ¬ eg_gi M 121 3 ≤ t) ∧ m_wk M t b row ∧ v = true ∧ M2 = m_wm M t b row b.toNatClampNeg)) → Qp (.inl (some (.int (b2i v)))) M2
  | _ => False
theorem mo_X12_wish : eg_mono s_X12_wish := by
  intro argv M Q Q' h
  unfold s_X12_wish
  split
  · exact fun z => ⟨z.1, fun v M2 y => h _ _ (z.2 v M2 y)⟩
  · exact id
theorem sz_X12_wish : ∀ argv M Qp, s_X12_wish argv M Qp → (eg_ls0 argv).length ≤ 7 := by
  intro argv M Qp h
  unfold s_X12_wish at h
  split at h
  · exact Nat.le_of_ble_eq_true rfl
  · exact h.elim
theorem sr_X12_wish : ∀ argv M Qp, s_X12_wish argv M Qp → ∃ p0 As, argv = .ref p0 :: As ∧ eg_isO wd M p0 12 = true := by
  intro argv M Qp h
  unfold s_X12_wish at h
  split at h
  · exact ⟨_, _, rfl, rfl⟩
  · exact h.elim
set_option maxRecDepth 100000 in
set_option maxHeartbeats 4000000 in
theorem T_X12_wish {argv : List Value} {M : eg_M} {Qp : eg_P} (h : s_X12_wish argv M Qp) : eg_T wd k_X12_wish Qp 0 0 0 (eg_lsN 7 argv) [] M := by
  unfold s_X12_wish at h
  split at h
  · rename_i t b row
    obtain ⟨hp, hq⟩ := h
    obtain ⟨m, hm, hN⟩ := hp
    refine st_X12_wish_0 t b row (fun z => ?_) (fun z => ?_) (fun z => ?_)
    · rw [si_si]
      exact hq false _ (Or.inl ⟨z, rfl, rfl⟩)
    · exact hq false _ (Or.inr (Or.inl ⟨z.1, fun y => z.2 y.1, rfl, rfl⟩))
    obtain ⟨zt, zb⟩ := z
    have zt : ¬ t < 0 ∧ ¬ eg_gi M 121 3 ≤ t := zt
    obtain ⟨n, hn, rfl⟩ : ∃ n, n ≤ 6 ∧ b = nI n := nI_of2 (M := nI 6) (by decide) zb.1 (Int32.not_lt.mp zb.2)
    obtain ⟨u, hu, rfl⟩ : ∃ u, u < 16 ∧ t = nI u := by
      obtain ⟨u, hu, e⟩ := nI_of zt.1
      refine ⟨u, ?_, e⟩
      have := zt.2
      rw [hN, e, n_le (by omega) (by omega)] at this
      omega
    have bad : (∃ i, i < n ∧ ¬ m_wo M (nI u) row i) → Qp (.inl (some (.int (nI 0)))) (eg_si M 121 1 (nI 0)) := by
      rintro ⟨i, hi, hw⟩
      exact hq false _ (Or.inr (Or.inl ⟨zt, fun y => hw (y.2 i (by rw [n_c (by omega)]; exact hi)), rfl, rfl⟩))
    have fin : (∀ i, i < n → m_wo M (nI u) row i) → ∀ i (_ : Unit), i ≤ n → True → ∀ o5 o6, eg_T wd k_X12_wish Qp 116 0 0 [some (.ref 121), some (.int (nI u)), some (.int (nI n)), some (.int row), some (.int (nI i)), o5, o6] [] (m_wm M (nI u) (nI n) row i) := by
      intro hok
      refine eg_for ?_
      intro i _ hi _ kk o5 o6
      have st := st_X12_wish_116 (Qp := Qp) (M := m_wm M (nI u) (nI n) row i) (nI u) (nI n) row (nI i) o5 o6
      simp (disch := omega) only [n_c, n_le, n_in, n_s, n_m, Nat.not_le] at st
      refine st (fun z => by omega) (fun z => ?_) (fun z => ?_)
      · have : i = n := by omega
        subst this
        refine hq true _ (Or.inr (Or.inr ⟨zt, ⟨zb, ?_⟩, rfl, ?_⟩))
        · rw [n_c (by omega)]; exact hok
        · rw [n_c (i := i) (by omega)]
      · have := kk () z trivial o5 o6
        have e : eg_si (m_wm M (nI u) (nI n) row i) 171 (6 * u + i) (w4 row i) = m_wm M (nI u) (nI n) row (i + 1) := by
          unfold m_wm
          rw [si_ri]
          congr 1
          funext j
          rw [n_c (by omega)]
          by_cases y : j = 6 * u + i
          · rw [if_pos y, if_pos (by omega)]
            congr 1
            omega
          · rw [if_neg y]
            by_cases y2 : 6 * u ≤ j ∧ j < 6 * u + i
            · rw [if_pos y2, if_pos (by omega)]
            · rw [if_neg y2, if_neg (by omega)]
        rw [← e] at this
        exact this
    have lp : ∀ i (x : Option Value × Option Value), i ≤ n → (∀ j, j < i → m_wo M (nI u) row j) → eg_T wd k_X12_wish Qp 34 0 0 [some (.ref 121), some (.int (nI u)), some (.int (nI n)), some (.int row), some (.int (nI i)), x.1, x.2] [] (eg_si M 121 1 (nI 0)) := by
      refine eg_for ?_
      intro i ⟨o5, o6⟩ hi hI kk
      have st := st_X12_wish_34 (Qp := Qp) (M := eg_si M 121 1 (nI 0)) (nI u) (nI n) row (nI i) o5 o6
      simp (disch := omega) only [n_c, n_le, n_in, n_s, n_m, Nat.not_le] at st
      have s3 : eg_gi (eg_si M 121 1 (nI 0)) 121 3 = eg_gi M 121 3 := rfl
      rw [s3] at st
      refine st (fun _ => hu) (fun z => ?_) (fun z => ?_) (fun z => ?_)
      · have : i = n := by omega
        subst this
        have e : m_wm M (nI u) (nI i) row 0 = eg_si (eg_si M 121 1 (nI 0)) 170 u (nI i) := by
          unfold m_wm
          rw [n_c (by omega)]
          conv => rhs; rw [← ri_id (eg_si (eg_si M 121 1 (nI 0)) 170 u (nI i)) 171]
          congr 1
          funext j
          rw [if_neg (by omega)]
          rfl
        have := fin hI 0 () (Nat.zero_le _) trivial o5 o6
        rw [e] at this
        exact this
      · refine bad ⟨i, z.1, fun y => ?_⟩
        unfold m_wo w4 at y
        rcases z.2 with w | w
        · exact w y.1
        · exact y.2.1 w
      · have ij : ∀ j (_ : Unit), j ≤ i → (∀ j', j' < j → ¬ w4 row j' = w4 row i) → eg_T wd k_X12_wish Qp 71 0 0 [some (.ref 121), some (.int (nI u)), some (.int (nI n)), some (.int row), some (.int (nI i)), some (.int (w4 row i)), some (.int (nI j))] [] (eg_si M 121 1 (nI 0)) := by
          refine eg_for ?_
          intro j _ hj hJ k2
          have s2 := st_X12_wish_71 (Qp := Qp) (M := eg_si M 121 1 (nI 0)) (nI u) (nI n) row (nI i) (w4 row i) (nI j)
          simp (disch := omega) only [n_c, n_le, n_in, n_s, n_m, Nat.not_le] at s2
          refine s2 (fun y => ?_) (fun y => ?_) (fun y => ?_)
          · have : j = i := by omega
            subst this
            refine kk (_, _) z.1 (lt_s hI ⟨?_, ?_, hJ⟩)
            · exact z.2.1
            · exact z.2.2
          · exact bad ⟨i, z.1, fun w => w.2.2 j y.1 y.2⟩
          · exact k2 () y.1 (lt_s hJ y.2)
        exact ij 0 () (Nat.zero_le _) lt_0
    exact lp 0 (none, none) (Nat.zero_le _) lt_0
    
  · exact h.elim
theorem de_X12_wish : ∀ q ∈ k_X12_wish.1, decode cX12_wish q.1 = .ok q.2 := by decide +kernel
theorem me_X12_wish (g : gl_T) : MT g yX12_wish cX12_wish 7 (some .boolean) ⟨1, 0, 0, 22⟩ 0 0 s_X12_wish := by
  intro hl
  exact eg_met_of (k := k_X12_wish) (by decide) rfl ⟨Nat.le_refl _, Nat.le_refl _⟩ rfl sz_X12_wish de_X12_wish (fun meth hn => (fc (eg_FL_of wd_c12 (by decide) lf_RX12_192 (fun h => absurd h (by decide))) (fc (eg_FL_of wd_c12 (by decide) lf_RX12_195 (fun h => absurd h (by decide))) (fc (eg_FL_of wd_c12 (by decide) lf_RX12_213 (fun _ => Or.inl rfl)) (fn))))) (fun A s H hE => (fn)) (fun p e s m args below meth c Q A ad0 N0 S0 hK hEx hA => (fc (mt_S hl S0 hK hEx hA (me_X12_isIn g) lm_RX12_219 ls_X12_isIn ln_RX12 lc_X12_isIn ⟨rfl, by decide, by decide, by decide +kernel⟩ ⟨rfl, rfl⟩ ⟨by decide, by decide⟩ (by decide)) (fc (mt_V hl S0 hK hEx hA (me_X12_isTown g) lm_RX12_226 li_X12_isTown lx_X12_isTown ln_RX12 lc_X12_isTown ⟨rfl, by decide, by decide, by decide +kernel⟩ ⟨rfl, rfl⟩ ⟨by decide, by decide⟩ (ci := 12) rfl rfl sr_X12_isTown (by decide)) (fc (mt_V hl S0 hK hEx hA (me_X12_refuse g) lm_RX12_251 li_X12_refuse lx_X12_refuse ln_RX12 lc_X12_refuse ⟨rfl, by decide, by decide, by decide +kernel⟩ ⟨rfl, rfl⟩ ⟨by decide, by decide⟩ (ci := 12) rfl rfl eg_auto_rec (by decide)) (fn))))) (fun p e s m args below meth c Qc XC A ad0 N0 P S0 hK hEx hA hlk hout hPX => (fn)) (fun argv M Qp h => T_X12_wish h)

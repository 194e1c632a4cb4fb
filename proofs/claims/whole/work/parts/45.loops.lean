/-- the class: the pot, what it knows of the text -/
def k_pt (M : eg_M) : Nat := lnat (eg_gi M ((eg_ref (eg_sh wd M 1) M 1 5).getD 0) 1).toInt64
def k_pq (M : eg_M) : Prop := ∃ q P, eg_ref (eg_sh wd M 1) M 1 5 = some q ∧ eg_isO wd M q 8 = true ∧ P < 2 ^ 20 ∧ (eg_gi M q 1).toInt64 = lN P
/-- the class: the claim of the i-th in the year's row -/
def k_cn (M : eg_M) (i : Nat) : Nat := lnat (eg_gl M 40 (eg_gi M 42 i).toNatClampNeg)
/-- the year's row holds m visits -/
def k_ms (M : eg_M) (m : Nat) : Prop := m ≤ 200 ∧ (∀ i, i < m → vp_in (eg_gi M 42 i) 200) ∧ ∀ i j, i < j → j < m → ¬ (eg_gi M 42 i).toNatClampNeg = (eg_gi M 42 j).toNatClampNeg
theorem rg_s (c : Nat → Nat) (i : Nat) : g_sum c (List.range (i + 1)) = g_sum c (List.range i) + c i := by
  rw [List.range_succ, g_sum_a, g_sum_c]
  rfl
theorem rg_mono (c : Nat → Nat) {i n : Nat} (h : i ≤ n) : g_sum c (List.range i) ≤ g_sum c (List.range n) := by
  induction h with
  | refl => exact Nat.le_refl _
  | step _ ih => rw [rg_s]; omega
def k_X3_sharePot : eg_C := ([(0, .lload_n 2, 1), (1, .lconst 0, 1), (2, .lcmp, 1), (3, .ifCond .gt 4, 3), (6, .return_, 1), (7, .aload_n 0, 1), (8, .getfield 47, 3), (11, .getfield 209, 3), (14, .i2l, 1), (15, .lstore 4, 2), (17, .iconst 0, 1), (18, .istore 6, 2), (20, .iload 6, 2), (22, .iload_n 1, 1), (23, .if_icmp .ge 68, 3), (26, .aload_n 0, 1), (27, .getfield 47, 3), (30, .getfield 209, 3), (33, .i2l, 1), (34, .aload_n 0, 1), (35, .getfield 73, 3), (38, .aload_n 0, 1), (39, .getfield 80, 3), (42, .iload 6, 2), (44, .iaload, 1), (45, .laload, 1), (46, .lmul, 1), (47, .lstore 7, 2), (49, .aload_n 0, 1), (50, .getfield 77, 3), (53, .aload_n 0, 1), (54, .getfield 80, 3), (57, .iload 6, 2), (59, .iaload, 1), (60, .lload 7, 2), (62, .lload_n 2, 1), (63, .ldiv, 1), (64, .lastore, 1), (65, .aload_n 0, 1), (66, .getfield 83, 3), (69, .iload 6, 2), (71, .lload 7, 2), (73, .lload_n 2, 1), (74, .lrem, 1), (75, .lastore, 1), (76, .lload 4, 2), (78, .lload 7, 2), (80, .lload_n 2, 1), (81, .ldiv, 1), (82, .lsub, 1), (83, .lstore 4, 2), (85, .iinc 6 1, 3), (88, .goto (-68), 3), (91, .iconst 0, 1), (92, .istore 6, 2), (94, .iload 6, 2), (96, .iload_n 1, 1), (97, .if_icmp .ge 39, 3), (100, .aload_n 0, 1), (101, .iload 6, 2), (103, .iload_n 1, 1), (104, .invokevirtual 216, 3), (107, .i2l, 1), (108, .lload 4, 2), (110, .lcmp, 1), (111, .ifCond .ge 19, 3), (114, .aload_n 0, 1), (115, .getfield 77, 3), (118, .aload_n 0, 1), (119, .getfield 80, 3), (122, .iload 6, 2), (124, .iaload, 1), (125, .dup2, 1), (126, .laload, 1), (127, .lconst 1, 1), (128, .ladd, 1), (129, .lastore, 1), (130, .iinc 6 1, 3), (133, .goto (-39), 3), (136, .return_, 1)], [(47, 3, 5, false), (73, 3, 13, false), (77, 3, 14, false), (80, 3, 15, false), (83, 3, 16, false), (209, 8, 1, false)], [], [(216, 2 + 1, 0, 0, s_X3_losersAhead)], [], 0, 0, 0)
theorem mk_X3_sharePot : ∀ q ∈ k_X3_sharePot.2.2.2.1, eg_mono q.2.2.2.2 := (fc (mo_X3_losersAhead) (fn))
set_option maxRecDepth 100000 in
theorem st_X3_sharePot_0 {Qp : eg_P} {M : eg_M} (a : Int32) (b : Int64)
  (l0 : ((lN 0) < b) → eg_T wd k_X3_sharePot Qp 11 0 0 [some (.ref 1), some (.int a), some (.long b), none, none, none, none, none, none] [eg_rv (eg_ref (eg_sh wd M 1) M 1 5)] M)
  (l1 : (¬ (lN 0) < b) → Qp (.inl none) M) :
  eg_T wd k_X3_sharePot Qp 0 0 0 [some (.ref 1), some (.int a), some (.long b), none, none, none, none, none, none] [] M := by
  refine eg_T_run mk_X3_sharePot (cut := [11, 20, 30, 94]) 83 ?_
  refine And.intro (fun (c1 : 0 < (lg_cmp b (lN 0))) => ?_) (fun (c1 : ¬ 0 < (lg_cmp b (lN 0))) => ?_)
  · replace c1 := lgc_gt.mp c1
    show eg_T wd k_X3_sharePot Qp 11 0 0 [some (.ref 1), some (.int a), some (.long b), none, none, none, none, none, none] [eg_rv (eg_ref (eg_sh wd M 1) M 1 5)] M
    exact l0 c1
  · replace c1 := mt lgc_gt.mpr c1
    show Qp (.inl none) M
    exact l1 c1

set_option maxRecDepth 100000 in
theorem st_X3_sharePot_11 {Qp : eg_P} {M : eg_M} (a : Int32) (b : Int64) (o4 : Option Value) (o5 : Option Value) (o6 : Option Value) (o7 : Option Value) (o8 : Option Value) (s0 : Nat)
  (g0 : (eg_isO wd M s0 8 = true))
  (l0 : eg_T wd k_X3_sharePot Qp 20 0 0 [some (.ref 1), some (.int a), some (.long b), none, some (.long ((eg_gi M s0 1).toInt64)), none, some (.int (nI 0)), o7, o8] [] M) :
  eg_T wd k_X3_sharePot Qp 11 0 0 [some (.ref 1), some (.int a), some (.long b), none, o4, o5, o6, o7, o8] [.ref s0] M := by
  refine eg_T_run mk_X3_sharePot (cut := [11, 20, 30, 94]) 83 ?_
  refine eg_need_of (show eg_isO wd M s0 8 = true from ?_) ?_
  · exact g0
  show eg_T wd k_X3_sharePot Qp 20 0 0 [some (.ref 1), some (.int a), some (.long b), none, some (.long ((eg_gi M s0 1).toInt64)), none, some (.int (nI 0)), o7, o8] [] M
  exact l0

set_option maxRecDepth 100000 in
theorem st_X3_sharePot_20 {Qp : eg_P} {M : eg_M} (a : Int32) (b : Int64) (x4 : Int64) (x6 : Int32) (o7 : Option Value) (o8 : Option Value)
  (l0 : (a ≤ x6) → eg_T wd k_X3_sharePot Qp 94 0 0 [some (.ref 1), some (.int a), some (.long b), none, some (.long x4), none, some (.int (nI 0)), o7, o8] [] M)
  (l1 : (¬ a ≤ x6) → eg_T wd k_X3_sharePot Qp 30 0 0 [some (.ref 1), some (.int a), some (.long b), none, some (.long x4), none, some (.int x6), o7, o8] [eg_rv (eg_ref (eg_sh wd M 1) M 1 5)] M) :
  eg_T wd k_X3_sharePot Qp 20 0 0 [some (.ref 1), some (.int a), some (.long b), none, some (.long x4), none, some (.int x6), o7, o8] [] M := by
  refine eg_T_run mk_X3_sharePot (cut := [11, 20, 30, 94]) 83 ?_
  refine And.intro (fun (c1 : a ≤ x6) => ?_) (fun (c1 : ¬ a ≤ x6) => ?_)
  · skip
    show eg_T wd k_X3_sharePot Qp 94 0 0 [some (.ref 1), some (.int a), some (.long b), none, some (.long x4), none, some (.int (nI 0)), o7, o8] [] M
    exact l0 c1
  · skip
    show eg_T wd k_X3_sharePot Qp 30 0 0 [some (.ref 1), some (.int a), some (.long b), none, some (.long x4), none, some (.int x6), o7, o8] [eg_rv (eg_ref (eg_sh wd M 1) M 1 5)] M
    exact l1 c1

set_option maxRecDepth 100000 in
theorem st_X3_sharePot_30 {Qp : eg_P} {M : eg_M} (a : Int32) (b : Int64) (x4 : Int64) (x6 : Int32) (o7 : Option Value) (o8 : Option Value) (s0 : Nat)
  (g0 : (eg_isO wd M s0 8 = true))
  (g1 : (vp_in x6 200))
  (g2 : (vp_in (eg_gi M 42 x6.toNatClampNeg) 200))
  (g3 : (¬ b = 0))
  (l0 : eg_T wd k_X3_sharePot Qp 20 0 0 [some (.ref 1), some (.int a), some (.long b), none, some (.long (x4 - ((((eg_gi M s0 1).toInt64) * (eg_gl M 40 (eg_gi M 42 x6.toNatClampNeg).toNatClampNeg)) / b))), none, some (.int (x6 + (nI 1))), some (.long (((eg_gi M s0 1).toInt64) * (eg_gl M 40 (eg_gi M 42 x6.toNatClampNeg).toNatClampNeg))), none] [] (eg_sl (eg_sl M 41 (eg_gi M 42 x6.toNatClampNeg).toNatClampNeg ((((eg_gi M s0 1).toInt64) * (eg_gl M 40 (eg_gi M 42 x6.toNatClampNeg).toNatClampNeg)) / b)) 43 x6.toNatClampNeg ((((eg_gi M s0 1).toInt64) * (eg_gl M 40 (eg_gi M 42 x6.toNatClampNeg).toNatClampNeg)) - (((eg_gi M s0 1).toInt64) * (eg_gl M 40 (eg_gi M 42 x6.toNatClampNeg).toNatClampNeg)) / b * b))) :
  eg_T wd k_X3_sharePot Qp 30 0 0 [some (.ref 1), some (.int a), some (.long b), none, some (.long x4), none, some (.int x6), o7, o8] [.ref s0] M := by
  refine eg_T_run mk_X3_sharePot (cut := [11, 20, 30, 94]) 83 ?_
  refine eg_need_of (show eg_isO wd M s0 8 = true from ?_) ?_
  · exact g0
  refine And.intro (show vp_in x6 200 from ?_) ?_
  · exact g1
  refine And.intro (show vp_in (eg_gi M 42 x6.toNatClampNeg) 200 from ?_) ?_
  · exact g2
  refine And.intro (show vp_in x6 200 from ?_) ?_
  · exact g1
  refine And.intro (show ¬ b = 0 from ?_) ?_
  · exact g3
  refine And.intro (show vp_in (eg_gi M 42 x6.toNatClampNeg) 200 from ?_) ?_
  · exact g2
  refine And.intro (show ¬ b = 0 from ?_) ?_
  · exact g3
  refine And.intro (show vp_in x6 200 from ?_) ?_
  · exact g1
  refine And.intro (show ¬ b = 0 from ?_) ?_
  · exact g3
  show eg_T wd k_X3_sharePot Qp 20 0 0 [some (.ref 1), some (.int a), some (.long b), none, some (.long (x4 - ((((eg_gi M s0 1).toInt64) * (eg_gl M 40 (eg_gi M 42 x6.toNatClampNeg).toNatClampNeg)) / b))), none, some (.int (x6 + (nI 1))), some (.long (((eg_gi M s0 1).toInt64) * (eg_gl M 40 (eg_gi M 42 x6.toNatClampNeg).toNatClampNeg))), none] [] (eg_sl (eg_sl M 41 (eg_gi M 42 x6.toNatClampNeg).toNatClampNeg ((((eg_gi M s0 1).toInt64) * (eg_gl M 40 (eg_gi M 42 x6.toNatClampNeg).toNatClampNeg)) / b)) 43 x6.toNatClampNeg ((((eg_gi M s0 1).toInt64) * (eg_gl M 40 (eg_gi M 42 x6.toNatClampNeg).toNatClampNeg)) - (((eg_gi M s0 1).toInt64) * (eg_gl M 40 (eg_gi M 42 x6.toNatClampNeg).toNatClampNeg)) / b * b))
  exact l0

set_option maxRecDepth 100000 in
theorem st_X3_sharePot_94 {Qp : eg_P} {M : eg_M} (a : Int32) (o2 : Option Value) (o3 : Option Value) (x4 : Int64) (x6 : Int32) (o7 : Option Value) (o8 : Option Value)
  (g0 : (¬ (a ≤ x6)) → (∃ m, m ≤ 200 ∧ a = nI m ∧ vp_in x6 200))
  (g1 : (¬ (a ≤ x6)) → (¬ (x4 ≤ ((nI ((List.range a.toNatClampNeg).countP (k_ls M x6.toNatClampNeg))).toInt64))) → (vp_in x6 200))
  (g2 : (¬ (a ≤ x6)) → (¬ (x4 ≤ ((nI ((List.range a.toNatClampNeg).countP (k_ls M x6.toNatClampNeg))).toInt64))) → (vp_in (eg_gi M 42 x6.toNatClampNeg) 200))
  (l0 : (a ≤ x6) → Qp (.inl none) M)
  (l1 : (¬ a ≤ x6 ∧ x4 ≤ ((nI ((List.range a.toNatClampNeg).countP (k_ls M x6.toNatClampNeg))).toInt64)) → eg_T wd k_X3_sharePot Qp 94 0 0 [some (.ref 1), some (.int a), o2, o3, some (.long x4), none, some (.int (x6 + (nI 1))), o7, o8] [] M)
  (l2 : (¬ a ≤ x6 ∧ ¬ x4 ≤ ((nI ((List.range a.toNatClampNeg).countP (k_ls M x6.toNatClampNeg))).toInt64)) → eg_T wd k_X3_sharePot Qp 94 0 0 [some (.ref 1), some (.int a), o2, o3, some (.long x4), none, some (.int (x6 + (nI 1))), o7, o8] [] (eg_sl M 41 (eg_gi M 42 x6.toNatClampNeg).toNatClampNeg ((eg_gl M 41 (eg_gi M 42 x6.toNatClampNeg).toNatClampNeg) + (lN 1)))) :
  eg_T wd k_X3_sharePot Qp 94 0 0 [some (.ref 1), some (.int a), o2, o3, some (.long x4), none, some (.int x6), o7, o8] [] M := by
  refine eg_T_run mk_X3_sharePot (cut := [11, 20, 30, 94]) 83 ?_
  refine And.intro (fun (c1 : a ≤ x6) => ?_) (fun (c1 : ¬ a ≤ x6) => ?_)
  · skip
    show Qp (.inl none) M
    exact l0 c1
  · skip
    refine And.intro (show (∃ m, m ≤ 200 ∧ a = nI m ∧ vp_in x6 200) from ?_) ?_
    · exact g0 c1
    refine And.intro (fun (c2 : 0 ≤ (lg_cmp ((nI ((List.range a.toNatClampNeg).countP (k_ls M x6.toNatClampNeg))).toInt64) x4)) => ?_) (fun (c2 : ¬ 0 ≤ (lg_cmp ((nI ((List.range a.toNatClampNeg).countP (k_ls M x6.toNatClampNeg))).toInt64) x4)) => ?_)
    · replace c2 := lgc_ge.mp c2
      show eg_T wd k_X3_sharePot Qp 94 0 0 [some (.ref 1), some (.int a), o2, o3, some (.long x4), none, some (.int (x6 + (nI 1))), o7, o8] [] M
      exact l1 ⟨c1, c2⟩
    · replace c2 := mt lgc_ge.mpr c2
      refine And.intro (show vp_in x6 200 from ?_) ?_
      · exact g1 c1 c2
      refine And.intro (show vp_in (eg_gi M 42 x6.toNatClampNeg) 200 from ?_) ?_
      · exact g2 c1 c2
      refine And.intro (show vp_in (eg_gi M 42 x6.toNatClampNeg) 200 from ?_) ?_
      · exact g2 c1 c2
      show eg_T wd k_X3_sharePot Qp 94 0 0 [some (.ref 1), some (.int a), o2, o3, some (.long x4), none, some (.int (x6 + (nI 1))), o7, o8] [] (eg_sl M 41 (eg_gi M 42 x6.toNatClampNeg).toNatClampNeg ((eg_gl M 41 (eg_gi M 42 x6.toNatClampNeg).toNatClampNeg) + (lN 1)))
      exact l2 ⟨c1, c2⟩

def s_X3_sharePot : eg_S := fun argv M Qp => match argv with
  | [.ref 1, .int a, .long b] => ((∃ m, k_ms M m ∧ a = nI m) ∧ k_pq M ∧ (∀ i, i < a.toNatClampNeg → ∃ v, v < 2 ^ 24 ∧ eg_gl M 40 (eg_gi M 42 i).toNatClampNeg = lN v) ∧ b = lN (g_sum (k_cn M) (List.range a.toNatClampNeg)) ∧ k_pt M < g_sum (k_cn M) (List.range a.toNatClampNeg)) ∧ ∀ (g : Nat → Int64) (o : Nat → Int64), ((∀ i, i < a.toNatClampNeg → g (eg_gi M 42 i).toNatClampNeg = lN (g_gr (k_pt M) (k_cn M) (List.range a.toNatClampNeg) i)) ∧ ∀ e, (∀ i, i < a.toNatClampNeg → ¬ (eg_gi M 42 i).toNatClampNeg = e) → g e = eg_gl M 41 e) → Qp (.inl none) (eg_rl (eg_rl M 41 g) 43 o)
  | _ => False
theorem mo_X3_sharePot : eg_mono s_X3_sharePot := by
  intro argv M Q Q' h
  unfold s_X3_sharePot
  split
  · exact fun z => ⟨z.1, fun g o y => h _ _ (z.2 g o y)⟩
  · exact id
theorem sz_X3_sharePot : ∀ argv M Qp, s_X3_sharePot argv M Qp → (eg_ls0 argv).length ≤ 9 := by
  intro argv M Qp h
  unfold s_X3_sharePot at h
  split at h
  · exact Nat.le_of_ble_eq_true rfl
  · exact h.elim
theorem sr_X3_sharePot : ∀ argv M Qp, s_X3_sharePot argv M Qp → ∃ p0 As, argv = .ref p0 :: As ∧ eg_isO wd M p0 3 = true := by
  intro argv M Qp h
  unfold s_X3_sharePot at h
  split at h
  · exact ⟨_, _, rfl, rfl⟩
  · exact h.elim
set_option maxRecDepth 100000 in
set_option maxHeartbeats 1000000 in
theorem T_X3_sharePot {argv : List Value} {M : eg_M} {Qp : eg_P} (h : s_X3_sharePot argv M Qp) : eg_T wd k_X3_sharePot Qp 0 0 0 (eg_lsN 9 argv) [] M := by
  unfold s_X3_sharePot at h
  split at h
  · rename_i a b
    obtain ⟨hp, hq⟩ := h
    obtain ⟨⟨m, ⟨hm, hv, hd⟩, rfl⟩, ⟨q, P, hr, ho, hP, hPq⟩, hC, hb, hlt⟩ := hp
    rw [n_c (by omega)] at hC hb hlt hq
    have hPt : k_pt M = P := by
      unfold k_pt
      rw [hr]
      show lnat (eg_gi M q 1).toInt64 = P
      rw [hPq, lnat_lN (by omega)]
    rw [hPt] at hlt hq
    have hcv : ∀ i, i < m → eg_gl M 40 (eg_gi M 42 i).toNatClampNeg = lN (k_cn M i) ∧ k_cn M i < 2 ^ 24 := fun i hi => by
      obtain ⟨v, hv, e⟩ := hC i hi
      unfold k_cn
      rw [e, lnat_lN (by omega)]
      exact ⟨rfl, hv⟩
    generalize k_cn M = c at *
    have hS : g_sum c (List.range m) ≤ 200 * 2 ^ 24 := Nat.le_trans (g_sum_le (S := 2 ^ 24) (fun i hi => by have := (hcv i (List.mem_range.mp hi)).2; omega)) (by rw [List.length_range]; exact Nat.mul_le_mul_right _ hm)
    have hL := g_lf_lt (P := P) (c := c) (F := List.range m) hlt
    have hgr : ∀ i, g_gr P c (List.range m) i = g_bs P (g_sum c (List.range m)) c i + if g_rk (g_ov P (g_sum c (List.range m)) c) (List.range m) i < g_lf P (g_sum c (List.range m)) c (List.range m) then 1 else 0 := fun i => by
      unfold g_gr
      rw [if_neg (by omega)]
    simp only [hgr] at hq
    have hlf : g_lf P (g_sum c (List.range m)) c (List.range m) = P - g_sum (g_bs P (g_sum c (List.range m)) c) (List.range m) := rfl
    generalize g_lf P (g_sum c (List.range m)) c (List.range m) = lf at *
    generalize g_sum c (List.range m) = S at *
    rw [List.length_range] at hL
    have hbs : ∀ i, i < m → (lN P * lN (c i)) / lN S = lN (g_bs P S c i) ∧ lN P * lN (c i) - lN (g_bs P S c i) * lN S = lN (g_ov P S c i) := by
      intro i hi
      have h1 := (hcv i hi).2
      have e1 : (lN P * lN (c i)) / lN S = lN (g_bs P S c i) := by
        rw [lN_mul, pk_lDiv (Nat.lt_of_lt_of_le (Nat.mul_lt_mul'' hP h1) (by decide)) (by omega) (by omega)]
        rfl
      refine ⟨e1, ?_⟩
      rw [lN_mul, lN_mul]
      have h2 : g_bs P S c i * S ≤ P * c i := Nat.div_mul_le_self _ _
      rw [lN_sub h2]
      have h3 : S * g_bs P S c i + g_ov P S c i = P * c i := Nat.div_add_mod _ _
      rw [Nat.mul_comm] at h3
      rw [show P * c i - g_bs P S c i * S = g_ov P S c i by omega]
    have hov : ∀ i, g_ov P S c i < S := fun i => Nat.mod_lt _ (by omega)
    have lp2 : ∀ (o : Nat → Int64) (o7 o8 o2 o3 : Option Value), (∀ j, j < m → o j = lN (g_ov P S c j)) → ∀ i (g : Nat → Int64), i ≤ m → ((∀ j, j < m → g (eg_gi M 42 j).toNatClampNeg = lN (g_bs P S c j + if j < i ∧ g_rk (g_ov P S c) (List.range m) j < lf then 1 else 0)) ∧ ∀ e, (∀ j, j < m → ¬ (eg_gi M 42 j).toNatClampNeg = e) → g e = eg_gl M 41 e) → eg_T wd k_X3_sharePot Qp 94 0 0 [some (.ref 1), some (.int (nI m)), o2, o3, some (.long (lN lf)), none, some (.int (nI i)), o7, o8] [] (eg_rl (eg_rl M 41 g) 43 o) := by
      intro o o7 o8 o2 o3 hoo
      refine eg_for ?_
      intro i g hi ⟨hg, hg2⟩ kk
      have st := st_X3_sharePot_94 (Qp := Qp) (M := eg_rl (eg_rl M 41 g) 43 o) (nI m) o2 o3 (lN lf) (nI i) o7 o8
      have r42 : ∀ j, eg_gi (eg_rl (eg_rl M 41 g) 43 o) 42 j = eg_gi M 42 j := fun _ => rfl
      have r41 : ∀ j, eg_gl (eg_rl (eg_rl M 41 g) 43 o) 41 j = g j := fun _ => rfl
      have hck : i < m → (List.range m).countP (k_ls (eg_rl (eg_rl M 41 g) 43 o) i) = g_rk (g_ov P S c) (List.range m) i := by
        intro him
        unfold g_rk
        refine List.countP_congr (fun j hj => ?_)
        have hj := List.mem_range.mp hj
        unfold k_ls
        have r43 : ∀ j, eg_gl (eg_rl (eg_rl M 41 g) 43 o) 43 j = o j := fun _ => rfl
        have ei := hov i
        have ej := hov j
        rw [decide_eq_true_eq, decide_eq_true_eq, r43, r43, hoo i him, hoo j hj, l_lt (by omega) (by omega), pk_lEQ (by omega) (by omega)]
      simp (disch := omega) only [r42, r41, n_c, n_le, n_in, n_s, Nat.not_le] at st
      rcases Nat.lt_or_ge i m with him | him
      · have hrk : g_rk (g_ov P S c) (List.range m) i ≤ m := Nat.le_trans List.countP_le_length (by rw [List.length_range]; exact Nat.le_refl _)
        rw [hck him, nI_l (by omega), l_le (by omega) (by omega), Nat.not_le] at st
        refine st (fun _ => ⟨m, hm, rfl, by omega⟩) (fun _ _ => by omega) (fun z _ => hv i z) (fun z => absurd z (by omega)) (fun z => ?_) (fun z => ?_)
        · refine kk g him ⟨fun j hj => ?_, hg2⟩
          rw [hg j hj]
          congr 2
          by_cases w : j = i
          · subst w
            rw [if_neg (by omega), if_neg (by omega)]
          · by_cases w2 : j < i ∧ g_rk (g_ov P S c) (List.range m) j < lf
            · rw [if_pos w2, if_pos (by omega)]
            · rw [if_neg w2, if_neg (by omega)]
        · rw [sl_rl_n (by decide), sl_rl]
          refine kk _ him ⟨fun j hj => ?_, fun e he => ?_⟩
          · by_cases w : j = i
            · subst w
              rw [if_pos rfl, hg j hj, if_neg (by omega), if_pos (by omega), lN_add]
            · rw [if_neg, hg j hj]
              · congr 2
                by_cases w2 : j < i ∧ g_rk (g_ov P S c) (List.range m) j < lf
                · rw [if_pos w2, if_pos (by omega)]
                · rw [if_neg w2, if_neg (by omega)]
              · rcases Nat.lt_or_gt_of_ne w with w | w
                · exact hd j i w him
                · exact fun y => hd i j w hj y.symm
          · show (if e = (eg_gi M 42 i).toNatClampNeg then _ else g e) = _
            rw [if_neg (fun y => he i him y.symm)]
            exact hg2 e he
      · have : i = m := by omega
        subst this
        refine st (fun z => absurd z (by omega)) (fun z => absurd z (by omega)) (fun z => absurd z (by omega)) (fun _ => hq g o ⟨fun j hj => ?_, hg2⟩) (fun z => absurd z.1 (by omega)) (fun z => absurd z.1 (by omega))
        rw [hg j hj]
        congr 2
        by_cases w2 : g_rk (g_ov P S c) (List.range i) j < lf
        · rw [if_pos w2, if_pos ⟨hj, w2⟩]
        · rw [if_neg w2, if_neg (fun y => w2 y.2)]
    have lp1 : ∀ i (x : (Nat → Int64) × (Nat → Int64) × Option Value × Option Value), i ≤ m → ((∀ j, j < i → x.1 (eg_gi M 42 j).toNatClampNeg = lN (g_bs P S c j) ∧ x.2.1 j = lN (g_ov P S c j)) ∧ ∀ e, (∀ j, j < i → ¬ (eg_gi M 42 j).toNatClampNeg = e) → x.1 e = eg_gl M 41 e) → eg_T wd k_X3_sharePot Qp 20 0 0 [some (.ref 1), some (.int (nI m)), some (.long (lN S)), none, some (.long (lN (P - g_sum (g_bs P S c) (List.range i)))), none, some (.int (nI i)), x.2.2.1, x.2.2.2] [] (eg_rl (eg_rl M 41 x.1) 43 x.2.1) := by
      refine eg_for ?_
      intro i ⟨g, o, o7, o8⟩ hi ⟨hg, hg2⟩ kk
      dsimp only at hg hg2
      have st := st_X3_sharePot_20 (Qp := Qp) (M := eg_rl (eg_rl M 41 g) 43 o) (nI m) (lN S) (lN (P - g_sum (g_bs P S c) (List.range i))) (nI i) o7 o8
      rw [n_le (by omega) (by omega), Nat.not_le] at st
      refine st (fun z => ?_) (fun z => ?_)
      · have : i = m := by omega
        subst this
        rw [← hlf]
        refine lp2 o o7 o8 _ _ (fun j hj => (hg j hj).2) 0 g (Nat.zero_le _) ⟨fun j hj => ?_, hg2⟩
        rw [if_neg (by omega), (hg j hj).1]
        rfl
      · have hr' : eg_ref (eg_sh wd (eg_rl (eg_rl M 41 g) 43 o) 1) (eg_rl (eg_rl M 41 g) 43 o) 1 5 = some q := hr
        rw [hr']
        have s3 := st_X3_sharePot_30 (Qp := Qp) (M := eg_rl (eg_rl M 41 g) 43 o) (nI m) (lN S) (lN (P - g_sum (g_bs P S c) (List.range i))) (nI i) o7 o8 q ho
        have r42 : ∀ j, eg_gi (eg_rl (eg_rl M 41 g) 43 o) 42 j = eg_gi M 42 j := fun _ => rfl
        have r40 : ∀ j, eg_gl (eg_rl (eg_rl M 41 g) 43 o) 40 j = eg_gl M 40 j := fun _ => rfl
        have rq : eg_gi (eg_rl (eg_rl M 41 g) 43 o) q 1 = eg_gi M q 1 := rfl
        rw [n_c (by omega), r42, r40, rq, hPq, (hcv i z).1, (hbs i z).1, (hbs i z).2, n_s] at s3
        refine s3 (vp_in_nI (by omega) (by decide)) (hv i z) (fun y => absurd ((pk_lEQ (a := S) (b := 0) (by omega) (by decide)).mp y) (by omega)) ?_
        rw [sl_rl_n (by decide), sl_rl, sl_rl]
        have hle := rg_mono (g_bs P S c) (show i + 1 ≤ m from z)
        have hss := rg_s (g_bs P S c) i
        rw [lN_sub (by omega), show P - g_sum (g_bs P S c) (List.range i) - g_bs P S c i = P - g_sum (g_bs P S c) (List.range (i + 1)) by omega]
        refine kk ((fun j => if j = (eg_gi M 42 i).toNatClampNeg then lN (g_bs P S c i) else g j), (fun j => if j = i then lN (g_ov P S c i) else o j), some (.long (lN P * lN (c i))), none) z ⟨fun j hj => ?_, fun e he => ?_⟩
        · by_cases w : j = i
          · subst w
            dsimp only
            rw [if_pos rfl, if_pos rfl]
            exact ⟨rfl, rfl⟩
          · dsimp only
            rw [if_neg (hd j i (by omega) z), if_neg w]
            exact hg j (by omega)
        · dsimp only
          rw [if_neg (fun y => he i (by omega) y.symm)]
          exact hg2 e (fun j hj => he j (by omega))
    refine st_X3_sharePot_0 _ _ (fun _ => ?_) (fun z => ?_)
    · rw [hr]
      refine st_X3_sharePot_11 _ _ _ _ _ _ _ q ho ?_
      rw [hPq, hb]
      have := lp1 0 (eg_gl M 41, eg_gl M 43, none, none) (Nat.zero_le _) ⟨fun j hj => absurd hj (Nat.not_lt_zero _), fun e _ => rfl⟩
      dsimp only at this
      rw [rl_id, rl_id] at this
      exact this
    · rw [hb, show lN 0 = lN 0 from rfl, l_lt (by omega) (by omega)] at z
      omega
  · exact h.elim
theorem de_X3_sharePot : ∀ q ∈ k_X3_sharePot.1, decode cX3_sharePot q.1 = .ok q.2 := by decide +kernel
theorem me_X3_sharePot (g : gl_T) : MT g yX3_sharePot cX3_sharePot 9 none ⟨1, 0, 0, 24⟩ 0 0 s_X3_sharePot := by
  intro hl
  exact eg_met_of (k := k_X3_sharePot) (by decide) rfl ⟨Nat.le_refl _, Nat.le_refl _⟩ rfl sz_X3_sharePot de_X3_sharePot (fun meth hn => (fc (eg_FL_of wd_c3 (by decide) lf_RX3_47 (fun h => absurd h (by decide))) (fc (eg_FL_of wd_c3 (by decide) lf_RX3_73 (fun h => absurd h (by decide))) (fc (eg_FL_of wd_c3 (by decide) lf_RX3_77 (fun h => absurd h (by decide))) (fc (eg_FL_of wd_c3 (by decide) lf_RX3_80 (fun h => absurd h (by decide))) (fc (eg_FL_of wd_c3 (by decide) lf_RX3_83 (fun h => absurd h (by decide))) (fc (eg_FL_of wd_c8 (by decide) lf_RX3_209 (fun h => absurd h (by decide))) (fn)))))))) (fun A s H hE => (fn)) (fun p e s m args below meth c Q A ad0 N0 S0 hK hEx hA => (fc (mt_V hl S0 hK hEx hA (me_X3_losersAhead g) lm_RX3_216 li_X3_losersAhead lx_X3_losersAhead ln_RX3 lc_X3_losersAhead ⟨rfl, by decide, by decide, by decide +kernel⟩ ⟨rfl, rfl⟩ ⟨by decide, by decide⟩ (ci := 3) rfl rfl sr_X3_losersAhead (by decide)) (fn))) (fun p e s m args below meth c Qc XC A ad0 N0 P S0 hK hEx hA hlk hout hPX => (fn)) (fun argv M Qp h => T_X3_sharePot h)

/-- the class: what visit e costs -/
def k_co (M : eg_M) (e : Nat) : Int64 := (eg_gi M 15 e).toInt64 * (eg_gi M 17 e).toInt64 * (eg_gi M ((eg_ref (eg_sh wd M 1) M 1 5).getD 0) 2).toInt64
def k_X3_costOf_v : eg_C := ([(0, .aload_n 0, 1), (1, .getfield 28, 3), (4, .getfield 180, 3), (7, .iload_n 1, 1), (8, .iaload, 1), (9, .i2l, 1), (10, .aload_n 0, 1), (11, .getfield 28, 3), (14, .getfield 183, 3), (17, .iload_n 1, 1), (18, .iaload, 1), (19, .i2l, 1), (20, .lmul, 1), (21, .aload_n 0, 1), (22, .getfield 47, 3), (25, .getfield 199, 3), (28, .i2l, 1), (29, .lmul, 1), (30, .lreturn, 1)], [(28, 3, 2, false), (47, 3, 5, false), (180, 1, 2, false), (183, 1, 4, false), (199, 8, 2, false)], [], [], [], 3, 0, 0)
theorem mk_X3_costOf_v : ∀ q ∈ k_X3_costOf_v.2.2.2.1, eg_mono q.2.2.2.2 := (fn)
set_option maxRecDepth 100000 in
theorem st_X3_costOf_v_0 {Qp : eg_P} {M : eg_M} (e : Int32)
  (g0 : (vp_in e 200))
  (l0 : eg_T wd k_X3_costOf_v Qp 25 0 0 [some (.ref 1), some (.int e)] [eg_rv (eg_ref (eg_sh wd M 1) M 1 5), .long (((eg_gi M 15 e.toNatClampNeg).toInt64) * ((eg_gi M 17 e.toNatClampNeg).toInt64))] M) :
  eg_T wd k_X3_costOf_v Qp 0 0 0 [some (.ref 1), some (.int e)] [] M := by
  refine eg_T_run mk_X3_costOf_v (cut := [25]) 22 ?_
  refine And.intro (show vp_in e 200 from ?_) ?_
  · exact g0
  refine And.intro (show vp_in e 200 from ?_) ?_
  · exact g0
  show eg_T wd k_X3_costOf_v Qp 25 0 0 [some (.ref 1), some (.int e)] [eg_rv (eg_ref (eg_sh wd M 1) M 1 5), .long (((eg_gi M 15 e.toNatClampNeg).toInt64) * ((eg_gi M 17 e.toNatClampNeg).toInt64))] M
  exact l0

set_option maxRecDepth 100000 in
theorem st_X3_costOf_v_25 {Qp : eg_P} {M : eg_M} (o0 : Option Value) (o1 : Option Value) (s0 : Nat) (s1 : Int64)
  (g0 : (eg_isO wd M s0 8 = true))
  (l0 : Qp (.inl (some (.long (s1 * ((eg_gi M s0 2).toInt64))))) M) :
  eg_T wd k_X3_costOf_v Qp 25 0 0 [o0, o1] [.ref s0, .long s1] M := by
  refine eg_T_run mk_X3_costOf_v (cut := [25]) 22 ?_
  refine eg_need_of (show eg_isO wd M s0 8 = true from ?_) ?_
  · exact g0
  show Qp (.inl (some (.long (s1 * ((eg_gi M s0 2).toInt64))))) M
  exact l0

def s_X3_costOf_v : eg_S := fun argv M Qp => match argv with
  | [.ref 1, .int e] => (vp_in e 200 ∧ k_pq M) ∧ Qp (.inl (some (.long (k_co M e.toNatClampNeg)))) M
  | _ => False
theorem mo_X3_costOf_v : eg_mono s_X3_costOf_v := by
  intro argv M Q Q' h
  unfold s_X3_costOf_v
  split
  · exact fun z => ⟨z.1, h _ _ z.2⟩
  · exact id
theorem sz_X3_costOf_v : ∀ argv M Qp, s_X3_costOf_v argv M Qp → (eg_ls0 argv).length ≤ 2 := by
  intro argv M Qp h
  unfold s_X3_costOf_v at h
  split at h
  · exact Nat.le_of_ble_eq_true rfl
  · exact h.elim
theorem sr_X3_costOf_v : ∀ argv M Qp, s_X3_costOf_v argv M Qp → ∃ p0 As, argv = .ref p0 :: As ∧ eg_isO wd M p0 3 = true := by
  intro argv M Qp h
  unfold s_X3_costOf_v at h
  split at h
  · exact ⟨_, _, rfl, rfl⟩
  · exact h.elim
set_option maxRecDepth 100000 in
set_option maxHeartbeats 1000000 in
theorem T_X3_costOf_v {argv : List Value} {M : eg_M} {Qp : eg_P} (h : s_X3_costOf_v argv M Qp) : eg_T wd k_X3_costOf_v Qp 0 0 0 (eg_lsN 2 argv) [] M := by
  unfold s_X3_costOf_v at h
  split at h
  · rename_i e
    obtain ⟨hp, hq⟩ := h
    obtain ⟨he, q, P, hr, ho, _⟩ := hp
    refine st_X3_costOf_v_0 e he ?_
    rw [hr]
    refine st_X3_costOf_v_25 _ _ q _ ho ?_
    have : k_co M e.toNatClampNeg = (eg_gi M 15 e.toNatClampNeg).toInt64 * (eg_gi M 17 e.toNatClampNeg).toInt64 * (eg_gi M q 2).toInt64 := by
      unfold k_co
      rw [hr]
      rfl
    rw [this] at hq
    exact hq
  · exact h.elim
theorem de_X3_costOf_v : ∀ q ∈ k_X3_costOf_v.1, decode cX3_costOf q.1 = .ok q.2 := by decide +kernel
theorem me_X3_costOf_v (g : gl_T) : MT g yX3_costOf cX3_costOf 2 (some .long) ⟨0, 0, 0, 0⟩ 0 0 s_X3_costOf_v := by
  intro hl
  exact eg_met_of (k := k_X3_costOf_v) (by decide) rfl ⟨Nat.le_refl _, Nat.le_refl _⟩ rfl sz_X3_costOf_v de_X3_costOf_v (fun meth hn => (fc (eg_FL_of wd_c3 (by decide) lf_RX3_28 (fun h => absurd h (by decide))) (fc (eg_FL_of wd_c3 (by decide) lf_RX3_47 (fun h => absurd h (by decide))) (fc (eg_FL_of wd_c1 (by decide) lf_RX3_180 (fun h => absurd h (by decide))) (fc (eg_FL_of wd_c1 (by decide) lf_RX3_183 (fun h => absurd h (by decide))) (fc (eg_FL_of wd_c8 (by decide) lf_RX3_199 (fun h => absurd h (by decide))) (fn))))))) (fun A s H hE => (fn)) (fun p e s m args below meth c Q A ad0 N0 S0 hK hEx hA => (fn)) (fun p e s m args below meth c Qc XC A ad0 N0 P S0 hK hEx hA hlk hout hPX => (fn)) (fun argv M Qp h => T_X3_costOf_v h)

def k_X3_borneBy_v : eg_C := ([(0, .aload_n 0, 1), (1, .iload_n 2, 1), (2, .invokevirtual 227, 3), (5, .lstore_n 3, 1), (6, .lload_n 3, 1), (7, .ldc2_w 230, 3), (10, .ldiv, 1), (11, .lstore 5, 2), (13, .aload_n 0, 1), (14, .getfield 28, 3), (17, .getfield 160, 3), (20, .iload_n 2, 1), (21, .iaload, 1), (22, .iload_n 1, 1), (23, .if_icmp .ne 17, 3), (26, .lload_n 3, 1), (27, .lload 5, 2), (29, .lsub, 1), (30, .aload_n 0, 1), (31, .getfield 77, 3), (34, .iload_n 2, 1), (35, .laload, 1), (36, .lsub, 1), (37, .goto 5, 3), (40, .lload 5, 2), (42, .lreturn, 1)], [(28, 3, 2, false), (77, 3, 14, false), (160, 1, 3, false)], [(230, .long (lN 2))], [(227, 1 + 1, 0, 0, s_X3_costOf_v)], [], 3, 0, 0)
theorem mk_X3_borneBy_v : ∀ q ∈ k_X3_borneBy_v.2.2.2.1, eg_mono q.2.2.2.2 := (fc (mo_X3_costOf_v) (fn))
set_option maxRecDepth 100000 in
theorem st_X3_borneBy_v_0 {Qp : eg_P} {M : eg_M} (s : Int32) (e : Int32)
  (g0 : (vp_in e 200 ∧ k_pq M))
  (g1 : (vp_in e 200))
  (l0 : ((eg_gi M 16 e.toNatClampNeg) = s) → Qp (.inl (some (.long (((k_co M e.toNatClampNeg) - ((k_co M e.toNatClampNeg) / (lN 2))) - (eg_gl M 41 e.toNatClampNeg))))) M)
  (l1 : (¬ (eg_gi M 16 e.toNatClampNeg) = s) → Qp (.inl (some (.long ((k_co M e.toNatClampNeg) / (lN 2))))) M) :
  eg_T wd k_X3_borneBy_v Qp 0 0 0 [some (.ref 1), some (.int s), some (.int e), none, none, none, none] [] M := by
  refine eg_T_run mk_X3_borneBy_v (cut := []) 29 ?_
  refine And.intro (show (vp_in e 200 ∧ k_pq M) from ?_) ?_
  · exact g0
  refine And.intro (show ¬ (lN 2) = 0 from ?_) ?_
  · decide
  refine And.intro (show vp_in e 200 from ?_) ?_
  · exact g1
  refine And.intro (fun (c1 : (eg_gi M 16 e.toNatClampNeg) = s) => ?_) (fun (c1 : ¬ (eg_gi M 16 e.toNatClampNeg) = s) => ?_)
  · skip
    refine And.intro (show vp_in e 200 from ?_) ?_
    · exact g1
    show Qp (.inl (some (.long (((k_co M e.toNatClampNeg) - ((k_co M e.toNatClampNeg) / (lN 2))) - (eg_gl M 41 e.toNatClampNeg))))) M
    exact l0 c1
  · skip
    show Qp (.inl (some (.long ((k_co M e.toNatClampNeg) / (lN 2))))) M
    exact l1 c1

def s_X3_borneBy_v : eg_S := fun argv M Qp => match argv with
  | [.ref 1, .int s, .int e] => (vp_in e 200 ∧ k_pq M) ∧ Qp (.inl (some (.long (if eg_gi M 16 e.toNatClampNeg = s then k_co M e.toNatClampNeg - k_co M e.toNatClampNeg / lN 2 - eg_gl M 41 e.toNatClampNeg else k_co M e.toNatClampNeg / lN 2)))) M
  | _ => False
theorem mo_X3_borneBy_v : eg_mono s_X3_borneBy_v := by
  intro argv M Q Q' h
  unfold s_X3_borneBy_v
  split
  · exact fun z => ⟨z.1, h _ _ z.2⟩
  · exact id
theorem sz_X3_borneBy_v : ∀ argv M Qp, s_X3_borneBy_v argv M Qp → (eg_ls0 argv).length ≤ 7 := by
  intro argv M Qp h
  unfold s_X3_borneBy_v at h
  split at h
  · exact Nat.le_of_ble_eq_true rfl
  · exact h.elim
theorem sr_X3_borneBy_v : ∀ argv M Qp, s_X3_borneBy_v argv M Qp → ∃ p0 As, argv = .ref p0 :: As ∧ eg_isO wd M p0 3 = true := by
  intro argv M Qp h
  unfold s_X3_borneBy_v at h
  split at h
  · exact ⟨_, _, rfl, rfl⟩
  · exact h.elim
set_option maxRecDepth 100000 in
set_option maxHeartbeats 1000000 in
theorem T_X3_borneBy_v {argv : List Value} {M : eg_M} {Qp : eg_P} (h : s_X3_borneBy_v argv M Qp) : eg_T wd k_X3_borneBy_v Qp 0 0 0 (eg_lsN 7 argv) [] M := by
  unfold s_X3_borneBy_v at h
  split at h
  · rename_i s e
    obtain ⟨hp, hq⟩ := h
    obtain ⟨he, hk⟩ := hp
    refine st_X3_borneBy_v_0 s e ⟨he, hk⟩ he (fun z => ?_) (fun z => ?_)
    · rw [if_pos z] at hq
      exact hq
    · rw [if_neg z] at hq
      exact hq
    
  · exact h.elim
theorem de_X3_borneBy_v : ∀ q ∈ k_X3_borneBy_v.1, decode cX3_borneBy q.1 = .ok q.2 := by decide +kernel
theorem me_X3_borneBy_v (g : gl_T) : MT g yX3_borneBy cX3_borneBy 7 (some .long) ⟨1, 0, 0, 21⟩ 0 0 s_X3_borneBy_v := by
  intro hl
  exact eg_met_of (k := k_X3_borneBy_v) (by decide) rfl ⟨Nat.le_refl _, Nat.le_refl _⟩ rfl sz_X3_borneBy_v de_X3_borneBy_v (fun meth hn => (fc (eg_FL_of wd_c3 (by decide) lf_RX3_28 (fun h => absurd h (by decide))) (fc (eg_FL_of wd_c3 (by decide) lf_RX3_77 (fun h => absurd h (by decide))) (fc (eg_FL_of wd_c1 (by decide) lf_RX3_160 (fun h => absurd h (by decide))) (fn))))) (fun A s H hE => (fc (List.mem_cons_of_mem _ ll_RX3_230) (fn))) (fun p e s m args below meth c Q A ad0 N0 S0 hK hEx hA => (fc (mt_V hl S0 hK hEx hA (me_X3_costOf_v g) lm_RX3_227 li_X3_costOf lx_X3_costOf ln_RX3 lc_X3_costOf ⟨rfl, by decide, by decide, by decide +kernel⟩ ⟨rfl, rfl⟩ ⟨by decide, by decide⟩ (ci := 3) rfl rfl sr_X3_costOf_v (by decide)) (fn))) (fun p e s m args below meth c Qc XC A ad0 N0 P S0 hK hEx hA hlk hout hPX => (fn)) (fun argv M Qp h => T_X3_borneBy_v h)

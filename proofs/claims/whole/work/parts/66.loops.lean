/-- the class, the calendar: what is kept so far (how many, their sum, the row) -/
abbrev k_B : Type := Int32 × Int32 × List Int32
def k_bu (B : k_B) (r : Nat × Nat × List Int32) : k_B := if B.1 < nI r.1 ∨ (B.1 = nI r.1 ∧ nI r.2.1 < B.2.1) then (nI r.1, nI r.2.1, r.2.2) else B
/-- the class: the rows that go on from a row's beginning, in their order -/
def k_rf (M : eg_M) : Nat → Nat → Int32 → Nat → Nat → List Int32 → List (Nat × Nat × List Int32)
  | 0, _, _, _, _, _ => []
  | d + 1, p, t, n, s, L => if (eg_gi M 72 0).toNatClampNeg ≤ p then [(n, s, L)] else ((List.range (eg_gi M 75 p).toNatClampNeg).flatMap (fun i => if eg_gi M 78 (p * 4 + i) &&& t = 0 then k_rf M d (p + 1) (t ||| (nI 1 <<< (nI (p * 4 + i) &&& 31))) (n + 1) (s + (eg_gi M 76 (p * 4 + i)).toNatClampNeg) (L ++ [eg_gi M 76 (p * 4 + i)]) else [])) ++ k_rf M d (p + 1) t n s (L ++ [-nI 1])
/-- the class: the memory while it searches -/
def kc_m (M : eg_M) (D K : Nat → Int32) (a b : Int32) : eg_M := eg_si (eg_si (eg_ri (eg_ri M 79 D) 77 K) 72 6 b) 72 10 a
def k_sp (M : eg_M) : Prop := eg_cn (eg_gi M 72 0) 6 ∧ (∀ p, p < (eg_gi M 72 0).toNatClampNeg → eg_cn (eg_gi M 75 p) 4 ∧ ∀ i, i < (eg_gi M 75 p).toNatClampNeg → eg_cn (eg_gi M 76 (p * 4 + i)) 3599)
theorem eg_ext {M N : eg_M} (h1 : M.1 = N.1) (h2 : ∀ q j, eg_gi M q j = eg_gi N q j) (h3 : M.2.2 = N.2.2) : M = N := Prod.ext h1 (Prod.ext (funext fun q => funext fun j => h2 q j) h3)
theorem kc_m_id (M : eg_M) : kc_m M (eg_gi M 79) (eg_gi M 77) (eg_gi M 72 10) (eg_gi M 72 6) = M := by
  unfold kc_m
  rw [ri_id, ri_id, si_id, si_id]
theorem kc_m_g (M : eg_M) (D K : Nat → Int32) (a b : Int32) (q j : Nat) : eg_gi (kc_m M D K a b) q j = if q = 72 ∧ j = 10 then a else if q = 72 ∧ j = 6 then b else if q = 77 then K j else if q = 79 then D j else eg_gi M q j := by
  unfold kc_m
  rw [si_g, si_g, ri_g, ri_g]
theorem kc_m_si (M : eg_M) (D K : Nat → Int32) (a b : Int32) (p : Nat) (v : Int32) : eg_si (kc_m M D K a b) 79 p v = kc_m M (fun j => if j = p then v else D j) K a b := by
  refine eg_ext rfl (fun q j => ?_) rfl
  rw [si_g, kc_m_g, kc_m_g]
  by_cases h : q = 79
  · subst h
    by_cases h2 : j = p <;> simp [h2]
  · simp [h]
theorem kc_m_sm (M : eg_M) (D K D' K' : Nat → Int32) (a b a' b' : Int32) : kc_m (kc_m M D K a b) D' K' a' b' = kc_m M D' K' a' b' := by
  refine eg_ext rfl (fun q j => ?_) rfl
  rw [kc_m_g, kc_m_g, kc_m_g]
  by_cases h1 : q = 72 ∧ j = 10
  · rw [if_pos h1, if_pos h1]
  · rw [if_neg h1, if_neg h1, if_neg h1]
    by_cases h2 : q = 72 ∧ j = 6
    · rw [if_pos h2, if_pos h2]
    · rw [if_neg h2, if_neg h2, if_neg h2]
      by_cases h3 : q = 77
      · rw [if_pos h3, if_pos h3]
      · rw [if_neg h3, if_neg h3, if_neg h3]
        by_cases h4 : q = 79
        · rw [if_pos h4, if_pos h4]
        · rw [if_neg h4, if_neg h4, if_neg h4]
theorem kc_m_leaf (M : eg_M) (n s : Int32) (f : Nat → Int32) : eg_ri (eg_si (eg_si M 72 10 n) 72 6 s) 77 f = kc_m M (eg_gi M 79) f n s := by
  unfold kc_m
  rw [ri_id]
  refine eg_ext rfl (fun q j => ?_) rfl
  rw [ri_g, si_g, si_g, si_g, si_g, ri_g]
  by_cases h : q = 72
  · subst h
    by_cases h1 : j = 10
    · subst h1; simp
    · simp [h1]
  · simp [h]
theorem k_rf_of {M N : eg_M} (h0 : eg_gi N 72 0 = eg_gi M 72 0) (h1 : ∀ j, eg_gi N 75 j = eg_gi M 75 j) (h2 : ∀ j, eg_gi N 76 j = eg_gi M 76 j) (h3 : ∀ j, eg_gi N 78 j = eg_gi M 78 j) : ∀ (d p : Nat) (t : Int32) (n s : Nat) (L : List Int32), k_rf N d p t n s L = k_rf M d p t n s L
  | 0, _, _, _, _, _ => rfl
  | d + 1, p, t, n, s, L => by
    have ih := k_rf_of h0 h1 h2 h3 d
    rw [k_rf, k_rf]
    simp only [h0, h1, h2, h3, ih]
theorem k_rf_b {M : eg_M} {N : Nat} (hN : (eg_gi M 72 0).toNatClampNeg = N) (hd : ∀ p, p < N → ∀ i, i < (eg_gi M 75 p).toNatClampNeg → (eg_gi M 76 (p * 4 + i)).toNatClampNeg ≤ 3599) : ∀ (d p : Nat) (t : Int32) (n s : Nat) (L : List Int32) (r : Nat × Nat × List Int32), r ∈ k_rf M d p t n s L → n ≤ r.1 ∧ r.1 ≤ n + (N - p) ∧ s ≤ r.2.1 ∧ r.2.1 ≤ s + 3599 * (N - p)
  | 0, _, _, _, _, _, r, h => absurd h List.not_mem_nil
  | d + 1, p, t, n, s, L, r, h => by
    have ih := k_rf_b hN hd d
    rw [k_rf, hN] at h
    by_cases hp : N ≤ p
    · rw [if_pos hp] at h
      have := List.mem_singleton.mp h
      subst this
      dsimp only
      omega
    · rw [if_neg hp] at h
      rcases List.mem_append.mp h with h | h
      · obtain ⟨i, hi, h⟩ := List.mem_flatMap.mp h
        have hi := List.mem_range.mp hi
        have := hd p (by omega) i hi
        by_cases hc : eg_gi M 78 (p * 4 + i) &&& t = 0
        · rw [if_pos hc] at h
          have := ih _ _ _ _ _ _ h
          omega
        · rw [if_neg hc] at h
          exact absurd h List.not_mem_nil
      · have := ih _ _ _ _ _ _ h
        omega
theorem k_bu_no (B : k_B) : ∀ (R : List (Nat × Nat × List Int32)), (∀ r ∈ R, ¬ (B.1 < nI r.1 ∨ (B.1 = nI r.1 ∧ nI r.2.1 < B.2.1))) → R.foldl k_bu B = B
  | [], _ => rfl
  | r :: R, h => by
    rw [List.foldl_cons, show k_bu B r = B from if_neg (h r List.mem_cons_self)]
    exact k_bu_no B R (fun r hr => h r (List.mem_cons_of_mem _ hr))
theorem k_bu_1 : ∀ (R : List (Nat × Nat × List Int32)) (B : k_B), (R.foldl k_bu B).1 = B.1 ∨ ∃ r ∈ R, (R.foldl k_bu B).1 = nI r.1
  | [], _ => Or.inl rfl
  | r :: R, B => by
    rw [List.foldl_cons]
    rcases k_bu_1 R (k_bu B r) with h | ⟨r', h1, h2⟩
    · rw [h]
      unfold k_bu
      by_cases hc : B.1 < nI r.1 ∨ (B.1 = nI r.1 ∧ nI r.2.1 < B.2.1)
      · rw [if_pos hc]
        exact Or.inr ⟨r, List.mem_cons_self, rfl⟩
      · rw [if_neg hc]
        exact Or.inl rfl
    · exact Or.inr ⟨r', List.mem_cons_of_mem _ h1, h2⟩
theorem k_m1lt {n : Nat} (h : n < 2 ^ 31) : ¬ nI n < -nI 1 := by
  intro z
  have := Int32.lt_iff_toInt_lt.mp z
  rw [nI_toInt h, show (-nI 1).toInt = -1 from rfl] at this
  omega
theorem k_ltm1 {n : Nat} (h : n < 2 ^ 31) : -nI 1 < nI n := by
  apply Int32.lt_iff_toInt_lt.mpr
  rw [nI_toInt h, show (-nI 1).toInt = -1 from rfl]
  omega
def s_X6_search_r (dd : Nat) : eg_S := fun argv M Qp => match argv with
  | [.ref 72, .int aa, .int tk, .int nn, .int ss] => (0 < dd ∧ k_sp M ∧ eg_cn aa (eg_gi M 72 0).toNatClampNeg ∧ (eg_gi M 72 0).toNatClampNeg < aa.toNatClampNeg + dd ∧ eg_cn nn aa.toNatClampNeg ∧ eg_cn ss (3599 * aa.toNatClampNeg) ∧ (eg_gi M 72 10 = -nI 1 ∨ eg_cn (eg_gi M 72 10) 6)) ∧ ∀ (D : Nat → Int32) (K : Nat → Int32) (b1 : Int32) (b2 : Int32), ((b1, b2, (List.range (eg_gi M 72 0).toNatClampNeg).map K) = (k_rf M dd aa.toNatClampNeg tk nn.toNatClampNeg ss.toNatClampNeg ((List.range aa.toNatClampNeg).map (eg_gi M 79))).foldl k_bu (eg_gi M 72 10, eg_gi M 72 6, (List.range (eg_gi M 72 0).toNatClampNeg).map (eg_gi M 77)) ∧ ∀ j, j < aa.toNatClampNeg → D j = eg_gi M 79 j) → Qp (.inl none) (kc_m M D K b1 b2)
  | _ => False
theorem mo_X6_search_r (dd : Nat) : eg_mono (s_X6_search_r dd) := by
  intro argv M Q Q' h
  unfold s_X6_search_r
  split
  · exact fun z => ⟨z.1, fun D K b1 b2 y => h _ _ (z.2 D K b1 b2 y)⟩
  · exact id
theorem sz_X6_search_r (dd : Nat) : ∀ argv M Qp, s_X6_search_r dd argv M Qp → (eg_ls0 argv).length ≤ 8 := by
  intro argv M Qp h
  unfold s_X6_search_r at h
  split at h
  · exact Nat.le_of_ble_eq_true rfl
  · exact h.elim
theorem sr_X6_search_r (dd : Nat) : ∀ argv M Qp, s_X6_search_r dd argv M Qp → ∃ p0 As, argv = .ref p0 :: As ∧ eg_isO wd M p0 6 = true := by
  intro argv M Qp h
  unfold s_X6_search_r at h
  split at h
  · exact ⟨_, _, rfl, rfl⟩
  · exact h.elim
theorem sF_X6_search_r : ∀ argv M Qp, s_X6_search_r 0 argv M Qp → False := by
  intro argv M Qp h
  unfold s_X6_search_r at h
  split at h
  · exact absurd h.1.1 (Nat.lt_irrefl 0)
  · exact h
def k_X6_search (dd : Nat) : eg_C := ([(0, .iload_n 3, 1), (1, .aload_n 0, 1), (2, .getfield 9, 3), (5, .iadd, 1), (6, .iload_n 1, 1), (7, .isub, 1), (8, .istore 5, 2), (10, .iload 5, 2), (12, .aload_n 0, 1), (13, .getfield 43, 3), (16, .if_icmp .lt 21, 3), (19, .iload 5, 2), (21, .aload_n 0, 1), (22, .getfield 43, 3), (25, .if_icmp .ne 13, 3), (28, .iload 4, 2), (30, .aload_n 0, 1), (31, .getfield 31, 3), (34, .if_icmp .lt 4, 3), (37, .return_, 1), (38, .iload_n 1, 1), (39, .aload_n 0, 1), (40, .getfield 9, 3), (43, .if_icmp .lt 30, 3), (46, .aload_n 0, 1), (47, .iload_n 3, 1), (48, .putfield 43, 3), (51, .aload_n 0, 1), (52, .iload 4, 2), (54, .putfield 31, 3), (57, .aload_n 0, 1), (58, .getfield 40, 3), (61, .iconst 0, 1), (62, .aload_n 0, 1), (63, .getfield 34, 3), (66, .iconst 0, 1), (67, .bipush 6, 2), (69, .invokestatic 60, 3), (72, .return_, 1), (73, .iconst 0, 1), (74, .istore 6, 2), (76, .iload 6, 2), (78, .aload_n 0, 1), (79, .getfield 22, 3), (82, .iload_n 1, 1), (83, .iaload, 1), (84, .if_icmp .ge 68, 3), (87, .iload_n 1, 1), (88, .iconst 4, 1), (89, .imul, 1), (90, .iload 6, 2), (92, .iadd, 1), (93, .istore 7, 2), (95, .aload_n 0, 1), (96, .getfield 37, 3), (99, .iload 7, 2), (101, .iaload, 1), (102, .iload_n 2, 1), (103, .iand, 1), (104, .ifCond .ne 42, 3), (107, .aload_n 0, 1), (108, .getfield 40, 3), (111, .iload_n 1, 1), (112, .aload_n 0, 1), (113, .getfield 25, 3), (116, .iload 7, 2), (118, .iaload, 1), (119, .iastore, 1), (120, .aload_n 0, 1), (121, .iload_n 1, 1), (122, .iconst 1, 1), (123, .iadd, 1), (124, .iload_n 2, 1), (125, .iconst 1, 1), (126, .iload 7, 2), (128, .ishl, 1), (129, .ior, 1), (130, .iload_n 3, 1), (131, .iconst 1, 1), (132, .iadd, 1), (133, .iload 4, 2), (135, .aload_n 0, 1), (136, .getfield 25, 3), (139, .iload 7, 2), (141, .iaload, 1), (142, .iadd, 1), (143, .invokevirtual 56, 3), (146, .iinc 6 1, 3), (149, .goto (-73), 3), (152, .aload_n 0, 1), (153, .getfield 40, 3), (156, .iload_n 1, 1), (157, .iconst (-1), 1), (158, .iastore, 1), (159, .aload_n 0, 1), (160, .iload_n 1, 1), (161, .iconst 1, 1), (162, .iadd, 1), (163, .iload_n 2, 1), (164, .iload_n 3, 1), (165, .iload 4, 2), (167, .invokevirtual 56, 3), (170, .return_, 1)], [(9, 6, 0, false), (22, 6, 3, false), (25, 6, 4, false), (31, 6, 6, true), (34, 6, 7, false), (37, 6, 8, false), (40, 6, 9, false), (43, 6, 10, true)], [], [(60 + 100000, 5, 0, 0, s_acp), (56, 4 + 1, 0, 0, s_X6_search_r dd)], [], 0, 0, 0)
theorem mk_X6_search (dd : Nat) : ∀ q ∈ (k_X6_search dd).2.2.2.1, eg_mono q.2.2.2.2 := (fc (mo_acp) (fc (mo_X6_search_r dd) (fn)))

set_option maxRecDepth 100000 in
theorem st_X6_search_0 {dd : Nat} {Qp : eg_P} {M : eg_M} (aa : Int32) (tk : Int32) (nn : Int32) (ss : Int32)
  (l0 : (((nn + (eg_gi M 72 0)) - aa) < (eg_gi M 72 10) ∨ (((nn + (eg_gi M 72 0)) - aa) = (eg_gi M 72 10) ∧ ¬ ss < (eg_gi M 72 6))) → Qp (.inl none) M)
  (l1 : (¬ ((nn + (eg_gi M 72 0)) - aa) < (eg_gi M 72 10) ∧ ((((nn + (eg_gi M 72 0)) - aa) = (eg_gi M 72 10) ∧ (ss < (eg_gi M 72 6) ∧ aa < (eg_gi M 72 0))) ∨ (¬ ((nn + (eg_gi M 72 0)) - aa) = (eg_gi M 72 10) ∧ aa < (eg_gi M 72 0)))) → eg_T wd (k_X6_search dd) Qp 76 0 0 [some (.ref 72), some (.int aa), some (.int tk), some (.int nn), some (.int ss), some (.int ((nn + (eg_gi M 72 0)) - aa)), some (.int (nI 0)), none] [] M)
  (l2 : (¬ ((nn + (eg_gi M 72 0)) - aa) < (eg_gi M 72 10) ∧ ((((nn + (eg_gi M 72 0)) - aa) = (eg_gi M 72 10) ∧ (ss < (eg_gi M 72 6) ∧ ¬ aa < (eg_gi M 72 0))) ∨ (¬ ((nn + (eg_gi M 72 0)) - aa) = (eg_gi M 72 10) ∧ ¬ aa < (eg_gi M 72 0)))) → Qp (.inl none) (eg_ri (eg_si (eg_si M 72 10 nn) 72 6 ss) 77 (va_cpy (eg_gi (eg_si (eg_si M 72 10 nn) 72 6 ss) 79) (eg_gi (eg_si (eg_si M 72 10 nn) 72 6 ss) 77) 0 0 6))) :
  eg_T wd (k_X6_search dd) Qp 0 0 0 [some (.ref 72), some (.int aa), some (.int tk), some (.int nn), some (.int ss), none, none, none] [] M := by
  refine eg_T_run (mk_X6_search dd) (cut := [76, 146, 170]) 106 ?_
  refine And.intro (fun (c1 : ((nn + (eg_gi M 72 0)) - aa) < (eg_gi M 72 10)) => ?_) (fun (c1 : ¬ ((nn + (eg_gi M 72 0)) - aa) < (eg_gi M 72 10)) => ?_)
  · skip
    show Qp (.inl none) M
    exact l0 (Or.inl c1)
  · skip
    refine And.intro (fun (c2 : ((nn + (eg_gi M 72 0)) - aa) = (eg_gi M 72 10)) => ?_) (fun (c2 : ¬ ((nn + (eg_gi M 72 0)) - aa) = (eg_gi M 72 10)) => ?_)
    · skip
      refine And.intro (fun (c3 : ss < (eg_gi M 72 6)) => ?_) (fun (c3 : ¬ ss < (eg_gi M 72 6)) => ?_)
      · skip
        refine And.intro (fun (c4 : aa < (eg_gi M 72 0)) => ?_) (fun (c4 : ¬ aa < (eg_gi M 72 0)) => ?_)
        · skip
          show eg_T wd (k_X6_search dd) Qp 76 0 0 [some (.ref 72), some (.int aa), some (.int tk), some (.int nn), some (.int ss), some (.int ((nn + (eg_gi M 72 0)) - aa)), some (.int (nI 0)), none] [] M
          exact l1 ⟨c1, (Or.inl ⟨c2, ⟨c3, c4⟩⟩)⟩
        · skip
          refine And.intro ⟨rfl, rfl, by decide, by decide, by decide, by show _ ≤ 6; decide, by show _ ≤ 6; decide⟩ ?_
          show Qp (.inl none) (eg_ri (eg_si (eg_si M 72 10 nn) 72 6 ss) 77 (va_cpy (eg_gi (eg_si (eg_si M 72 10 nn) 72 6 ss) 79) (eg_gi (eg_si (eg_si M 72 10 nn) 72 6 ss) 77) 0 0 6))
          exact l2 ⟨c1, (Or.inl ⟨c2, ⟨c3, c4⟩⟩)⟩
      · skip
        show Qp (.inl none) M
        exact l0 (Or.inr ⟨c2, c3⟩)
    · skip
      refine And.intro (fun (c5 : aa < (eg_gi M 72 0)) => ?_) (fun (c5 : ¬ aa < (eg_gi M 72 0)) => ?_)
      · skip
        show eg_T wd (k_X6_search dd) Qp 76 0 0 [some (.ref 72), some (.int aa), some (.int tk), some (.int nn), some (.int ss), some (.int ((nn + (eg_gi M 72 0)) - aa)), some (.int (nI 0)), none] [] M
        exact l1 ⟨c1, (Or.inr ⟨c2, c5⟩)⟩
      · skip
        refine And.intro ⟨rfl, rfl, by decide, by decide, by decide, by show _ ≤ 6; decide, by show _ ≤ 6; decide⟩ ?_
        show Qp (.inl none) (eg_ri (eg_si (eg_si M 72 10 nn) 72 6 ss) 77 (va_cpy (eg_gi (eg_si (eg_si M 72 10 nn) 72 6 ss) 79) (eg_gi (eg_si (eg_si M 72 10 nn) 72 6 ss) 77) 0 0 6))
        exact l2 ⟨c1, (Or.inr ⟨c2, c5⟩)⟩

set_option maxRecDepth 100000 in
theorem st_X6_search_76 {dd : Nat} {Qp : eg_P} {M : eg_M} (aa : Int32) (tk : Int32) (nn : Int32) (ss : Int32) (x5 : Int32) (x6 : Int32) (o7 : Option Value)
  (g0 : (vp_in aa 6))
  (g1 : ((eg_gi M 75 aa.toNatClampNeg) ≤ x6) → (0 < dd ∧ k_sp (eg_si M 79 aa.toNatClampNeg (-nI 1)) ∧ eg_cn (aa + (nI 1)) (eg_gi (eg_si M 79 aa.toNatClampNeg (-nI 1)) 72 0).toNatClampNeg ∧ (eg_gi (eg_si M 79 aa.toNatClampNeg (-nI 1)) 72 0).toNatClampNeg < (aa + (nI 1)).toNatClampNeg + dd ∧ eg_cn nn (aa + (nI 1)).toNatClampNeg ∧ eg_cn ss (3599 * (aa + (nI 1)).toNatClampNeg) ∧ (eg_gi (eg_si M 79 aa.toNatClampNeg (-nI 1)) 72 10 = -nI 1 ∨ eg_cn (eg_gi (eg_si M 79 aa.toNatClampNeg (-nI 1)) 72 10) 6)))
  (g2 : (¬ ((eg_gi M 75 aa.toNatClampNeg) ≤ x6)) → (vp_in ((aa * (nI 4)) + x6) 24))
  (g3 : (¬ ((eg_gi M 75 aa.toNatClampNeg) ≤ x6)) → (((eg_gi M 78 ((aa * (nI 4)) + x6).toNatClampNeg) &&& tk) = 0) → (0 < dd ∧ k_sp (eg_si M 79 aa.toNatClampNeg (eg_gi M 76 ((aa * (nI 4)) + x6).toNatClampNeg)) ∧ eg_cn (aa + (nI 1)) (eg_gi (eg_si M 79 aa.toNatClampNeg (eg_gi M 76 ((aa * (nI 4)) + x6).toNatClampNeg)) 72 0).toNatClampNeg ∧ (eg_gi (eg_si M 79 aa.toNatClampNeg (eg_gi M 76 ((aa * (nI 4)) + x6).toNatClampNeg)) 72 0).toNatClampNeg < (aa + (nI 1)).toNatClampNeg + dd ∧ eg_cn (nn + (nI 1)) (aa + (nI 1)).toNatClampNeg ∧ eg_cn (ss + (eg_gi M 76 ((aa * (nI 4)) + x6).toNatClampNeg)) (3599 * (aa + (nI 1)).toNatClampNeg) ∧ (eg_gi (eg_si M 79 aa.toNatClampNeg (eg_gi M 76 ((aa * (nI 4)) + x6).toNatClampNeg)) 72 10 = -nI 1 ∨ eg_cn (eg_gi (eg_si M 79 aa.toNatClampNeg (eg_gi M 76 ((aa * (nI 4)) + x6).toNatClampNeg)) 72 10) 6)))
  (l0 : ((eg_gi M 75 aa.toNatClampNeg) ≤ x6) → ∀ (D_1 : Nat → Int32) (K_1 : Nat → Int32) (b1_1 : Int32) (b2_1 : Int32), ((b1_1, b2_1, (List.range (eg_gi (eg_si M 79 aa.toNatClampNeg (-nI 1)) 72 0).toNatClampNeg).map K_1) = (k_rf (eg_si M 79 aa.toNatClampNeg (-nI 1)) dd (aa + (nI 1)).toNatClampNeg tk nn.toNatClampNeg ss.toNatClampNeg ((List.range (aa + (nI 1)).toNatClampNeg).map (eg_gi (eg_si M 79 aa.toNatClampNeg (-nI 1)) 79))).foldl k_bu (eg_gi (eg_si M 79 aa.toNatClampNeg (-nI 1)) 72 10, eg_gi (eg_si M 79 aa.toNatClampNeg (-nI 1)) 72 6, (List.range (eg_gi (eg_si M 79 aa.toNatClampNeg (-nI 1)) 72 0).toNatClampNeg).map (eg_gi (eg_si M 79 aa.toNatClampNeg (-nI 1)) 77)) ∧ ∀ j, j < (aa + (nI 1)).toNatClampNeg → D_1 j = eg_gi (eg_si M 79 aa.toNatClampNeg (-nI 1)) 79 j) → eg_T wd (k_X6_search dd) Qp 170 0 0 [some (.ref 72), some (.int aa), some (.int tk), some (.int nn), some (.int ss), some (.int x5), some (.int x6), o7] [] (kc_m (eg_si M 79 aa.toNatClampNeg (-nI 1)) D_1 K_1 b1_1 b2_1))
  (l1 : (¬ (eg_gi M 75 aa.toNatClampNeg) ≤ x6 ∧ ((eg_gi M 78 ((aa * (nI 4)) + x6).toNatClampNeg) &&& tk) = 0) → ∀ (D_2 : Nat → Int32) (K_2 : Nat → Int32) (b1_2 : Int32) (b2_2 : Int32), ((b1_2, b2_2, (List.range (eg_gi (eg_si M 79 aa.toNatClampNeg (eg_gi M 76 ((aa * (nI 4)) + x6).toNatClampNeg)) 72 0).toNatClampNeg).map K_2) = (k_rf (eg_si M 79 aa.toNatClampNeg (eg_gi M 76 ((aa * (nI 4)) + x6).toNatClampNeg)) dd (aa + (nI 1)).toNatClampNeg (tk ||| ((nI 1) <<< (((aa * (nI 4)) + x6) &&& 31))) (nn + (nI 1)).toNatClampNeg (ss + (eg_gi M 76 ((aa * (nI 4)) + x6).toNatClampNeg)).toNatClampNeg ((List.range (aa + (nI 1)).toNatClampNeg).map (eg_gi (eg_si M 79 aa.toNatClampNeg (eg_gi M 76 ((aa * (nI 4)) + x6).toNatClampNeg)) 79))).foldl k_bu (eg_gi (eg_si M 79 aa.toNatClampNeg (eg_gi M 76 ((aa * (nI 4)) + x6).toNatClampNeg)) 72 10, eg_gi (eg_si M 79 aa.toNatClampNeg (eg_gi M 76 ((aa * (nI 4)) + x6).toNatClampNeg)) 72 6, (List.range (eg_gi (eg_si M 79 aa.toNatClampNeg (eg_gi M 76 ((aa * (nI 4)) + x6).toNatClampNeg)) 72 0).toNatClampNeg).map (eg_gi (eg_si M 79 aa.toNatClampNeg (eg_gi M 76 ((aa * (nI 4)) + x6).toNatClampNeg)) 77)) ∧ ∀ j, j < (aa + (nI 1)).toNatClampNeg → D_2 j = eg_gi (eg_si M 79 aa.toNatClampNeg (eg_gi M 76 ((aa * (nI 4)) + x6).toNatClampNeg)) 79 j) → eg_T wd (k_X6_search dd) Qp 146 0 0 [some (.ref 72), some (.int aa), some (.int tk), some (.int nn), some (.int ss), some (.int x5), some (.int x6), some (.int ((aa * (nI 4)) + x6))] [] (kc_m (eg_si M 79 aa.toNatClampNeg (eg_gi M 76 ((aa * (nI 4)) + x6).toNatClampNeg)) D_2 K_2 b1_2 b2_2))
  (l2 : (¬ (eg_gi M 75 aa.toNatClampNeg) ≤ x6 ∧ ¬ ((eg_gi M 78 ((aa * (nI 4)) + x6).toNatClampNeg) &&& tk) = 0) → eg_T wd (k_X6_search dd) Qp 146 0 0 [some (.ref 72), some (.int aa), some (.int tk), some (.int nn), some (.int ss), some (.int x5), some (.int x6), some (.int ((aa * (nI 4)) + x6))] [] M) :
  eg_T wd (k_X6_search dd) Qp 76 0 0 [some (.ref 72), some (.int aa), some (.int tk), some (.int nn), some (.int ss), some (.int x5), some (.int x6), o7] [] M := by
  refine eg_T_run (mk_X6_search dd) (cut := [76, 146, 170]) 106 ?_
  refine And.intro (show vp_in aa 6 from ?_) ?_
  · exact g0
  refine And.intro (fun (c1 : (eg_gi M 75 aa.toNatClampNeg) ≤ x6) => ?_) (fun (c1 : ¬ (eg_gi M 75 aa.toNatClampNeg) ≤ x6) => ?_)
  · skip
    refine And.intro (show vp_in aa 6 from ?_) ?_
    · exact g0
    refine And.intro (show (0 < dd ∧ k_sp (eg_si M 79 aa.toNatClampNeg (-nI 1)) ∧ eg_cn (aa + (nI 1)) (eg_gi (eg_si M 79 aa.toNatClampNeg (-nI 1)) 72 0).toNatClampNeg ∧ (eg_gi (eg_si M 79 aa.toNatClampNeg (-nI 1)) 72 0).toNatClampNeg < (aa + (nI 1)).toNatClampNeg + dd ∧ eg_cn nn (aa + (nI 1)).toNatClampNeg ∧ eg_cn ss (3599 * (aa + (nI 1)).toNatClampNeg) ∧ (eg_gi (eg_si M 79 aa.toNatClampNeg (-nI 1)) 72 10 = -nI 1 ∨ eg_cn (eg_gi (eg_si M 79 aa.toNatClampNeg (-nI 1)) 72 10) 6)) from ?_) ?_
    · exact g1 c1
    intro D_1 K_1 b1_1 b2_1 ha_1
    show eg_T wd (k_X6_search dd) Qp 170 0 0 [some (.ref 72), some (.int aa), some (.int tk), some (.int nn), some (.int ss), some (.int x5), some (.int x6), o7] [] (kc_m (eg_si M 79 aa.toNatClampNeg (-nI 1)) D_1 K_1 b1_1 b2_1)
    exact l0 c1 D_1 K_1 b1_1 b2_1 ha_1
  · skip
    refine And.intro (show vp_in ((aa * (nI 4)) + x6) 24 from ?_) ?_
    · exact g2 c1
    refine And.intro (fun (c2 : ((eg_gi M 78 ((aa * (nI 4)) + x6).toNatClampNeg) &&& tk) = 0) => ?_) (fun (c2 : ¬ ((eg_gi M 78 ((aa * (nI 4)) + x6).toNatClampNeg) &&& tk) = 0) => ?_)
    · skip
      refine And.intro (show vp_in ((aa * (nI 4)) + x6) 24 from ?_) ?_
      · exact g2 c1
      refine And.intro (show vp_in aa 6 from ?_) ?_
      · exact g0
      refine And.intro (show vp_in ((aa * (nI 4)) + x6) 24 from ?_) ?_
      · exact g2 c1
      refine And.intro (show (0 < dd ∧ k_sp (eg_si M 79 aa.toNatClampNeg (eg_gi M 76 ((aa * (nI 4)) + x6).toNatClampNeg)) ∧ eg_cn (aa + (nI 1)) (eg_gi (eg_si M 79 aa.toNatClampNeg (eg_gi M 76 ((aa * (nI 4)) + x6).toNatClampNeg)) 72 0).toNatClampNeg ∧ (eg_gi (eg_si M 79 aa.toNatClampNeg (eg_gi M 76 ((aa * (nI 4)) + x6).toNatClampNeg)) 72 0).toNatClampNeg < (aa + (nI 1)).toNatClampNeg + dd ∧ eg_cn (nn + (nI 1)) (aa + (nI 1)).toNatClampNeg ∧ eg_cn (ss + (eg_gi M 76 ((aa * (nI 4)) + x6).toNatClampNeg)) (3599 * (aa + (nI 1)).toNatClampNeg) ∧ (eg_gi (eg_si M 79 aa.toNatClampNeg (eg_gi M 76 ((aa * (nI 4)) + x6).toNatClampNeg)) 72 10 = -nI 1 ∨ eg_cn (eg_gi (eg_si M 79 aa.toNatClampNeg (eg_gi M 76 ((aa * (nI 4)) + x6).toNatClampNeg)) 72 10) 6)) from ?_) ?_
      · exact g3 c1 c2
      intro D_2 K_2 b1_2 b2_2 ha_2
      show eg_T wd (k_X6_search dd) Qp 146 0 0 [some (.ref 72), some (.int aa), some (.int tk), some (.int nn), some (.int ss), some (.int x5), some (.int x6), some (.int ((aa * (nI 4)) + x6))] [] (kc_m (eg_si M 79 aa.toNatClampNeg (eg_gi M 76 ((aa * (nI 4)) + x6).toNatClampNeg)) D_2 K_2 b1_2 b2_2)
      exact l1 ⟨c1, c2⟩ D_2 K_2 b1_2 b2_2 ha_2
    · skip
      show eg_T wd (k_X6_search dd) Qp 146 0 0 [some (.ref 72), some (.int aa), some (.int tk), some (.int nn), some (.int ss), some (.int x5), some (.int x6), some (.int ((aa * (nI 4)) + x6))] [] M
      exact l2 ⟨c1, c2⟩

set_option maxRecDepth 100000 in
theorem st_X6_search_146 {dd : Nat} {Qp : eg_P} {M : eg_M} (aa : Int32) (tk : Int32) (nn : Int32) (ss : Int32) (x5 : Int32) (x6 : Int32) (o7 : Option Value)
  (l0 : eg_T wd (k_X6_search dd) Qp 76 0 0 [some (.ref 72), some (.int aa), some (.int tk), some (.int nn), some (.int ss), some (.int x5), some (.int (x6 + (nI 1))), o7] [] M) :
  eg_T wd (k_X6_search dd) Qp 146 0 0 [some (.ref 72), some (.int aa), some (.int tk), some (.int nn), some (.int ss), some (.int x5), some (.int x6), o7] [] M := by
  refine eg_T_run (mk_X6_search dd) (cut := [76, 146, 170]) 106 ?_
  show eg_T wd (k_X6_search dd) Qp 76 0 0 [some (.ref 72), some (.int aa), some (.int tk), some (.int nn), some (.int ss), some (.int x5), some (.int (x6 + (nI 1))), o7] [] M
  exact l0

set_option maxRecDepth 100000 in
theorem st_X6_search_170 {dd : Nat} {Qp : eg_P} {M : eg_M} (o0 : Option Value) (o1 : Option Value) (o2 : Option Value) (o3 : Option Value) (o4 : Option Value) (o5 : Option Value) (o6 : Option Value) (o7 : Option Value)
  (l0 : Qp (.inl none) M) :
  eg_T wd (k_X6_search dd) Qp 170 0 0 [o0, o1, o2, o3, o4, o5, o6, o7] [] M := by
  refine eg_T_run (mk_X6_search dd) (cut := [76, 146, 170]) 106 ?_
  show Qp (.inl none) M
  exact l0

set_option maxRecDepth 100000 in
set_option maxHeartbeats 1000000 in
theorem T_X6_search_r (dd : Nat) {argv : List Value} {M : eg_M} {Qp : eg_P} (h : s_X6_search_r (dd + 1) argv M Qp) : eg_T wd (k_X6_search dd) Qp 0 0 0 (eg_lsN 8 argv) [] M := by
  unfold s_X6_search_r at h
  split at h
  · rename_i aa tk nn ss
    obtain ⟨hp, hq⟩ := h
    obtain ⟨_, hsp, ⟨p, hpN, rfl⟩, hdd, ⟨n, hn, rfl⟩, ⟨s, hs, rfl⟩, hmp⟩ := hp
    obtain ⟨⟨N, hN, eN⟩, hpl⟩ := id hsp
    rw [eN, n_c (show N < 2 ^ 31 by omega)] at hpN hdd hpl hq
    rw [n_c (show p < 2 ^ 31 by omega)] at hdd hn hs hq
    rw [n_c (show n < 2 ^ 31 by omega), n_c (show s < 2 ^ 31 by omega)] at hq
    have hNc : (eg_gi M 72 0).toNatClampNeg = N := by rw [eN, n_c (by omega)]
    have hdt : ∀ p, p < N → ∀ i, i < (eg_gi M 75 p).toNatClampNeg → (eg_gi M 76 (p * 4 + i)).toNatClampNeg ≤ 3599 := by
      intro p hp i hi
      obtain ⟨k, hk, ek⟩ := (hpl p hp).2 i hi
      rw [ek, n_c (by omega)]
      exact hk
    have hcl : nI n + nI N - nI p = nI (n + (N - p)) := by
      rw [n_s, show n + N = (n + (N - p)) + p by omega]
      exact n_sb
    have rb := k_rf_b hNc hdt (dd + 1) p tk n s ((List.range p).map (eg_gi M 79))
    have s0 := st_X6_search_0 (dd := dd) (Qp := Qp) (M := M) (nI p) tk (nI n) (nI s)
    rw [eN, hcl, n_lt (show p < 2 ^ 31 by omega) (show N < 2 ^ 31 by omega)] at s0
    refine s0 (fun z => ?_) (fun z => ?_) (fun z => ?_)
    · have := hq (eg_gi M 79) (eg_gi M 77) (eg_gi M 72 10) (eg_gi M 72 6) ⟨?_, fun _ _ => rfl⟩
      · rw [kc_m_id] at this
        exact this
      · rw [k_bu_no]
        intro r hr
        obtain ⟨r1, r2, r3, r4⟩ := rb r hr
        rintro (h | ⟨h1, h2⟩)
        · rcases hmp with e | ⟨k, hk, e⟩
          · rw [e] at z
            rcases z with z | ⟨z, -⟩
            · exact k_m1lt (by omega) z
            · exact nI_m1 (by omega) z
          · dsimp only at h
            rw [e, n_lt (by omega) (by omega)] at h
            rw [e, n_lt (by omega) (by omega), n_eq (by omega) (by omega)] at z
            omega
        · dsimp only at h1 h2
          rcases z with z | ⟨z1, z2⟩
          · rw [h1, n_lt (by omega) (by omega)] at z
            omega
          · refine z2 (Int32.lt_of_le_of_lt ?_ h2)
            rw [n_le (by omega) (by omega)]
            exact r3
    · have hpN' : p < N := by
        rcases z.2 with w | w
        · exact w.2.2
        · exact w.2
      obtain ⟨⟨m, hm, em⟩, hda⟩ := hpl p hpN'
      rw [em, n_c (show m < 2 ^ 31 by omega)] at hda
      rw [k_rf, hNc, if_neg (show ¬ N ≤ p by omega), em, n_c (show m < 2 ^ 31 by omega)] at hq
      generalize hF : (fun i => if eg_gi M 78 (p * 4 + i) &&& tk = 0 then k_rf M dd (p + 1) (tk ||| (nI 1 <<< (nI (p * 4 + i) &&& 31))) (n + 1) (s + (eg_gi M 76 (p * 4 + i)).toNatClampNeg) ((List.range p).map (eg_gi M 79) ++ [eg_gi M 76 (p * 4 + i)]) else []) = F at hq
      have rf : ∀ D K b1 b2 d p t n s L, k_rf (kc_m M D K b1 b2) d p t n s L = k_rf M d p t n s L := fun D K b1 b2 => k_rf_of rfl (fun _ => rfl) (fun _ => rfl) (fun _ => rfl)
      have hlist : ∀ (D : Nat → Int32) (v : Int32), (∀ j, j < p → D j = eg_gi M 79 j) → (List.range (p + 1)).map (fun j => if j = p then v else D j) = (List.range p).map (eg_gi M 79) ++ [v] := by
        intro D v hD
        rw [List.range_succ, List.map_append, List.map_singleton, if_pos rfl]
        congr 1
        refine List.map_congr_left (fun j hj => ?_)
        have hj := List.mem_range.mp hj
        rw [if_neg (show ¬ j = p by omega)]
        exact hD j hj
      have hb1 : ∀ (b1 b2 : Int32) (l : List Int32) (t : Int32) (n' s' : Nat) (L : List Int32) (B : k_B), n' ≤ p + 1 → (b1, b2, l) = (k_rf M dd (p + 1) t n' s' L).foldl k_bu B → (B.1 = -nI 1 ∨ eg_cn B.1 6) → (b1 = -nI 1 ∨ eg_cn b1 6) := by
        intro b1 b2 l t n' s' L B hn' he hB
        have e1 : b1 = ((k_rf M dd (p + 1) t n' s' L).foldl k_bu B).1 := by rw [← he]
        rcases k_bu_1 (k_rf M dd (p + 1) t n' s' L) B with h | ⟨r, hr, h⟩
        · rw [e1, h]
          exact hB
        · have := k_rf_b hNc hdt dd (p + 1) t n' s' L r hr
          rw [e1, h]
          exact Or.inr ⟨r.1, by omega, rfl⟩
      have lp : ∀ i (x : (Nat → Int32) × (Nat → Int32) × Int32 × Int32 × Option Value), i ≤ m → ((x.2.2.1, x.2.2.2.1, (List.range N).map x.2.1) = ((List.range i).flatMap F).foldl k_bu (eg_gi M 72 10, eg_gi M 72 6, (List.range N).map (eg_gi M 77)) ∧ (∀ j, j < p → x.1 j = eg_gi M 79 j) ∧ (x.2.2.1 = -nI 1 ∨ eg_cn x.2.2.1 6)) → eg_T wd (k_X6_search dd) Qp 76 0 0 [some (.ref 72), some (.int (nI p)), some (.int tk), some (.int (nI n)), some (.int (nI s)), some (.int (nI (n + (N - p)))), some (.int (nI i)), x.2.2.2.2] [] (kc_m M x.1 x.2.1 x.2.2.1 x.2.2.2.1) := by
        refine eg_for ?_
        intro i ⟨D, K, b1, b2, o⟩ hi ⟨hI, hD, hB⟩ kk
        dsimp only at hI hD hB ⊢
        have st := st_X6_search_76 (dd := dd) (Qp := Qp) (M := kc_m M D K b1 b2) (nI p) tk (nI n) (nI s) (nI (n + (N - p))) (nI i) o
        have r75 : eg_gi (kc_m M D K b1 b2) 75 p = nI m := em
        have r78 : ∀ j, eg_gi (kc_m M D K b1 b2) 78 j = eg_gi M 78 j := fun _ => rfl
        have r76 : ∀ j, eg_gi (kc_m M D K b1 b2) 76 j = eg_gi M 76 j := fun _ => rfl
        have q0 : ∀ D' : Nat → Int32, eg_gi (kc_m M D' K b1 b2) 72 0 = nI N := fun _ => eN
        have q10 : ∀ D' : Nat → Int32, eg_gi (kc_m M D' K b1 b2) 72 10 = b1 := fun _ => rfl
        have q6 : ∀ D' : Nat → Int32, eg_gi (kc_m M D' K b1 b2) 72 6 = b2 := fun _ => rfl
        have q77 : ∀ D' : Nat → Int32, eg_gi (kc_m M D' K b1 b2) 77 = K := fun _ => rfl
        have q79 : ∀ D' : Nat → Int32, eg_gi (kc_m M D' K b1 b2) 79 = D' := fun _ => rfl
        have hsp' : ∀ D' : Nat → Int32, k_sp (kc_m M D' K b1 b2) := fun D' => hsp
        rw [n_m, n_s, n_s, n_s, n_c (show p < 2 ^ 31 by omega), n_c (show p * 4 + i < 2 ^ 31 by omega), n_c (show p + 1 < 2 ^ 31 by omega), n_c (show n + 1 < 2 ^ 31 by omega), n_c (show n < 2 ^ 31 by omega), n_c (show s < 2 ^ 31 by omega), r75, r78, r76, n_in (by omega) (by decide), n_in (by omega) (by decide), n_le (by omega) (by omega)] at st
        simp only [kc_m_si, kc_m_sm, q0, q10, q6, q77, q79, rf, n_c (show N < 2 ^ 31 by omega)] at st
        rcases Nat.lt_or_ge i m with him | him
        · obtain ⟨dt, hdt1, edt⟩ := hda i him
          rw [edt, n_s, n_c (show s + dt < 2 ^ 31 by omega)] at st
          refine st (by omega) (fun w => absurd w (by omega)) (fun _ => by omega) (fun _ _ => ⟨by omega, hsp' _, ⟨p + 1, by omega, rfl⟩, by omega, ⟨n + 1, by omega, rfl⟩, ⟨s + dt, by omega, rfl⟩, hB⟩) (fun w => absurd w (by omega)) (fun w D' K' c1 c2 hc => ?_) (fun w => ?_)
          · refine st_X6_search_146 _ _ _ _ _ _ _ ?_
            rw [n_s]
            obtain ⟨hc1, hc2⟩ := hc
            rw [hlist D _ hD] at hc1
            refine kk (D', K', c1, c2, _) him ⟨?_, fun j hj => ?_, hb1 _ _ _ _ _ _ _ _ (by omega) hc1 hB⟩
            · dsimp only
              rw [hc1, hI, List.range_succ, List.flatMap_append, List.foldl_append, List.flatMap_cons, List.flatMap_nil, List.append_nil]
              congr 1
              rw [← hF]
              dsimp only
              rw [if_pos w.2, edt, n_c (show dt < 2 ^ 31 by omega)]
            · dsimp only
              rw [hc2 j (by omega), if_neg (show ¬ j = p by omega)]
              exact hD j hj
          · refine st_X6_search_146 _ _ _ _ _ _ _ ?_
            rw [n_s]
            refine kk (D, K, b1, b2, _) him ⟨?_, hD, hB⟩
            dsimp only
            rw [hI, List.range_succ, List.flatMap_append, List.foldl_append, List.flatMap_cons, List.flatMap_nil, List.append_nil, ← hF]
            dsimp only
            rw [if_neg w.2]
            rfl
        · have him : i = m := by omega
          subst him
          refine st (by omega) (fun _ => ⟨by omega, hsp' _, ⟨p + 1, by omega, rfl⟩, by omega, ⟨n, by omega, rfl⟩, ⟨s, by omega, rfl⟩, hB⟩) (fun w => absurd (Nat.le_refl _) w) (fun w => absurd (Nat.le_refl _) w) (fun _ D' K' c1 c2 hc => ?_) (fun w => absurd (Nat.le_refl _) w.1) (fun w => absurd (Nat.le_refl _) w.1)
          refine st_X6_search_170 _ _ _ _ _ _ _ _ ?_
          obtain ⟨hc1, hc2⟩ := hc
          rw [hlist D _ hD] at hc1
          refine hq D' K' c1 c2 ⟨?_, fun j hj => ?_⟩
          · rw [hc1, hI, List.foldl_append]
          · rw [hc2 j (by omega), if_neg (show ¬ j = p by omega)]
            exact hD j hj
      have l0 := lp 0 (eg_gi M 79, eg_gi M 77, eg_gi M 72 10, eg_gi M 72 6, none) (Nat.zero_le _) ⟨rfl, fun _ _ => rfl, hmp⟩
      dsimp only at l0
      rw [kc_m_id] at l0
      exact l0
    · have hpN' : p = N := by
        rcases z.2 with w | w
        · have := w.2.2; omega
        · have := w.2; omega
      subst hpN'
      rw [kc_m_leaf]
      refine hq _ _ _ _ ⟨?_, fun _ _ => rfl⟩
      rw [k_rf, hNc, if_pos (Nat.le_refl _), List.foldl_cons, List.foldl_nil]
      have hbu : eg_gi M 72 10 < nI n ∨ (eg_gi M 72 10 = nI n ∧ nI s < eg_gi M 72 6) := by
        rw [Nat.sub_self, Nat.add_zero] at z
        rcases z.2 with w | w
        · exact Or.inr ⟨w.1.symm, w.2.1⟩
        · rcases hmp with e | ⟨k, hk, e⟩
          · rw [e]
            exact Or.inl (k_ltm1 (by omega))
          · rw [e] at z w ⊢
            rw [n_lt (by omega) (by omega), n_eq (by omega) (by omega)] at z
            rw [n_lt (by omega) (by omega)]
            rw [n_eq (by omega) (by omega)] at w
            omega
      unfold k_bu
      rw [if_pos hbu]
      refine Prod.ext rfl (Prod.ext rfl (List.map_congr_left (fun j hj => ?_)))
      have hj := List.mem_range.mp hj
      unfold va_cpy
      rw [if_pos (by omega), Nat.sub_zero, Nat.zero_add]
      rfl
    
  · exact h.elim
theorem de_X6_search (dd : Nat) : ∀ q ∈ (k_X6_search dd).1, decode cX6_search q.1 = .ok q.2 := by show ∀ q ∈ (k_X6_search 0).1, decode cX6_search q.1 = .ok q.2; decide +kernel
theorem me_X6_search_r (g : gl_T) : ∀ dd : Nat, MT g yX6_search cX6_search 8 none ⟨1 + 1 * dd, 0, 0, 30 + 27 * dd⟩ 0 0 (s_X6_search_r dd)
  | 0 => fun _ _ argv M Qp _ hS => (sF_X6_search_r argv M Qp hS).elim
  | dd + 1 => by
    have ih_X6_search := me_X6_search_r g dd
    intro hl
    exact eg_met_of (k := k_X6_search dd) (by decide) rfl ⟨Nat.le_refl _, Nat.le_refl _⟩ rfl (sz_X6_search_r (dd + 1)) (de_X6_search dd) (fun meth hn => (fc (eg_FL_of wd_c6 (by decide) lf_RX6_9 (fun h => absurd h (by decide))) (fc (eg_FL_of wd_c6 (by decide) lf_RX6_22 (fun h => absurd h (by decide))) (fc (eg_FL_of wd_c6 (by decide) lf_RX6_25 (fun h => absurd h (by decide))) (fc (eg_FL_of wd_c6 (by decide) lf_RX6_31 (fun _ => Or.inl rfl)) (fc (eg_FL_of wd_c6 (by decide) lf_RX6_34 (fun h => absurd h (by decide))) (fc (eg_FL_of wd_c6 (by decide) lf_RX6_37 (fun h => absurd h (by decide))) (fc (eg_FL_of wd_c6 (by decide) lf_RX6_40 (fun h => absurd h (by decide))) (fc (eg_FL_of wd_c6 (by decide) lf_RX6_43 (fun _ => Or.inl rfl)) (fn)))))))))) (fun A s H hE => (fn)) (fun p e s m args below meth c Q A ad0 N0 S0 hK hEx hA => (fc (mt_acp S0 hK l_acp4 (by dsimp only; omega) (by dsimp only; omega) (by decide)) (fc (mt_V hl S0 hK hEx hA (ih_X6_search) lm_RX6_56 li_X6_search lx_X6_search ln_RX6 lc_X6_search ⟨rfl, by decide, by decide, by decide +kernel⟩ ⟨rfl, rfl⟩ ⟨(show 1 + 1 * dd + 1 ≤ 1 + 1 * (dd + 1) by omega), (show 8 + (8 + 11) + (30 + 27 * dd) ≤ 30 + 27 * (dd + 1) by omega)⟩ (ci := 6) rfl rfl (sr_X6_search_r dd) (by decide)) (fn)))) (fun p e s m args below meth c Qc XC A ad0 N0 P S0 hK hEx hA hlk hout hPX => (fn)) (fun argv M Qp h => T_X6_search_r dd h)
def s_X6_search : eg_S := s_X6_search_r 7
theorem mo_X6_search : eg_mono s_X6_search := mo_X6_search_r 7
theorem sr_X6_search : ∀ argv M Qp, s_X6_search argv M Qp → ∃ p0 As, argv = .ref p0 :: As ∧ eg_isO wd M p0 6 = true := sr_X6_search_r 7
theorem me_X6_search (g : gl_T) : MT g yX6_search cX6_search 8 none ⟨8, 0, 0, 219⟩ 0 0 s_X6_search := me_X6_search_r g 7

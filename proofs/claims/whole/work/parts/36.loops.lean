def k_X12_stables : eg_C := ([(0, .aload_n 0, 1), (1, .iconst 0, 1), (2, .putfield 213, 3), (5, .aload_n 0, 1), (6, .iload_n 1, 1), (7, .iload_n 2, 1), (8, .invokevirtual 517, 3), (11, .ifCond .ne 5, 3), (14, .iconst (-1), 1), (15, .ireturn, 1), (16, .iconst 0, 1), (17, .istore_n 3, 1), (18, .iload_n 3, 1), (19, .bipush 16, 2), (21, .if_icmp .ge 28, 3), (24, .aload_n 0, 1), (25, .getfield 210, 3), (28, .iload_n 3, 1), (29, .aload_n 0, 1), (30, .getfield 204, 3), (33, .iload_n 3, 1), (34, .iaload, 1), (35, .iastore, 1), (36, .aload_n 0, 1), (37, .getfield 207, 3), (40, .iload_n 3, 1), (41, .iconst (-1), 1), (42, .iastore, 1), (43, .iinc 3 1, 3), (46, .goto (-28), 3), (49, .aload_n 0, 1), (50, .iconst 0, 1), (51, .putfield 511, 3), (54, .aload_n 0, 1), (55, .iconst 0, 1), (56, .invokevirtual 514, 3), (59, .iconst 0, 1), (60, .istore_n 3, 1), (61, .iload_n 3, 1), (62, .bipush 16, 2), (64, .if_icmp .ge 21, 3), (67, .aload_n 0, 1), (68, .getfield 204, 3), (71, .iload_n 3, 1), (72, .aload_n 0, 1), (73, .getfield 210, 3), (76, .iload_n 3, 1), (77, .iaload, 1), (78, .iastore, 1), (79, .iinc 3 1, 3), (82, .goto (-21), 3), (85, .aload_n 0, 1), (86, .getfield 511, 3), (89, .ireturn, 1)], [(204, 12, 78, false), (207, 12, 79, false), (210, 12, 84, false), (213, 12, 1, true), (511, 12, 82, true)], [], [(514, 1 + 1, 0, 0, s_X12_go), (517, 2 + 1, 0, 0, s_X12_laySets)], [], 1, 0, 0)
theorem mk_X12_stables : ∀ q ∈ k_X12_stables.2.2.2.1, eg_mono q.2.2.2.2 := (fc (mo_X12_go) (fc (mo_X12_laySets) (fn)))
set_option maxRecDepth 100000 in
theorem st_X12_stables_0 {Qp : eg_P} {M : eg_M} (a : Int32) (b : Int32)
  (g0 : (eg_cn (eg_gi (eg_si M 121 1 (nI 0)) 121 3) 16))
  (l0 : ∀ (v_1 : Bool) (M2_1 : eg_M), ((¬ m_msk (eg_si M 121 1 (nI 0)) a b ∧ v_1 = false ∧ M2_1 = (eg_si M 121 1 (nI 0))) ∨ (m_msk (eg_si M 121 1 (nI 0)) a b ∧ (6 < (ones a (eg_gi (eg_si M 121 1 (nI 0)) 121 3).toNatClampNeg).length ∨ 6 < (ones b (eg_gi (eg_si M 121 1 (nI 0)) 121 3).toNatClampNeg).length) ∧ v_1 = false ∧ M2_1 = eg_si (eg_si (eg_si M 121 1 (nI 0)) 121 80 (nI 0)) 121 81 (nI 0)) ∨ (m_msk (eg_si M 121 1 (nI 0)) a b ∧ (ones a (eg_gi (eg_si M 121 1 (nI 0)) 121 3).toNatClampNeg).length ≤ 6 ∧ (ones b (eg_gi (eg_si M 121 1 (nI 0)) 121 3).toNatClampNeg).length ≤ 6 ∧ v_1 = true ∧ ∃ f g, isL f (ones a (eg_gi (eg_si M 121 1 (nI 0)) 121 3).toNatClampNeg) ∧ isL g (ones b (eg_gi (eg_si M 121 1 (nI 0)) 121 3).toNatClampNeg) ∧ M2_1 = m_ls (eg_si M 121 1 (nI 0)) (ones a (eg_gi (eg_si M 121 1 (nI 0)) 121 3).toNatClampNeg).length (ones b (eg_gi (eg_si M 121 1 (nI 0)) 121 3).toNatClampNeg).length f g)) → eg_T wd k_X12_stables Qp 11 0 0 [some (.ref 121), some (.int a), some (.int b), none] [.int (b2i v_1)] M2_1) :
  eg_T wd k_X12_stables Qp 0 0 0 [some (.ref 121), some (.int a), some (.int b), none] [] M := by
  refine eg_T_run mk_X12_stables (cut := [11, 18, 59, 61]) 57 ?_
  refine And.intro (show (eg_cn (eg_gi (eg_si M 121 1 (nI 0)) 121 3) 16) from ?_) ?_
  · exact g0
  intro v_1 M2_1 ha_1
  show eg_T wd k_X12_stables Qp 11 0 0 [some (.ref 121), some (.int a), some (.int b), none] [.int (b2i v_1)] M2_1
  exact l0 v_1 M2_1 ha_1

set_option maxRecDepth 100000 in
theorem st_X12_stables_11 {Qp : eg_P} {M : eg_M} (o1 : Option Value) (b : Int32) (o3 : Option Value) (s0 : Int32)
  (l0 : (s0 = 0) → Qp (.inl (some (.int (-nI 1)))) M)
  (l1 : (¬ s0 = 0) → eg_T wd k_X12_stables Qp 18 0 0 [some (.ref 121), o1, some (.int b), some (.int (nI 0))] [] M) :
  eg_T wd k_X12_stables Qp 11 0 0 [some (.ref 121), o1, some (.int b), o3] [.int s0] M := by
  refine eg_T_run mk_X12_stables (cut := [11, 18, 59, 61]) 57 ?_
  refine And.intro (fun (c1 : s0 = 0) => ?_) (fun (c1 : ¬ s0 = 0) => ?_)
  · skip
    refine And.intro (fun z => absurd z (by decide)) ?_
    show Qp (.inl (some (.int (-nI 1)))) M
    exact l0 c1
  · skip
    show eg_T wd k_X12_stables Qp 18 0 0 [some (.ref 121), o1, some (.int b), some (.int (nI 0))] [] M
    exact l1 c1

set_option maxRecDepth 100000 in
theorem st_X12_stables_18 {Qp : eg_P} {M : eg_M} (o1 : Option Value) (b : Int32) (x3 : Int32)
  (g0 : ((nI 16) ≤ x3) → (0 < 7 ∧ ∃ n u w, (nI 0) = nI n ∧ n ≤ u ∧ u < n + 7 ∧ m_ps (eg_si M 121 82 (nI 0)) u w ∧ (∀ j, n ≤ j → j < u → eg_gi (eg_si M 121 82 (nI 0)) 175 (eg_gi (eg_si M 121 82 (nI 0)) 172 j).toNatClampNeg = -nI 1) ∧ (∀ i j, i < u → j < w → ¬ eg_gi (eg_si M 121 82 (nI 0)) 172 i = eg_gi (eg_si M 121 82 (nI 0)) 173 j) ∧ (∀ i j, i < j → j < u → ¬ eg_gi (eg_si M 121 82 (nI 0)) 172 i = eg_gi (eg_si M 121 82 (nI 0)) 172 j)))
  (g1 : (¬ ((nI 16) ≤ x3)) → (vp_in x3 16))
  (l0 : ((nI 16) ≤ x3) → ∀ (c_1 : Int32) (g_1 : Nat → Int32), (∀ u w, m_ps (eg_si M 121 82 (nI 0)) u w → (c_1, g_1) = (gp (eg_si M 121 82 (nI 0)) u w 7 (nI 0).toNatClampNeg (eg_gi (eg_si M 121 82 (nI 0)) 175)).foldl (m_g1 (eg_si M 121 82 (nI 0)) u w) (eg_gi (eg_si M 121 82 (nI 0)) 121 82, eg_gi (eg_si M 121 82 (nI 0)) 174)) → eg_T wd k_X12_stables Qp 59 0 0 [some (.ref 121), o1, some (.int b), some (.int x3)] [] (eg_ri (eg_si (eg_si M 121 82 (nI 0)) 121 82 c_1) 174 g_1))
  (l1 : (¬ (nI 16) ≤ x3) → eg_T wd k_X12_stables Qp 18 0 0 [some (.ref 121), o1, some (.int b), some (.int (x3 + (nI 1)))] [] (eg_si (eg_si M 176 x3.toNatClampNeg (eg_gi M 174 x3.toNatClampNeg)) 175 x3.toNatClampNeg (-nI 1))) :
  eg_T wd k_X12_stables Qp 18 0 0 [some (.ref 121), o1, some (.int b), some (.int x3)] [] M := by
  refine eg_T_run mk_X12_stables (cut := [11, 18, 59, 61]) 57 ?_
  refine And.intro (fun (c1 : (nI 16) ≤ x3) => ?_) (fun (c1 : ¬ (nI 16) ≤ x3) => ?_)
  · skip
    refine And.intro (show (0 < 7 ∧ ∃ n u w, (nI 0) = nI n ∧ n ≤ u ∧ u < n + 7 ∧ m_ps (eg_si M 121 82 (nI 0)) u w ∧ (∀ j, n ≤ j → j < u → eg_gi (eg_si M 121 82 (nI 0)) 175 (eg_gi (eg_si M 121 82 (nI 0)) 172 j).toNatClampNeg = -nI 1) ∧ (∀ i j, i < u → j < w → ¬ eg_gi (eg_si M 121 82 (nI 0)) 172 i = eg_gi (eg_si M 121 82 (nI 0)) 173 j) ∧ (∀ i j, i < j → j < u → ¬ eg_gi (eg_si M 121 82 (nI 0)) 172 i = eg_gi (eg_si M 121 82 (nI 0)) 172 j)) from ?_) ?_
    · exact g0 c1
    intro c_1 g_1 ha_1
    show eg_T wd k_X12_stables Qp 59 0 0 [some (.ref 121), o1, some (.int b), some (.int x3)] [] (eg_ri (eg_si (eg_si M 121 82 (nI 0)) 121 82 c_1) 174 g_1)
    exact l0 c1 c_1 g_1 ha_1
  · skip
    refine And.intro (show vp_in x3 16 from ?_) ?_
    · exact g1 c1
    refine And.intro (show vp_in x3 16 from ?_) ?_
    · exact g1 c1
    refine And.intro (show vp_in x3 16 from ?_) ?_
    · exact g1 c1
    show eg_T wd k_X12_stables Qp 18 0 0 [some (.ref 121), o1, some (.int b), some (.int (x3 + (nI 1)))] [] (eg_si (eg_si M 176 x3.toNatClampNeg (eg_gi M 174 x3.toNatClampNeg)) 175 x3.toNatClampNeg (-nI 1))
    exact l1 c1

set_option maxRecDepth 100000 in
theorem st_X12_stables_59 {Qp : eg_P} {M : eg_M} (o1 : Option Value) (b : Int32) (o3 : Option Value)
  (l0 : eg_T wd k_X12_stables Qp 61 0 0 [some (.ref 121), o1, some (.int b), some (.int (nI 0))] [] M) :
  eg_T wd k_X12_stables Qp 59 0 0 [some (.ref 121), o1, some (.int b), o3] [] M := by
  refine eg_T_run mk_X12_stables (cut := [11, 18, 59, 61]) 57 ?_
  show eg_T wd k_X12_stables Qp 61 0 0 [some (.ref 121), o1, some (.int b), some (.int (nI 0))] [] M
  exact l0

set_option maxRecDepth 100000 in
theorem st_X12_stables_61 {Qp : eg_P} {M : eg_M} (o1 : Option Value) (b : Int32) (x3 : Int32)
  (g0 : (¬ ((nI 16) ≤ x3)) → (vp_in x3 16))
  (l0 : ((nI 16) ≤ x3) → Qp (.inl (some (.int (eg_gi M 121 82)))) M)
  (l1 : (¬ (nI 16) ≤ x3) → eg_T wd k_X12_stables Qp 61 0 0 [some (.ref 121), o1, some (.int b), some (.int (x3 + (nI 1)))] [] (eg_si M 174 x3.toNatClampNeg (eg_gi M 176 x3.toNatClampNeg))) :
  eg_T wd k_X12_stables Qp 61 0 0 [some (.ref 121), o1, some (.int b), some (.int x3)] [] M := by
  refine eg_T_run mk_X12_stables (cut := [11, 18, 59, 61]) 57 ?_
  refine And.intro (fun (c1 : (nI 16) ≤ x3) => ?_) (fun (c1 : ¬ (nI 16) ≤ x3) => ?_)
  · skip
    refine And.intro (fun z => absurd z (by decide)) ?_
    show Qp (.inl (some (.int (eg_gi M 121 82)))) M
    exact l0 c1
  · skip
    refine And.intro (show vp_in x3 16 from ?_) ?_
    · exact g0 c1
    refine And.intro (show vp_in x3 16 from ?_) ?_
    · exact g0 c1
    show eg_T wd k_X12_stables Qp 61 0 0 [some (.ref 121), o1, some (.int b), some (.int (x3 + (nI 1)))] [] (eg_si M 174 x3.toNatClampNeg (eg_gi M 176 x3.toNatClampNeg))
    exact l1 c1

def s_X12_stables : eg_S := fun argv M Qp => match argv with
  | [.ref 121, .int a, .int b] => (eg_cn (eg_gi M 121 3) 16 ∧ ∀ t, t < 16 → eg_cn (eg_gi M 170 t) 6) ∧ ∀ (v : Int32) (M2 : eg_M), ((¬ m_ok2 M a b ∧ v = -nI 1 ∧ ∃ x y, M2 = eg_si (eg_si (eg_si M 121 1 (nI 0)) 121 80 x) 121 81 y) ∨ (m_ok2 M a b ∧ ∃ f g c r k, isL f (ones a (eg_gi M 121 3).toNatClampNeg) ∧ isL g (ones b (eg_gi M 121 3).toNatClampNeg) ∧ v = (m_all (m_ls (eg_si M 121 1 (nI 0)) (ones a (eg_gi M 121 3).toNatClampNeg).length (ones b (eg_gi M 121 3).toNatClampNeg).length f g) (ones a (eg_gi M 121 3).toNatClampNeg).length (ones b (eg_gi M 121 3).toNatClampNeg).length (nI 0, eg_gi M 174)).1 ∧ (∀ t, t < 16 → r t = eg_gi M 174 t) ∧ M2 = eg_ri (m_pm M (nI (ones a (eg_gi M 121 3).toNatClampNeg).length) (nI (ones b (eg_gi M 121 3).toNatClampNeg).length) c (eg_gi M 121 83) f g r (nob (eg_gi M 175))) 176 k)) → Qp (.inl (some (.int (v)))) M2
  | _ => False
theorem mo_X12_stables : eg_mono s_X12_stables := by
  intro argv M Q Q' h
  unfold s_X12_stables
  split
  · exact fun z => ⟨z.1, fun v M2 y => h _ _ (z.2 v M2 y)⟩
  · exact id
theorem sz_X12_stables : ∀ argv M Qp, s_X12_stables argv M Qp → (eg_ls0 argv).length ≤ 4 := by
  intro argv M Qp h
  unfold s_X12_stables at h
  split at h
  · exact Nat.le_of_ble_eq_true rfl
  · exact h.elim
theorem sr_X12_stables : ∀ argv M Qp, s_X12_stables argv M Qp → ∃ p0 As, argv = .ref p0 :: As ∧ eg_isO wd M p0 12 = true := by
  intro argv M Qp h
  unfold s_X12_stables at h
  split at h
  · exact ⟨_, _, rfl, rfl⟩
  · exact h.elim
set_option maxRecDepth 100000 in
set_option maxHeartbeats 1000000 in
theorem T_X12_stables {argv : List Value} {M : eg_M} {Qp : eg_P} (h : s_X12_stables argv M Qp) : eg_T wd k_X12_stables Qp 0 0 0 (eg_lsN 4 argv) [] M := by
  unfold s_X12_stables at h
  split at h
  · rename_i a b
    obtain ⟨hp, hq⟩ := h
    obtain ⟨⟨n, hn, hN⟩, hW⟩ := hp
    have r3 : eg_gi (eg_si M 121 1 (nI 0)) 121 3 = eg_gi M 121 3 := rfl
    have okd : m_ok2 M a b ↔ m_msk M a b ∧ (ones a n).length ≤ 6 ∧ (ones b n).length ≤ 6 := by unfold m_ok2; rw [hN, n_c (by omega)]
    rw [hN, n_c (by omega)] at hq
    refine st_X12_stables_0 a b ⟨n, hn, hN⟩ (fun v M2 hc => ?_)
    rw [r3, hN, n_c (by omega)] at hc
    rcases hc with ⟨h1, rfl, rfl⟩ | ⟨h1, h2, rfl, rfl⟩ | ⟨h1, h2, h3, rfl, f, g, hf, hg, rfl⟩
    · refine st_X12_stables_11 _ _ _ _ (fun _ => hq _ _ (Or.inl ⟨fun z => h1 (okd.mp z).1, rfl, eg_gi M 121 80, eg_gi M 121 81, ?_⟩)) (fun z => absurd rfl z)
      have e1 := si_id (eg_si M 121 1 (nI 0)) 121 80
      have e2 := si_id (eg_si M 121 1 (nI 0)) 121 81
      rw [show eg_si (eg_si M 121 1 (nI 0)) 121 80 (eg_gi M 121 80) = eg_si M 121 1 (nI 0) from e1]
      exact e2.symm
    · refine st_X12_stables_11 _ _ _ _ (fun _ => hq _ _ (Or.inl ⟨fun z => ?_, rfl, _, _, rfl⟩)) (fun z => absurd rfl z)
      have := (okd.mp z).2
      omega
    refine st_X12_stables_11 _ _ _ _ (fun z => absurd z (by decide)) (fun _ => ?_)
    have hds := m_ls_ds (M := eg_si M 121 1 (nI 0)) hn h1.2.2 hf hg
    have hlow : ∀ i, i < (ones a n).length → (f i).toNatClampNeg < 16 := fun i hi => by
      obtain ⟨t, ht, e⟩ := vp_in_of (hds.1 i hi) (by decide)
      have e : f i = nI t := e
      rw [e, n_c (by omega)]
      exact ht
    generalize hu : (ones a n).length = u at *
    generalize hw : (ones b n).length = w at *
    generalize hX : m_ls (eg_si M 121 1 (nI 0)) u w f g = X at *
    have x172 : ∀ i, eg_gi X 172 i = f i := fun i => by rw [← hX]; rfl
    have x174 : eg_gi X 174 = eg_gi M 174 := by rw [← hX]; rfl
    have x175 : eg_gi X 175 = eg_gi M 175 := by rw [← hX]; rfl
    have x176 : eg_gi X 176 = eg_gi M 176 := by rw [← hX]; rfl
    have x80 : eg_gi X 121 80 = nI u := by rw [← hX]; rfl
    have x81 : eg_gi X 121 81 = nI w := by rw [← hX]; rfl
    have x170 : ∀ i, eg_gi X 170 i = eg_gi M 170 i := fun i => by rw [← hX]; rfl
    have x83 : eg_gi M 121 83 = eg_gi X 121 83 := by rw [← hX]; rfl
    have fin : ∀ (c : Int32) (r : Nat → Int32), c = (m_all X u w (nI 0, eg_gi M 174)).1 → ∀ i (_ : Unit), i ≤ 16 → True → eg_T wd k_X12_stables Qp 61 0 0 [some (.ref 121), some (.int a), some (.int b), some (.int (nI i))] [] (eg_ri (eg_ri (eg_ri (eg_si X 121 82 c) 174 (fun t => if t < i then eg_gi M 174 t else r t)) 175 (nob (eg_gi M 175))) 176 (fun t => if t < 16 then eg_gi M 174 t else eg_gi M 176 t)) := by
      intro c r hcr
      refine eg_for ?_
      intro i _ hi _ kk
      have s5 := st_X12_stables_61 (Qp := Qp) (M := eg_ri (eg_ri (eg_ri (eg_si X 121 82 c) 174 (fun t => if t < i then eg_gi M 174 t else r t)) 175 (nob (eg_gi M 175))) 176 (fun t => if t < 16 then eg_gi M 174 t else eg_gi M 176 t)) (some (.int a)) b (nI i)
      have y82 : eg_gi (eg_ri (eg_ri (eg_ri (eg_si X 121 82 c) 174 (fun t => if t < i then eg_gi M 174 t else r t)) 175 (nob (eg_gi M 175))) 176 (fun t => if t < 16 then eg_gi M 174 t else eg_gi M 176 t)) 121 82 = c := rfl
      have y176 : ∀ t, eg_gi (eg_ri (eg_ri (eg_ri (eg_si X 121 82 c) 174 (fun t => if t < i then eg_gi M 174 t else r t)) 175 (nob (eg_gi M 175))) 176 (fun t => if t < 16 then eg_gi M 174 t else eg_gi M 176 t)) 176 t = if t < 16 then eg_gi M 174 t else eg_gi M 176 t := fun _ => rfl
      simp (disch := omega) only [y82, y176, n_c, n_le, n_in, n_s, Nat.not_le] at s5
      refine s5 (fun y => by omega) (fun y => ?_) (fun y => ?_)
      · have : i = 16 := by omega
        subst this
        refine hq _ _ (Or.inr ⟨okd.mpr ⟨h1, h2, h3⟩, f, g, c, (fun t => if t < 16 then eg_gi M 174 t else r t), (fun t => if t < 16 then eg_gi M 174 t else eg_gi M 176 t), hf, hg, by rw [hX]; exact hcr, fun t ht => if_pos ht, ?_⟩)
        have e83 : eg_si X 121 83 (eg_gi M 121 83) = X := by rw [x83]; exact si_id X 121 83
        have eX : X = eg_ri (eg_ri (eg_si (eg_si (eg_si (eg_si M 121 1 (nI 0)) 121 80 (nI u)) 121 81 (nI w)) 121 83 (eg_gi M 121 83)) 172 f) 173 g := by
          rw [← e83, ← hX]
          unfold m_ls
          rw [si_ri_n (by decide), si_ri_n (by decide)]
        unfold m_pm
        rw [eX, si_ri_n (by decide), si_ri_n (by decide)]
      · have := kk () y trivial
        rw [if_pos y, si_ri_n (by decide), si_ri_n (by decide), si_ri]
        have ex : (fun j => if j = i then eg_gi M 174 i else if j < i then eg_gi M 174 j else r j) = fun t => if t < i + 1 then eg_gi M 174 t else r t := by
          funext t
          by_cases e : t = i
          · subst e
            rw [if_pos rfl, if_pos (by omega)]
          · rw [if_neg e]
            by_cases e2 : t < i
            · rw [if_pos e2, if_pos (by omega)]
            · rw [if_neg e2, if_neg (by omega)]
        rw [ex]
        exact this
    have lp : ∀ i (_ : Unit), i ≤ 16 → True → eg_T wd k_X12_stables Qp 18 0 0 [some (.ref 121), some (.int a), some (.int b), some (.int (nI i))] [] (eg_ri (eg_ri X 176 (fun t => if t < i then eg_gi M 174 t else eg_gi M 176 t)) 175 (fun t => if t < i then -nI 1 else eg_gi M 175 t)) := by
      refine eg_for ?_
      intro i _ hi _ kk
      have s1 := st_X12_stables_18 (Qp := Qp) (M := eg_ri (eg_ri X 176 (fun t => if t < i then eg_gi M 174 t else eg_gi M 176 t)) 175 (fun t => if t < i then -nI 1 else eg_gi M 175 t)) (some (.int a)) b (nI i)
      have y174 : ∀ j, eg_gi (eg_ri (eg_ri X 176 (fun t => if t < i then eg_gi M 174 t else eg_gi M 176 t)) 175 (fun t => if t < i then -nI 1 else eg_gi M 175 t)) 174 j = eg_gi M 174 j := fun j => congrFun x174 j
      have u6 : u ≤ 6 := h2
      simp (disch := omega) only [y174, n_c, n_le, n_in, n_s, Nat.not_le] at s1
      have hps : ∀ P Q : Nat → Int32, m_ps (eg_si (eg_ri (eg_ri X 176 P) 175 Q) 121 82 (nI 0)) u w := fun P Q => ⟨h2, h3, x80, x81, hds.1, hds.2.1, fun t ht => by
        show eg_cn (eg_gi X 170 t) 6
        rw [x170]
        exact hW t ht⟩
      refine s1 (fun y => ⟨by decide, 0, u, w, rfl, Nat.zero_le _, by omega, hps _ _, fun j _ hj => ?_, hds.2.2.1, hds.2.2.2⟩) (fun y => by omega) (fun y c r hcr => ?_) (fun y => ?_)
      · show (if (eg_gi X 172 j).toNatClampNeg < i then -nI 1 else eg_gi M 175 _) = -nI 1
        rw [x172, if_pos (by have := hlow j hj; omega)]
      · have : i = 16 := by omega
        subst this
        have hcr := hcr u w (hps _ _)
        have ag : ∀ p j, 170 ≤ p → p ≤ 173 → eg_gi (eg_si (eg_ri (eg_ri X 176 (fun t => if t < 16 then eg_gi M 174 t else eg_gi M 176 t)) 175 (fun t => if t < 16 then -nI 1 else eg_gi M 175 t)) 121 82 (nI 0)) p j = eg_gi X p j := by
          intro p j h1 h2
          rw [si_ne (by omega), ri_g, if_neg (by omega), ri_g, if_neg (by omega)]
        rw [gp_g ag, m_g1_g ag] at hcr
        have hcr : (c, r) = m_all X u w (nI 0, eg_gi M 174) := by
          rw [hcr]
          unfold m_all
          rw [x175]
          refine congrArg (fun z => List.foldl (m_g1 X u w) z _) ?_
          exact Prod.ext rfl x174
        refine st_X12_stables_59 _ _ _ ?_
        have := fin c r (by rw [← hcr]) 0 () (by decide) trivial
        have e : eg_ri (eg_si (eg_si (eg_ri (eg_ri X 176 (fun t => if t < 16 then eg_gi M 174 t else eg_gi M 176 t)) 175 (fun t => if t < 16 then -nI 1 else eg_gi M 175 t)) 121 82 (nI 0)) 121 82 c) 174 r = eg_ri (eg_ri (eg_ri (eg_si X 121 82 c) 174 (fun t => if t < 0 then eg_gi M 174 t else r t)) 175 (nob (eg_gi M 175))) 176 (fun t => if t < 16 then eg_gi M 174 t else eg_gi M 176 t) := by
          have e0 : (fun t => if t < 0 then eg_gi M 174 t else r t) = r := by funext t; rw [if_neg (Nat.not_lt_zero _)]
          rw [si_si, si_ri_n (by decide), si_ri_n (by decide), e0, ri_sw (p := 175) (q := 174) (by decide), ri_sw (p := 176) (q := 174) (by decide), ri_sw (p := 176) (q := 175) (by decide)]
          rfl
        rw [e]
        exact this
      · have := kk () y trivial
        rw [si_ri_n (by decide), si_ri, si_ri]
        have ex : (fun j => if j = i then -nI 1 else if j < i then -nI 1 else eg_gi M 175 j) = fun t => if t < i + 1 then -nI 1 else eg_gi M 175 t := by
          funext t
          by_cases e : t = i
          · rw [if_pos e, if_pos (by omega)]
          · rw [if_neg e]
            by_cases e2 : t < i
            · rw [if_pos e2, if_pos (by omega)]
            · rw [if_neg e2, if_neg (by omega)]
        have ey : (fun j => if j = i then eg_gi M 174 i else if j < i then eg_gi M 174 j else eg_gi M 176 j) = fun t => if t < i + 1 then eg_gi M 174 t else eg_gi M 176 t := by
          funext t
          by_cases e : t = i
          · subst e
            rw [if_pos rfl, if_pos (by omega)]
          · rw [if_neg e]
            by_cases e2 : t < i
            · rw [if_pos e2, if_pos (by omega)]
            · rw [if_neg e2, if_neg (by omega)]
        rw [ex, ey]
        exact this
    have := lp 0 () (by decide) trivial
    have e : eg_ri (eg_ri X 176 (fun t => if t < 0 then eg_gi M 174 t else eg_gi M 176 t)) 175 (fun t => if t < 0 then -nI 1 else eg_gi M 175 t) = X := by
      have e1 : eg_ri X 176 (fun t => if t < 0 then eg_gi M 174 t else eg_gi M 176 t) = X := ri_id' (by rw [x176]; funext t; rw [if_neg (Nat.not_lt_zero _)])
      rw [e1]
      exact ri_id' (by rw [x175]; funext t; rw [if_neg (Nat.not_lt_zero _)])
    rw [e] at this
    exact this
    
  · exact h.elim
theorem de_X12_stables : ∀ q ∈ k_X12_stables.1, decode cX12_stables q.1 = .ok q.2 := by decide +kernel
theorem me_X12_stables (g : gl_T) : MT g yX12_stables cX12_stables 4 (some .int) ⟨11, 0, 0, 259⟩ 0 0 s_X12_stables := by
  intro hl
  exact eg_met_of (k := k_X12_stables) (by decide) rfl ⟨Nat.le_refl _, Nat.le_refl _⟩ rfl sz_X12_stables de_X12_stables (fun meth hn => (fc (eg_FL_of wd_c12 (by decide) lf_RX12_204 (fun h => absurd h (by decide))) (fc (eg_FL_of wd_c12 (by decide) lf_RX12_207 (fun h => absurd h (by decide))) (fc (eg_FL_of wd_c12 (by decide) lf_RX12_210 (fun h => absurd h (by decide))) (fc (eg_FL_of wd_c12 (by decide) lf_RX12_213 (fun _ => Or.inl rfl)) (fc (eg_FL_of wd_c12 (by decide) lf_RX12_511 (fun _ => Or.inl rfl)) (fn))))))) (fun A s H hE => (fn)) (fun p e s m args below meth c Q A ad0 N0 S0 hK hEx hA => (fc (mt_V hl S0 hK hEx hA (me_X12_go g) lm_RX12_514 li_X12_go lx_X12_go ln_RX12 lc_X12_go ⟨rfl, by decide, by decide, by decide +kernel⟩ ⟨rfl, rfl⟩ ⟨by decide, by decide⟩ (ci := 12) rfl rfl sr_X12_go (by decide)) (fc (mt_V hl S0 hK hEx hA (me_X12_laySets g) lm_RX12_517 li_X12_laySets lx_X12_laySets ln_RX12 lc_X12_laySets ⟨rfl, by decide, by decide, by decide +kernel⟩ ⟨rfl, rfl⟩ ⟨by decide, by decide⟩ (ci := 12) rfl rfl sr_X12_laySets (by decide)) (fn)))) (fun p e s m args below meth c Qc XC A ad0 N0 P S0 hK hEx hA hlk hout hPX => (fn)) (fun argv M Qp h => T_X12_stables h)

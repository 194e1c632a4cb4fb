/-! all pairings of two sets -/
/-- t and x are friends from here on -/
def up2 (p : Nat → Int32) (t x : Int32) : Nat → Int32 := fun y => if y = x.toNatClampNeg then t else if y = t.toNatClampNeg then x else p y
/-- the model: the pairings that come out of p, from the n-th of the first on; d must suffice -/
def gp (M : eg_M) (u w : Nat) : Nat → Nat → (Nat → Int32) → List (Nat → Int32)
  | 0, _, _ => []
  | d + 1, n, p => if n = u then [p] else gp M u w d (n + 1) p ++ (List.range w).flatMap (fun j => if p (eg_gi M 173 j).toNatClampNeg = -nI 1 ∧ m_my M (eg_gi M 172 n) (eg_gi M 173 j) = true then gp M u w d (n + 1) (up2 p (eg_gi M 172 n) (eg_gi M 173 j)) else [])
/-- the model: a pairing is stable -/
def m_stb (M : eg_M) (u w : Nat) (q : Nat → Int32) : Prop := ∀ i, i < u → ∀ j, j < w → ¬ m_qu (eg_ri M 175 q) i j
/-- the model: the friends of the first k, where q has a dearer one -/
def m_fu (M : eg_M) (q g : Nat → Int32) : Nat → (Nat → Int32)
  | 0 => g
  | k + 1 => if ¬ q (eg_gi M 172 k).toNatClampNeg = -nI 1 ∧ (m_fu M q g k (eg_gi M 172 k).toNatClampNeg = -nI 1 ∨ m_de M (eg_gi M 172 k) (q (eg_gi M 172 k).toNatClampNeg) < m_de M (eg_gi M 172 k) (m_fu M q g k (eg_gi M 172 k).toNatClampNeg)) then (fun y => if y = (eg_gi M 172 k).toNatClampNeg then q (eg_gi M 172 k).toNatClampNeg else m_fu M q g k y) else m_fu M q g k
noncomputable def m_g1 (M : eg_M) (u w : Nat) (x : Int32 × (Nat → Int32)) (q : Nat → Int32) : Int32 × (Nat → Int32) := @ite _ (m_stb M u w q) (Classical.propDecidable _) (x.1 + nI 1, m_fu M q x.2 u) x
theorem m_de_g {M N : eg_M} (h : ∀ p j, 170 ≤ p → p ≤ 173 → eg_gi N p j = eg_gi M p j) (t x : Int32) : m_de N t x = m_de M t x := by
  unfold m_de
  simp only [h 170 _ (by decide) (by decide), h 171 _ (by decide) (by decide)]
theorem m_my_g {M N : eg_M} (h : ∀ p j, 170 ≤ p → p ≤ 173 → eg_gi N p j = eg_gi M p j) (t x : Int32) : m_my N t x = m_my M t x := by
  unfold m_my
  simp only [m_de_g h]
theorem gp_g {M N : eg_M} (h : ∀ p j, 170 ≤ p → p ≤ 173 → eg_gi N p j = eg_gi M p j) (u w : Nat) : ∀ (d n : Nat) (p : Nat → Int32), gp N u w d n p = gp M u w d n p := by
  intro d
  induction d with
  | zero => intro n p; rfl
  | succ d ih =>
    intro n p
    rw [gp, gp]
    simp only [ih, m_my_g h, h 172 _ (by decide) (by decide), h 173 _ (by decide) (by decide)]
theorem m_qu_g {M N : eg_M} (h : ∀ p j, 170 ≤ p → p ≤ 173 → eg_gi N p j = eg_gi M p j) (h5 : ∀ j, eg_gi N 175 j = eg_gi M 175 j) (i j : Nat) : m_qu N i j ↔ m_qu M i j := by
  unfold m_qu m_wl
  simp only [m_my_g h, m_de_g h, h5, h 172 _ (by decide) (by decide), h 173 _ (by decide) (by decide)]
theorem m_stb_g {M N : eg_M} (h : ∀ p j, 170 ≤ p → p ≤ 173 → eg_gi N p j = eg_gi M p j) (u w : Nat) (q : Nat → Int32) : m_stb N u w q ↔ m_stb M u w q := by
  unfold m_stb
  have : ∀ i j, m_qu (eg_ri N 175 q) i j ↔ m_qu (eg_ri M 175 q) i j := m_qu_g (fun p j h1 h2 => by rw [ri_g, ri_g, if_neg (by omega), if_neg (by omega)]; exact h p j h1 h2) (fun j => by rw [ri_g, ri_g, if_pos rfl, if_pos rfl])
  simp only [this]
theorem m_fu_g {M N : eg_M} (h : ∀ p j, 170 ≤ p → p ≤ 173 → eg_gi N p j = eg_gi M p j) (q g : Nat → Int32) (k : Nat) : m_fu N q g k = m_fu M q g k := by
  induction k with
  | zero => rfl
  | succ k ih =>
    rw [m_fu, m_fu, ih]
    simp only [m_de_g h, h 172 _ (by decide) (by decide)]
theorem m_g1_g {M N : eg_M} (h : ∀ p j, 170 ≤ p → p ≤ 173 → eg_gi N p j = eg_gi M p j) (u w : Nat) : m_g1 N u w = m_g1 M u w := by
  funext x q
  unfold m_g1
  rw [m_fu_g h]
  by_cases hs : m_stb M u w q
  · rw [if_pos hs, if_pos ((m_stb_g h u w q).mpr hs)]
  · rw [if_neg hs, if_neg (fun z => hs ((m_stb_g h u w q).mp z))]
theorem vp_nn {x y : Int32} {m : Nat} (hm : m < 2 ^ 31) (hx : vp_in x m) (hy : vp_in y m) (h : x.toNatClampNeg = y.toNatClampNeg) : x = y := by
  obtain ⟨a, ha, rfl⟩ := vp_in_of hx hm
  obtain ⟨b, hb, rfl⟩ := vp_in_of hy hm
  rw [n_c (by omega), n_c (by omega)] at h
  rw [h]
/-- behind the return from a friendship that was tried -/
theorem go_back {M : eg_M} {c c2 a b : Int32} {g g2 : Nat → Int32} {t s : Nat} (h1 : eg_gi M 175 t = -nI 1) (h2 : eg_gi M 175 s = -nI 1) : eg_si (eg_si (eg_ri (eg_si (eg_si (eg_si (eg_ri (eg_si M 121 82 c) 174 g) 175 t a) 175 s b) 121 82 c2) 174 g2) 175 t (-nI 1)) 175 s (-nI 1) = eg_ri (eg_si M 121 82 c2) 174 g2 := by
  obtain ⟨m0, mi, mr⟩ := M
  have h1 : mi 175 t = -nI 1 := h1
  have h2 : mi 175 s = -nI 1 := h2
  unfold eg_si eg_ri eg_up
  refine Prod.ext rfl (Prod.ext ?_ rfl)
  funext q j
  by_cases q1 : q = 175
  · subst q1
    by_cases j1 : j = s
    · subst j1; simp [h2]
    · by_cases j2 : j = t
      · subst j2; simp [h1]
      · simp [j1, j2]
  · by_cases q2 : q = 174
    · subst q2; simp
    · by_cases q3 : q = 121
      · subst q3
        by_cases j1 : j = 82 <;> simp [j1]
      · simp [q1, q2, q3]
def s_X12_go_r (dd : Nat) : eg_S := fun argv M Qp => match argv with
  | [.ref 121, .int ii] => (0 < dd ∧ ∃ n u w, ii = nI n ∧ n ≤ u ∧ u < n + dd ∧ m_ps M u w ∧ (∀ j, n ≤ j → j < u → eg_gi M 175 (eg_gi M 172 j).toNatClampNeg = -nI 1) ∧ (∀ i j, i < u → j < w → ¬ eg_gi M 172 i = eg_gi M 173 j) ∧ (∀ i j, i < j → j < u → ¬ eg_gi M 172 i = eg_gi M 172 j)) ∧ ∀ (c : Int32) (g : Nat → Int32), (∀ u w, m_ps M u w → (c, g) = (gp M u w dd ii.toNatClampNeg (eg_gi M 175)).foldl (m_g1 M u w) (eg_gi M 121 82, eg_gi M 174)) → Qp (.inl none) (eg_ri (eg_si M 121 82 c) 174 g)
  | _ => False
theorem mo_X12_go_r (dd : Nat) : eg_mono (s_X12_go_r dd) := by
  intro argv M Q Q' h
  unfold s_X12_go_r
  split
  · exact fun z => ⟨z.1, fun c g y => h _ _ (z.2 c g y)⟩
  · exact id
theorem sz_X12_go_r (dd : Nat) : ∀ argv M Qp, s_X12_go_r dd argv M Qp → (eg_ls0 argv).length ≤ 5 := by
  intro argv M Qp h
  unfold s_X12_go_r at h
  split at h
  · exact Nat.le_of_ble_eq_true rfl
  · exact h.elim
theorem sr_X12_go_r (dd : Nat) : ∀ argv M Qp, s_X12_go_r dd argv M Qp → ∃ p0 As, argv = .ref p0 :: As ∧ eg_isO wd M p0 12 = true := by
  intro argv M Qp h
  unfold s_X12_go_r at h
  split at h
  · exact ⟨_, _, rfl, rfl⟩
  · exact h.elim
theorem sF_X12_go_r : ∀ argv M Qp, s_X12_go_r 0 argv M Qp → False := by
  intro argv M Qp h
  unfold s_X12_go_r at h
  split at h
  · exact absurd h.1.1 (Nat.lt_irrefl 0)
  · exact h
def k_X12_go (dd : Nat) : eg_C := ([(0, .iload_n 1, 1), (1, .aload_n 0, 1), (2, .getfield 495, 3), (5, .if_icmp .ne 102, 3), (8, .aload_n 0, 1), (9, .invokevirtual 507, 3), (12, .ifCond .ne 4, 3), (15, .return_, 1), (16, .aload_n 0, 1), (17, .dup, 1), (18, .getfield 511, 3), (21, .iconst 1, 1), (22, .iadd, 1), (23, .putfield 511, 3), (26, .iconst 0, 1), (27, .istore_n 2, 1), (28, .iload_n 2, 1), (29, .aload_n 0, 1), (30, .getfield 495, 3), (33, .if_icmp .ge 73, 3), (36, .aload_n 0, 1), (37, .getfield 198, 3), (40, .iload_n 2, 1), (41, .iaload, 1), (42, .istore_n 3, 1), (43, .aload_n 0, 1), (44, .getfield 207, 3), (47, .iload_n 3, 1), (48, .iaload, 1), (49, .iconst (-1), 1), (50, .if_icmp .eq 50, 3), (53, .aload_n 0, 1), (54, .getfield 204, 3), (57, .iload_n 3, 1), (58, .iaload, 1), (59, .iconst (-1), 1), (60, .if_icmp .eq 28, 3), (63, .aload_n 0, 1), (64, .iload_n 3, 1), (65, .aload_n 0, 1), (66, .getfield 207, 3), (69, .iload_n 3, 1), (70, .iaload, 1), (71, .invokevirtual 492, 3), (74, .aload_n 0, 1), (75, .iload_n 3, 1), (76, .aload_n 0, 1), (77, .getfield 204, 3), (80, .iload_n 3, 1), (81, .iaload, 1), (82, .invokevirtual 492, 3), (85, .if_icmp .ge 15, 3), (88, .aload_n 0, 1), (89, .getfield 204, 3), (92, .iload_n 3, 1), (93, .aload_n 0, 1), (94, .getfield 207, 3), (97, .iload_n 3, 1), (98, .iaload, 1), (99, .iastore, 1), (100, .iinc 2 1, 3), (103, .goto (-75), 3), (106, .return_, 1), (107, .aload_n 0, 1), (108, .getfield 198, 3), (111, .iload_n 1, 1), (112, .iaload, 1), (113, .istore_n 2, 1), (114, .aload_n 0, 1), (115, .iload_n 1, 1), (116, .iconst 1, 1), (117, .iadd, 1), (118, .invokevirtual 514, 3), (121, .iconst 0, 1), (122, .istore_n 3, 1), (123, .iload_n 3, 1), (124, .aload_n 0, 1), (125, .getfield 498, 3), (128, .if_icmp .ge 79, 3), (131, .aload_n 0, 1), (132, .getfield 201, 3), (135, .iload_n 3, 1), (136, .iaload, 1), (137, .istore 4, 2), (139, .aload_n 0, 1), (140, .getfield 207, 3), (143, .iload 4, 2), (145, .iaload, 1), (146, .iconst (-1), 1), (147, .if_icmp .ne 54, 3), (150, .aload_n 0, 1), (151, .iload_n 2, 1), (152, .iload 4, 2), (154, .invokevirtual 501, 3), (157, .ifCond .ne 6, 3), (160, .goto 41, 3), (163, .aload_n 0, 1), (164, .getfield 207, 3), (167, .iload_n 2, 1), (168, .iload 4, 2), (170, .iastore, 1), (171, .aload_n 0, 1), (172, .getfield 207, 3), (175, .iload 4, 2), (177, .iload_n 2, 1), (178, .iastore, 1), (179, .aload_n 0, 1), (180, .iload_n 1, 1), (181, .iconst 1, 1), (182, .iadd, 1), (183, .invokevirtual 514, 3), (186, .aload_n 0, 1), (187, .getfield 207, 3), (190, .iload_n 2, 1), (191, .iconst (-1), 1), (192, .iastore, 1), (193, .aload_n 0, 1), (194, .getfield 207, 3), (197, .iload 4, 2), (199, .iconst (-1), 1), (200, .iastore, 1), (201, .iinc 3 1, 3), (204, .goto (-81), 3), (207, .return_, 1)], [(198, 12, 76, false), (201, 12, 77, false), (204, 12, 78, false), (207, 12, 79, false), (495, 12, 80, false), (498, 12, 81, false), (511, 12, 82, true)], [], [(492, 2 + 1, 0, 0, s_X12_dear), (501, 2 + 1, 0, 0, s_X12_may), (507, 0 + 1, 0, 0, s_X12_isStable), (514, 1 + 1, 0, 0, s_X12_go_r dd)], [], 0, 0, 0)
theorem mk_X12_go (dd : Nat) : ∀ q ∈ (k_X12_go dd).2.2.2.1, eg_mono q.2.2.2.2 := (fc (mo_X12_dear) (fc (mo_X12_may) (fc (mo_X12_isStable) (fc (mo_X12_go_r dd) (fn)))))

set_option maxRecDepth 100000 in
theorem st_X12_go_0 {dd : Nat} {Qp : eg_P} {M : eg_M} (ii : Int32)
  (g0 : (ii = (eg_gi M 121 80)) → (∃ u w, m_ps M u w))
  (g1 : (¬ (ii = (eg_gi M 121 80))) → (vp_in ii 6))
  (g2 : (¬ (ii = (eg_gi M 121 80))) → (0 < dd ∧ ∃ n u w, (ii + (nI 1)) = nI n ∧ n ≤ u ∧ u < n + dd ∧ m_ps M u w ∧ (∀ j, n ≤ j → j < u → eg_gi M 175 (eg_gi M 172 j).toNatClampNeg = -nI 1) ∧ (∀ i j, i < u → j < w → ¬ eg_gi M 172 i = eg_gi M 173 j) ∧ (∀ i j, i < j → j < u → ¬ eg_gi M 172 i = eg_gi M 172 j)))
  (l0 : (ii = (eg_gi M 121 80)) → ∀ (v_1 : Bool), (∀ u w, m_ps M u w → (v_1 = true ↔ ∀ i, i < u → ∀ j, j < w → ¬ m_qu M i j)) → eg_T wd (k_X12_go dd) Qp 12 0 0 [some (.ref 121), some (.int ii), none, none, none] [.int (b2i v_1)] M)
  (l1 : (¬ ii = (eg_gi M 121 80)) → ∀ (c_2 : Int32) (g_2 : Nat → Int32), (∀ u w, m_ps M u w → (c_2, g_2) = (gp M u w dd (ii + (nI 1)).toNatClampNeg (eg_gi M 175)).foldl (m_g1 M u w) (eg_gi M 121 82, eg_gi M 174)) → eg_T wd (k_X12_go dd) Qp 121 0 0 [some (.ref 121), some (.int ii), some (.int (eg_gi M 172 ii.toNatClampNeg)), none, none] [] (eg_ri (eg_si M 121 82 c_2) 174 g_2)) :
  eg_T wd (k_X12_go dd) Qp 0 0 0 [some (.ref 121), some (.int ii), none, none, none] [] M := by
  refine eg_T_run (mk_X12_go dd) (cut := [12, 28, 121, 123, 186]) 127 ?_
  refine And.intro (fun (c1 : ii = (eg_gi M 121 80)) => ?_) (fun (c1 : ¬ ii = (eg_gi M 121 80)) => ?_)
  · skip
    refine And.intro (show (∃ u w, m_ps M u w) from ?_) ?_
    · exact g0 c1
    intro v_1 ha_1
    show eg_T wd (k_X12_go dd) Qp 12 0 0 [some (.ref 121), some (.int ii), none, none, none] [.int (b2i v_1)] M
    exact l0 c1 v_1 ha_1
  · skip
    refine And.intro (show vp_in ii 6 from ?_) ?_
    · exact g1 c1
    refine And.intro (show (0 < dd ∧ ∃ n u w, (ii + (nI 1)) = nI n ∧ n ≤ u ∧ u < n + dd ∧ m_ps M u w ∧ (∀ j, n ≤ j → j < u → eg_gi M 175 (eg_gi M 172 j).toNatClampNeg = -nI 1) ∧ (∀ i j, i < u → j < w → ¬ eg_gi M 172 i = eg_gi M 173 j) ∧ (∀ i j, i < j → j < u → ¬ eg_gi M 172 i = eg_gi M 172 j)) from ?_) ?_
    · exact g2 c1
    intro c_2 g_2 ha_2
    show eg_T wd (k_X12_go dd) Qp 121 0 0 [some (.ref 121), some (.int ii), some (.int (eg_gi M 172 ii.toNatClampNeg)), none, none] [] (eg_ri (eg_si M 121 82 c_2) 174 g_2)
    exact l1 c1 c_2 g_2 ha_2

set_option maxRecDepth 100000 in
theorem st_X12_go_12 {dd : Nat} {Qp : eg_P} {M : eg_M} (ii : Int32) (o2 : Option Value) (o3 : Option Value) (o4 : Option Value) (s0 : Int32)
  (l0 : (s0 = 0) → Qp (.inl none) M)
  (l1 : (¬ s0 = 0) → eg_T wd (k_X12_go dd) Qp 28 0 0 [some (.ref 121), some (.int ii), some (.int (nI 0)), o3, o4] [] (eg_si M 121 82 ((eg_gi M 121 82) + (nI 1)))) :
  eg_T wd (k_X12_go dd) Qp 12 0 0 [some (.ref 121), some (.int ii), o2, o3, o4] [.int s0] M := by
  refine eg_T_run (mk_X12_go dd) (cut := [12, 28, 121, 123, 186]) 127 ?_
  refine And.intro (fun (c1 : s0 = 0) => ?_) (fun (c1 : ¬ s0 = 0) => ?_)
  · skip
    show Qp (.inl none) M
    exact l0 c1
  · skip
    show eg_T wd (k_X12_go dd) Qp 28 0 0 [some (.ref 121), some (.int ii), some (.int (nI 0)), o3, o4] [] (eg_si M 121 82 ((eg_gi M 121 82) + (nI 1)))
    exact l1 c1

set_option maxRecDepth 100000 in
theorem st_X12_go_28 {dd : Nat} {Qp : eg_P} {M : eg_M} (ii : Int32) (x2 : Int32) (o3 : Option Value) (o4 : Option Value)
  (g0 : (¬ ((eg_gi M 121 80) ≤ x2)) → (vp_in x2 6))
  (g1 : (¬ ((eg_gi M 121 80) ≤ x2)) → (vp_in (eg_gi M 172 x2.toNatClampNeg) 16))
  (g2 : (¬ ((eg_gi M 121 80) ≤ x2)) → (¬ ((eg_gi M 175 (eg_gi M 172 x2.toNatClampNeg).toNatClampNeg) = (-nI 1))) → (¬ ((eg_gi M 174 (eg_gi M 172 x2.toNatClampNeg).toNatClampNeg) = (-nI 1))) → (vp_in (eg_gi M 172 x2.toNatClampNeg) 16 ∧ eg_cn (eg_gi M 170 (eg_gi M 172 x2.toNatClampNeg).toNatClampNeg) 6))
  (l0 : ((eg_gi M 121 80) ≤ x2) → Qp (.inl none) M)
  (l1 : (¬ (eg_gi M 121 80) ≤ x2 ∧ ((eg_gi M 175 (eg_gi M 172 x2.toNatClampNeg).toNatClampNeg) = (-nI 1) ∨ (¬ (eg_gi M 174 (eg_gi M 172 x2.toNatClampNeg).toNatClampNeg) = (-nI 1) ∧ (m_de M (eg_gi M 172 x2.toNatClampNeg) (eg_gi M 174 (eg_gi M 172 x2.toNatClampNeg).toNatClampNeg)) ≤ (m_de M (eg_gi M 172 x2.toNatClampNeg) (eg_gi M 175 (eg_gi M 172 x2.toNatClampNeg).toNatClampNeg))))) → eg_T wd (k_X12_go dd) Qp 28 0 0 [some (.ref 121), some (.int ii), some (.int (x2 + (nI 1))), some (.int (eg_gi M 172 x2.toNatClampNeg)), o4] [] M)
  (l2 : (¬ (eg_gi M 121 80) ≤ x2 ∧ (¬ (eg_gi M 175 (eg_gi M 172 x2.toNatClampNeg).toNatClampNeg) = (-nI 1) ∧ ((eg_gi M 174 (eg_gi M 172 x2.toNatClampNeg).toNatClampNeg) = (-nI 1) ∨ ¬ (m_de M (eg_gi M 172 x2.toNatClampNeg) (eg_gi M 174 (eg_gi M 172 x2.toNatClampNeg).toNatClampNeg)) ≤ (m_de M (eg_gi M 172 x2.toNatClampNeg) (eg_gi M 175 (eg_gi M 172 x2.toNatClampNeg).toNatClampNeg))))) → eg_T wd (k_X12_go dd) Qp 28 0 0 [some (.ref 121), some (.int ii), some (.int (x2 + (nI 1))), some (.int (eg_gi M 172 x2.toNatClampNeg)), o4] [] (eg_si M 174 (eg_gi M 172 x2.toNatClampNeg).toNatClampNeg (eg_gi M 175 (eg_gi M 172 x2.toNatClampNeg).toNatClampNeg))) :
  eg_T wd (k_X12_go dd) Qp 28 0 0 [some (.ref 121), some (.int ii), some (.int x2), o3, o4] [] M := by
  refine eg_T_run (mk_X12_go dd) (cut := [12, 28, 121, 123, 186]) 127 ?_
  refine And.intro (fun (c1 : (eg_gi M 121 80) ≤ x2) => ?_) (fun (c1 : ¬ (eg_gi M 121 80) ≤ x2) => ?_)
  · skip
    show Qp (.inl none) M
    exact l0 c1
  · skip
    refine And.intro (show vp_in x2 6 from ?_) ?_
    · exact g0 c1
    refine And.intro (show vp_in (eg_gi M 172 x2.toNatClampNeg) 16 from ?_) ?_
    · exact g1 c1
    refine And.intro (fun (c2 : (eg_gi M 175 (eg_gi M 172 x2.toNatClampNeg).toNatClampNeg) = (-nI 1)) => ?_) (fun (c2 : ¬ (eg_gi M 175 (eg_gi M 172 x2.toNatClampNeg).toNatClampNeg) = (-nI 1)) => ?_)
    · skip
      show eg_T wd (k_X12_go dd) Qp 28 0 0 [some (.ref 121), some (.int ii), some (.int (x2 + (nI 1))), some (.int (eg_gi M 172 x2.toNatClampNeg)), o4] [] M
      exact l1 ⟨c1, (Or.inl c2)⟩
    · skip
      refine And.intro (show vp_in (eg_gi M 172 x2.toNatClampNeg) 16 from ?_) ?_
      · exact g1 c1
      refine And.intro (fun (c3 : (eg_gi M 174 (eg_gi M 172 x2.toNatClampNeg).toNatClampNeg) = (-nI 1)) => ?_) (fun (c3 : ¬ (eg_gi M 174 (eg_gi M 172 x2.toNatClampNeg).toNatClampNeg) = (-nI 1)) => ?_)
      · skip
        refine And.intro (show vp_in (eg_gi M 172 x2.toNatClampNeg) 16 from ?_) ?_
        · exact g1 c1
        refine And.intro (show vp_in (eg_gi M 172 x2.toNatClampNeg) 16 from ?_) ?_
        · exact g1 c1
        show eg_T wd (k_X12_go dd) Qp 28 0 0 [some (.ref 121), some (.int ii), some (.int (x2 + (nI 1))), some (.int (eg_gi M 172 x2.toNatClampNeg)), o4] [] (eg_si M 174 (eg_gi M 172 x2.toNatClampNeg).toNatClampNeg (eg_gi M 175 (eg_gi M 172 x2.toNatClampNeg).toNatClampNeg))
        exact l2 ⟨c1, ⟨c2, (Or.inl c3)⟩⟩
      · skip
        refine And.intro (show vp_in (eg_gi M 172 x2.toNatClampNeg) 16 from ?_) ?_
        · exact g1 c1
        refine And.intro (show (vp_in (eg_gi M 172 x2.toNatClampNeg) 16 ∧ eg_cn (eg_gi M 170 (eg_gi M 172 x2.toNatClampNeg).toNatClampNeg) 6) from ?_) ?_
        · exact g2 c1 c2 c3
        refine And.intro (show vp_in (eg_gi M 172 x2.toNatClampNeg) 16 from ?_) ?_
        · exact g1 c1
        refine And.intro (show (vp_in (eg_gi M 172 x2.toNatClampNeg) 16 ∧ eg_cn (eg_gi M 170 (eg_gi M 172 x2.toNatClampNeg).toNatClampNeg) 6) from ?_) ?_
        · exact g2 c1 c2 c3
        refine And.intro (fun (c4 : (m_de M (eg_gi M 172 x2.toNatClampNeg) (eg_gi M 174 (eg_gi M 172 x2.toNatClampNeg).toNatClampNeg)) ≤ (m_de M (eg_gi M 172 x2.toNatClampNeg) (eg_gi M 175 (eg_gi M 172 x2.toNatClampNeg).toNatClampNeg))) => ?_) (fun (c4 : ¬ (m_de M (eg_gi M 172 x2.toNatClampNeg) (eg_gi M 174 (eg_gi M 172 x2.toNatClampNeg).toNatClampNeg)) ≤ (m_de M (eg_gi M 172 x2.toNatClampNeg) (eg_gi M 175 (eg_gi M 172 x2.toNatClampNeg).toNatClampNeg))) => ?_)
        · skip
          show eg_T wd (k_X12_go dd) Qp 28 0 0 [some (.ref 121), some (.int ii), some (.int (x2 + (nI 1))), some (.int (eg_gi M 172 x2.toNatClampNeg)), o4] [] M
          exact l1 ⟨c1, (Or.inr ⟨c3, c4⟩)⟩
        · skip
          refine And.intro (show vp_in (eg_gi M 172 x2.toNatClampNeg) 16 from ?_) ?_
          · exact g1 c1
          refine And.intro (show vp_in (eg_gi M 172 x2.toNatClampNeg) 16 from ?_) ?_
          · exact g1 c1
          show eg_T wd (k_X12_go dd) Qp 28 0 0 [some (.ref 121), some (.int ii), some (.int (x2 + (nI 1))), some (.int (eg_gi M 172 x2.toNatClampNeg)), o4] [] (eg_si M 174 (eg_gi M 172 x2.toNatClampNeg).toNatClampNeg (eg_gi M 175 (eg_gi M 172 x2.toNatClampNeg).toNatClampNeg))
          exact l2 ⟨c1, ⟨c2, (Or.inr c4)⟩⟩

set_option maxRecDepth 100000 in
theorem st_X12_go_121 {dd : Nat} {Qp : eg_P} {M : eg_M} (ii : Int32) (x2 : Int32) (o3 : Option Value) (o4 : Option Value)
  (l0 : eg_T wd (k_X12_go dd) Qp 123 0 0 [some (.ref 121), some (.int ii), some (.int x2), some (.int (nI 0)), o4] [] M) :
  eg_T wd (k_X12_go dd) Qp 121 0 0 [some (.ref 121), some (.int ii), some (.int x2), o3, o4] [] M := by
  refine eg_T_run (mk_X12_go dd) (cut := [12, 28, 121, 123, 186]) 127 ?_
  show eg_T wd (k_X12_go dd) Qp 123 0 0 [some (.ref 121), some (.int ii), some (.int x2), some (.int (nI 0)), o4] [] M
  exact l0

set_option maxRecDepth 100000 in
theorem st_X12_go_123 {dd : Nat} {Qp : eg_P} {M : eg_M} (ii : Int32) (x2 : Int32) (x3 : Int32) (o4 : Option Value)
  (g0 : (¬ ((eg_gi M 121 81) ≤ x3)) → (vp_in x3 6))
  (g1 : (¬ ((eg_gi M 121 81) ≤ x3)) → (vp_in (eg_gi M 173 x3.toNatClampNeg) 16))
  (g2 : (¬ ((eg_gi M 121 81) ≤ x3)) → ((eg_gi M 175 (eg_gi M 173 x3.toNatClampNeg).toNatClampNeg) = (-nI 1)) → (m_tn M x2 ∧ m_tn M (eg_gi M 173 x3.toNatClampNeg)))
  (g3 : (¬ ((eg_gi M 121 81) ≤ x3)) → ((eg_gi M 175 (eg_gi M 173 x3.toNatClampNeg).toNatClampNeg) = (-nI 1)) → (¬ ((m_my M x2 (eg_gi M 173 x3.toNatClampNeg)) = false)) → (vp_in x2 16))
  (g4 : (¬ ((eg_gi M 121 81) ≤ x3)) → ((eg_gi M 175 (eg_gi M 173 x3.toNatClampNeg).toNatClampNeg) = (-nI 1)) → (¬ ((m_my M x2 (eg_gi M 173 x3.toNatClampNeg)) = false)) → (0 < dd ∧ ∃ n u w, (ii + (nI 1)) = nI n ∧ n ≤ u ∧ u < n + dd ∧ m_ps (eg_si (eg_si M 175 x2.toNatClampNeg (eg_gi M 173 x3.toNatClampNeg)) 175 (eg_gi M 173 x3.toNatClampNeg).toNatClampNeg x2) u w ∧ (∀ j, n ≤ j → j < u → eg_gi (eg_si (eg_si M 175 x2.toNatClampNeg (eg_gi M 173 x3.toNatClampNeg)) 175 (eg_gi M 173 x3.toNatClampNeg).toNatClampNeg x2) 175 (eg_gi (eg_si (eg_si M 175 x2.toNatClampNeg (eg_gi M 173 x3.toNatClampNeg)) 175 (eg_gi M 173 x3.toNatClampNeg).toNatClampNeg x2) 172 j).toNatClampNeg = -nI 1) ∧ (∀ i j, i < u → j < w → ¬ eg_gi (eg_si (eg_si M 175 x2.toNatClampNeg (eg_gi M 173 x3.toNatClampNeg)) 175 (eg_gi M 173 x3.toNatClampNeg).toNatClampNeg x2) 172 i = eg_gi (eg_si (eg_si M 175 x2.toNatClampNeg (eg_gi M 173 x3.toNatClampNeg)) 175 (eg_gi M 173 x3.toNatClampNeg).toNatClampNeg x2) 173 j) ∧ (∀ i j, i < j → j < u → ¬ eg_gi (eg_si (eg_si M 175 x2.toNatClampNeg (eg_gi M 173 x3.toNatClampNeg)) 175 (eg_gi M 173 x3.toNatClampNeg).toNatClampNeg x2) 172 i = eg_gi (eg_si (eg_si M 175 x2.toNatClampNeg (eg_gi M 173 x3.toNatClampNeg)) 175 (eg_gi M 173 x3.toNatClampNeg).toNatClampNeg x2) 172 j)))
  (l0 : ((eg_gi M 121 81) ≤ x3) → Qp (.inl none) M)
  (l1 : (¬ (eg_gi M 121 81) ≤ x3 ∧ (¬ (eg_gi M 175 (eg_gi M 173 x3.toNatClampNeg).toNatClampNeg) = (-nI 1) ∨ (m_my M x2 (eg_gi M 173 x3.toNatClampNeg)) = false)) → eg_T wd (k_X12_go dd) Qp 123 0 0 [some (.ref 121), some (.int ii), some (.int x2), some (.int (x3 + (nI 1))), some (.int (eg_gi M 173 x3.toNatClampNeg))] [] M)
  (l2 : (¬ (eg_gi M 121 81) ≤ x3 ∧ ((eg_gi M 175 (eg_gi M 173 x3.toNatClampNeg).toNatClampNeg) = (-nI 1) ∧ ¬ (m_my M x2 (eg_gi M 173 x3.toNatClampNeg)) = false)) → ∀ (c_1 : Int32) (g_1 : Nat → Int32), (∀ u w, m_ps (eg_si (eg_si M 175 x2.toNatClampNeg (eg_gi M 173 x3.toNatClampNeg)) 175 (eg_gi M 173 x3.toNatClampNeg).toNatClampNeg x2) u w → (c_1, g_1) = (gp (eg_si (eg_si M 175 x2.toNatClampNeg (eg_gi M 173 x3.toNatClampNeg)) 175 (eg_gi M 173 x3.toNatClampNeg).toNatClampNeg x2) u w dd (ii + (nI 1)).toNatClampNeg (eg_gi (eg_si (eg_si M 175 x2.toNatClampNeg (eg_gi M 173 x3.toNatClampNeg)) 175 (eg_gi M 173 x3.toNatClampNeg).toNatClampNeg x2) 175)).foldl (m_g1 (eg_si (eg_si M 175 x2.toNatClampNeg (eg_gi M 173 x3.toNatClampNeg)) 175 (eg_gi M 173 x3.toNatClampNeg).toNatClampNeg x2) u w) (eg_gi (eg_si (eg_si M 175 x2.toNatClampNeg (eg_gi M 173 x3.toNatClampNeg)) 175 (eg_gi M 173 x3.toNatClampNeg).toNatClampNeg x2) 121 82, eg_gi (eg_si (eg_si M 175 x2.toNatClampNeg (eg_gi M 173 x3.toNatClampNeg)) 175 (eg_gi M 173 x3.toNatClampNeg).toNatClampNeg x2) 174)) → eg_T wd (k_X12_go dd) Qp 186 0 0 [some (.ref 121), some (.int ii), some (.int x2), some (.int x3), some (.int (eg_gi M 173 x3.toNatClampNeg))] [] (eg_ri (eg_si (eg_si (eg_si M 175 x2.toNatClampNeg (eg_gi M 173 x3.toNatClampNeg)) 175 (eg_gi M 173 x3.toNatClampNeg).toNatClampNeg x2) 121 82 c_1) 174 g_1)) :
  eg_T wd (k_X12_go dd) Qp 123 0 0 [some (.ref 121), some (.int ii), some (.int x2), some (.int x3), o4] [] M := by
  refine eg_T_run (mk_X12_go dd) (cut := [12, 28, 121, 123, 186]) 127 ?_
  refine And.intro (fun (c1 : (eg_gi M 121 81) ≤ x3) => ?_) (fun (c1 : ¬ (eg_gi M 121 81) ≤ x3) => ?_)
  · skip
    show Qp (.inl none) M
    exact l0 c1
  · skip
    refine And.intro (show vp_in x3 6 from ?_) ?_
    · exact g0 c1
    refine And.intro (show vp_in (eg_gi M 173 x3.toNatClampNeg) 16 from ?_) ?_
    · exact g1 c1
    refine And.intro (fun (c2 : (eg_gi M 175 (eg_gi M 173 x3.toNatClampNeg).toNatClampNeg) = (-nI 1)) => ?_) (fun (c2 : ¬ (eg_gi M 175 (eg_gi M 173 x3.toNatClampNeg).toNatClampNeg) = (-nI 1)) => ?_)
    · skip
      refine And.intro (show (m_tn M x2 ∧ m_tn M (eg_gi M 173 x3.toNatClampNeg)) from ?_) ?_
      · exact g2 c1 c2
      refine And.intro (fun (c3 : (b2i (m_my M x2 (eg_gi M 173 x3.toNatClampNeg))) = 0) => ?_) (fun (c3 : ¬ (b2i (m_my M x2 (eg_gi M 173 x3.toNatClampNeg))) = 0) => ?_)
      · replace c3 := b2i_0.mp c3
        show eg_T wd (k_X12_go dd) Qp 123 0 0 [some (.ref 121), some (.int ii), some (.int x2), some (.int (x3 + (nI 1))), some (.int (eg_gi M 173 x3.toNatClampNeg))] [] M
        exact l1 ⟨c1, (Or.inr c3)⟩
      · replace c3 := b2i_ff c3
        refine And.intro (show vp_in x2 16 from ?_) ?_
        · exact g3 c1 c2 c3
        refine And.intro (show vp_in (eg_gi M 173 x3.toNatClampNeg) 16 from ?_) ?_
        · exact g1 c1
        refine And.intro (show (0 < dd ∧ ∃ n u w, (ii + (nI 1)) = nI n ∧ n ≤ u ∧ u < n + dd ∧ m_ps (eg_si (eg_si M 175 x2.toNatClampNeg (eg_gi M 173 x3.toNatClampNeg)) 175 (eg_gi M 173 x3.toNatClampNeg).toNatClampNeg x2) u w ∧ (∀ j, n ≤ j → j < u → eg_gi (eg_si (eg_si M 175 x2.toNatClampNeg (eg_gi M 173 x3.toNatClampNeg)) 175 (eg_gi M 173 x3.toNatClampNeg).toNatClampNeg x2) 175 (eg_gi (eg_si (eg_si M 175 x2.toNatClampNeg (eg_gi M 173 x3.toNatClampNeg)) 175 (eg_gi M 173 x3.toNatClampNeg).toNatClampNeg x2) 172 j).toNatClampNeg = -nI 1) ∧ (∀ i j, i < u → j < w → ¬ eg_gi (eg_si (eg_si M 175 x2.toNatClampNeg (eg_gi M 173 x3.toNatClampNeg)) 175 (eg_gi M 173 x3.toNatClampNeg).toNatClampNeg x2) 172 i = eg_gi (eg_si (eg_si M 175 x2.toNatClampNeg (eg_gi M 173 x3.toNatClampNeg)) 175 (eg_gi M 173 x3.toNatClampNeg).toNatClampNeg x2) 173 j) ∧ (∀ i j, i < j → j < u → ¬ eg_gi (eg_si (eg_si M 175 x2.toNatClampNeg (eg_gi M 173 x3.toNatClampNeg)) 175 (eg_gi M 173 x3.toNatClampNeg).toNatClampNeg x2) 172 i = eg_gi (eg_si (eg_si M 175 x2.toNatClampNeg (eg_gi M 173 x3.toNatClampNeg)) 175 (eg_gi M 173 x3.toNatClampNeg).toNatClampNeg x2) 172 j)) from ?_) ?_
        · exact g4 c1 c2 c3
        intro c_1 g_1 ha_1
        show eg_T wd (k_X12_go dd) Qp 186 0 0 [some (.ref 121), some (.int ii), some (.int x2), some (.int x3), some (.int (eg_gi M 173 x3.toNatClampNeg))] [] (eg_ri (eg_si (eg_si (eg_si M 175 x2.toNatClampNeg (eg_gi M 173 x3.toNatClampNeg)) 175 (eg_gi M 173 x3.toNatClampNeg).toNatClampNeg x2) 121 82 c_1) 174 g_1)
        exact l2 ⟨c1, ⟨c2, c3⟩⟩ c_1 g_1 ha_1
    · skip
      show eg_T wd (k_X12_go dd) Qp 123 0 0 [some (.ref 121), some (.int ii), some (.int x2), some (.int (x3 + (nI 1))), some (.int (eg_gi M 173 x3.toNatClampNeg))] [] M
      exact l1 ⟨c1, (Or.inl c2)⟩

set_option maxRecDepth 100000 in
theorem st_X12_go_186 {dd : Nat} {Qp : eg_P} {M : eg_M} (ii : Int32) (x2 : Int32) (x3 : Int32) (x4 : Int32)
  (g0 : (vp_in x2 16))
  (g1 : (vp_in x4 16))
  (l0 : eg_T wd (k_X12_go dd) Qp 123 0 0 [some (.ref 121), some (.int ii), some (.int x2), some (.int (x3 + (nI 1))), some (.int x4)] [] (eg_si (eg_si M 175 x2.toNatClampNeg (-nI 1)) 175 x4.toNatClampNeg (-nI 1))) :
  eg_T wd (k_X12_go dd) Qp 186 0 0 [some (.ref 121), some (.int ii), some (.int x2), some (.int x3), some (.int x4)] [] M := by
  refine eg_T_run (mk_X12_go dd) (cut := [12, 28, 121, 123, 186]) 127 ?_
  refine And.intro (show vp_in x2 16 from ?_) ?_
  · exact g0
  refine And.intro (show vp_in x4 16 from ?_) ?_
  · exact g1
  show eg_T wd (k_X12_go dd) Qp 123 0 0 [some (.ref 121), some (.int ii), some (.int x2), some (.int (x3 + (nI 1))), some (.int x4)] [] (eg_si (eg_si M 175 x2.toNatClampNeg (-nI 1)) 175 x4.toNatClampNeg (-nI 1))
  exact l0

set_option maxRecDepth 100000 in
set_option maxHeartbeats 1000000 in
theorem T_X12_go_r (dd : Nat) {argv : List Value} {M : eg_M} {Qp : eg_P} (h : s_X12_go_r (dd + 1) argv M Qp) : eg_T wd (k_X12_go dd) Qp 0 0 0 (eg_lsN 5 argv) [] M := by
  unfold s_X12_go_r at h
  split at h
  · rename_i ii
    obtain ⟨hp, hq⟩ := h
    obtain ⟨_, n, u, w, rfl, hnu, hd, hps, hP0, hdis, hinj⟩ := hp
    have hps' := hps
    obtain ⟨hu, hw, eu, ew, hF, hS, hW⟩ := hps'
    rw [n_c (by omega)] at hq
    have hq2 : ∀ (c : Int32) (g : Nat → Int32), (c, g) = (gp M u w (dd + 1) n (eg_gi M 175)).foldl (m_g1 M u w) (eg_gi M 121 82, eg_gi M 174) → Qp (.inl none) (eg_ri (eg_si M 121 82 c) 174 g) := by
      intro c g hcg
      refine hq c g (fun u' w' h' => ?_)
      have e1 : u' = u := (n_eq (by have := h'.1; omega) (by omega)).mp (h'.2.2.1.symm.trans eu)
      have e2 : w' = w := (n_eq (by have := h'.2.1; omega) (by omega)).mp (h'.2.2.2.1.symm.trans ew)
      subst e1 e2
      exact hcg
    have cF : ∀ i, i < u → eg_cn (eg_gi M 170 (eg_gi M 172 i).toNatClampNeg) 6 := by
      intro i hi
      obtain ⟨t, ht, e⟩ := vp_in_of (hF i hi) (by decide)
      rw [e, n_c (by omega)]
      exact hW t ht
    have cS : ∀ i, i < w → eg_cn (eg_gi M 170 (eg_gi M 173 i).toNatClampNeg) 6 := by
      intro i hi
      obtain ⟨t, ht, e⟩ := vp_in_of (hS i hi) (by decide)
      rw [e, n_c (by omega)]
      exact hW t ht
    have s0 := st_X12_go_0 (dd := dd) (Qp := Qp) (M := M) (nI n)
    simp (disch := omega) only [eu, n_eq, n_s, n_c, n_in] at s0
    refine s0 (fun _ => ⟨u, w, hps⟩) (fun z => by omega) (fun z => ⟨by omega, n + 1, u, w, rfl, by omega, by omega, hps, fun j h1 h2 => hP0 j (by omega) h2, hdis, hinj⟩) (fun z v hv => ?_) (fun z c g hcg => ?_)
    · subst z
      have hv := hv n w hps
      rw [gp, if_pos rfl] at hq2
      simp only [List.foldl_cons, List.foldl_nil] at hq2
      have hst : m_stb M n w (eg_gi M 175) ↔ v = true := by
        rw [hv]
        unfold m_stb
        rw [ri_id]
      refine st_X12_go_12 _ _ _ _ _ (fun y => ?_) (fun y => ?_)
      · have vf : ¬ m_stb M n w (eg_gi M 175) := by rw [hst, b2i_0.mp y]; decide
        have := hq2 (eg_gi M 121 82) (eg_gi M 174) (by unfold m_g1; rw [if_neg vf])
        rw [si_id, ri_id] at this
        exact this
      · have vt : m_stb M n w (eg_gi M 175) := hst.mpr (b2i_n0.mp y)
        have lp : ∀ k (o : Option Value), k ≤ n → True → eg_T wd (k_X12_go dd) Qp 28 0 0 [some (.ref 121), some (.int (nI n)), some (.int (nI k)), o, none] [] (eg_ri (eg_si M 121 82 (eg_gi M 121 82 + nI 1)) 174 (m_fu M (eg_gi M 175) (eg_gi M 174) k)) := by
          refine eg_for ?_
          intro k o hk _ kk
          have s2 := st_X12_go_28 (dd := dd) (Qp := Qp) (M := eg_ri (eg_si M 121 82 (eg_gi M 121 82 + nI 1)) 174 (m_fu M (eg_gi M 175) (eg_gi M 174) k)) (nI n) (nI k) o none
          have r80 : eg_gi (eg_ri (eg_si M 121 82 (eg_gi M 121 82 + nI 1)) 174 (m_fu M (eg_gi M 175) (eg_gi M 174) k)) 121 80 = nI n := eu
          have r172 : ∀ j, eg_gi (eg_ri (eg_si M 121 82 (eg_gi M 121 82 + nI 1)) 174 (m_fu M (eg_gi M 175) (eg_gi M 174) k)) 172 j = eg_gi M 172 j := fun _ => rfl
          have r175 : ∀ j, eg_gi (eg_ri (eg_si M 121 82 (eg_gi M 121 82 + nI 1)) 174 (m_fu M (eg_gi M 175) (eg_gi M 174) k)) 175 j = eg_gi M 175 j := fun _ => rfl
          have r170 : ∀ j, eg_gi (eg_ri (eg_si M 121 82 (eg_gi M 121 82 + nI 1)) 174 (m_fu M (eg_gi M 175) (eg_gi M 174) k)) 170 j = eg_gi M 170 j := fun _ => rfl
          have r174 : ∀ j, eg_gi (eg_ri (eg_si M 121 82 (eg_gi M 121 82 + nI 1)) 174 (m_fu M (eg_gi M 175) (eg_gi M 174) k)) 174 j = m_fu M (eg_gi M 175) (eg_gi M 174) k j := fun _ => rfl
          have rde : ∀ t x, m_de (eg_ri (eg_si M 121 82 (eg_gi M 121 82 + nI 1)) 174 (m_fu M (eg_gi M 175) (eg_gi M 174) k)) t x = m_de M t x := fun _ _ => rfl
          simp (disch := omega) only [r80, r172, r175, r170, r174, rde, n_c, n_le, n_in, n_s, Nat.not_le] at s2
          refine s2 (fun y => by omega) (fun y => hF k y) (fun y _ _ => ⟨hF k y, cF k y⟩) (fun y => ?_) (fun y => ?_) (fun y => ?_)
          · have : k = n := by omega
            subst this
            exact hq2 _ _ (by unfold m_g1; rw [if_pos vt])
          · have := kk (some (.int (eg_gi M 172 k))) y.1 trivial
            rw [m_fu, if_neg] at this
            · exact this
            · rintro ⟨a1, a2⟩
              rcases y.2 with b | ⟨b1, b2⟩
              · exact a1 b
              · rcases a2 with a2 | a2
                · exact b1 a2
                · exact absurd a2 (Int32.not_lt.mpr b2)
          · have := kk (some (.int (eg_gi M 172 k))) y.1 trivial
            rw [m_fu, if_pos ⟨y.2.1, y.2.2.imp id Int32.not_le.mp⟩, ← si_ri] at this
            exact this
        have := lp 0 none (Nat.zero_le _) trivial
        have e : eg_ri (eg_si M 121 82 (eg_gi M 121 82 + nI 1)) 174 (m_fu M (eg_gi M 175) (eg_gi M 174) 0) = eg_si M 121 82 (eg_gi M 121 82 + nI 1) := ri_id' rfl
        rw [e] at this
        exact this
    have hn : n < u := by omega
    have hcg := hcg u w hps
    rw [gp, if_neg z] at hq2
    have hpn := hP0 n (Nat.le_refl _) hn
    refine st_X12_go_121 _ _ _ _ ?_
    generalize hB : (fun j => if eg_gi M 175 (eg_gi M 173 j).toNatClampNeg = -nI 1 ∧ m_my M (eg_gi M 172 n) (eg_gi M 173 j) = true then gp M u w dd (n + 1) (up2 (eg_gi M 175) (eg_gi M 172 n) (eg_gi M 173 j)) else []) = B at hq2
    have lp : ∀ j (x : (Int32 × (Nat → Int32)) × Option Value), j ≤ w → x.1 = (gp M u w dd (n + 1) (eg_gi M 175) ++ (List.range j).flatMap B).foldl (m_g1 M u w) (eg_gi M 121 82, eg_gi M 174) → eg_T wd (k_X12_go dd) Qp 123 0 0 [some (.ref 121), some (.int (nI n)), some (.int (eg_gi M 172 n)), some (.int (nI j)), x.2] [] (eg_ri (eg_si M 121 82 x.1.1) 174 x.1.2) := by
      refine eg_for ?_
      intro j ⟨⟨c, g⟩, o4⟩ hj hx kk
      have hx : (c, g) = (gp M u w dd (n + 1) (eg_gi M 175) ++ (List.range j).flatMap B).foldl (m_g1 M u w) (eg_gi M 121 82, eg_gi M 174) := hx
      have s2 := st_X12_go_123 (dd := dd) (Qp := Qp) (M := eg_ri (eg_si M 121 82 c) 174 g) (nI n) (eg_gi M 172 n) (nI j) o4
      have r81 : eg_gi (eg_ri (eg_si M 121 82 c) 174 g) 121 81 = nI w := ew
      have r173 : ∀ j, eg_gi (eg_ri (eg_si M 121 82 c) 174 g) 173 j = eg_gi M 173 j := fun _ => rfl
      have r175 : ∀ j, eg_gi (eg_ri (eg_si M 121 82 c) 174 g) 175 j = eg_gi M 175 j := fun _ => rfl
      have rmy : ∀ t x, m_my (eg_ri (eg_si M 121 82 c) 174 g) t x = m_my M t x := fun _ _ => rfl
      simp (disch := omega) only [r81, r173, r175, rmy, n_c, n_le, n_in, n_s, Nat.not_le] at s2
      have stp : ∀ x', x' = (B j).foldl (m_g1 M u w) (c, g) → x' = (gp M u w dd (n + 1) (eg_gi M 175) ++ (List.range (j + 1)).flatMap B).foldl (m_g1 M u w) (eg_gi M 121 82, eg_gi M 174) := by
        intro x' h'
        rw [h', hx, ← List.foldl_append, List.range_succ, List.flatMap_append, List.flatMap_singleton, List.append_assoc]
      have hBj : B j = if eg_gi M 175 (eg_gi M 173 j).toNatClampNeg = -nI 1 ∧ m_my M (eg_gi M 172 n) (eg_gi M 173 j) = true then gp M u w dd (n + 1) (up2 (eg_gi M 175) (eg_gi M 172 n) (eg_gi M 173 j)) else [] := by rw [← hB]
      have e2 : ∀ y, eg_gi (eg_si (eg_si (eg_ri (eg_si M 121 82 c) 174 g) 175 (eg_gi M 172 n).toNatClampNeg (eg_gi M 173 j)) 175 (eg_gi M 173 j).toNatClampNeg (eg_gi M 172 n)) 175 y = up2 (eg_gi M 175) (eg_gi M 172 n) (eg_gi M 173 j) y := by
        intro y
        rw [si_g, si_g]
        unfold up2
        simp only [true_and, r175]
      have ag : ∀ p y, 170 ≤ p → p ≤ 173 → eg_gi (eg_si (eg_si (eg_ri (eg_si M 121 82 c) 174 g) 175 (eg_gi M 172 n).toNatClampNeg (eg_gi M 173 j)) 175 (eg_gi M 173 j).toNatClampNeg (eg_gi M 172 n)) p y = eg_gi M p y := by
        intro p y h1 h2
        rw [si_ne (by omega), si_ne (by omega), ri_g, if_neg (by omega), si_ne (by omega)]
      refine s2 (fun y => by omega) (fun y => hS j y) (fun y _ => ⟨⟨hF n hn, cF n hn⟩, ⟨hS j y, cS j y⟩⟩) (fun y _ _ => hF n hn) (fun y y2 y3 => ⟨by omega, n + 1, u, w, rfl, by omega, by omega, hps, fun i h1 h2 => ?_, hdis, hinj⟩) (fun y => ?_) (fun y => ?_) (fun y c' g' hcg' => ?_)
      · rw [e2]
        show up2 (eg_gi M 175) (eg_gi M 172 n) (eg_gi M 173 j) (eg_gi M 172 i).toNatClampNeg = _
        unfold up2
        rw [if_neg (fun z => hdis i j h2 y (vp_nn (by decide) (hF i h2) (hS j y) z)), if_neg (fun z => hinj n i (by omega) h2 (vp_nn (by decide) (hF i h2) (hF n hn) z).symm)]
        exact hP0 i (by omega) h2
      · have : j = w := by omega
        subst this
        exact hq2 c g hx
      · have := kk ((c, g), some (.int (eg_gi M 173 j))) y.1 (stp (c, g) (by
          rw [hBj, if_neg]
          · rfl
          · rintro ⟨a1, a2⟩
            rcases y.2 with b | b
            · exact b a1
            · rw [b] at a2; cases a2))
        exact this
      · have hj' : j < w := y.1
        have hcg' := hcg' u w hps
        rw [gp_g ag, m_g1_g ag, show eg_gi (eg_si (eg_si (eg_ri (eg_si M 121 82 c) 174 g) 175 (eg_gi M 172 n).toNatClampNeg (eg_gi M 173 j)) 175 (eg_gi M 173 j).toNatClampNeg (eg_gi M 172 n)) 175 = up2 (eg_gi M 175) (eg_gi M 172 n) (eg_gi M 173 j) from funext e2] at hcg'
        have hcg' : (c', g') = (gp M u w dd (n + 1) (up2 (eg_gi M 175) (eg_gi M 172 n) (eg_gi M 173 j))).foldl (m_g1 M u w) (c, g) := hcg'
        refine st_X12_go_186 _ _ _ _ (hF n hn) (hS j hj') ?_
        rw [go_back hpn y.2.1, n_s]
        exact kk ((c', g'), some (.int (eg_gi M 173 j))) hj' (stp (c', g') (by rw [hBj, if_pos ⟨y.2.1, eq_true_of_ne_false y.2.2⟩]; exact hcg'))
    exact lp 0 ((c, g), none) (Nat.zero_le _) (by rw [List.range_zero, List.flatMap_nil, List.append_nil]; exact hcg)
    
  · exact h.elim
theorem de_X12_go (dd : Nat) : ∀ q ∈ (k_X12_go dd).1, decode cX12_go q.1 = .ok q.2 := by show ∀ q ∈ (k_X12_go 0).1, decode cX12_go q.1 = .ok q.2; decide +kernel
theorem me_X12_go_r (g : gl_T) : ∀ dd : Nat, MT g yX12_go cX12_go 5 none ⟨3 + 1 * dd, 0, 0, 67 + 24 * dd⟩ 0 0 (s_X12_go_r dd)
  | 0 => fun _ _ argv M Qp _ hS => (sF_X12_go_r argv M Qp hS).elim
  | dd + 1 => by
    have ih_X12_go := me_X12_go_r g dd
    intro hl
    exact eg_met_of (k := k_X12_go dd) (by decide) rfl ⟨Nat.le_refl _, Nat.le_refl _⟩ rfl (sz_X12_go_r (dd + 1)) (de_X12_go dd) (fun meth hn => (fc (eg_FL_of wd_c12 (by decide) lf_RX12_198 (fun h => absurd h (by decide))) (fc (eg_FL_of wd_c12 (by decide) lf_RX12_201 (fun h => absurd h (by decide))) (fc (eg_FL_of wd_c12 (by decide) lf_RX12_204 (fun h => absurd h (by decide))) (fc (eg_FL_of wd_c12 (by decide) lf_RX12_207 (fun h => absurd h (by decide))) (fc (eg_FL_of wd_c12 (by decide) lf_RX12_495 (fun h => absurd h (by decide))) (fc (eg_FL_of wd_c12 (by decide) lf_RX12_498 (fun h => absurd h (by decide))) (fc (eg_FL_of wd_c12 (by decide) lf_RX12_511 (fun _ => Or.inl rfl)) (fn))))))))) (fun A s H hE => (fn)) (fun p e s m args below meth c Q A ad0 N0 S0 hK hEx hA => (fc (mt_V hl S0 hK hEx hA (me_X12_dear g) lm_RX12_492 li_X12_dear lx_X12_dear ln_RX12 lc_X12_dear ⟨rfl, by decide, by decide, by decide +kernel⟩ ⟨rfl, rfl⟩ ⟨by dsimp only; omega, by dsimp only; omega⟩ (ci := 12) rfl rfl sr_X12_dear (by decide)) (fc (mt_V hl S0 hK hEx hA (me_X12_may g) lm_RX12_501 li_X12_may lx_X12_may ln_RX12 lc_X12_may ⟨rfl, by decide, by decide, by decide +kernel⟩ ⟨rfl, rfl⟩ ⟨by dsimp only; omega, by dsimp only; omega⟩ (ci := 12) rfl rfl sr_X12_may (by decide)) (fc (mt_V hl S0 hK hEx hA (me_X12_isStable g) lm_RX12_507 li_X12_isStable lx_X12_isStable ln_RX12 lc_X12_isStable ⟨rfl, by decide, by decide, by decide +kernel⟩ ⟨rfl, rfl⟩ ⟨by dsimp only; omega, by dsimp only; omega⟩ (ci := 12) rfl rfl sr_X12_isStable (by decide)) (fc (mt_V hl S0 hK hEx hA (ih_X12_go) lm_RX12_514 li_X12_go lx_X12_go ln_RX12 lc_X12_go ⟨rfl, by decide, by decide, by decide +kernel⟩ ⟨rfl, rfl⟩ ⟨(show 3 + 1 * dd + 1 ≤ 3 + 1 * (dd + 1) by omega), (show 8 + (5 + 11) + (67 + 24 * dd) ≤ 67 + 24 * (dd + 1) by omega)⟩ (ci := 12) rfl rfl (sr_X12_go_r dd) (by decide)) (fn)))))) (fun p e s m args below meth c Qc XC A ad0 N0 P S0 hK hEx hA hlk hout hPX => (fn)) (fun argv M Qp h => T_X12_go_r dd h)
def s_X12_go : eg_S := s_X12_go_r 7
theorem mo_X12_go : eg_mono s_X12_go := mo_X12_go_r 7
theorem sr_X12_go : ∀ argv M Qp, s_X12_go argv M Qp → ∃ p0 As, argv = .ref p0 :: As ∧ eg_isO wd M p0 12 = true := sr_X12_go_r 7
theorem me_X12_go (g : gl_T) : MT g yX12_go cX12_go 5 none ⟨10, 0, 0, 235⟩ 0 0 s_X12_go := me_X12_go_r g 7

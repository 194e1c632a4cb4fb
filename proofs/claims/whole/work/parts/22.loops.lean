theorem m_cl_inj {M : eg_M} {r c : Nat} {P Q P1 Q1 : List Int32} (h : m_cl M r c P Q) (h1 : m_cl M r c P1 Q1) : P = P1 ∧ Q = Q1 := by
  obtain ⟨u, v, w, hu, hv, hw, hw6, hP, kP, hQ⟩ := h
  obtain ⟨u1, v1, w1, hu1, hv1, hw1, hw61, hP1, kP1, hQ1⟩ := h1
  have huv := m_sl_le hP
  have huv1 := m_sl_le hP1
  have hvw : v ≤ w := by rcases hQ with z | z <;> omega
  have hvw1 : v1 ≤ w1 := by rcases hQ1 with z | z <;> omega
  have e1 : u1 = u := (n_eq (by omega) (by omega)).mp (hu1.symm.trans hu)
  have e2 : v1 = v := (n_eq (by omega) (by omega)).mp (hv1.symm.trans hv)
  have e3 : w1 = w := (n_eq (by omega) (by omega)).mp (hw1.symm.trans hw)
  subst e1 e2 e3
  refine ⟨m_sl_inj hP hP1 kP kP1, ?_⟩
  rcases hQ with z | z
  · rcases hQ1 with y | y
    · rw [z.2, y.2]
    · omega
  · rcases hQ1 with y | y
    · omega
    · exact m_sl_inj z.2.1 y.2.1 z.2.2 y.2.2
/-- the model: the rules r have these clauses: kind (0 grant, 1 sleep), formula, what it is unless -/
def m_ru (M : eg_M) (r : Nat) (CL : List (Int32 × List Int32 × List Int32)) : Prop := eg_gi M 141 r = nI CL.length ∧ CL.length ≤ 12 ∧ ∀ i (h : i < CL.length), eg_gi M 144 (12 * r + i) = CL[i].1 ∧ m_cl M r (12 * r + i) CL[i].2.1 CL[i].2.2
def m_rr (M : eg_M) (x : Int32) (CL : List (Int32 × List Int32 × List Int32)) : Prop := (x = -nI 1 ∧ CL = []) ∨ ∃ r, x = nI r ∧ r < 8 ∧ m_ru M r CL
theorem m_ru_inj {M : eg_M} {r : Nat} {A B : List (Int32 × List Int32 × List Int32)} (h : m_ru M r A) (h1 : m_ru M r B) : A = B := by
  have hl : A.length = B.length := (n_eq (by have := h.2.1; omega) (by have := h1.2.1; omega)).mp (h.1.symm.trans h1.1)
  refine List.ext_getElem hl (fun i ha hb => ?_)
  have x := h.2.2 i ha
  have y := h1.2.2 i hb
  obtain ⟨e1, e2⟩ := m_cl_inj x.2 y.2
  exact Prod.ext (x.1.symm.trans y.1) (Prod.ext e1 e2)
theorem nI_m1 {r : Nat} (h : r < 2 ^ 31) : ¬ nI r = -nI 1 := by
  intro z
  have := congrArg Int32.toInt z
  rw [nI_toInt h] at this
  have e : (-nI 1 : Int32).toInt = -1 := by decide
  omega
theorem m_rr_inj {M : eg_M} {x : Int32} {A B : List (Int32 × List Int32 × List Int32)} (h : m_rr M x A) (h1 : m_rr M x B) : A = B := by
  rcases h with ⟨e, rfl⟩ | ⟨r, e, hr, h⟩
  · rcases h1 with ⟨_, rfl⟩ | ⟨r, e1, hr, _⟩
    · rfl
    · exact absurd (e1.symm.trans e) (nI_m1 (by omega))
  · rcases h1 with ⟨e1, _⟩ | ⟨r1, e1, hr1, h1⟩
    · exact absurd (e.symm.trans e1) (nI_m1 (by omega))
    · have : r = r1 := (n_eq (by omega) (by omega)).mp (e.symm.trans e1)
      subst this
      exact m_ru_inj h h1
/-- a charter with these values sleeps by these clauses -/
def p_slp (V : Nat → Int64) (CL : List (Int32 × List Int32 × List Int32)) : Bool := CL.any (fun c => decide (c.1 = nI 1 ∧ ¬ p_cv V c.2.1 c.2.2 = lN 0)) || (!(CL.any (fun c => decide (c.1 = nI 1))) && decide (¬ V 7 ≤ lN 1080))
def k_X12_sleeps : eg_C := ([(0, .aload_n 0, 1), (1, .iload_n 1, 1), (2, .iload_n 2, 1), (3, .iload_n 3, 1), (4, .invokevirtual 391, 3), (7, .ifCond .ne 5, 3), (10, .iconst 0, 1), (11, .ireturn, 1), (12, .aload_n 0, 1), (13, .iload_n 1, 1), (14, .aload_n 0, 1), (15, .iload_n 2, 1), (16, .invokevirtual 397, 3), (19, .iload_n 2, 1), (20, .invokevirtual 400, 3), (23, .aload_n 0, 1), (24, .iload_n 3, 1), (25, .invokevirtual 404, 3), (28, .istore 4, 2), (30, .iconst 0, 1), (31, .istore 5, 2), (33, .iconst 0, 1), (34, .istore 6, 2), (36, .iload 4, 2), (38, .iconst (-1), 1), (39, .if_icmp .eq 65, 3), (42, .iload 6, 2), (44, .aload_n 0, 1), (45, .getfield 96, 3), (48, .iload 4, 2), (50, .iaload, 1), (51, .if_icmp .ge 53, 3), (54, .aload_n 0, 1), (55, .getfield 105, 3), (58, .bipush 12, 2), (60, .iload 4, 2), (62, .imul, 1), (63, .iload 6, 2), (65, .iadd, 1), (66, .iaload, 1), (67, .iconst 1, 1), (68, .if_icmp .eq 6, 3), (71, .goto 27, 3), (74, .iconst 1, 1), (75, .istore 5, 2), (77, .aload_n 0, 1), (78, .iload 4, 2), (80, .bipush 12, 2), (82, .iload 4, 2), (84, .imul, 1), (85, .iload 6, 2), (87, .iadd, 1), (88, .invokevirtual 407, 3), (91, .lconst 0, 1), (92, .lcmp, 1), (93, .ifCond .eq 5, 3), (96, .iconst 1, 1), (97, .ireturn, 1), (98, .iinc 6 1, 3), (101, .goto (-65), 3), (104, .iload 5, 2), (106, .ifCond .ne 21, 3), (109, .aload_n 0, 1), (110, .getfield 120, 3), (113, .bipush 7, 2), (115, .laload, 1), (116, .ldc2_w 410, 3), (119, .lcmp, 1), (120, .ifCond .le 7, 3), (123, .iconst 1, 1), (124, .goto 4, 3), (127, .iconst 0, 1), (128, .ireturn, 1)], [(96, 12, 37, false), (105, 12, 40, false), (120, 12, 45, false)], [(410, .long (lN 1080))], [(391, 3 + 1, 0, 0, s_X12_isAlive), (397, 1 + 1, 0, 0, s_X12_manyBy), (400, 3 + 1, 0, 0, s_X12_tellValues), (404, 1 + 1, 0, 0, s_X12_rulesAt), (407, 2 + 1, 0, 0, s_X12_clauseOf)], [], 2, 0, 0)
theorem mk_X12_sleeps : ∀ q ∈ k_X12_sleeps.2.2.2.1, eg_mono q.2.2.2.2 := (fc (mo_X12_isAlive) (fc (mo_X12_manyBy) (fc (mo_X12_tellValues) (fc (mo_X12_rulesAt) (fc (mo_X12_clauseOf) (fn))))))
set_option maxRecDepth 100000 in
theorem st_X12_sleeps_0 {Qp : eg_P} {M : eg_M} (c : Int32) (d : Int32) (k : Int32)
  (g0 : (vp_in c 24 ∧ eg_cn (eg_gi M 121 5) 200))
  (g1 : (¬ ((m_al M c d k) = false)) → (eg_cn (eg_gi M 121 47) 200 ∧ ∀ i, i < (eg_gi M 121 47).toNatClampNeg → vp_in (eg_gi M 151 i) 200))
  (g2 : (¬ ((m_al M c d k) = false)) → (vp_in c 24 ∧ eg_cn (m_mb M d 0 (eg_gi M 121 47).toNatClampNeg) 200 ∧ (∀ i, i < (m_mb M d 0 (eg_gi M 121 47).toNatClampNeg).toNatClampNeg → vp_in (eg_gi M 151 i) 200) ∧ vp_in (eg_gi M 127 (nI 2 * c).toNatClampNeg) 16 ∧ vp_in (eg_gi M 127 (nI 2 * c + nI 1).toNatClampNeg) 16))
  (g3 : (¬ ((m_al M c d k) = false)) → (eg_cn (eg_gi (eg_rl M 149 (m_vr M c d (m_mb M d 0 (eg_gi M 121 47).toNatClampNeg).toNatClampNeg)) 121 35) 8))
  (l0 : ((m_al M c d k) = false) → Qp (.inl (some (.int (nI 0)))) M)
  (l1 : (¬ (m_al M c d k) = false) → eg_T wd k_X12_sleeps Qp 36 0 0 [some (.ref 121), some (.int c), some (.int d), some (.int k), some (.int (m_ra (eg_rl M 149 (m_vr M c d (m_mb M d 0 (eg_gi M 121 47).toNatClampNeg).toNatClampNeg)) k (eg_gi (eg_rl M 149 (m_vr M c d (m_mb M d 0 (eg_gi M 121 47).toNatClampNeg).toNatClampNeg)) 121 35).toNatClampNeg)), some (.int (nI 0)), some (.int (nI 0))] [] (eg_rl M 149 (m_vr M c d (m_mb M d 0 (eg_gi M 121 47).toNatClampNeg).toNatClampNeg))) :
  eg_T wd k_X12_sleeps Qp 0 0 0 [some (.ref 121), some (.int c), some (.int d), some (.int k), none, none, none] [] M := by
  refine eg_T_run mk_X12_sleeps (cut := [36, 91]) 76 ?_
  refine And.intro (show (vp_in c 24 ∧ eg_cn (eg_gi M 121 5) 200) from ?_) ?_
  · exact g0
  refine And.intro (fun (c1 : (b2i (m_al M c d k)) = 0) => ?_) (fun (c1 : ¬ (b2i (m_al M c d k)) = 0) => ?_)
  · replace c1 := b2i_0.mp c1
    refine And.intro (fun _ => (show (nI 0) = 0 ∨ (nI 0) = 1 from ?_)) ?_
    · exact Or.inl rfl
    show Qp (.inl (some (.int (nI 0)))) M
    exact l0 c1
  · replace c1 := b2i_ff c1
    refine And.intro (show (eg_cn (eg_gi M 121 47) 200 ∧ ∀ i, i < (eg_gi M 121 47).toNatClampNeg → vp_in (eg_gi M 151 i) 200) from ?_) ?_
    · exact g1 c1
    refine And.intro (show (vp_in c 24 ∧ eg_cn (m_mb M d 0 (eg_gi M 121 47).toNatClampNeg) 200 ∧ (∀ i, i < (m_mb M d 0 (eg_gi M 121 47).toNatClampNeg).toNatClampNeg → vp_in (eg_gi M 151 i) 200) ∧ vp_in (eg_gi M 127 (nI 2 * c).toNatClampNeg) 16 ∧ vp_in (eg_gi M 127 (nI 2 * c + nI 1).toNatClampNeg) 16) from ?_) ?_
    · exact g2 c1
    refine And.intro (show (eg_cn (eg_gi (eg_rl M 149 (m_vr M c d (m_mb M d 0 (eg_gi M 121 47).toNatClampNeg).toNatClampNeg)) 121 35) 8) from ?_) ?_
    · exact g3 c1
    show eg_T wd k_X12_sleeps Qp 36 0 0 [some (.ref 121), some (.int c), some (.int d), some (.int k), some (.int (m_ra (eg_rl M 149 (m_vr M c d (m_mb M d 0 (eg_gi M 121 47).toNatClampNeg).toNatClampNeg)) k (eg_gi (eg_rl M 149 (m_vr M c d (m_mb M d 0 (eg_gi M 121 47).toNatClampNeg).toNatClampNeg)) 121 35).toNatClampNeg)), some (.int (nI 0)), some (.int (nI 0))] [] (eg_rl M 149 (m_vr M c d (m_mb M d 0 (eg_gi M 121 47).toNatClampNeg).toNatClampNeg))
    exact l1 c1

set_option maxRecDepth 100000 in
theorem st_X12_sleeps_36 {Qp : eg_P} {M : eg_M} (o1 : Option Value) (o2 : Option Value) (o3 : Option Value) (x4 : Int32) (x5 : Int32) (x6 : Int32)
  (g0 : (¬ (x4 = (-nI 1))) → (vp_in x4 8))
  (g1 : (¬ (x4 = (-nI 1))) → (¬ ((eg_gi M 141 x4.toNatClampNeg) ≤ x6)) → (vp_in (((nI 12) * x4) + x6) 96))
  (g2 : (¬ (x4 = (-nI 1))) → (¬ ((eg_gi M 141 x4.toNatClampNeg) ≤ x6)) → ((eg_gi M 144 (((nI 12) * x4) + x6).toNatClampNeg) = (nI 1)) → (∃ r c P Q, x4 = nI r ∧ r < 8 ∧ (((nI 12) * x4) + x6) = nI c ∧ c < 96 ∧ m_cl M r c P Q))
  (l0 : ((x4 = (-nI 1) ∧ (¬ x5 = 0 ∨ (eg_gl M 149 7) ≤ (lN 1080))) ∨ (¬ x4 = (-nI 1) ∧ ((eg_gi M 141 x4.toNatClampNeg) ≤ x6 ∧ (¬ x5 = 0 ∨ (eg_gl M 149 7) ≤ (lN 1080))))) → Qp (.inl (some (.int (nI 0)))) M)
  (l1 : ((x4 = (-nI 1) ∧ (x5 = 0 ∧ ¬ (eg_gl M 149 7) ≤ (lN 1080))) ∨ (¬ x4 = (-nI 1) ∧ ((eg_gi M 141 x4.toNatClampNeg) ≤ x6 ∧ (x5 = 0 ∧ ¬ (eg_gl M 149 7) ≤ (lN 1080))))) → Qp (.inl (some (.int (nI 1)))) M)
  (l2 : (¬ x4 = (-nI 1) ∧ (¬ (eg_gi M 141 x4.toNatClampNeg) ≤ x6 ∧ (eg_gi M 144 (((nI 12) * x4) + x6).toNatClampNeg) = (nI 1))) → ∀ (f_1 : Nat → Int64) (v_1 : Int64), (∀ P Q, m_cl M x4.toNatClampNeg (((nI 12) * x4) + x6).toNatClampNeg P Q → v_1 = p_cv (eg_gl M 149) P Q) → eg_T wd k_X12_sleeps Qp 91 0 0 [some (.ref 121), o1, o2, o3, some (.int x4), some (.int (nI 1)), some (.int x6)] [.long v_1] (eg_rl M 150 f_1))
  (l3 : (¬ x4 = (-nI 1) ∧ (¬ (eg_gi M 141 x4.toNatClampNeg) ≤ x6 ∧ ¬ (eg_gi M 144 (((nI 12) * x4) + x6).toNatClampNeg) = (nI 1))) → eg_T wd k_X12_sleeps Qp 36 0 0 [some (.ref 121), o1, o2, o3, some (.int x4), some (.int x5), some (.int (x6 + (nI 1)))] [] M) :
  eg_T wd k_X12_sleeps Qp 36 0 0 [some (.ref 121), o1, o2, o3, some (.int x4), some (.int x5), some (.int x6)] [] M := by
  refine eg_T_run mk_X12_sleeps (cut := [36, 91]) 76 ?_
  refine And.intro (fun (c1 : x4 = (-nI 1)) => ?_) (fun (c1 : ¬ x4 = (-nI 1)) => ?_)
  · skip
    refine And.intro (fun (c2 : x5 = 0) => ?_) (fun (c2 : ¬ x5 = 0) => ?_)
    · skip
      refine And.intro (show vp_in (nI 7) 11 from ?_) ?_
      · exact vp_in_nI (by decide) (by decide)
      refine And.intro (fun (c3 : (lg_cmp (eg_gl M 149 7) (lN 1080)) ≤ 0) => ?_) (fun (c3 : ¬ (lg_cmp (eg_gl M 149 7) (lN 1080)) ≤ 0) => ?_)
      · replace c3 := lgc_le.mp c3
        refine And.intro (fun _ => (show (nI 0) = 0 ∨ (nI 0) = 1 from ?_)) ?_
        · exact Or.inl rfl
        show Qp (.inl (some (.int (nI 0)))) M
        exact l0 (Or.inl ⟨c1, (Or.inr c3)⟩)
      · replace c3 := mt lgc_le.mpr c3
        refine And.intro (fun _ => (show (nI 1) = 0 ∨ (nI 1) = 1 from ?_)) ?_
        · exact Or.inr rfl
        show Qp (.inl (some (.int (nI 1)))) M
        exact l1 (Or.inl ⟨c1, ⟨c2, c3⟩⟩)
    · skip
      refine And.intro (fun _ => (show (nI 0) = 0 ∨ (nI 0) = 1 from ?_)) ?_
      · exact Or.inl rfl
      show Qp (.inl (some (.int (nI 0)))) M
      exact l0 (Or.inl ⟨c1, (Or.inl c2)⟩)
  · skip
    refine And.intro (show vp_in x4 8 from ?_) ?_
    · exact g0 c1
    refine And.intro (fun (c4 : (eg_gi M 141 x4.toNatClampNeg) ≤ x6) => ?_) (fun (c4 : ¬ (eg_gi M 141 x4.toNatClampNeg) ≤ x6) => ?_)
    · skip
      refine And.intro (fun (c5 : x5 = 0) => ?_) (fun (c5 : ¬ x5 = 0) => ?_)
      · skip
        refine And.intro (show vp_in (nI 7) 11 from ?_) ?_
        · exact vp_in_nI (by decide) (by decide)
        refine And.intro (fun (c6 : (lg_cmp (eg_gl M 149 7) (lN 1080)) ≤ 0) => ?_) (fun (c6 : ¬ (lg_cmp (eg_gl M 149 7) (lN 1080)) ≤ 0) => ?_)
        · replace c6 := lgc_le.mp c6
          refine And.intro (fun _ => (show (nI 0) = 0 ∨ (nI 0) = 1 from ?_)) ?_
          · exact Or.inl rfl
          show Qp (.inl (some (.int (nI 0)))) M
          exact l0 (Or.inr ⟨c1, ⟨c4, (Or.inr c6)⟩⟩)
        · replace c6 := mt lgc_le.mpr c6
          refine And.intro (fun _ => (show (nI 1) = 0 ∨ (nI 1) = 1 from ?_)) ?_
          · exact Or.inr rfl
          show Qp (.inl (some (.int (nI 1)))) M
          exact l1 (Or.inr ⟨c1, ⟨c4, ⟨c5, c6⟩⟩⟩)
      · skip
        refine And.intro (fun _ => (show (nI 0) = 0 ∨ (nI 0) = 1 from ?_)) ?_
        · exact Or.inl rfl
        show Qp (.inl (some (.int (nI 0)))) M
        exact l0 (Or.inr ⟨c1, ⟨c4, (Or.inl c5)⟩⟩)
    · skip
      refine And.intro (show vp_in (((nI 12) * x4) + x6) 96 from ?_) ?_
      · exact g1 c1 c4
      refine And.intro (fun (c7 : (eg_gi M 144 (((nI 12) * x4) + x6).toNatClampNeg) = (nI 1)) => ?_) (fun (c7 : ¬ (eg_gi M 144 (((nI 12) * x4) + x6).toNatClampNeg) = (nI 1)) => ?_)
      · skip
        refine And.intro (show (∃ r c P Q, x4 = nI r ∧ r < 8 ∧ (((nI 12) * x4) + x6) = nI c ∧ c < 96 ∧ m_cl M r c P Q) from ?_) ?_
        · exact g2 c1 c4 c7
        intro f_1 v_1 ha_1
        show eg_T wd k_X12_sleeps Qp 91 0 0 [some (.ref 121), o1, o2, o3, some (.int x4), some (.int (nI 1)), some (.int x6)] [.long v_1] (eg_rl M 150 f_1)
        exact l2 ⟨c1, ⟨c4, c7⟩⟩ f_1 v_1 ha_1
      · skip
        show eg_T wd k_X12_sleeps Qp 36 0 0 [some (.ref 121), o1, o2, o3, some (.int x4), some (.int x5), some (.int (x6 + (nI 1)))] [] M
        exact l3 ⟨c1, ⟨c4, c7⟩⟩

set_option maxRecDepth 100000 in
theorem st_X12_sleeps_91 {Qp : eg_P} {M : eg_M} (o1 : Option Value) (o2 : Option Value) (o3 : Option Value) (x4 : Int32) (x5 : Int32) (x6 : Int32) (s0 : Int64)
  (l0 : (s0 = (lN 0)) → eg_T wd k_X12_sleeps Qp 36 0 0 [some (.ref 121), o1, o2, o3, some (.int x4), some (.int x5), some (.int (x6 + (nI 1)))] [] M)
  (l1 : (¬ s0 = (lN 0)) → Qp (.inl (some (.int (nI 1)))) M) :
  eg_T wd k_X12_sleeps Qp 91 0 0 [some (.ref 121), o1, o2, o3, some (.int x4), some (.int x5), some (.int x6)] [.long s0] M := by
  refine eg_T_run mk_X12_sleeps (cut := [36, 91]) 76 ?_
  refine And.intro (fun (c1 : (lg_cmp s0 (lN 0)) = 0) => ?_) (fun (c1 : ¬ (lg_cmp s0 (lN 0)) = 0) => ?_)
  · replace c1 := lgc_eq.mp c1
    show eg_T wd k_X12_sleeps Qp 36 0 0 [some (.ref 121), o1, o2, o3, some (.int x4), some (.int x5), some (.int (x6 + (nI 1)))] [] M
    exact l0 c1
  · replace c1 := mt lgc_eq.mpr c1
    refine And.intro (fun _ => (show (nI 1) = 0 ∨ (nI 1) = 1 from ?_)) ?_
    · exact Or.inr rfl
    show Qp (.inl (some (.int (nI 1)))) M
    exact l1 c1

def s_X12_sleeps : eg_S := fun argv M Qp => match argv with
  | [.ref 121, .int c, .int d, .int k] => ((vp_in c 24 ∧ eg_cn (eg_gi M 121 5) 200) ∧ (eg_cn (eg_gi M 121 47) 200 ∧ ∀ i, i < (eg_gi M 121 47).toNatClampNeg → vp_in (eg_gi M 151 i) 200) ∧ (vp_in (eg_gi M 127 (nI 2 * c).toNatClampNeg) 16 ∧ vp_in (eg_gi M 127 (nI 2 * c + nI 1).toNatClampNeg) 16) ∧ eg_cn (eg_gi M 121 35) 8 ∧ ∃ CL, m_rr M (m_ra M k (eg_gi M 121 35).toNatClampNeg) CL) ∧ ∀ (g : Nat → Int64) (f : Nat → Int64) (v : Bool), (∀ CL, m_rr M (m_ra M k (eg_gi M 121 35).toNatClampNeg) CL → v = (m_al M c d k && p_slp (m_vr M c d (m_mb M d 0 (eg_gi M 121 47).toNatClampNeg).toNatClampNeg) CL)) → Qp (.inl (some (.int (b2i v)))) (eg_rl (eg_rl M 149 g) 150 f)
  | _ => False
theorem mo_X12_sleeps : eg_mono s_X12_sleeps := by
  intro argv M Q Q' h
  unfold s_X12_sleeps
  split
  · exact fun z => ⟨z.1, fun g f v y => h _ _ (z.2 g f v y)⟩
  · exact id
theorem sz_X12_sleeps : ∀ argv M Qp, s_X12_sleeps argv M Qp → (eg_ls0 argv).length ≤ 7 := by
  intro argv M Qp h
  unfold s_X12_sleeps at h
  split at h
  · exact Nat.le_of_ble_eq_true rfl
  · exact h.elim
theorem sr_X12_sleeps : ∀ argv M Qp, s_X12_sleeps argv M Qp → ∃ p0 As, argv = .ref p0 :: As ∧ eg_isO wd M p0 12 = true := by
  intro argv M Qp h
  unfold s_X12_sleeps at h
  split at h
  · exact ⟨_, _, rfl, rfl⟩
  · exact h.elim
set_option maxRecDepth 100000 in
set_option maxHeartbeats 4000000 in
theorem T_X12_sleeps {argv : List Value} {M : eg_M} {Qp : eg_P} (h : s_X12_sleeps argv M Qp) : eg_T wd k_X12_sleeps Qp 0 0 0 (eg_lsN 7 argv) [] M := by
  unfold s_X12_sleeps at h
  split at h
  · rename_i c d k
    obtain ⟨hp, hq⟩ := h
    obtain ⟨hA, hB, hT, hR, CL, hCL⟩ := hp
    have hq2 : ∀ g f (v : Bool), v = (m_al M c d k && p_slp (m_vr M c d (m_mb M d 0 (eg_gi M 121 47).toNatClampNeg).toNatClampNeg) CL) → Qp (.inl (some (.int (b2i v)))) (eg_rl (eg_rl M 149 g) 150 f) := fun g f v hv => hq g f v (fun CL' h' => by rw [m_rr_inj h' hCL]; exact hv)
    have hmb : ∃ j, j ≤ (eg_gi M 121 47).toNatClampNeg ∧ m_mb M d 0 (eg_gi M 121 47).toNatClampNeg = nI j := by
      have := m_mb_le M d (eg_gi M 121 47).toNatClampNeg 0
      rwa [Nat.zero_add] at this
    have hcn : (eg_gi M 121 47).toNatClampNeg ≤ 200 := by
      obtain ⟨n, hn, e⟩ := hB.1
      rw [e, n_c (by omega)]
      exact hn
    obtain ⟨j, hj, hmj⟩ := hmb
    refine st_X12_sleeps_0 c d k hA (fun _ => hB) (fun _ => ⟨hA.1, ?_, ?_, hT⟩) (fun _ => hR) (fun z => ?_) (fun z => ?_)
    · exact ⟨j, by omega, hmj⟩
    · rw [hmj, n_c (by omega)]
      exact fun i hi => hB.2 i (by omega)
    · have := hq2 (eg_gl M 149) (eg_gl M 150) false (by rw [z]; rfl)
      rw [rl_id, rl_id] at this
      exact this
    have zt : m_al M c d k = true := by revert z; cases m_al M c d k <;> simp
    rw [zt, Bool.true_and] at hq2
    generalize m_vr M c d (m_mb M d 0 (eg_gi M 121 47).toNatClampNeg).toNatClampNeg = V at *
    have hra : m_ra (eg_rl M 149 V) k (eg_gi (eg_rl M 149 V) 121 35).toNatClampNeg = m_ra M k (eg_gi M 121 35).toNatClampNeg := by
      rw [rl_gi]
      generalize (eg_gi M 121 35).toNatClampNeg = n
      induction n with
      | zero => rfl
      | succ n ih => rw [m_ra, m_ra, ih]; rfl
    rw [hra]
    have lp : ∀ i (x : Bool × (Nat → Int64)), i ≤ CL.length → (x.1 = (CL.take i).any (fun c => decide (c.1 = nI 1)) ∧ ∀ j (h : j < CL.length), j < i → ¬ (CL[j].1 = nI 1 ∧ ¬ p_cv V CL[j].2.1 CL[j].2.2 = lN 0)) → eg_T wd k_X12_sleeps Qp 36 0 0 [some (.ref 121), some (.int c), some (.int d), some (.int k), some (.int (m_ra M k (eg_gi M 121 35).toNatClampNeg)), some (.int (b2i x.1)), some (.int (nI i))] [] (eg_rl (eg_rl M 149 V) 150 x.2) := by
      refine eg_for ?_
      intro i ⟨b, f⟩ hi ⟨hb, hI⟩ kk
      have hno : i = CL.length → CL.any (fun c => decide (c.1 = nI 1 ∧ ¬ p_cv V c.2.1 c.2.2 = lN 0)) = false := by
        intro e
        subst e
        rw [List.any_eq_false]
        intro x hx
        obtain ⟨j, hj, rfl⟩ := List.mem_iff_getElem.mp hx
        simp only [decide_eq_true_eq]
        exact hI j hj hj
      have hend0 : i = CL.length → (¬ b2i b = 0 ∨ V 7 ≤ lN 1080) → Qp (.inl (some (.int (nI 0)))) (eg_rl (eg_rl M 149 V) 150 f) := by
        intro e z
        refine hq2 V f false ?_
        have hb : b = (CL.take i).any (fun c => decide (c.1 = nI 1)) := hb
        rw [e, List.take_length] at hb
        rw [p_slp, hno e, ← hb, Bool.false_or]
        rcases z with z | z
        · rw [b2i_n0.mp z]; rfl
        · rw [decide_eq_false (fun y => y z), Bool.and_false]
      have hend1 : i = CL.length → (b2i b = 0 ∧ ¬ V 7 ≤ lN 1080) → Qp (.inl (some (.int (nI 1)))) (eg_rl (eg_rl M 149 V) 150 f) := by
        intro e z
        refine hq2 V f true ?_
        have hb : b = (CL.take i).any (fun c => decide (c.1 = nI 1)) := hb
        rw [e, List.take_length] at hb
        rw [p_slp, hno e, ← hb, Bool.false_or, b2i_0.mp z.1, decide_eq_true z.2]
        rfl
      have st := st_X12_sleeps_36 (Qp := Qp) (M := eg_rl (eg_rl M 149 V) 150 f) (some (.int c)) (some (.int d)) (some (.int k)) (m_ra M k (eg_gi M 121 35).toNatClampNeg) (b2i b) (nI i)
      simp only [rl_gi, rl_g, if_true, if_false, Nat.reduceEqDiff] at st
      rcases hCL with ⟨e, eC⟩ | ⟨r, e, hr, hl, hl12, hC⟩
      · have hi0 : i = CL.length := by rw [eC] at hi ⊢; exact Nat.le_zero.mp hi
        rw [e] at st ⊢
        refine st (fun z => absurd rfl z) (fun z => absurd rfl z) (fun z => absurd rfl z) (fun z => hend0 hi0 ?_) (fun z => hend1 hi0 ?_) (fun z => absurd rfl z.1) (fun z => absurd rfl z.1)
        · rcases z with z | z
          · exact z.2
          · exact absurd rfl z.1
        · rcases z with z | z
          · exact z.2
          · exact absurd rfl z.1
      · rw [e] at st ⊢
        have nm := nI_m1 (r := r) (by omega)
        rw [n_c (by omega), hl] at st
        simp (disch := omega) only [n_c, n_in, n_m, n_s, n_le] at st
        have hfg : ∀ (h : i < CL.length), eg_gi M 144 (12 * r + i) = CL[i].1 := fun h => (hC i h).1
        refine st (fun _ => hr) (fun _ z => by omega) (fun _ z _ => ⟨r, 12 * r + i, _, _, rfl, hr, rfl, by omega, (hC i (by omega)).2⟩) (fun z => ?_) (fun z => ?_) (fun z f' v' hv => ?_) (fun z => ?_)
        · rcases z with z | z
          · exact absurd z.1 nm
          · exact hend0 (by omega) z.2.2
        · rcases z with z | z
          · exact absurd z.1 nm
          · exact hend1 (by omega) z.2.2
        · have hlt : i < CL.length := by omega
          have hv := hv _ _ (hC i hlt).2
          have kd : CL[i].1 = nI 1 := (hfg hlt).symm.trans z.2.2
          rw [rl_rl]
          refine st_X12_sleeps_91 _ _ _ _ _ _ _ (fun y => ?_) (fun y => ?_)
          · have := kk (true, f') hlt ⟨?_, fun j hj hji => ?_⟩
            · rw [e] at this
              rw [n_s]
              exact this
            · show true = _
              rw [List.take_succ_eq_append_getElem hlt, List.any_append]
              simp only [List.any_cons, List.any_nil, kd, decide_true, Bool.or_false, Bool.or_true]
            · rcases Nat.lt_or_ge j i with w | w
              · exact hI j hj w
              · have : j = i := by omega
                subst this
                intro w2
                apply w2.2
                rw [← y, hv]
                rfl
          · refine hq2 V f' true ?_
            rw [p_slp]
            have : CL.any (fun c => decide (c.1 = nI 1 ∧ ¬ p_cv V c.2.1 c.2.2 = lN 0)) = true := by
              rw [List.any_eq_true]
              refine ⟨CL[i], List.getElem_mem hlt, decide_eq_true ⟨kd, ?_⟩⟩
              intro w
              exact y (hv.trans w)
            rw [this, Bool.true_or]
        · have hlt : i < CL.length := by omega
          have kd : ¬ CL[i].1 = nI 1 := fun w => z.2.2 ((hfg hlt).trans w)
          have := kk (b, f) hlt ⟨?_, fun j hj hji => ?_⟩
          · rw [e] at this
            exact this
          · show b = _
            have hb : b = (CL.take i).any (fun c => decide (c.1 = nI 1)) := hb
            rw [List.take_succ_eq_append_getElem hlt, List.any_append, hb]
            simp only [List.any_cons, List.any_nil, kd, decide_false, Bool.or_false]
          · rcases Nat.lt_or_ge j i with w | w
            · exact hI j hj w
            · have : j = i := by omega
              subst this
              exact fun w2 => kd w2.1
    have := lp 0 (false, eg_gl (eg_rl M 149 V) 150) (Nat.zero_le _) ⟨rfl, fun j _ h => absurd h (Nat.not_lt_zero _)⟩
    rw [rl_id] at this
    exact this
  · exact h.elim
theorem de_X12_sleeps : ∀ q ∈ k_X12_sleeps.1, decode cX12_sleeps q.1 = .ok q.2 := by decide +kernel
theorem me_X12_sleeps (g : gl_T) : MT g yX12_sleeps cX12_sleeps 7 (some .boolean) ⟨3, 0, 0, 72⟩ 0 0 s_X12_sleeps := by
  intro hl
  exact eg_met_of (k := k_X12_sleeps) (by decide) rfl ⟨Nat.le_refl _, Nat.le_refl _⟩ rfl sz_X12_sleeps de_X12_sleeps (fun meth hn => (fc (eg_FL_of wd_c12 (by decide) lf_RX12_96 (fun h => absurd h (by decide))) (fc (eg_FL_of wd_c12 (by decide) lf_RX12_105 (fun h => absurd h (by decide))) (fc (eg_FL_of wd_c12 (by decide) lf_RX12_120 (fun h => absurd h (by decide))) (fn))))) (fun A s H hE => (fc (List.mem_cons_of_mem _ ll_RX12_410) (fn))) (fun p e s m args below meth c Q A ad0 N0 S0 hK hEx hA => (fc (mt_V hl S0 hK hEx hA (me_X12_isAlive g) lm_RX12_391 li_X12_isAlive lx_X12_isAlive ln_RX12 lc_X12_isAlive ⟨rfl, by decide, by decide, by decide +kernel⟩ ⟨rfl, rfl⟩ ⟨by decide, by decide⟩ (ci := 12) rfl rfl sr_X12_isAlive (by decide)) (fc (mt_V hl S0 hK hEx hA (me_X12_manyBy g) lm_RX12_397 li_X12_manyBy lx_X12_manyBy ln_RX12 lc_X12_manyBy ⟨rfl, by decide, by decide, by decide +kernel⟩ ⟨rfl, rfl⟩ ⟨by decide, by decide⟩ (ci := 12) rfl rfl sr_X12_manyBy (by decide)) (fc (mt_V hl S0 hK hEx hA (me_X12_tellValues g) lm_RX12_400 li_X12_tellValues lx_X12_tellValues ln_RX12 lc_X12_tellValues ⟨rfl, by decide, by decide, by decide +kernel⟩ ⟨rfl, rfl⟩ ⟨by decide, by decide⟩ (ci := 12) rfl rfl sr_X12_tellValues (by decide)) (fc (mt_V hl S0 hK hEx hA (me_X12_rulesAt g) lm_RX12_404 li_X12_rulesAt lx_X12_rulesAt ln_RX12 lc_X12_rulesAt ⟨rfl, by decide, by decide, by decide +kernel⟩ ⟨rfl, rfl⟩ ⟨by decide, by decide⟩ (ci := 12) rfl rfl sr_X12_rulesAt (by decide)) (fc (mt_V hl S0 hK hEx hA (me_X12_clauseOf g) lm_RX12_407 li_X12_clauseOf lx_X12_clauseOf ln_RX12 lc_X12_clauseOf ⟨rfl, by decide, by decide, by decide +kernel⟩ ⟨rfl, rfl⟩ ⟨by decide, by decide⟩ (ci := 12) rfl rfl sr_X12_clauseOf (by decide)) (fn))))))) (fun p e s m args below meth c Qc XC A ad0 N0 P S0 hK hEx hA hlk hout hPX => (fn)) (fun argv M Qp h => T_X12_sleeps h)

/-- the model: what e's visit costs by the rules told by day k -/
def m_co (M : eg_M) (e k : Int32) : Int64 := (((eg_gi M 132 e.toNatClampNeg).toInt64) * ((eg_gi M 134 e.toNatClampNeg).toInt64)) * ((if m_ra M k (eg_gi M 121 35).toNatClampNeg = -nI 1 then nI 20 else eg_gi M 143 (m_ra M k (eg_gi M 121 35).toNatClampNeg).toNatClampNeg).toInt64)
theorem m_ra_in (M : eg_M) (k : Int32) (n : Nat) : m_ra M k n = -nI 1 ∨ ∃ r, r < n ∧ m_ra M k n = nI r := by
  induction n with
  | zero => exact Or.inl rfl
  | succ n ih =>
    unfold m_ra
    split
    · rcases ih with h | ⟨r, h, e⟩
      · exact Or.inl h
      · exact Or.inr ⟨r, by omega, e⟩
    · exact Or.inr ⟨n, by omega, rfl⟩
def k_X12_costOf : eg_C := ([(0, .aload_n 0, 1), (1, .iload_n 2, 1), (2, .invokevirtual 404, 3), (5, .istore_n 3, 1), (6, .aload_n 0, 1), (7, .getfield 65, 3), (10, .iload_n 1, 1), (11, .iaload, 1), (12, .i2l, 1), (13, .aload_n 0, 1), (14, .getfield 71, 3), (17, .iload_n 1, 1), (18, .iaload, 1), (19, .i2l, 1), (20, .lmul, 1), (21, .iload_n 3, 1), (22, .iconst (-1), 1), (23, .if_icmp .ne 8, 3), (26, .bipush 20, 2), (28, .goto 9, 3), (31, .aload_n 0, 1), (32, .getfield 102, 3), (35, .iload_n 3, 1), (36, .iaload, 1), (37, .i2l, 1), (38, .lmul, 1), (39, .lreturn, 1)], [(65, 12, 15, false), (71, 12, 17, false), (102, 12, 39, false)], [], [(404, 1 + 1, 0, 0, s_X12_rulesAt)], [], 3, 0, 0)
theorem mk_X12_costOf : ∀ q ∈ k_X12_costOf.2.2.2.1, eg_mono q.2.2.2.2 := (fc (mo_X12_rulesAt) (fn))
set_option maxRecDepth 100000 in
theorem st_X12_costOf_0 {Qp : eg_P} {M : eg_M} (e : Int32) (k : Int32)
  (g0 : (eg_cn (eg_gi M 121 35) 8))
  (g1 : (vp_in e 200))
  (g2 : (¬ ((m_ra M k (eg_gi M 121 35).toNatClampNeg) = (-nI 1))) → (vp_in (m_ra M k (eg_gi M 121 35).toNatClampNeg) 8))
  (l0 : ((m_ra M k (eg_gi M 121 35).toNatClampNeg) = (-nI 1)) → Qp (.inl (some (.long ((((eg_gi M 132 e.toNatClampNeg).toInt64) * ((eg_gi M 134 e.toNatClampNeg).toInt64)) * ((nI 20).toInt64))))) M)
  (l1 : (¬ (m_ra M k (eg_gi M 121 35).toNatClampNeg) = (-nI 1)) → Qp (.inl (some (.long ((((eg_gi M 132 e.toNatClampNeg).toInt64) * ((eg_gi M 134 e.toNatClampNeg).toInt64)) * ((eg_gi M 143 (m_ra M k (eg_gi M 121 35).toNatClampNeg).toNatClampNeg).toInt64))))) M) :
  eg_T wd k_X12_costOf Qp 0 0 0 [some (.ref 121), some (.int e), some (.int k), none] [] M := by
  refine eg_T_run mk_X12_costOf (cut := []) 30 ?_
  refine And.intro (show (eg_cn (eg_gi M 121 35) 8) from ?_) ?_
  · exact g0
  refine And.intro (show vp_in e 200 from ?_) ?_
  · exact g1
  refine And.intro (show vp_in e 200 from ?_) ?_
  · exact g1
  refine And.intro (fun (c1 : (m_ra M k (eg_gi M 121 35).toNatClampNeg) = (-nI 1)) => ?_) (fun (c1 : ¬ (m_ra M k (eg_gi M 121 35).toNatClampNeg) = (-nI 1)) => ?_)
  · skip
    show Qp (.inl (some (.long ((((eg_gi M 132 e.toNatClampNeg).toInt64) * ((eg_gi M 134 e.toNatClampNeg).toInt64)) * ((nI 20).toInt64))))) M
    exact l0 c1
  · skip
    refine And.intro (show vp_in (m_ra M k (eg_gi M 121 35).toNatClampNeg) 8 from ?_) ?_
    · exact g2 c1
    show Qp (.inl (some (.long ((((eg_gi M 132 e.toNatClampNeg).toInt64) * ((eg_gi M 134 e.toNatClampNeg).toInt64)) * ((eg_gi M 143 (m_ra M k (eg_gi M 121 35).toNatClampNeg).toNatClampNeg).toInt64))))) M
    exact l1 c1

def s_X12_costOf : eg_S := fun argv M Qp => match argv with
  | [.ref 121, .int e, .int k] => (eg_cn (eg_gi M 121 35) 8 ∧ vp_in e 200) ∧ Qp (.inl (some (.long (m_co M e k)))) M
  | _ => False
theorem mo_X12_costOf : eg_mono s_X12_costOf := by
  intro argv M Q Q' h
  unfold s_X12_costOf
  split
  · exact fun z => ⟨z.1, h _ _ z.2⟩
  · exact id
theorem sz_X12_costOf : ∀ argv M Qp, s_X12_costOf argv M Qp → (eg_ls0 argv).length ≤ 4 := by
  intro argv M Qp h
  unfold s_X12_costOf at h
  split at h
  · exact Nat.le_of_ble_eq_true rfl
  · exact h.elim
theorem sr_X12_costOf : ∀ argv M Qp, s_X12_costOf argv M Qp → ∃ p0 As, argv = .ref p0 :: As ∧ eg_isO wd M p0 12 = true := by
  intro argv M Qp h
  unfold s_X12_costOf at h
  split at h
  · exact ⟨_, _, rfl, rfl⟩
  · exact h.elim
set_option maxRecDepth 100000 in
set_option maxHeartbeats 4000000 in
theorem T_X12_costOf {argv : List Value} {M : eg_M} {Qp : eg_P} (h : s_X12_costOf argv M Qp) : eg_T wd k_X12_costOf Qp 0 0 0 (eg_lsN 4 argv) [] M := by
  unfold s_X12_costOf at h
  split at h
  · rename_i e k
    obtain ⟨hp, hq⟩ := h
    obtain ⟨⟨n, hn, hN⟩, he⟩ := hp
    refine st_X12_costOf_0 e k ⟨n, hn, hN⟩ he (fun z => ?_) (fun z => ?_) (fun z => ?_)
    · rcases m_ra_in M k (eg_gi M 121 35).toNatClampNeg with h | ⟨r, h, e⟩
      · exact absurd h z
      · rw [e]
        rw [hN, n_c (by omega)] at h
        exact vp_in_nI (by omega) (by decide)
    · rw [m_co, if_pos z] at hq
      exact hq
    · rw [m_co, if_neg z] at hq
      exact hq
    
  · exact h.elim
theorem de_X12_costOf : ∀ q ∈ k_X12_costOf.1, decode cX12_costOf q.1 = .ok q.2 := by decide +kernel
theorem me_X12_costOf (g : gl_T) : MT g yX12_costOf cX12_costOf 4 (some .long) ⟨1, 0, 0, 23⟩ 0 0 s_X12_costOf := by
  intro hl
  exact eg_met_of (k := k_X12_costOf) (by decide) rfl ⟨Nat.le_refl _, Nat.le_refl _⟩ rfl sz_X12_costOf de_X12_costOf (fun meth hn => (fc (eg_FL_of wd_c12 (by decide) lf_RX12_65 (fun h => absurd h (by decide))) (fc (eg_FL_of wd_c12 (by decide) lf_RX12_71 (fun h => absurd h (by decide))) (fc (eg_FL_of wd_c12 (by decide) lf_RX12_102 (fun h => absurd h (by decide))) (fn))))) (fun A s H hE => (fn)) (fun p e s m args below meth c Q A ad0 N0 S0 hK hEx hA => (fc (mt_V hl S0 hK hEx hA (me_X12_rulesAt g) lm_RX12_404 li_X12_rulesAt lx_X12_rulesAt ln_RX12 lc_X12_rulesAt ⟨rfl, by decide, by decide, by decide +kernel⟩ ⟨rfl, rfl⟩ ⟨by decide, by decide⟩ (ci := 12) rfl rfl sr_X12_rulesAt (by decide)) (fn))) (fun p e s m args below meth c Qc XC A ad0 N0 P S0 hK hEx hA hlk hout hPX => (fn)) (fun argv M Qp h => T_X12_costOf h)

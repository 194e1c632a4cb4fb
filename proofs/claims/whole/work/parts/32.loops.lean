theorem rl_id' {Y : eg_M} {p : Nat} {f : Nat → Int64} (h : f = eg_gl Y p) : eg_rl Y p f = Y := by subst h; exact rl_id Y p
theorem ri_id' {Y : eg_M} {p : Nat} {f : Nat → Int32} (h : f = eg_gi Y p) : eg_ri Y p f = Y := by subst h; exact ri_id Y p
/-- the model: Y is X but for what a question leaves behind -/
def m_sc (X Y : eg_M) : Prop := ∃ (q : Int32) (f : Nat → Int32) (v s cl g o : Nat → Int64), Y = eg_rl (eg_rl (eg_rl (eg_rl (eg_rl (eg_ri (eg_si X 121 47 q) 151 f) 149 v) 150 s) 152 cl) 153 g) 154 o
theorem m_sc2 (X : eg_M) (q : Int32) (f : Nat → Int32) (v s : Nat → Int64) : m_sc X (eg_rl (eg_rl (eg_ri (eg_si X 121 47 q) 151 f) 149 v) 150 s) := by
  refine ⟨q, f, v, s, eg_gl X 152, eg_gl X 153, eg_gl X 154, ?_⟩
  have e3 : eg_rl (eg_rl (eg_rl (eg_ri (eg_si X 121 47 q) 151 f) 149 v) 150 s) 152 (eg_gl X 152) = eg_rl (eg_rl (eg_ri (eg_si X 121 47 q) 151 f) 149 v) 150 s := rl_id' rfl
  have e4 : eg_rl (eg_rl (eg_rl (eg_ri (eg_si X 121 47 q) 151 f) 149 v) 150 s) 153 (eg_gl X 153) = eg_rl (eg_rl (eg_ri (eg_si X 121 47 q) 151 f) 149 v) 150 s := rl_id' rfl
  have e5 : eg_rl (eg_rl (eg_rl (eg_ri (eg_si X 121 47 q) 151 f) 149 v) 150 s) 154 (eg_gl X 154) = eg_rl (eg_rl (eg_ri (eg_si X 121 47 q) 151 f) 149 v) 150 s := rl_id' rfl
  rw [e3, e4, e5]
theorem m_sc1 (X : eg_M) (q : Int32) (f : Nat → Int32) (v : Nat → Int64) : m_sc X (eg_rl (eg_ri (eg_si X 121 47 q) 151 f) 149 v) := by
  have h := m_sc2 X q f v (eg_gl X 150)
  have e : eg_rl (eg_rl (eg_ri (eg_si X 121 47 q) 151 f) 149 v) 150 (eg_gl X 150) = eg_rl (eg_ri (eg_si X 121 47 q) 151 f) 149 v := rl_id' rfl
  rw [e] at h
  exact h
theorem m_sc0 (X : eg_M) (q : Int32) (f : Nat → Int32) : m_sc X (eg_ri (eg_si X 121 47 q) 151 f) := by
  have h := m_sc1 X q f (eg_gl X 149)
  have e : eg_rl (eg_ri (eg_si X 121 47 q) 151 f) 149 (eg_gl X 149) = eg_ri (eg_si X 121 47 q) 151 f := rl_id' rfl
  rw [e] at h
  exact h
theorem m_sc_r (X : eg_M) : m_sc X X := by
  have h := m_sc0 X (eg_gi X 121 47) (eg_gi X 151)
  rw [si_id, ri_id] at h
  exact h
theorem fnd_v (f : Nat → Int32) (x : Int32) : ∀ (r i : Nat), (fnd f x i r = -nI 1 ∧ ∀ j, i ≤ j → j < i + r → ¬ f j = x) ∨ ∃ j, i ≤ j ∧ j < i + r ∧ f j = x ∧ fnd f x i r = nI j := by
  intro r
  induction r with
  | zero => exact fun i => Or.inl ⟨rfl, fun j h1 h2 => absurd h1 (by omega)⟩
  | succ r ih =>
    intro i
    unfold fnd
    by_cases h : f i = x
    · rw [if_pos h]
      exact Or.inr ⟨i, by omega, by omega, h, rfl⟩
    · rw [if_neg h]
      rcases ih (i + 1) with ⟨e, z⟩ | ⟨j, h1, h2, h3, h4⟩
      · refine Or.inl ⟨e, fun j h1 h2 => ?_⟩
        by_cases c : j = i
        · subst c; exact h
        · exact z j (by omega) (by omega)
      · exact Or.inr ⟨j, by omega, by omega, h3, h4⟩
theorem m_ra_g {M N : eg_M} (h : ∀ j, eg_gi N 140 j = eg_gi M 140 j) (k : Int32) (n : Nat) : m_ra N k n = m_ra M k n := by
  induction n with
  | zero => rfl
  | succ n ih => rw [m_ra, m_ra, ih, h]
theorem m_co_g {M N : eg_M} (h : ∀ p j, p ≠ 151 → ¬ (p = 121 ∧ j = 47) → eg_gi N p j = eg_gi M p j) (e k : Int32) : m_co N e k = m_co M e k := by
  unfold m_co
  rw [h 121 35 (by decide) (by decide), m_ra_g (fun j => h 140 j (by decide) (by omega)), h 132 _ (by decide) (by omega), h 134 _ (by decide) (by omega), h 143 _ (by decide) (by omega)]
theorem m_ts_g {M N : eg_M} (h : ∀ p j, p ≠ 121 → eg_gi N p j = eg_gi M p j) (c : Int32) (n : Nat) : m_ts N c n = m_ts M c n := by
  induction n with
  | zero => unfold m_ts; rw [h 128 _ (by decide)]
  | succ n ih =>
    rw [m_ts, m_ts, ih]
    simp only [h 131 _ (by decide), h 151 _ (by decide), h 130 _ (by decide), h 136 _ (by decide), h 133 _ (by decide)]
theorem m_vr_g {M N : eg_M} (h : ∀ p j, p ≠ 121 → eg_gi N p j = eg_gi M p j) (h2 : ∀ j, eg_gl N 149 j = eg_gl M 149 j) (c d : Int32) (m j : Nat) : m_vr N c d m j = m_vr M c d m j := by
  unfold m_vr
  simp only [h 123 _ (by decide), h 124 _ (by decide), h 125 _ (by decide), h 126 _ (by decide), h 127 _ (by decide), h 128 _ (by decide), m_ts_g h, h2]
theorem m_vv_g {M N : eg_M} (h : ∀ p j, p ≠ 121 → eg_gi N p j = eg_gi M p j) (h2 : ∀ j, eg_gl N 149 j = eg_gl M 149 j) (e i : Nat) : m_vv N e i = m_vv M e i := by
  funext j
  unfold m_vv
  simp only [h 125 _ (by decide), h 127 _ (by decide), h 131 _ (by decide), h 132 _ (by decide), h 133 _ (by decide), h 134 _ (by decide), h 135 _ (by decide), h 136 _ (by decide), m_vr_g h h2]
theorem m_clm_g {M N : eg_M} (h : ∀ p j, p ≠ 121 → eg_gi N p j = eg_gi M p j) (h2 : ∀ j, eg_gl N 149 j = eg_gl M 149 j) (CL : List (Int32 × List Int32 × List Int32)) (i : Nat) : m_clm N CL i = m_clm M CL i := by
  unfold m_clm
  rw [h 151 _ (by decide), h 130 _ (by decide), m_vv_g h h2]
theorem si_ne {M : eg_M} {p k : Nat} {v : Int32} {q j : Nat} (h : q ≠ p) : eg_gi (eg_si M p k v) q j = eg_gi M q j := by
  rw [si_g, if_neg (fun z => h z.1)]
theorem m_L_ne {M : eg_M} {L : List Nat} {f : Nat → Int32} {w : Int32} {q j : Nat} (h : q ≠ 121) : eg_gi (m_L (eg_si M 121 1 w) L f) q j = eg_gi (m_L M L f) q j := by
  unfold m_L
  rw [ri_g, ri_g, si_ne h, si_ne h, si_ne h]
theorem m_pot_c {M : eg_M} {w k : Int32} : m_pot (eg_si M 121 1 w) k = m_pot M k := by
  unfold m_pot
  rw [show eg_gi (eg_si M 121 1 w) 121 35 = eg_gi M 121 35 from rfl, m_ra_g (M := M) (N := eg_si M 121 1 w) (fun _ => rfl)]
  rfl
theorem m_RK_c {M : eg_M} {w k : Int32} (h : m_RK M k) : m_RK (eg_si M 121 1 w) k := by
  unfold m_RK at h ⊢
  rw [m_pot_c, show eg_gi (eg_si M 121 1 w) 121 35 = eg_gi M 121 35 from rfl, m_ra_g (M := M) (N := eg_si M 121 1 w) (fun _ => rfl)]
  exact h
theorem m_TG_c {M : eg_M} {w k : Int32} {L : List Nat} {f : Nat → Int32} {cl g : Nat → Int64} (h : m_TG (eg_si M 121 1 w) k L f cl g) : m_TG M k L f cl g := by
  obtain ⟨h1, h2, h3, h4⟩ := h
  rw [m_pot_c] at h4
  rw [show eg_gi (eg_si M 121 1 w) 121 35 = eg_gi M 121 35 from rfl, m_ra_g (M := M) (N := eg_si M 121 1 w) (fun _ => rfl)] at h3
  refine ⟨h1, h2, fun CL hCL i hi => ?_, h4⟩
  rw [← m_clm_g (M := m_L M L f) (N := m_L (eg_si M 121 1 w) L f) (fun p j hp => m_L_ne hp) (fun _ => rfl)]
  exact h3 CL hCL i hi
/-- the model: what is told of event a -/
def m_tv (M : eg_M) (a b c : Int32) (v : Int64) : Prop :=
  if eg_gi M 130 a.toNatClampNeg = 0 then v = (if b = 0 ∧ m_kn M a.toNatClampNeg c = true then lN 1 else lN 0)
  else ∃ L f cl g, m_TG M c L f cl g ∧ ((¬ a.toNatClampNeg ∈ L ∧ v = lN 0) ∨ ∃ i, ∃ h : i < L.length, L[i] = a.toNatClampNeg ∧ v = (if b = 0 then lN 1 else if ¬ eg_gi M 130 a.toNatClampNeg = nI 1 then lN 0 else if b = nI 1 then cl i else if b = nI 2 then g i else m_co M a c))
def k_X12_told : eg_C := ([(0, .aload_n 0, 1), (1, .iconst 0, 1), (2, .putfield 213, 3), (5, .aload_n 0, 1), (6, .iload_n 1, 1), (7, .invokevirtual 248, 3), (10, .ifCond .eq 12, 3), (13, .iload_n 2, 1), (14, .ifCond .lt 8, 3), (17, .iload_n 2, 1), (18, .iconst 3, 1), (19, .if_icmp .le 10, 3), (22, .aload_n 0, 1), (23, .iconst 1, 1), (24, .invokevirtual 230, 3), (27, .i2l, 1), (28, .lreturn, 1), (29, .iload_n 3, 1), (30, .ifCond .lt 11, 3), (33, .iload_n 3, 1), (34, .aload_n 0, 1), (35, .getfield 234, 3), (38, .if_icmp .le 10, 3), (41, .aload_n 0, 1), (42, .iconst 2, 1), (43, .invokevirtual 230, 3), (46, .i2l, 1), (47, .lreturn, 1), (48, .aload_n 0, 1), (49, .getfield 59, 3), (52, .iload_n 1, 1), (53, .iaload, 1), (54, .ifCond .ne 22, 3), (57, .iload_n 2, 1), (58, .ifCond .ne 16, 3), (61, .aload_n 0, 1), (62, .iload_n 1, 1), (63, .iload_n 3, 1), (64, .invokevirtual 384, 3), (67, .ifCond .eq 7, 3), (70, .lconst 1, 1), (71, .goto 4, 3), (74, .lconst 0, 1), (75, .lreturn, 1), (76, .aload_n 0, 1), (77, .iload_n 3, 1), (78, .invokevirtual 446, 3), (81, .aload_n 0, 1), (82, .iload_n 1, 1), (83, .invokevirtual 449, 3), (86, .istore 4, 2), (88, .iload 4, 2), (90, .iconst (-1), 1), (91, .if_icmp .eq 7, 3), (94, .iload_n 2, 1), (95, .ifCond .ne 15, 3), (98, .iload 4, 2), (100, .iconst (-1), 1), (101, .if_icmp .ne 7, 3), (104, .lconst 0, 1), (105, .goto 4, 3), (108, .lconst 1, 1), (109, .lreturn, 1), (110, .aload_n 0, 1), (111, .getfield 59, 3), (114, .iload_n 1, 1), (115, .iaload, 1), (116, .iconst 1, 1), (117, .if_icmp .eq 5, 3), (120, .lconst 0, 1), (121, .lreturn, 1), (122, .iload_n 2, 1), (123, .iconst 1, 1), (124, .if_icmp .ne 13, 3), (127, .aload_n 0, 1), (128, .getfield 130, 3), (131, .iload 4, 2), (133, .laload, 1), (134, .goto 24, 3), (137, .iload_n 2, 1), (138, .iconst 2, 1), (139, .if_icmp .ne 13, 3), (142, .aload_n 0, 1), (143, .getfield 133, 3), (146, .iload 4, 2), (148, .laload, 1), (149, .goto 9, 3), (152, .aload_n 0, 1), (153, .iload_n 1, 1), (154, .iload_n 3, 1), (155, .invokevirtual 452, 3), (158, .lreturn, 1)], [(59, 12, 13, false), (130, 12, 49, false), (133, 12, 50, false), (213, 12, 1, true), (234, 12, 2, false)], [], [(230, 1 + 1, 0, 0, s_X12_fail), (248, 1 + 1, 0, 0, s_X12_isEvent), (384, 2 + 1, 0, 0, s_X12_isKnown), (446, 1 + 1, 0, 0, s_X12_tellGrants), (449, 1 + 1, 0, 0, s_X12_placeOf), (452, 2 + 1, 0, 0, s_X12_costOf)], [], 3, 0, 0)
theorem mk_X12_told : ∀ q ∈ k_X12_told.2.2.2.1, eg_mono q.2.2.2.2 := (fc (mo_X12_fail) (fc (mo_X12_isEvent) (fc (mo_X12_isKnown) (fc (mo_X12_tellGrants) (fc (mo_X12_placeOf) (fc (mo_X12_costOf) (fn)))))))
set_option maxRecDepth 100000 in
theorem st_X12_told_0 {Qp : eg_P} {M : eg_M} (a : Int32) (b : Int32) (c : Int32)
  (g0 : (¬ (¬ (¬ a < 0 ∧ ¬ (eg_gi (eg_si M 121 1 (nI 0)) 121 5) ≤ a))) → (¬ (b < 0)) → (b ≤ (nI 3)) → (¬ (c < 0)) → (c ≤ (eg_gi M 121 2)) → (vp_in a 200))
  (g1 : (¬ (¬ (¬ a < 0 ∧ ¬ (eg_gi (eg_si M 121 1 (nI 0)) 121 5) ≤ a))) → (¬ (b < 0)) → (b ≤ (nI 3)) → (¬ (c < 0)) → (c ≤ (eg_gi M 121 2)) → (¬ ((eg_gi M 130 a.toNatClampNeg) = 0)) → (m_EV (eg_si M 121 1 (nI 0)) ∧ m_RK (eg_si M 121 1 (nI 0)) c))
  (l0 : ((¬ (¬ a < 0 ∧ ¬ (eg_gi (eg_si M 121 1 (nI 0)) 121 5) ≤ a)) ∨ (b < 0 ∨ ¬ b ≤ (nI 3))) → Qp (.inl (some (.long ((nI 0).toInt64)))) (eg_si (eg_si M 121 1 (nI 0)) 121 1 (nI 1)))
  (l1 : ((¬ a < 0 ∧ ¬ (eg_gi (eg_si M 121 1 (nI 0)) 121 5) ≤ a) ∧ (¬ b < 0 ∧ (b ≤ (nI 3) ∧ (c < 0 ∨ ¬ c ≤ (eg_gi M 121 2))))) → Qp (.inl (some (.long ((nI 0).toInt64)))) (eg_si (eg_si M 121 1 (nI 0)) 121 1 (nI 2)))
  (l2 : ((¬ a < 0 ∧ ¬ (eg_gi (eg_si M 121 1 (nI 0)) 121 5) ≤ a) ∧ (¬ b < 0 ∧ (b ≤ (nI 3) ∧ (¬ c < 0 ∧ (c ≤ (eg_gi M 121 2) ∧ ((eg_gi M 130 a.toNatClampNeg) = 0 ∧ (¬ b = 0 ∨ (¬ (¬ c < (eg_gi (eg_si M 121 1 (nI 0)) 137 a.toNatClampNeg) ∧ ((eg_gi (eg_si M 121 1 (nI 0)) 138 a.toNatClampNeg) = (-nI 1) ∨ ¬ (eg_gi (eg_si M 121 1 (nI 0)) 138 a.toNatClampNeg) ≤ c)))))))))) → Qp (.inl (some (.long (lN 0)))) (eg_si M 121 1 (nI 0)))
  (l3 : ((¬ a < 0 ∧ ¬ (eg_gi (eg_si M 121 1 (nI 0)) 121 5) ≤ a) ∧ (¬ b < 0 ∧ (b ≤ (nI 3) ∧ (¬ c < 0 ∧ (c ≤ (eg_gi M 121 2) ∧ ((eg_gi M 130 a.toNatClampNeg) = 0 ∧ (b = 0 ∧ ((¬ c < (eg_gi (eg_si M 121 1 (nI 0)) 137 a.toNatClampNeg) ∧ ((eg_gi (eg_si M 121 1 (nI 0)) 138 a.toNatClampNeg) = (-nI 1) ∨ ¬ (eg_gi (eg_si M 121 1 (nI 0)) 138 a.toNatClampNeg) ≤ c)))))))))) → Qp (.inl (some (.long (lN 1)))) (eg_si M 121 1 (nI 0)))
  (l4 : ((¬ a < 0 ∧ ¬ (eg_gi (eg_si M 121 1 (nI 0)) 121 5) ≤ a) ∧ (¬ b < 0 ∧ (b ≤ (nI 3) ∧ (¬ c < 0 ∧ (c ≤ (eg_gi M 121 2) ∧ ¬ (eg_gi M 130 a.toNatClampNeg) = 0))))) → ∀ (L_1 : List Nat) (f_1 : Nat → Int32) (v_1 : Nat → Int64) (s_1 : Nat → Int64) (cl_1 : Nat → Int64) (g_1 : Nat → Int64) (o_1 : Nat → Int64), (m_TG (eg_si M 121 1 (nI 0)) c L_1 f_1 cl_1 g_1) → eg_T wd k_X12_told Qp 81 0 0 [some (.ref 121), some (.int a), some (.int b), some (.int c), none] [] (eg_rl (eg_rl (eg_rl (eg_rl (eg_rl (m_L (eg_si M 121 1 (nI 0)) L_1 f_1) 149 v_1) 150 s_1) 152 cl_1) 153 g_1) 154 o_1)) :
  eg_T wd k_X12_told Qp 0 0 0 [some (.ref 121), some (.int a), some (.int b), some (.int c), none] [] M := by
  refine eg_T_run mk_X12_told (cut := [81]) 95 ?_
  refine And.intro (show (True) from ?_) ?_
  · exact trivial
  refine And.intro (fun (c1 : (b2i (decide (¬ a < 0 ∧ ¬ (eg_gi (eg_si M 121 1 (nI 0)) 121 5) ≤ a))) = 0) => ?_) (fun (c1 : ¬ (b2i (decide (¬ a < 0 ∧ ¬ (eg_gi (eg_si M 121 1 (nI 0)) 121 5) ≤ a))) = 0) => ?_)
  · replace c1 := b2i_d0.mp c1
    refine And.intro (fun z => absurd z (by decide)) ?_
    show Qp (.inl (some (.long ((nI 0).toInt64)))) (eg_si (eg_si M 121 1 (nI 0)) 121 1 (nI 1))
    exact l0 (Or.inl c1)
  · replace c1 := b2i_dn.mp c1
    refine And.intro (fun (c2 : b < 0) => ?_) (fun (c2 : ¬ b < 0) => ?_)
    · skip
      refine And.intro (fun z => absurd z (by decide)) ?_
      show Qp (.inl (some (.long ((nI 0).toInt64)))) (eg_si (eg_si M 121 1 (nI 0)) 121 1 (nI 1))
      exact l0 (Or.inr (Or.inl c2))
    · skip
      refine And.intro (fun (c3 : b ≤ (nI 3)) => ?_) (fun (c3 : ¬ b ≤ (nI 3)) => ?_)
      · skip
        refine And.intro (fun (c4 : c < 0) => ?_) (fun (c4 : ¬ c < 0) => ?_)
        · skip
          refine And.intro (fun z => absurd z (by decide)) ?_
          show Qp (.inl (some (.long ((nI 0).toInt64)))) (eg_si (eg_si M 121 1 (nI 0)) 121 1 (nI 2))
          exact l1 ⟨(Classical.byContradiction c1), ⟨c2, ⟨c3, (Or.inl c4)⟩⟩⟩
        · skip
          refine And.intro (fun (c5 : c ≤ (eg_gi M 121 2)) => ?_) (fun (c5 : ¬ c ≤ (eg_gi M 121 2)) => ?_)
          · skip
            refine And.intro (show vp_in a 200 from ?_) ?_
            · exact g0 c1 c2 c3 c4 c5
            refine And.intro (fun (c6 : (eg_gi M 130 a.toNatClampNeg) = 0) => ?_) (fun (c6 : ¬ (eg_gi M 130 a.toNatClampNeg) = 0) => ?_)
            · skip
              refine And.intro (fun (c7 : b = 0) => ?_) (fun (c7 : ¬ b = 0) => ?_)
              · skip
                refine And.intro (show ((vp_in a 200)) from ?_) ?_
                · exact g0 c1 c2 c3 c4 c5
                refine And.intro (fun (c8 : (b2i (decide (¬ c < (eg_gi (eg_si M 121 1 (nI 0)) 137 a.toNatClampNeg) ∧ ((eg_gi (eg_si M 121 1 (nI 0)) 138 a.toNatClampNeg) = (-nI 1) ∨ ¬ (eg_gi (eg_si M 121 1 (nI 0)) 138 a.toNatClampNeg) ≤ c)))) = 0) => ?_) (fun (c8 : ¬ (b2i (decide (¬ c < (eg_gi (eg_si M 121 1 (nI 0)) 137 a.toNatClampNeg) ∧ ((eg_gi (eg_si M 121 1 (nI 0)) 138 a.toNatClampNeg) = (-nI 1) ∨ ¬ (eg_gi (eg_si M 121 1 (nI 0)) 138 a.toNatClampNeg) ≤ c)))) = 0) => ?_)
                · replace c8 := b2i_d0.mp c8
                  show Qp (.inl (some (.long (lN 0)))) (eg_si M 121 1 (nI 0))
                  exact l2 ⟨(Classical.byContradiction c1), ⟨c2, ⟨c3, ⟨c4, ⟨c5, ⟨c6, (Or.inr c8)⟩⟩⟩⟩⟩⟩
                · replace c8 := b2i_dn.mp c8
                  show Qp (.inl (some (.long (lN 1)))) (eg_si M 121 1 (nI 0))
                  exact l3 ⟨(Classical.byContradiction c1), ⟨c2, ⟨c3, ⟨c4, ⟨c5, ⟨c6, ⟨c7, (Classical.byContradiction c8)⟩⟩⟩⟩⟩⟩⟩
              · skip
                show Qp (.inl (some (.long (lN 0)))) (eg_si M 121 1 (nI 0))
                exact l2 ⟨(Classical.byContradiction c1), ⟨c2, ⟨c3, ⟨c4, ⟨c5, ⟨c6, (Or.inl c7)⟩⟩⟩⟩⟩⟩
            · skip
              refine And.intro (show (m_EV (eg_si M 121 1 (nI 0)) ∧ m_RK (eg_si M 121 1 (nI 0)) c) from ?_) ?_
              · exact g1 c1 c2 c3 c4 c5 c6
              intro L_1 f_1 v_1 s_1 cl_1 g_1 o_1 ha_1
              show eg_T wd k_X12_told Qp 81 0 0 [some (.ref 121), some (.int a), some (.int b), some (.int c), none] [] (eg_rl (eg_rl (eg_rl (eg_rl (eg_rl (m_L (eg_si M 121 1 (nI 0)) L_1 f_1) 149 v_1) 150 s_1) 152 cl_1) 153 g_1) 154 o_1)
              exact l4 ⟨(Classical.byContradiction c1), ⟨c2, ⟨c3, ⟨c4, ⟨c5, c6⟩⟩⟩⟩⟩ L_1 f_1 v_1 s_1 cl_1 g_1 o_1 ha_1
          · skip
            refine And.intro (fun z => absurd z (by decide)) ?_
            show Qp (.inl (some (.long ((nI 0).toInt64)))) (eg_si (eg_si M 121 1 (nI 0)) 121 1 (nI 2))
            exact l1 ⟨(Classical.byContradiction c1), ⟨c2, ⟨c3, (Or.inr c5)⟩⟩⟩
      · skip
        refine And.intro (fun z => absurd z (by decide)) ?_
        show Qp (.inl (some (.long ((nI 0).toInt64)))) (eg_si (eg_si M 121 1 (nI 0)) 121 1 (nI 1))
        exact l0 (Or.inr (Or.inr c3))

set_option maxRecDepth 100000 in
theorem st_X12_told_81 {Qp : eg_P} {M : eg_M} (a : Int32) (b : Int32) (c : Int32) (o4 : Option Value)
  (g0 : (eg_cn (eg_gi M 121 47) 200))
  (g1 : (¬ ((fnd (eg_gi M 151) a 0 (eg_gi M 121 47).toNatClampNeg) = (-nI 1))) → (¬ (b = 0)) → (vp_in a 200))
  (g2 : (¬ ((fnd (eg_gi M 151) a 0 (eg_gi M 121 47).toNatClampNeg) = (-nI 1))) → (¬ (b = 0)) → ((eg_gi M 130 a.toNatClampNeg) = (nI 1)) → ((b = (nI 1)) ∨ (¬ (b = (nI 1)) ∧ (b = (nI 2)))) → (vp_in (fnd (eg_gi M 151) a 0 (eg_gi M 121 47).toNatClampNeg) 200))
  (g3 : (¬ ((fnd (eg_gi M 151) a 0 (eg_gi M 121 47).toNatClampNeg) = (-nI 1))) → (¬ (b = 0)) → ((eg_gi M 130 a.toNatClampNeg) = (nI 1)) → (¬ (b = (nI 1))) → (¬ (b = (nI 2))) → (eg_cn (eg_gi M 121 35) 8 ∧ vp_in a 200))
  (l0 : ((fnd (eg_gi M 151) a 0 (eg_gi M 121 47).toNatClampNeg) = (-nI 1) ∨ (¬ b = 0 ∧ ¬ (eg_gi M 130 a.toNatClampNeg) = (nI 1))) → Qp (.inl (some (.long (lN 0)))) M)
  (l1 : (¬ (fnd (eg_gi M 151) a 0 (eg_gi M 121 47).toNatClampNeg) = (-nI 1) ∧ b = 0) → Qp (.inl (some (.long (lN 1)))) M)
  (l2 : (¬ (fnd (eg_gi M 151) a 0 (eg_gi M 121 47).toNatClampNeg) = (-nI 1) ∧ (¬ b = 0 ∧ ((eg_gi M 130 a.toNatClampNeg) = (nI 1) ∧ b = (nI 1)))) → Qp (.inl (some (.long (eg_gl M 152 (fnd (eg_gi M 151) a 0 (eg_gi M 121 47).toNatClampNeg).toNatClampNeg)))) M)
  (l3 : (¬ (fnd (eg_gi M 151) a 0 (eg_gi M 121 47).toNatClampNeg) = (-nI 1) ∧ (¬ b = 0 ∧ ((eg_gi M 130 a.toNatClampNeg) = (nI 1) ∧ (¬ b = (nI 1) ∧ b = (nI 2))))) → Qp (.inl (some (.long (eg_gl M 153 (fnd (eg_gi M 151) a 0 (eg_gi M 121 47).toNatClampNeg).toNatClampNeg)))) M)
  (l4 : (¬ (fnd (eg_gi M 151) a 0 (eg_gi M 121 47).toNatClampNeg) = (-nI 1) ∧ (¬ b = 0 ∧ ((eg_gi M 130 a.toNatClampNeg) = (nI 1) ∧ (¬ b = (nI 1) ∧ ¬ b = (nI 2))))) → Qp (.inl (some (.long (m_co M a c)))) M) :
  eg_T wd k_X12_told Qp 81 0 0 [some (.ref 121), some (.int a), some (.int b), some (.int c), o4] [] M := by
  refine eg_T_run mk_X12_told (cut := [81]) 95 ?_
  refine And.intro (show (eg_cn (eg_gi M 121 47) 200) from ?_) ?_
  · exact g0
  refine And.intro (fun (c1 : (fnd (eg_gi M 151) a 0 (eg_gi M 121 47).toNatClampNeg) = (-nI 1)) => ?_) (fun (c1 : ¬ (fnd (eg_gi M 151) a 0 (eg_gi M 121 47).toNatClampNeg) = (-nI 1)) => ?_)
  · skip
    refine And.intro (fun (c2 : (fnd (eg_gi M 151) a 0 (eg_gi M 121 47).toNatClampNeg) = (-nI 1)) => ?_) (fun (c2 : ¬ (fnd (eg_gi M 151) a 0 (eg_gi M 121 47).toNatClampNeg) = (-nI 1)) => ?_)
    · clear c2
      show Qp (.inl (some (.long (lN 0)))) M
      exact l0 (Or.inl c1)
    · exact absurd c1 c2
  · skip
    refine And.intro (fun (c3 : b = 0) => ?_) (fun (c3 : ¬ b = 0) => ?_)
    · skip
      refine And.intro (fun (c4 : (fnd (eg_gi M 151) a 0 (eg_gi M 121 47).toNatClampNeg) = (-nI 1)) => ?_) (fun (c4 : ¬ (fnd (eg_gi M 151) a 0 (eg_gi M 121 47).toNatClampNeg) = (-nI 1)) => ?_)
      · exact absurd c4 c1
      · clear c4
        show Qp (.inl (some (.long (lN 1)))) M
        exact l1 ⟨c1, c3⟩
    · skip
      refine And.intro (show vp_in a 200 from ?_) ?_
      · exact g1 c1 c3
      refine And.intro (fun (c5 : (eg_gi M 130 a.toNatClampNeg) = (nI 1)) => ?_) (fun (c5 : ¬ (eg_gi M 130 a.toNatClampNeg) = (nI 1)) => ?_)
      · skip
        refine And.intro (fun (c6 : b = (nI 1)) => ?_) (fun (c6 : ¬ b = (nI 1)) => ?_)
        · skip
          refine And.intro (show vp_in (fnd (eg_gi M 151) a 0 (eg_gi M 121 47).toNatClampNeg) 200 from ?_) ?_
          · exact g2 c1 c3 c5 (by clear g0 g1 g2 g3 l0 l1 l2 l3 l4; grind)
          show Qp (.inl (some (.long (eg_gl M 152 (fnd (eg_gi M 151) a 0 (eg_gi M 121 47).toNatClampNeg).toNatClampNeg)))) M
          exact l2 ⟨c1, ⟨c3, ⟨c5, c6⟩⟩⟩
        · skip
          refine And.intro (fun (c7 : b = (nI 2)) => ?_) (fun (c7 : ¬ b = (nI 2)) => ?_)
          · skip
            refine And.intro (show vp_in (fnd (eg_gi M 151) a 0 (eg_gi M 121 47).toNatClampNeg) 200 from ?_) ?_
            · exact g2 c1 c3 c5 (by clear g0 g1 g2 g3 l0 l1 l2 l3 l4; grind)
            show Qp (.inl (some (.long (eg_gl M 153 (fnd (eg_gi M 151) a 0 (eg_gi M 121 47).toNatClampNeg).toNatClampNeg)))) M
            exact l3 ⟨c1, ⟨c3, ⟨c5, ⟨c6, c7⟩⟩⟩⟩
          · skip
            refine And.intro (show (eg_cn (eg_gi M 121 35) 8 ∧ vp_in a 200) from ?_) ?_
            · exact g3 c1 c3 c5 c6 c7
            show Qp (.inl (some (.long (m_co M a c)))) M
            exact l4 ⟨c1, ⟨c3, ⟨c5, ⟨c6, c7⟩⟩⟩⟩
      · skip
        show Qp (.inl (some (.long (lN 0)))) M
        exact l0 (Or.inr ⟨c3, c5⟩)

def s_X12_told : eg_S := fun argv M Qp => match argv with
  | [.ref 121, .int a, .int b, .int c] => (m_EV M ∧ ((¬ c < 0 ∧ c ≤ eg_gi M 121 2) → m_RK M c)) ∧ ∀ (v : Int64) (M2 : eg_M), ((¬ ((¬ a < 0 ∧ ¬ eg_gi M 121 5 ≤ a) ∧ ¬ b < 0 ∧ b ≤ nI 3) ∧ v = lN 0 ∧ M2 = eg_si M 121 1 (nI 1)) ∨ (((¬ a < 0 ∧ ¬ eg_gi M 121 5 ≤ a) ∧ ¬ b < 0 ∧ b ≤ nI 3) ∧ ¬ (¬ c < 0 ∧ c ≤ eg_gi M 121 2) ∧ v = lN 0 ∧ M2 = eg_si M 121 1 (nI 2)) ∨ (((¬ a < 0 ∧ ¬ eg_gi M 121 5 ≤ a) ∧ ¬ b < 0 ∧ b ≤ nI 3) ∧ (¬ c < 0 ∧ c ≤ eg_gi M 121 2) ∧ m_sc (eg_si M 121 1 (nI 0)) M2 ∧ m_tv M a b c v)) → Qp (.inl (some (.long (v)))) M2
  | _ => False
theorem mo_X12_told : eg_mono s_X12_told := by
  intro argv M Q Q' h
  unfold s_X12_told
  split
  · exact fun z => ⟨z.1, fun v M2 y => h _ _ (z.2 v M2 y)⟩
  · exact id
theorem sz_X12_told : ∀ argv M Qp, s_X12_told argv M Qp → (eg_ls0 argv).length ≤ 5 := by
  intro argv M Qp h
  unfold s_X12_told at h
  split at h
  · exact Nat.le_of_ble_eq_true rfl
  · exact h.elim
theorem sr_X12_told : ∀ argv M Qp, s_X12_told argv M Qp → ∃ p0 As, argv = .ref p0 :: As ∧ eg_isO wd M p0 12 = true := by
  intro argv M Qp h
  unfold s_X12_told at h
  split at h
  · exact ⟨_, _, rfl, rfl⟩
  · exact h.elim
set_option maxRecDepth 100000 in
set_option maxHeartbeats 1000000 in
theorem T_X12_told {argv : List Value} {M : eg_M} {Qp : eg_P} (h : s_X12_told argv M Qp) : eg_T wd k_X12_told Qp 0 0 0 (eg_lsN 5 argv) [] M := by
  unfold s_X12_told at h
  split at h
  · rename_i a b c
    obtain ⟨hp, hq⟩ := h
    obtain ⟨hEV, hRK⟩ := hp
    have hEV' := hEV
    obtain ⟨⟨n, hn, hN⟩, hE⟩ := hEV
    have z0 : (nI 0).toInt64 = lN 0 := by decide
    have st := st_X12_told_0 (Qp := Qp) (M := M) a b c
    have r5 : eg_gi (eg_si M 121 1 (nI 0)) 121 5 = eg_gi M 121 5 := rfl
    have r137 : ∀ j, eg_gi (eg_si M 121 1 (nI 0)) 137 j = eg_gi M 137 j := fun _ => rfl
    have r138 : ∀ j, eg_gi (eg_si M 121 1 (nI 0)) 138 j = eg_gi M 138 j := fun _ => rfl
    simp only [r5, r137, r138, z0, si_si] at st
    have ha : (¬ a < 0 ∧ ¬ eg_gi M 121 5 ≤ a) → ∃ e, e < n ∧ a = nI e := by
      rintro ⟨h1, h2⟩
      obtain ⟨e, he, rfl⟩ := nI_of h1
      rw [hN, n_le (by omega) (by omega)] at h2
      exact ⟨e, by omega, rfl⟩
    refine st (fun z _ _ _ _ => ?_) (fun z _ _ z3 z4 _ => ?_) (fun z => ?_) (fun z => ?_) (fun z => ?_) (fun z => ?_) (fun z L f v s cl g o hTG => ?_)
    · obtain ⟨e, he, rfl⟩ := ha (Classical.not_not.mp z)
      exact vp_in_nI (by omega) (by decide)
    · exact ⟨hEV', m_RK_c (hRK ⟨z3, z4⟩)⟩
    · exact hq _ _ (Or.inl ⟨by grind, rfl, rfl⟩)
    · exact hq _ _ (Or.inr (Or.inl ⟨⟨z.1, z.2.1, z.2.2.1⟩, by grind, rfl, rfl⟩))
    · refine hq _ _ (Or.inr (Or.inr ⟨⟨z.1, z.2.1, z.2.2.1⟩, ⟨z.2.2.2.1, z.2.2.2.2.1⟩, m_sc_r _, ?_⟩))
      unfold m_tv
      rw [if_pos z.2.2.2.2.2.1, if_neg]
      unfold m_kn
      rw [decide_eq_true_eq]
      have := z.2.2.2.2.2.2
      grind
    · refine hq _ _ (Or.inr (Or.inr ⟨⟨z.1, z.2.1, z.2.2.1⟩, ⟨z.2.2.2.1, z.2.2.2.2.1⟩, m_sc_r _, ?_⟩))
      unfold m_tv
      rw [if_pos z.2.2.2.2.2.1, if_pos]
      unfold m_kn
      rw [decide_eq_true_eq]
      exact ⟨z.2.2.2.2.2.2.1, z.2.2.2.2.2.2.2⟩
    · obtain ⟨e, he, rfl⟩ := ha z.1
      have hTG' : m_TG M c L f cl g := m_TG_c hTG
      have hlen : L.length ≤ 200 := by
        have := hTG'.1.1
        rw [hN, n_c (by omega)] at this
        omega
      have hlt : ∀ j (h : j < L.length), L[j] < n := fun j h => by
        have := ((hTG'.1.2.2 L[j]).mp (List.getElem_mem h)).1
        rw [hN, n_c (by omega)] at this
        exact this
      have zc : c ≤ eg_gi M 121 2 := z.2.2.2.2.1
      have zk : ¬ eg_gi M 130 (nI e).toNatClampNeg = 0 := z.2.2.2.2.2
      have fin : ∀ x, ((¬ (nI e).toNatClampNeg ∈ L ∧ x = lN 0) ∨ ∃ i, ∃ h : i < L.length, L[i] = (nI e).toNatClampNeg ∧ x = (if b = 0 then lN 1 else if ¬ eg_gi M 130 (nI e).toNatClampNeg = nI 1 then lN 0 else if b = nI 1 then cl i else if b = nI 2 then g i else m_co M (nI e) c)) → Qp (.inl (some (.long x))) (eg_rl (eg_rl (eg_rl (eg_rl (eg_rl (m_L (eg_si M 121 1 (nI 0)) L f) 149 v) 150 s) 152 cl) 153 g) 154 o) := by
        intro x hx
        refine hq _ _ (Or.inr (Or.inr ⟨⟨z.1, z.2.1, z.2.2.1⟩, ⟨z.2.2.2.1, zc⟩, ⟨_, f, v, s, cl, g, o, rfl⟩, ?_⟩))
        unfold m_tv
        rw [if_neg zk]
        exact ⟨L, f, cl, g, hTG', hx⟩
      have s8 := st_X12_told_81 (Qp := Qp) (M := eg_rl (eg_rl (eg_rl (eg_rl (eg_rl (m_L (eg_si M 121 1 (nI 0)) L f) 149 v) 150 s) 152 cl) 153 g) 154 o) (nI e) b c none
      have r47 : eg_gi (m_L (eg_si M 121 1 (nI 0)) L f) 121 47 = nI L.length := rfl
      have r35 : eg_gi (m_L (eg_si M 121 1 (nI 0)) L f) 121 35 = eg_gi M 121 35 := rfl
      have r130 : ∀ j, eg_gi (m_L (eg_si M 121 1 (nI 0)) L f) 130 j = eg_gi M 130 j := fun _ => rfl
      have r151 : eg_gi (eg_rl (eg_rl (eg_rl (eg_rl (eg_rl (m_L (eg_si M 121 1 (nI 0)) L f) 149 v) 150 s) 152 cl) 153 g) 154 o) 151 = f := rfl
      have rco : m_co (eg_rl (eg_rl (eg_rl (eg_rl (eg_rl (m_L (eg_si M 121 1 (nI 0)) L f) 149 v) 150 s) 152 cl) 153 g) 154 o) (nI e) c = m_co M (nI e) c := by
        unfold m_co
        rw [show eg_gi (eg_rl (eg_rl (eg_rl (eg_rl (eg_rl (m_L (eg_si M 121 1 (nI 0)) L f) 149 v) 150 s) 152 cl) 153 g) 154 o) 121 35 = eg_gi M 121 35 from rfl, m_ra_g (M := M) (N := eg_rl (eg_rl (eg_rl (eg_rl (eg_rl (m_L (eg_si M 121 1 (nI 0)) L f) 149 v) 150 s) 152 cl) 153 g) 154 o) (fun _ => rfl)]
        rfl
      simp (disch := omega) only [r151, rco, rl_gi, rl_g, r47, r35, r130, n_c, if_true, if_false, Nat.reduceEqDiff] at s8
      rw [n_c (by omega)] at fin zk
      have hin : vp_in (nI e) 200 := vp_in_nI (by omega) (by decide)
      rcases fnd_v f (nI e) L.length 0 with ⟨h1, h2⟩ | ⟨j, h1, h2, h3, h4⟩
      · rw [h1] at s8
        refine s8 ⟨L.length, hlen, rfl⟩ (fun w => absurd rfl w) (fun w => absurd rfl w) (fun w => absurd rfl w) (fun _ => fin _ (Or.inl ⟨fun w => ?_, rfl⟩)) (fun w => absurd rfl w.1) (fun w => absurd rfl w.1) (fun w => absurd rfl w.1) (fun w => absurd rfl w.1)
        obtain ⟨j, hj, ej⟩ := List.mem_iff_getElem.mp w
        exact h2 j (Nat.zero_le _) (by omega) (by rw [hTG'.2.1 j hj, ej])
      · rw [h4, n_c (by omega)] at s8
        have hj : j < L.length := by omega
        have ej : L[j] = e := by
          have := (hTG'.2.1 j hj).symm.trans h3
          exact (n_eq (by have := hlt j hj; omega) (by omega)).mp this
        have nj : ¬ nI j = -nI 1 := nI_m1 (by omega)
        refine s8 ⟨L.length, hlen, rfl⟩ (fun _ _ => hin) (fun _ _ _ _ => vp_in_nI (by omega) (by decide)) (fun _ _ _ _ _ => ⟨(hRK ⟨z.2.2.2.1, zc⟩).1, hin⟩) (fun w => ?_) (fun w => ?_) (fun w => ?_) (fun w => ?_) (fun w => ?_)
        · rcases w with w | w
          · exact absurd w nj
          · exact fin _ (Or.inr ⟨j, hj, ej, by rw [if_neg w.1, if_pos w.2]⟩)
        · exact fin _ (Or.inr ⟨j, hj, ej, by rw [if_pos w.2]⟩)
        · exact fin _ (Or.inr ⟨j, hj, ej, by rw [if_neg w.2.1, if_neg (fun y => y w.2.2.1), if_pos w.2.2.2]⟩)
        · exact fin _ (Or.inr ⟨j, hj, ej, by rw [if_neg w.2.1, if_neg (fun y => y w.2.2.1), if_neg w.2.2.2.1, if_pos w.2.2.2.2]⟩)
        · exact fin _ (Or.inr ⟨j, hj, ej, by rw [if_neg w.2.1, if_neg (fun y => y w.2.2.1), if_neg w.2.2.2.1, if_neg w.2.2.2.2]⟩)
    
  · exact h.elim
theorem de_X12_told : ∀ q ∈ k_X12_told.1, decode cX12_told q.1 = .ok q.2 := by decide +kernel
theorem me_X12_told (g : gl_T) : MT g yX12_told cX12_told 5 (some .long) ⟨5, 0, 0, 123⟩ 0 0 s_X12_told := by
  intro hl
  exact eg_met_of (k := k_X12_told) (by decide) rfl ⟨Nat.le_refl _, Nat.le_refl _⟩ rfl sz_X12_told de_X12_told (fun meth hn => (fc (eg_FL_of wd_c12 (by decide) lf_RX12_59 (fun h => absurd h (by decide))) (fc (eg_FL_of wd_c12 (by decide) lf_RX12_130 (fun h => absurd h (by decide))) (fc (eg_FL_of wd_c12 (by decide) lf_RX12_133 (fun h => absurd h (by decide))) (fc (eg_FL_of wd_c12 (by decide) lf_RX12_213 (fun _ => Or.inl rfl)) (fc (eg_FL_of wd_c12 (by decide) lf_RX12_234 (fun h => absurd h (by decide))) (fn))))))) (fun A s H hE => (fn)) (fun p e s m args below meth c Q A ad0 N0 S0 hK hEx hA => (fc (mt_V hl S0 hK hEx hA (me_X12_fail g) lm_RX12_230 li_X12_fail lx_X12_fail ln_RX12 lc_X12_fail ⟨rfl, by decide, by decide, by decide +kernel⟩ ⟨rfl, rfl⟩ ⟨by decide, by decide⟩ (ci := 12) rfl rfl eg_auto_rec (by decide)) (fc (mt_V hl S0 hK hEx hA (me_X12_isEvent g) lm_RX12_248 li_X12_isEvent lx_X12_isEvent ln_RX12 lc_X12_isEvent ⟨rfl, by decide, by decide, by decide +kernel⟩ ⟨rfl, rfl⟩ ⟨by decide, by decide⟩ (ci := 12) rfl rfl sr_X12_isEvent (by decide)) (fc (mt_V hl S0 hK hEx hA (me_X12_isKnown g) lm_RX12_384 li_X12_isKnown lx_X12_isKnown ln_RX12 lc_X12_isKnown ⟨rfl, by decide, by decide, by decide +kernel⟩ ⟨rfl, rfl⟩ ⟨by decide, by decide⟩ (ci := 12) rfl rfl sr_X12_isKnown (by decide)) (fc (mt_V hl S0 hK hEx hA (me_X12_tellGrants g) lm_RX12_446 li_X12_tellGrants lx_X12_tellGrants ln_RX12 lc_X12_tellGrants ⟨rfl, by decide, by decide, by decide +kernel⟩ ⟨rfl, rfl⟩ ⟨by decide, by decide⟩ (ci := 12) rfl rfl sr_X12_tellGrants (by decide)) (fc (mt_V hl S0 hK hEx hA (me_X12_placeOf g) lm_RX12_449 li_X12_placeOf lx_X12_placeOf ln_RX12 lc_X12_placeOf ⟨rfl, by decide, by decide, by decide +kernel⟩ ⟨rfl, rfl⟩ ⟨by decide, by decide⟩ (ci := 12) rfl rfl sr_X12_placeOf (by decide)) (fc (mt_V hl S0 hK hEx hA (me_X12_costOf g) lm_RX12_452 li_X12_costOf lx_X12_costOf ln_RX12 lc_X12_costOf ⟨rfl, by decide, by decide, by decide +kernel⟩ ⟨rfl, rfl⟩ ⟨by decide, by decide⟩ (ci := 12) rfl rfl sr_X12_costOf (by decide)) (fn)))))))) (fun p e s m args below meth c Qc XC A ad0 N0 P S0 hK hEx hA hlk hout hPX => (fn)) (fun argv M Qp h => T_X12_told h)

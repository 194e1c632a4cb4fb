/-! the class's rules: steps on a stack -/
def k_ok (m e : Nat) : List Int32 → Nat → Prop
  | [], h => h = e
  | s :: P, h =>
    if 0 ≤ s.toInt then h < m ∧ k_ok m e P (h + 1)
    else if s.toInt ≤ -11 then -21 ≤ s.toInt ∧ h < m ∧ k_ok m e P (h + 1)
    else if s.toInt = -3 then 1 ≤ h ∧ k_ok m e P h
    else 2 ≤ h ∧ k_ok m e P (h - 1)
/-- a place where a text's rows lie -/
def k_tp (a : Nat) : Prop := (31 ≤ a ∧ a ≤ 33) ∨ 178 ≤ a
/-- the steps of the i-th formula of the text at q -/
def k_seg (M : eg_M) (q i : Nat) (S : List Int32) : Prop := ∃ a4 a5 u, eg_ref (eg_sh wd M q) M q 4 = some a4 ∧ eg_ref (eg_sh wd M q) M q 5 = some a5 ∧ eg_is wd M a4 1 = true ∧ eg_is wd M a5 1 = true ∧ k_tp a4 ∧ k_tp a5 ∧ i < eg_len wd M a4 ∧ eg_len wd M a4 ≤ 12 ∧ ((i = 0 ∧ u = 0) ∨ (0 < i ∧ eg_gi M a4 (i - 1) = nI u)) ∧ eg_gi M a4 i = nI (u + S.length) ∧ u + S.length ≤ eg_len wd M a5 ∧ eg_len wd M a5 ≤ 400 ∧ ∀ j (h : j < S.length), eg_gi M a5 (u + j) = S[j]
theorem k_seg_inj {M : eg_M} {q i : Nat} {S T : List Int32} (h1 : k_seg M q i S) (h2 : k_seg M q i T) : S = T := by
  obtain ⟨a4, a5, u, r4, r5, _, _, _, _, _, _, hu, hv, hl, hl4, hS⟩ := h1
  obtain ⟨b4, b5, w, t4, t5, _, _, _, _, _, _, hw, hx, hl', hl4', hT⟩ := h2
  have e4 : a4 = b4 := Option.some.inj (r4.symm.trans t4)
  have e5 : a5 = b5 := Option.some.inj (r5.symm.trans t5)
  subst e4 e5
  have eu : u = w := by
    rcases hu with hu | hu
    · rcases hw with hw | hw
      · omega
      · omega
    · rcases hw with hw | hw
      · omega
      · exact (n_eq (by omega) (by omega)).mp (hu.2.symm.trans hw.2)
  subst eu
  have el : S.length = T.length := by
    have := (n_eq (by omega) (by omega)).mp (hv.symm.trans hx)
    omega
  exact List.ext_getElem el (fun j h h' => (hS j h).symm.trans (hT j h'))
theorem i_m3 {s : Int32} : s = -nI 3 ↔ s.toInt = -3 := by
  rw [← Int32.toInt_inj]
  have : (-nI 3 : Int32).toInt = -3 := by decide
  rw [this]
theorem i_0le {s : Int32} : 0 ≤ s ↔ 0 ≤ s.toInt := by
  rw [Int32.le_iff_toInt_le]
  have : (0 : Int32).toInt = 0 := by decide
  rw [this]
theorem i_le11 {s : Int32} : s ≤ -nI 11 ↔ s.toInt ≤ -11 := by
  rw [Int32.le_iff_toInt_le]
  have : (-nI 11 : Int32).toInt = -11 := by decide
  rw [this]
theorem i_lt0 {s : Int32} : s < 0 ↔ s.toInt < 0 := by
  rw [Int32.lt_iff_toInt_lt]
  have : (0 : Int32).toInt = 0 := by decide
  rw [this]
theorem i_val {s : Int32} (h1 : s.toInt ≤ -11) (h2 : -21 ≤ s.toInt) : -nI 11 - s = nI (-11 - s.toInt).toNat := by
  rcases (show s.toInt = -11 ∨ s.toInt = -12 ∨ s.toInt = -13 ∨ s.toInt = -14 ∨ s.toInt = -15 ∨ s.toInt = -16 ∨ s.toInt = -17 ∨ s.toInt = -18 ∨ s.toInt = -19 ∨ s.toInt = -20 ∨ s.toInt = -21 by omega) with h | h | h | h | h | h | h | h | h | h | h
  all_goals
    have e : s = Int32.ofInt s.toInt := (Int32.ofInt_toInt s).symm
    rw [h] at e ⊢
    rw [e]
    decide
def k_X8_worth : eg_C := ([(0, .iconst 0, 1), (1, .istore 4, 2), (3, .iload_n 1, 1), (4, .ifCond .ne 7, 3), (7, .iconst 0, 1), (8, .goto 11, 3), (11, .aload_n 0, 1), (12, .getfield 23, 3), (15, .iload_n 1, 1), (16, .iconst 1, 1), (17, .isub, 1), (18, .iaload, 1), (19, .istore 5, 2), (21, .iload 5, 2), (23, .istore 6, 2), (25, .iload 6, 2), (27, .aload_n 0, 1), (28, .getfield 23, 3), (31, .iload_n 1, 1), (32, .iaload, 1), (33, .if_icmp .ge 133, 3), (36, .aload_n 0, 1), (37, .getfield 26, 3), (40, .iload 6, 2), (42, .iaload, 1), (43, .istore 7, 2), (45, .iload 7, 2), (47, .bipush (-3), 2), (49, .if_icmp .ne 34, 3), (52, .iload 4, 2), (54, .iconst 1, 1), (55, .if_icmp .lt 105, 3), (58, .aload_n 3, 1), (59, .iload 4, 2), (61, .iconst 1, 1), (62, .isub, 1), (63, .aload_n 3, 1), (64, .iload 4, 2), (66, .iconst 1, 1), (67, .isub, 1), (68, .laload, 1), (69, .lconst 0, 1), (70, .lcmp, 1), (71, .ifCond .ne 7, 3), (74, .lconst 1, 1), (75, .goto 4, 3), (78, .lconst 0, 1), (79, .lastore, 1), (80, .goto 80, 3), (83, .iload 7, 2), (85, .ifCond .ge 43, 3), (88, .iload 7, 2), (90, .bipush (-11), 2), (92, .if_icmp .le 36, 3), (95, .iload 4, 2), (97, .iconst 2, 1), (98, .if_icmp .lt 62, 3), (101, .iinc 4 (-1), 3), (104, .aload_n 3, 1), (105, .iload 4, 2), (107, .iconst 1, 1), (108, .isub, 1), (109, .iload 7, 2), (111, .aload_n 3, 1), (112, .iload 4, 2), (114, .iconst 1, 1), (115, .isub, 1), (116, .laload, 1), (117, .aload_n 3, 1), (118, .iload 4, 2), (120, .laload, 1), (121, .invokestatic 46, 3), (124, .lastore, 1), (125, .goto 35, 3), (128, .iload 4, 2), (130, .aload_n 3, 1), (131, .arraylength, 1), (132, .if_icmp .ge 28, 3), (135, .aload_n 3, 1), (136, .iload 4, 2), (138, .iinc 4 1, 3), (141, .iload 7, 2), (143, .ifCond .lt 9, 3), (146, .iload 7, 2), (148, .i2l, 1), (149, .goto 10, 3), (152, .aload_n 2, 1), (153, .bipush (-11), 2), (155, .iload 7, 2), (157, .isub, 1), (158, .laload, 1), (159, .lastore, 1), (160, .iinc 6 1, 3), (163, .goto (-138), 3), (166, .aload_n 3, 1), (167, .iconst 0, 1), (168, .laload, 1), (169, .lreturn, 1)], [(23, 8, 4, false), (26, 8, 5, false)], [], [(46 + 100000, 3, 0, 0, s_X8_joined)], [], 3, 0, 0)
theorem mk_X8_worth : ∀ q ∈ k_X8_worth.2.2.2.1, eg_mono q.2.2.2.2 := (fc (mo_X8_joined) (fn))
set_option maxRecDepth 100000 in
theorem st_X8_worth_0 {Qp : eg_P} {M : eg_M} (q : Nat) (f : Int32) (v : Nat) (s : Nat)
  (g0 : (¬ (f = 0)) → (eg_isO wd M q 8 = true))
  (l0 : (f = 0) → eg_T wd k_X8_worth Qp 25 0 0 [some (.ref q), some (.int f), some (.ref v), some (.ref s), some (.int (nI 0)), some (.int (nI 0)), some (.int (nI 0)), none] [] M)
  (l1 : (¬ f = 0) → eg_T wd k_X8_worth Qp 15 0 0 [some (.ref q), some (.int f), some (.ref v), some (.ref s), some (.int (nI 0)), none, none, none] [eg_rv (eg_ref (eg_sh wd M q) M q 4)] M) :
  eg_T wd k_X8_worth Qp 0 0 0 [some (.ref q), some (.int f), some (.ref v), some (.ref s), none, none, none, none] [] M := by
  refine eg_T_run mk_X8_worth (cut := [15, 25, 31, 40]) 101 ?_
  refine And.intro (fun (c1 : f = 0) => ?_) (fun (c1 : ¬ f = 0) => ?_)
  · skip
    show eg_T wd k_X8_worth Qp 25 0 0 [some (.ref q), some (.int f), some (.ref v), some (.ref s), some (.int (nI 0)), some (.int (nI 0)), some (.int (nI 0)), none] [] M
    exact l0 c1
  · skip
    refine eg_need_of (show eg_isO wd M q 8 = true from ?_) ?_
    · exact g0 c1
    show eg_T wd k_X8_worth Qp 15 0 0 [some (.ref q), some (.int f), some (.ref v), some (.ref s), some (.int (nI 0)), none, none, none] [eg_rv (eg_ref (eg_sh wd M q) M q 4)] M
    exact l1 c1

set_option maxRecDepth 100000 in
theorem st_X8_worth_15 {Qp : eg_P} {M : eg_M} (q : Nat) (f : Int32) (v : Nat) (s : Nat) (x4 : Int32) (o5 : Option Value) (o6 : Option Value) (o7 : Option Value) (s0 : Nat)
  (g0 : (eg_is wd M s0 1 = true))
  (g1 : (vp_in (f - (nI 1)) (eg_len wd M s0)))
  (l0 : eg_T wd k_X8_worth Qp 25 0 0 [some (.ref q), some (.int f), some (.ref v), some (.ref s), some (.int x4), some (.int (eg_gi M s0 (f - (nI 1)).toNatClampNeg)), some (.int (eg_gi M s0 (f - (nI 1)).toNatClampNeg)), o7] [] M) :
  eg_T wd k_X8_worth Qp 15 0 0 [some (.ref q), some (.int f), some (.ref v), some (.ref s), some (.int x4), o5, o6, o7] [.ref s0] M := by
  refine eg_T_run mk_X8_worth (cut := [15, 25, 31, 40]) 101 ?_
  refine eg_need_of (show eg_is wd M s0 1 = true from ?_) ?_
  · exact g0
  refine And.intro (show vp_in (f - (nI 1)) (eg_len wd M s0) from ?_) ?_
  · exact g1
  show eg_T wd k_X8_worth Qp 25 0 0 [some (.ref q), some (.int f), some (.ref v), some (.ref s), some (.int x4), some (.int (eg_gi M s0 (f - (nI 1)).toNatClampNeg)), some (.int (eg_gi M s0 (f - (nI 1)).toNatClampNeg)), o7] [] M
  exact l0

set_option maxRecDepth 100000 in
theorem st_X8_worth_25 {Qp : eg_P} {M : eg_M} (q : Nat) (f : Int32) (v : Nat) (s : Nat) (x4 : Int32) (x5 : Int32) (x6 : Int32) (o7 : Option Value)
  (g0 : (eg_isO wd M q 8 = true))
  (l0 : eg_T wd k_X8_worth Qp 31 0 0 [some (.ref q), some (.int f), some (.ref v), some (.ref s), some (.int x4), some (.int x5), some (.int x6), o7] [eg_rv (eg_ref (eg_sh wd M q) M q 4), .int x6] M) :
  eg_T wd k_X8_worth Qp 25 0 0 [some (.ref q), some (.int f), some (.ref v), some (.ref s), some (.int x4), some (.int x5), some (.int x6), o7] [] M := by
  refine eg_T_run mk_X8_worth (cut := [15, 25, 31, 40]) 101 ?_
  refine eg_need_of (show eg_isO wd M q 8 = true from ?_) ?_
  · exact g0
  show eg_T wd k_X8_worth Qp 31 0 0 [some (.ref q), some (.int f), some (.ref v), some (.ref s), some (.int x4), some (.int x5), some (.int x6), o7] [eg_rv (eg_ref (eg_sh wd M q) M q 4), .int x6] M
  exact l0

set_option maxRecDepth 100000 in
theorem st_X8_worth_31 {Qp : eg_P} {M : eg_M} (q : Nat) (f : Int32) (v : Nat) (s : Nat) (x4 : Int32) (x5 : Int32) (x6 : Int32) (o7 : Option Value) (s0 : Nat) (s1 : Int32)
  (g0 : (eg_is wd M s0 1 = true))
  (g1 : (vp_in f (eg_len wd M s0)))
  (g2 : ((eg_gi M s0 f.toNatClampNeg) ≤ s1) → (eg_is wd M s 2 = true))
  (g3 : ((eg_gi M s0 f.toNatClampNeg) ≤ s1) → (vp_in (nI 0) (eg_len wd M s)))
  (g4 : (¬ ((eg_gi M s0 f.toNatClampNeg) ≤ s1)) → (eg_isO wd M q 8 = true))
  (l0 : ((eg_gi M s0 f.toNatClampNeg) ≤ s1) → Qp (.inl (some (.long (eg_gl M s 0)))) M)
  (l1 : (¬ (eg_gi M s0 f.toNatClampNeg) ≤ s1) → eg_T wd k_X8_worth Qp 40 0 0 [some (.ref q), some (.int f), some (.ref v), some (.ref s), some (.int x4), some (.int x5), some (.int x6), o7] [eg_rv (eg_ref (eg_sh wd M q) M q 5)] M) :
  eg_T wd k_X8_worth Qp 31 0 0 [some (.ref q), some (.int f), some (.ref v), some (.ref s), some (.int x4), some (.int x5), some (.int x6), o7] [.ref s0, .int s1] M := by
  refine eg_T_run mk_X8_worth (cut := [15, 25, 31, 40]) 101 ?_
  refine eg_need_of (show eg_is wd M s0 1 = true from ?_) ?_
  · exact g0
  refine And.intro (show vp_in f (eg_len wd M s0) from ?_) ?_
  · exact g1
  refine And.intro (fun (c1 : (eg_gi M s0 f.toNatClampNeg) ≤ s1) => ?_) (fun (c1 : ¬ (eg_gi M s0 f.toNatClampNeg) ≤ s1) => ?_)
  · skip
    refine eg_need_of (show eg_is wd M s 2 = true from ?_) ?_
    · exact g2 c1
    refine And.intro (show vp_in (nI 0) (eg_len wd M s) from ?_) ?_
    · exact g3 c1
    show Qp (.inl (some (.long (eg_gl M s 0)))) M
    exact l0 c1
  · skip
    refine eg_need_of (show eg_isO wd M q 8 = true from ?_) ?_
    · exact g4 c1
    show eg_T wd k_X8_worth Qp 40 0 0 [some (.ref q), some (.int f), some (.ref v), some (.ref s), some (.int x4), some (.int x5), some (.int x6), o7] [eg_rv (eg_ref (eg_sh wd M q) M q 5)] M
    exact l1 c1

set_option maxRecDepth 100000 in
theorem st_X8_worth_40 {Qp : eg_P} {M : eg_M} (q : Nat) (f : Int32) (v : Nat) (s : Nat) (x4 : Int32) (x5 : Int32) (x6 : Int32) (o7 : Option Value) (s0 : Nat)
  (g0 : (eg_is wd M s0 1 = true))
  (g1 : (vp_in x6 (eg_len wd M s0)))
  (g2 : ((((eg_gi M s0 x6.toNatClampNeg) = (-nI 3)) ∧ ¬ (x4 < (nI 1))) ∨ (¬ ((eg_gi M s0 x6.toNatClampNeg) = (-nI 3)) ∧ (((0 ≤ (eg_gi M s0 x6.toNatClampNeg)) ∧ ¬ ((nI (eg_len wd M s)) ≤ x4)) ∨ (¬ (0 ≤ (eg_gi M s0 x6.toNatClampNeg)) ∧ ((((eg_gi M s0 x6.toNatClampNeg) ≤ (-nI 11)) ∧ ¬ ((nI (eg_len wd M s)) ≤ x4)) ∨ (¬ ((eg_gi M s0 x6.toNatClampNeg) ≤ (-nI 11)) ∧ ¬ (x4 < (nI 2)))))))) → (eg_is wd M s 2 = true))
  (g3 : ((eg_gi M s0 x6.toNatClampNeg) = (-nI 3)) → (¬ (x4 < (nI 1))) → (vp_in (x4 - (nI 1)) (eg_len wd M s)))
  (g4 : (¬ ((eg_gi M s0 x6.toNatClampNeg) = (-nI 3))) → ((0 ≤ (eg_gi M s0 x6.toNatClampNeg)) ∨ (¬ (0 ≤ (eg_gi M s0 x6.toNatClampNeg)) ∧ ((eg_gi M s0 x6.toNatClampNeg) ≤ (-nI 11)))) → ((Nat.ble 1 (eg_sh wd M s).1 && Nat.ble (eg_sh wd M s).1 7) = true))
  (g5 : (¬ ((eg_gi M s0 x6.toNatClampNeg) = (-nI 3))) → (((0 ≤ (eg_gi M s0 x6.toNatClampNeg)) ∧ (¬ ((nI (eg_len wd M s)) ≤ x4) ∧ ((eg_gi M s0 x6.toNatClampNeg) < 0))) ∨ (¬ (0 ≤ (eg_gi M s0 x6.toNatClampNeg)) ∧ (((eg_gi M s0 x6.toNatClampNeg) ≤ (-nI 11)) ∧ (¬ ((nI (eg_len wd M s)) ≤ x4) ∧ ((eg_gi M s0 x6.toNatClampNeg) < 0))))) → (eg_is wd M v 2 = true))
  (g6 : (¬ ((eg_gi M s0 x6.toNatClampNeg) = (-nI 3))) → (((0 ≤ (eg_gi M s0 x6.toNatClampNeg)) ∧ (¬ ((nI (eg_len wd M s)) ≤ x4) ∧ ((eg_gi M s0 x6.toNatClampNeg) < 0))) ∨ (¬ (0 ≤ (eg_gi M s0 x6.toNatClampNeg)) ∧ (((eg_gi M s0 x6.toNatClampNeg) ≤ (-nI 11)) ∧ (¬ ((nI (eg_len wd M s)) ≤ x4) ∧ ((eg_gi M s0 x6.toNatClampNeg) < 0))))) → (vp_in ((-nI 11) - (eg_gi M s0 x6.toNatClampNeg)) (eg_len wd M v)))
  (g7 : (¬ ((eg_gi M s0 x6.toNatClampNeg) = (-nI 3))) → (((0 ≤ (eg_gi M s0 x6.toNatClampNeg)) ∧ ¬ ((nI (eg_len wd M s)) ≤ x4)) ∨ (¬ (0 ≤ (eg_gi M s0 x6.toNatClampNeg)) ∧ (((eg_gi M s0 x6.toNatClampNeg) ≤ (-nI 11)) ∧ ¬ ((nI (eg_len wd M s)) ≤ x4)))) → (vp_in x4 (eg_len wd M s)))
  (g8 : (¬ ((eg_gi M s0 x6.toNatClampNeg) = (-nI 3))) → (¬ (0 ≤ (eg_gi M s0 x6.toNatClampNeg))) → (¬ ((eg_gi M s0 x6.toNatClampNeg) ≤ (-nI 11))) → (¬ (x4 < (nI 2))) → (vp_in ((x4 + (-nI 1)) - (nI 1)) (eg_len wd M s)))
  (g9 : (¬ ((eg_gi M s0 x6.toNatClampNeg) = (-nI 3))) → (¬ (0 ≤ (eg_gi M s0 x6.toNatClampNeg))) → (¬ ((eg_gi M s0 x6.toNatClampNeg) ≤ (-nI 11))) → (¬ (x4 < (nI 2))) → (vp_in (x4 + (-nI 1)) (eg_len wd M s)))
  (l0 : (((eg_gi M s0 x6.toNatClampNeg) = (-nI 3) ∧ x4 < (nI 1)) ∨ (¬ (eg_gi M s0 x6.toNatClampNeg) = (-nI 3) ∧ ((0 ≤ (eg_gi M s0 x6.toNatClampNeg) ∧ (nI (eg_len wd M s)) ≤ x4) ∨ (¬ 0 ≤ (eg_gi M s0 x6.toNatClampNeg) ∧ (((eg_gi M s0 x6.toNatClampNeg) ≤ (-nI 11) ∧ (nI (eg_len wd M s)) ≤ x4) ∨ (¬ (eg_gi M s0 x6.toNatClampNeg) ≤ (-nI 11) ∧ x4 < (nI 2))))))) → eg_T wd k_X8_worth Qp 25 0 0 [some (.ref q), some (.int f), some (.ref v), some (.ref s), some (.int x4), some (.int x5), some (.int (x6 + (nI 1))), some (.int (eg_gi M s0 x6.toNatClampNeg))] [] M)
  (l1 : ((eg_gi M s0 x6.toNatClampNeg) = (-nI 3) ∧ (¬ x4 < (nI 1) ∧ (eg_gl M s (x4 - (nI 1)).toNatClampNeg) = (lN 0))) → eg_T wd k_X8_worth Qp 25 0 0 [some (.ref q), some (.int f), some (.ref v), some (.ref s), some (.int x4), some (.int x5), some (.int (x6 + (nI 1))), some (.int (eg_gi M s0 x6.toNatClampNeg))] [] (eg_sl M s (x4 - (nI 1)).toNatClampNeg (lN 1)))
  (l2 : ((eg_gi M s0 x6.toNatClampNeg) = (-nI 3) ∧ (¬ x4 < (nI 1) ∧ ¬ (eg_gl M s (x4 - (nI 1)).toNatClampNeg) = (lN 0))) → eg_T wd k_X8_worth Qp 25 0 0 [some (.ref q), some (.int f), some (.ref v), some (.ref s), some (.int x4), some (.int x5), some (.int (x6 + (nI 1))), some (.int (eg_gi M s0 x6.toNatClampNeg))] [] (eg_sl M s (x4 - (nI 1)).toNatClampNeg (lN 0)))
  (l3 : (¬ (eg_gi M s0 x6.toNatClampNeg) = (-nI 3) ∧ ((0 ≤ (eg_gi M s0 x6.toNatClampNeg) ∧ (¬ (nI (eg_len wd M s)) ≤ x4 ∧ (eg_gi M s0 x6.toNatClampNeg) < 0)) ∨ (¬ 0 ≤ (eg_gi M s0 x6.toNatClampNeg) ∧ ((eg_gi M s0 x6.toNatClampNeg) ≤ (-nI 11) ∧ (¬ (nI (eg_len wd M s)) ≤ x4 ∧ (eg_gi M s0 x6.toNatClampNeg) < 0))))) → eg_T wd k_X8_worth Qp 25 0 0 [some (.ref q), some (.int f), some (.ref v), some (.ref s), some (.int (x4 + (nI 1))), some (.int x5), some (.int (x6 + (nI 1))), some (.int (eg_gi M s0 x6.toNatClampNeg))] [] (eg_sl M s x4.toNatClampNeg (eg_gl M v ((-nI 11) - (eg_gi M s0 x6.toNatClampNeg)).toNatClampNeg)))
  (l4 : (¬ (eg_gi M s0 x6.toNatClampNeg) = (-nI 3) ∧ ((0 ≤ (eg_gi M s0 x6.toNatClampNeg) ∧ (¬ (nI (eg_len wd M s)) ≤ x4 ∧ ¬ (eg_gi M s0 x6.toNatClampNeg) < 0)) ∨ (¬ 0 ≤ (eg_gi M s0 x6.toNatClampNeg) ∧ ((eg_gi M s0 x6.toNatClampNeg) ≤ (-nI 11) ∧ (¬ (nI (eg_len wd M s)) ≤ x4 ∧ ¬ (eg_gi M s0 x6.toNatClampNeg) < 0))))) → eg_T wd k_X8_worth Qp 25 0 0 [some (.ref q), some (.int f), some (.ref v), some (.ref s), some (.int (x4 + (nI 1))), some (.int x5), some (.int (x6 + (nI 1))), some (.int (eg_gi M s0 x6.toNatClampNeg))] [] (eg_sl M s x4.toNatClampNeg ((eg_gi M s0 x6.toNatClampNeg).toInt64)))
  (l5 : (¬ (eg_gi M s0 x6.toNatClampNeg) = (-nI 3) ∧ (¬ 0 ≤ (eg_gi M s0 x6.toNatClampNeg) ∧ (¬ (eg_gi M s0 x6.toNatClampNeg) ≤ (-nI 11) ∧ ¬ x4 < (nI 2)))) → eg_T wd k_X8_worth Qp 25 0 0 [some (.ref q), some (.int f), some (.ref v), some (.ref s), some (.int (x4 + (-nI 1))), some (.int x5), some (.int (x6 + (nI 1))), some (.int (eg_gi M s0 x6.toNatClampNeg))] [] (eg_sl M s ((x4 + (-nI 1)) - (nI 1)).toNatClampNeg (p_op (eg_gi M s0 x6.toNatClampNeg) (eg_gl M s ((x4 + (-nI 1)) - (nI 1)).toNatClampNeg) (eg_gl M s (x4 + (-nI 1)).toNatClampNeg)))) :
  eg_T wd k_X8_worth Qp 40 0 0 [some (.ref q), some (.int f), some (.ref v), some (.ref s), some (.int x4), some (.int x5), some (.int x6), o7] [.ref s0] M := by
  refine eg_T_run mk_X8_worth (cut := [15, 25, 31, 40]) 101 ?_
  refine eg_need_of (show eg_is wd M s0 1 = true from ?_) ?_
  · exact g0
  refine And.intro (show vp_in x6 (eg_len wd M s0) from ?_) ?_
  · exact g1
  refine And.intro (fun (c1 : (eg_gi M s0 x6.toNatClampNeg) = (-nI 3)) => ?_) (fun (c1 : ¬ (eg_gi M s0 x6.toNatClampNeg) = (-nI 3)) => ?_)
  · skip
    refine And.intro (fun (c2 : x4 < (nI 1)) => ?_) (fun (c2 : ¬ x4 < (nI 1)) => ?_)
    · skip
      show eg_T wd k_X8_worth Qp 25 0 0 [some (.ref q), some (.int f), some (.ref v), some (.ref s), some (.int x4), some (.int x5), some (.int (x6 + (nI 1))), some (.int (eg_gi M s0 x6.toNatClampNeg))] [] M
      exact l0 (Or.inl ⟨c1, c2⟩)
    · skip
      refine eg_need_of (show eg_is wd M s 2 = true from ?_) ?_
      · exact g2 (by clear g0 g1 g2 g3 g4 g5 g6 g7 g8 g9 l0 l1 l2 l3 l4 l5; grind)
      refine And.intro (show vp_in (x4 - (nI 1)) (eg_len wd M s) from ?_) ?_
      · exact g3 c1 c2
      refine And.intro (fun (c3 : (lg_cmp (eg_gl M s (x4 - (nI 1)).toNatClampNeg) (lN 0)) = 0) => ?_) (fun (c3 : ¬ (lg_cmp (eg_gl M s (x4 - (nI 1)).toNatClampNeg) (lN 0)) = 0) => ?_)
      · replace c3 := lgc_eq.mp c3
        refine eg_need_of (show eg_is wd M s 2 = true from ?_) ?_
        · exact g2 (by clear g0 g1 g2 g3 g4 g5 g6 g7 g8 g9 l0 l1 l2 l3 l4 l5; grind)
        refine And.intro (show vp_in (x4 - (nI 1)) (eg_len wd M s) from ?_) ?_
        · exact g3 c1 c2
        show eg_T wd k_X8_worth Qp 25 0 0 [some (.ref q), some (.int f), some (.ref v), some (.ref s), some (.int x4), some (.int x5), some (.int (x6 + (nI 1))), some (.int (eg_gi M s0 x6.toNatClampNeg))] [] (eg_sl M s (x4 - (nI 1)).toNatClampNeg (lN 1))
        exact l1 ⟨c1, ⟨c2, c3⟩⟩
      · replace c3 := mt lgc_eq.mpr c3
        refine eg_need_of (show eg_is wd M s 2 = true from ?_) ?_
        · exact g2 (by clear g0 g1 g2 g3 g4 g5 g6 g7 g8 g9 l0 l1 l2 l3 l4 l5; grind)
        refine And.intro (show vp_in (x4 - (nI 1)) (eg_len wd M s) from ?_) ?_
        · exact g3 c1 c2
        show eg_T wd k_X8_worth Qp 25 0 0 [some (.ref q), some (.int f), some (.ref v), some (.ref s), some (.int x4), some (.int x5), some (.int (x6 + (nI 1))), some (.int (eg_gi M s0 x6.toNatClampNeg))] [] (eg_sl M s (x4 - (nI 1)).toNatClampNeg (lN 0))
        exact l2 ⟨c1, ⟨c2, c3⟩⟩
  · skip
    refine And.intro (fun (c4 : 0 ≤ (eg_gi M s0 x6.toNatClampNeg)) => ?_) (fun (c4 : ¬ 0 ≤ (eg_gi M s0 x6.toNatClampNeg)) => ?_)
    · skip
      refine eg_need_of (show (Nat.ble 1 (eg_sh wd M s).1 && Nat.ble (eg_sh wd M s).1 7) = true from ?_) ?_
      · exact g4 c1 (by clear g0 g1 g2 g3 g4 g5 g6 g7 g8 g9 l0 l1 l2 l3 l4 l5; grind)
      refine And.intro (fun (c5 : (nI (eg_len wd M s)) ≤ x4) => ?_) (fun (c5 : ¬ (nI (eg_len wd M s)) ≤ x4) => ?_)
      · skip
        show eg_T wd k_X8_worth Qp 25 0 0 [some (.ref q), some (.int f), some (.ref v), some (.ref s), some (.int x4), some (.int x5), some (.int (x6 + (nI 1))), some (.int (eg_gi M s0 x6.toNatClampNeg))] [] M
        exact l0 (Or.inr ⟨c1, (Or.inl ⟨c4, c5⟩)⟩)
      · skip
        refine And.intro (fun (c6 : (eg_gi M s0 x6.toNatClampNeg) < 0) => ?_) (fun (c6 : ¬ (eg_gi M s0 x6.toNatClampNeg) < 0) => ?_)
        · skip
          refine eg_need_of (show eg_is wd M v 2 = true from ?_) ?_
          · exact g5 c1 (by clear g0 g1 g2 g3 g4 g5 g6 g7 g8 g9 l0 l1 l2 l3 l4 l5; grind)
          refine And.intro (show vp_in ((-nI 11) - (eg_gi M s0 x6.toNatClampNeg)) (eg_len wd M v) from ?_) ?_
          · exact g6 c1 (by clear g0 g1 g2 g3 g4 g5 g6 g7 g8 g9 l0 l1 l2 l3 l4 l5; grind)
          refine eg_need_of (show eg_is wd M s 2 = true from ?_) ?_
          · exact g2 (by clear g0 g1 g2 g3 g4 g5 g6 g7 g8 g9 l0 l1 l2 l3 l4 l5; grind)
          refine And.intro (show vp_in x4 (eg_len wd M s) from ?_) ?_
          · exact g7 c1 (by clear g0 g1 g2 g3 g4 g5 g6 g7 g8 g9 l0 l1 l2 l3 l4 l5; grind)
          show eg_T wd k_X8_worth Qp 25 0 0 [some (.ref q), some (.int f), some (.ref v), some (.ref s), some (.int (x4 + (nI 1))), some (.int x5), some (.int (x6 + (nI 1))), some (.int (eg_gi M s0 x6.toNatClampNeg))] [] (eg_sl M s x4.toNatClampNeg (eg_gl M v ((-nI 11) - (eg_gi M s0 x6.toNatClampNeg)).toNatClampNeg))
          exact l3 ⟨c1, (Or.inl ⟨c4, ⟨c5, c6⟩⟩)⟩
        · skip
          refine eg_need_of (show eg_is wd M s 2 = true from ?_) ?_
          · exact g2 (by clear g0 g1 g2 g3 g4 g5 g6 g7 g8 g9 l0 l1 l2 l3 l4 l5; grind)
          refine And.intro (show vp_in x4 (eg_len wd M s) from ?_) ?_
          · exact g7 c1 (by clear g0 g1 g2 g3 g4 g5 g6 g7 g8 g9 l0 l1 l2 l3 l4 l5; grind)
          show eg_T wd k_X8_worth Qp 25 0 0 [some (.ref q), some (.int f), some (.ref v), some (.ref s), some (.int (x4 + (nI 1))), some (.int x5), some (.int (x6 + (nI 1))), some (.int (eg_gi M s0 x6.toNatClampNeg))] [] (eg_sl M s x4.toNatClampNeg ((eg_gi M s0 x6.toNatClampNeg).toInt64))
          exact l4 ⟨c1, (Or.inl ⟨c4, ⟨c5, c6⟩⟩)⟩
    · skip
      refine And.intro (fun (c7 : (eg_gi M s0 x6.toNatClampNeg) ≤ (-nI 11)) => ?_) (fun (c7 : ¬ (eg_gi M s0 x6.toNatClampNeg) ≤ (-nI 11)) => ?_)
      · skip
        refine eg_need_of (show (Nat.ble 1 (eg_sh wd M s).1 && Nat.ble (eg_sh wd M s).1 7) = true from ?_) ?_
        · exact g4 c1 (by clear g0 g1 g2 g3 g4 g5 g6 g7 g8 g9 l0 l1 l2 l3 l4 l5; grind)
        refine And.intro (fun (c8 : (nI (eg_len wd M s)) ≤ x4) => ?_) (fun (c8 : ¬ (nI (eg_len wd M s)) ≤ x4) => ?_)
        · skip
          show eg_T wd k_X8_worth Qp 25 0 0 [some (.ref q), some (.int f), some (.ref v), some (.ref s), some (.int x4), some (.int x5), some (.int (x6 + (nI 1))), some (.int (eg_gi M s0 x6.toNatClampNeg))] [] M
          exact l0 (Or.inr ⟨c1, (Or.inr ⟨c4, (Or.inl ⟨c7, c8⟩)⟩)⟩)
        · skip
          refine And.intro (fun (c9 : (eg_gi M s0 x6.toNatClampNeg) < 0) => ?_) (fun (c9 : ¬ (eg_gi M s0 x6.toNatClampNeg) < 0) => ?_)
          · skip
            refine eg_need_of (show eg_is wd M v 2 = true from ?_) ?_
            · exact g5 c1 (by clear g0 g1 g2 g3 g4 g5 g6 g7 g8 g9 l0 l1 l2 l3 l4 l5; grind)
            refine And.intro (show vp_in ((-nI 11) - (eg_gi M s0 x6.toNatClampNeg)) (eg_len wd M v) from ?_) ?_
            · exact g6 c1 (by clear g0 g1 g2 g3 g4 g5 g6 g7 g8 g9 l0 l1 l2 l3 l4 l5; grind)
            refine eg_need_of (show eg_is wd M s 2 = true from ?_) ?_
            · exact g2 (by clear g0 g1 g2 g3 g4 g5 g6 g7 g8 g9 l0 l1 l2 l3 l4 l5; grind)
            refine And.intro (show vp_in x4 (eg_len wd M s) from ?_) ?_
            · exact g7 c1 (by clear g0 g1 g2 g3 g4 g5 g6 g7 g8 g9 l0 l1 l2 l3 l4 l5; grind)
            show eg_T wd k_X8_worth Qp 25 0 0 [some (.ref q), some (.int f), some (.ref v), some (.ref s), some (.int (x4 + (nI 1))), some (.int x5), some (.int (x6 + (nI 1))), some (.int (eg_gi M s0 x6.toNatClampNeg))] [] (eg_sl M s x4.toNatClampNeg (eg_gl M v ((-nI 11) - (eg_gi M s0 x6.toNatClampNeg)).toNatClampNeg))
            exact l3 ⟨c1, (Or.inr ⟨c4, ⟨c7, ⟨c8, c9⟩⟩⟩)⟩
          · skip
            refine eg_need_of (show eg_is wd M s 2 = true from ?_) ?_
            · exact g2 (by clear g0 g1 g2 g3 g4 g5 g6 g7 g8 g9 l0 l1 l2 l3 l4 l5; grind)
            refine And.intro (show vp_in x4 (eg_len wd M s) from ?_) ?_
            · exact g7 c1 (by clear g0 g1 g2 g3 g4 g5 g6 g7 g8 g9 l0 l1 l2 l3 l4 l5; grind)
            show eg_T wd k_X8_worth Qp 25 0 0 [some (.ref q), some (.int f), some (.ref v), some (.ref s), some (.int (x4 + (nI 1))), some (.int x5), some (.int (x6 + (nI 1))), some (.int (eg_gi M s0 x6.toNatClampNeg))] [] (eg_sl M s x4.toNatClampNeg ((eg_gi M s0 x6.toNatClampNeg).toInt64))
            exact l4 ⟨c1, (Or.inr ⟨c4, ⟨c7, ⟨c8, c9⟩⟩⟩)⟩
      · skip
        refine And.intro (fun (c10 : x4 < (nI 2)) => ?_) (fun (c10 : ¬ x4 < (nI 2)) => ?_)
        · skip
          show eg_T wd k_X8_worth Qp 25 0 0 [some (.ref q), some (.int f), some (.ref v), some (.ref s), some (.int x4), some (.int x5), some (.int (x6 + (nI 1))), some (.int (eg_gi M s0 x6.toNatClampNeg))] [] M
          exact l0 (Or.inr ⟨c1, (Or.inr ⟨c4, (Or.inr ⟨c7, c10⟩)⟩)⟩)
        · skip
          refine eg_need_of (show eg_is wd M s 2 = true from ?_) ?_
          · exact g2 (by clear g0 g1 g2 g3 g4 g5 g6 g7 g8 g9 l0 l1 l2 l3 l4 l5; grind)
          refine And.intro (show vp_in ((x4 + (-nI 1)) - (nI 1)) (eg_len wd M s) from ?_) ?_
          · exact g8 c1 c4 c7 c10
          refine eg_need_of (show eg_is wd M s 2 = true from ?_) ?_
          · exact g2 (by clear g0 g1 g2 g3 g4 g5 g6 g7 g8 g9 l0 l1 l2 l3 l4 l5; grind)
          refine And.intro (show vp_in (x4 + (-nI 1)) (eg_len wd M s) from ?_) ?_
          · exact g9 c1 c4 c7 c10
          refine And.intro (show (True) from ?_) ?_
          · exact trivial
          refine eg_need_of (show eg_is wd M s 2 = true from ?_) ?_
          · exact g2 (by clear g0 g1 g2 g3 g4 g5 g6 g7 g8 g9 l0 l1 l2 l3 l4 l5; grind)
          refine And.intro (show vp_in ((x4 + (-nI 1)) - (nI 1)) (eg_len wd M s) from ?_) ?_
          · exact g8 c1 c4 c7 c10
          show eg_T wd k_X8_worth Qp 25 0 0 [some (.ref q), some (.int f), some (.ref v), some (.ref s), some (.int (x4 + (-nI 1))), some (.int x5), some (.int (x6 + (nI 1))), some (.int (eg_gi M s0 x6.toNatClampNeg))] [] (eg_sl M s ((x4 + (-nI 1)) - (nI 1)).toNatClampNeg (p_op (eg_gi M s0 x6.toNatClampNeg) (eg_gl M s ((x4 + (-nI 1)) - (nI 1)).toNatClampNeg) (eg_gl M s (x4 + (-nI 1)).toNatClampNeg)))
          exact l5 ⟨c1, ⟨c4, ⟨c7, c10⟩⟩⟩

def s_X8_worth : eg_S := fun argv M Qp => match argv with
  | [.ref q, .int f, .ref v, .ref s] => (eg_isO wd M q 8 = true ∧ v = 44 ∧ s = 45 ∧ ∃ i S, f = nI i ∧ k_seg M q i S ∧ k_ok 40 1 S 0) ∧ ∀ (g : Nat → Int64) (r : Int64), (∀ S, k_seg M q f.toNatClampNeg S → p_run (eg_gl M 44) S [] = [r]) → Qp (.inl (some (.long (r)))) (eg_rl M 45 g)
  | _ => False
theorem mo_X8_worth : eg_mono s_X8_worth := by
  intro argv M Q Q' h
  unfold s_X8_worth
  split
  · exact fun z => ⟨z.1, fun g r y => h _ _ (z.2 g r y)⟩
  · exact id
theorem sz_X8_worth : ∀ argv M Qp, s_X8_worth argv M Qp → (eg_ls0 argv).length ≤ 8 := by
  intro argv M Qp h
  unfold s_X8_worth at h
  split at h
  · exact Nat.le_of_ble_eq_true rfl
  · exact h.elim
theorem sr_X8_worth : ∀ argv M Qp, s_X8_worth argv M Qp → ∃ p0 As, argv = .ref p0 :: As ∧ eg_isO wd M p0 8 = true := by
  intro argv M Qp h
  unfold s_X8_worth at h
  split at h
  · exact ⟨_, _, rfl, h.1.1⟩
  · exact h.elim
set_option maxRecDepth 100000 in
set_option maxHeartbeats 1000000 in
theorem T_X8_worth {argv : List Value} {M : eg_M} {Qp : eg_P} (h : s_X8_worth argv M Qp) : eg_T wd k_X8_worth Qp 0 0 0 (eg_lsN 8 argv) [] M := by
  unfold s_X8_worth at h
  split at h
  · rename_i q f v s
    obtain ⟨hp, hq⟩ := h
    obtain ⟨hO, rfl, rfl, i, S, rfl, hseg, hk⟩ := hp
    have hseg' := hseg
    obtain ⟨a4, a5, u, r4, r5, i4, i5, n4, n5, hi, hi12, hu, hv, hvl, hl400, hS⟩ := hseg
    rw [n_c (by omega)] at hq
    have hq2 : ∀ g r, p_run (eg_gl M 44) S [] = [r] → Qp (.inl (some (.long r))) (eg_rl M 45 g) := fun g r h => hq g r (fun T hT => by rw [k_seg_inj hT hseg']; exact h)
    have lp : ∀ (P : List Int32) (w : Nat) (k : List Int64) (g : Nat → Int64) (o7 : Option Value), w + P.length = u + S.length → (∀ j (h : j < P.length), eg_gi M a5 (w + j) = P[j]) → k_ok 40 1 P k.length → k.length ≤ 40 → rep g k → p_run (eg_gl M 44) S [] = p_run (eg_gl M 44) P k → eg_T wd k_X8_worth Qp 25 0 0 [some (.ref q), some (.int (nI i)), some (.ref 44), some (.ref 45), some (.int (nI k.length)), some (.int (nI u)), some (.int (nI w)), o7] [] (eg_rl M 45 g) := by
      intro P
      induction P with
      | nil =>
        intro w k g o7 hw hP hk hk4 hr he
        refine st_X8_worth_25 _ _ _ _ _ _ _ _ hO ?_
        rw [show eg_ref (eg_sh wd (eg_rl M 45 g) q) (eg_rl M 45 g) q 4 = some a4 from r4]
        have hw : w = u + S.length := hw
        have hk : k.length = 1 := hk
        refine st_X8_worth_31 q (nI i) 44 45 (nI k.length) (nI u) (nI w) o7 a4 (nI w) i4 ?_ (fun _ => rfl) (fun _ => (show vp_in (nI 0) 40 from vp_in_nI (by decide) (by decide))) (fun _ => hO) (fun _ => ?_) (fun z => ?_)
        · exact vp_in_nI (show i < eg_len wd M a4 from hi) (show eg_len wd M a4 < 2 ^ 31 by omega)
        · match k, hk, hr, he with
          | [x], _, hr, he =>
            have := rep_top hr
            show Qp (.inl (some (.long (g 0)))) (eg_rl M 45 g)
            rw [show g 0 = x from this]
            exact hq2 g x he
        · rw [n_c (by omega), show eg_gi (eg_rl M 45 g) a4 i = nI (u + S.length) from hv, hw] at z
          exact absurd (nI_le (Nat.le_refl _) (by omega)) z
      | cons s P ih =>
        intro w k g o7 hw hP hk hk4 hr he
        rw [List.length_cons] at hw
        refine st_X8_worth_25 _ _ _ _ _ _ _ _ hO ?_
        rw [show eg_ref (eg_sh wd (eg_rl M 45 g) q) (eg_rl M 45 g) q 4 = some a4 from r4]
        have hs0 : eg_gi M a5 w = s := hP 0 (by simp)
        have hP' : ∀ j (h : j < P.length), eg_gi M a5 (w + 1 + j) = P[j] := fun j h => by
          have := hP (j + 1) (by simp; omega)
          rw [show w + 1 + j = w + (j + 1) by omega]
          exact this
        refine st_X8_worth_31 q (nI i) 44 45 (nI k.length) (nI u) (nI w) o7 a4 (nI w) i4 (vp_in_nI (show i < eg_len wd M a4 from hi) (show eg_len wd M a4 < 2 ^ 31 by omega)) (fun _ => rfl) (fun _ => (show vp_in (nI 0) 40 from vp_in_nI (by decide) (by decide))) (fun _ => hO) (fun z => ?_) (fun _ => ?_)
        · rw [n_c (by omega), show eg_gi (eg_rl M 45 g) a4 i = nI (u + S.length) from hv, n_le (by omega) (by omega)] at z
          omega
        rw [show eg_ref (eg_sh wd (eg_rl M 45 g) q) (eg_rl M 45 g) q 5 = some a5 from r5]
        have st := st_X8_worth_40 (Qp := Qp) (M := eg_rl M 45 g) q (nI i) 44 45 (nI k.length) (nI u) (nI w) o7 a5
        have c45 : eg_len wd (eg_rl M 45 g) 45 = 40 := rfl
        have c44 : eg_len wd (eg_rl M 45 g) 44 = 11 := rfl
        rw [n_c (by omega), show eg_gi (eg_rl M 45 g) a5 w = s from hs0, c45, c44] at st
        have g44 : ∀ j, eg_gl (eg_rl M 45 g) 44 j = eg_gl M 44 j := fun _ => rfl
        have g45 : ∀ j, eg_gl (eg_rl M 45 g) 45 j = g j := fun _ => rfl
        simp only [g44, g45, i_m3, i_0le, i_le11, i_lt0] at st
        have A1 : eg_is wd (eg_rl M 45 g) a5 1 = true := i5
        have A2 : vp_in (nI w) (eg_len wd (eg_rl M 45 g) a5) := vp_in_nI (show w < eg_len wd M a5 by omega) (show eg_len wd M a5 < 2 ^ 31 by omega)
        rw [show p_run (eg_gl M 44) (s :: P) k = p_run (eg_gl M 44) P (p_st (eg_gl M 44) s k) from rfl] at he
        unfold k_ok at hk
        unfold p_st at he
        by_cases c0 : 0 ≤ s.toInt
        · rw [if_pos c0] at hk he
          have hlt : ¬ nI 40 ≤ nI k.length := fun z => absurd ((n_le (by omega) (by omega)).mp z) (by omega)
          refine st A1 A2 (fun _ => rfl) (fun z => absurd z (by omega)) (fun _ _ => rfl) (fun _ _ => rfl) (fun _ z => absurd z (by omega)) (fun _ _ => vp_in_nI (by omega) (by decide)) (fun _ z => absurd c0 z) (fun _ z => absurd c0 z) (fun z => ?_) (fun z => absurd z.1 (by omega)) (fun z => absurd z.1 (by omega)) (fun z => ?_) (fun z => ?_) (fun z => absurd c0 z.2.1)
          · rcases z with z | ⟨_, z | z⟩
            · omega
            · exact absurd z.2 hlt
            · exact absurd c0 z.1
          · rcases z.2 with z | z
            · omega
            · exact absurd c0 z.1
          · rw [n_s, n_s, n_c (by omega), sl_rl]
            exact ih (w + 1) (s.toInt64 :: k) _ _ (by omega) hP' hk.2 (by simp; omega) (rep_push hr) he
        · rw [if_neg c0] at hk he
          by_cases c1 : s.toInt ≤ -11
          · rw [if_pos c1] at hk he
            have hlt : ¬ nI 40 ≤ nI k.length := fun z => absurd ((n_le (by omega) (by omega)).mp z) (by omega)
            have hval := i_val c1 hk.1
            rw [hval] at st
            refine st A1 A2 (fun _ => rfl) (fun z => absurd z (by omega)) (fun _ _ => rfl) (fun _ _ => rfl) (fun _ _ => vp_in_nI (by omega) (by decide)) (fun _ _ => vp_in_nI (by omega) (by decide)) (fun _ _ z => absurd c1 z) (fun _ _ z => absurd c1 z) (fun z => ?_) (fun z => absurd z.1 (by omega)) (fun z => absurd z.1 (by omega)) (fun z => ?_) (fun z => ?_) (fun z => absurd c1 z.2.2.1)
            · rcases z with z | ⟨_, z | ⟨_, z | z⟩⟩
              · omega
              · exact absurd z.2 hlt
              · exact absurd z.2 hlt
              · exact absurd c1 z.1
            · rw [n_s, n_s, n_c (by omega), n_c (by omega), sl_rl]
              exact ih (w + 1) (_ :: k) _ _ (by omega) hP' hk.2.2 (by simp; omega) (rep_push hr) he
            · rcases z.2 with z | z
              · exact absurd z.1 c0
              · omega
          · rw [if_neg c1] at hk he
            by_cases c2 : s.toInt = -3
            · rw [if_pos c2] at hk he
              match k, hk, hk4, hr, he, st with
              | x :: r, hk, hk4, hr, he, st =>
                simp only [List.length_cons, n_p] at st hk4 hk
                have tx := rep_top hr
                have h1 : ¬ nI (r.length + 1) < nI 1 := nI_nlt (by omega) (by omega)
                rw [n_c (by omega), tx] at st
                refine st A1 A2 (fun _ => rfl) (fun _ _ => vp_in_nI (by omega) (by decide)) (fun z => absurd c2 z) (fun z => absurd c2 z) (fun z => absurd c2 z) (fun z => absurd c2 z) (fun z => absurd c2 z) (fun z => absurd c2 z) (fun z => ?_) (fun z => ?_) (fun z => ?_) (fun z => absurd c2 z.1) (fun z => absurd c2 z.1) (fun z => absurd c2 z.1)
                · rcases z with z | z
                  · exact absurd z.2 h1
                  · exact absurd c2 z.1
                · rw [n_s, sl_rl]
                  have he' : p_run (eg_gl M 44) S [] = p_run (eg_gl M 44) P (lN 1 :: r) := by rw [he]; simp only [z.2.2, if_true]
                  exact ih (w + 1) (lN 1 :: r) _ _ (by omega) hP' hk.2 (by simp; omega) (rep_push (rep_tl hr)) he'
                · rw [n_s, sl_rl]
                  have he' : p_run (eg_gl M 44) S [] = p_run (eg_gl M 44) P (lN 0 :: r) := by rw [he]; simp only [z.2.2, if_false]
                  exact ih (w + 1) (lN 0 :: r) _ _ (by omega) hP' hk.2 (by simp; omega) (rep_push (rep_tl hr)) he'
            · rw [if_neg c2] at hk he
              match k, hk, hk4, hr, he, st with
              | y :: x :: r, hk, hk4, hr, he, st =>
                simp only [List.length_cons, n_p, n_d] at st hk4 hk
                have ty := rep_top hr
                have tx := rep_top (rep_tl hr)
                simp only [List.length_cons] at ty
                have h2 : ¬ nI (r.length + 1 + 1) < nI 2 := nI_nlt (by omega) (by omega)
                rw [n_c (i := r.length) (by omega), n_c (i := r.length + 1) (by omega), tx, ty] at st
                refine st A1 A2 (fun _ => rfl) (fun z => absurd z c2) (fun _ z => ?_) (fun _ z => ?_) (fun _ z => ?_) (fun _ z => ?_) (fun _ _ _ _ => vp_in_nI (by omega) (by decide)) (fun _ _ _ _ => vp_in_nI (by omega) (by decide)) (fun z => ?_) (fun z => absurd z.1 c2) (fun z => absurd z.1 c2) (fun z => ?_) (fun z => ?_) (fun z => ?_)
                · rcases z with z | z
                  · exact absurd z c0
                  · exact absurd z.2 c1
                · rcases z with z | z
                  · exact absurd z.1 c0
                  · exact absurd z.2.1 c1
                · rcases z with z | z
                  · exact absurd z.1 c0
                  · exact absurd z.2.1 c1
                · rcases z with z | z
                  · exact absurd z.1 c0
                  · exact absurd z.2.1 c1
                · rcases z with z | ⟨_, z | ⟨_, z | z⟩⟩
                  · exact absurd z.1 c2
                  · exact absurd z.1 c0
                  · exact absurd z.1 c1
                  · exact absurd z.2 h2
                · rcases z.2 with z | z
                  · exact absurd z.1 c0
                  · exact absurd z.2.1 c1
                · rcases z.2 with z | z
                  · exact absurd z.1 c0
                  · exact absurd z.2.1 c1
                · rw [n_s, sl_rl]
                  exact ih (w + 1) (p_op s x y :: r) _ _ (by omega) hP' hk.2 (by simp; omega) (rep_push (rep_tl (rep_tl hr))) he
    have start : ∀ o7, eg_T wd k_X8_worth Qp 25 0 0 [some (.ref q), some (.int (nI i)), some (.ref 44), some (.ref 45), some (.int (nI 0)), some (.int (nI u)), some (.int (nI u)), o7] [] M := by
      intro o7
      have := lp S u [] (eg_gl M 45) o7 rfl hS hk (by decide) (fun j h => absurd h (Nat.not_lt_zero _)) rfl
      rw [rl_id] at this
      exact this
    refine st_X8_worth_0 _ _ _ _ (fun _ => hO) (fun z => ?_) (fun z => ?_)
    · have z : i = 0 := by
        rw [← nI_0] at z
        exact (n_eq (by omega) (by decide)).mp z
      rcases hu with hu | hu
      · have := start none
        rw [hu.2] at this
        exact this
      · omega
    · rw [r4]
      have z : ¬ i = 0 := fun e => z (by rw [e]; exact nI_0)
      rcases hu with hu | hu
      · omega
      · refine st_X8_worth_15 q (nI i) 44 45 (nI 0) none none none a4 i4 ?_ ?_
        · rw [show nI i - nI 1 = nI (i - 1) by rw [show nI i = nI (i - 1 + 1) by congr 1; omega, n_p]]
          exact vp_in_nI (by omega) (by omega)
        · rw [show nI i - nI 1 = nI (i - 1) by rw [show nI i = nI (i - 1 + 1) by congr 1; omega, n_p], n_c (by omega), hu.2]
          exact start none
  · exact h.elim
theorem de_X8_worth : ∀ q ∈ k_X8_worth.1, decode cX8_worth q.1 = .ok q.2 := by decide +kernel
theorem me_X8_worth (g : gl_T) : MT g yX8_worth cX8_worth 8 (some .long) ⟨1, 0, 0, 24⟩ 0 0 s_X8_worth := by
  intro hl
  exact eg_met_of (k := k_X8_worth) (by decide) rfl ⟨Nat.le_refl _, Nat.le_refl _⟩ rfl sz_X8_worth de_X8_worth (fun meth hn => (fc (eg_FL_of wd_c8 (by decide) lf_RX8_23 (fun h => absurd h (by decide))) (fc (eg_FL_of wd_c8 (by decide) lf_RX8_26 (fun h => absurd h (by decide))) (fn)))) (fun A s H hE => (fn)) (fun p e s m args below meth c Q A ad0 N0 S0 hK hEx hA => (fc (mt_S hl S0 hK hEx hA (me_X8_joined g) lm_RX8_46 ls_X8_joined ln_RX8 lc_X8_joined ⟨rfl, by decide, by decide, by decide +kernel⟩ ⟨rfl, rfl⟩ ⟨by decide, by decide⟩ (by decide)) (fn))) (fun p e s m args below meth c Qc XC A ad0 N0 P S0 hK hEx hA hlk hout hPX => (fn)) (fun argv M Qp h => T_X8_worth h)

/-- the text at q: kinds and steps of its formulas -/
def k_rt (M : eg_M) (q : Nat) (L : List (Int32 × List Int32)) : Prop := ∃ a3, eg_ref (eg_sh wd M q) M q 3 = some a3 ∧ eg_is wd M a3 1 = true ∧ k_tp a3 ∧ eg_len wd M a3 = L.length ∧ L.length ≤ 12 ∧ ∀ i (h : i < L.length), eg_gi M a3 i = L[i].1 ∧ k_seg M q i L[i].2 ∧ k_ok 40 1 L[i].2 0
theorem k_rt_inj {M : eg_M} {q : Nat} {L K : List (Int32 × List Int32)} (h1 : k_rt M q L) (h2 : k_rt M q K) : L = K := by
  obtain ⟨a, r, _, _, hl, _, hL⟩ := h1
  obtain ⟨b, t, _, _, hk, _, hK⟩ := h2
  have e : a = b := Option.some.inj (r.symm.trans t)
  subst e
  refine List.ext_getElem (hl.symm.trans hk) (fun i hi hi' => ?_)
  have x := hL i hi
  have y := hK i hi'
  exact Prod.ext (x.1.symm.trans y.1) (k_seg_inj x.2.1 y.2.1)
/-- what a formula grants, whether one sleeps by these formulas -/
def p_oneS (V : Nat → Int64) (c : Int32 × List Int32) : Int64 := if c.1 = 0 then (if (if p_v V c.2 < lN 999999 then p_v V c.2 else lN 999999) < lN 0 then lN 0 else (if p_v V c.2 < lN 999999 then p_v V c.2 else lN 999999)) else lN 0
def p_claS (V : Nat → Int64) (L : List (Int32 × List Int32)) : Int64 := L.foldl (fun s c => s + p_oneS V c) (lN 0)
def p_slpS (V : Nat → Int64) (L : List (Int32 × List Int32)) : Bool := L.any (fun c => decide (c.1 = nI 1 ∧ ¬ p_v V c.2 = lN 0)) || (!(L.any (fun c => decide (c.1 = nI 1))) && decide (¬ V 7 ≤ lN 1080))
def k_X8_claim : eg_C := ([(0, .lconst 0, 1), (1, .lstore_n 3, 1), (2, .iconst 0, 1), (3, .istore 5, 2), (5, .iload 5, 2), (7, .aload_n 0, 1), (8, .getfield 19, 3), (11, .arraylength, 1), (12, .if_icmp .ge 40, 3), (15, .aload_n 0, 1), (16, .getfield 19, 3), (19, .iload 5, 2), (21, .iaload, 1), (22, .ifCond .ne 24, 3), (25, .lload_n 3, 1), (26, .lconst 0, 1), (27, .ldc2_w 29, 3), (30, .aload_n 0, 1), (31, .iload 5, 2), (33, .aload_n 1, 1), (34, .aload_n 2, 1), (35, .invokevirtual 31, 3), (38, .invokestatic 35, 3), (41, .invokestatic 41, 3), (44, .ladd, 1), (45, .lstore_n 3, 1), (46, .iinc 5 1, 3), (49, .goto (-44), 3), (52, .lload_n 3, 1), (53, .lreturn, 1)], [(19, 8, 3, false)], [(29, .long (lN 999999))], [(35 + 100000, 2, 0, 0, s_J9_min_f86c9), (41 + 100000, 2, 0, 0, s_J9_max_f86c9), (31, 3 + 1, 0, 0, s_X8_worth)], [], 3, 0, 0)
theorem mk_X8_claim : ∀ q ∈ k_X8_claim.2.2.2.1, eg_mono q.2.2.2.2 := (fc (mo_J9_min_f86c9) (fc (mo_J9_max_f86c9) (fc (mo_X8_worth) (fn))))
set_option maxRecDepth 100000 in
theorem st_X8_claim_0 {Qp : eg_P} {M : eg_M} (q : Nat) (v : Nat) (s : Nat)
  (l0 : eg_T wd k_X8_claim Qp 5 0 0 [some (.ref q), some (.ref v), some (.ref s), some (.long (lN 0)), none, some (.int (nI 0))] [] M) :
  eg_T wd k_X8_claim Qp 0 0 0 [some (.ref q), some (.ref v), some (.ref s), none, none, none] [] M := by
  refine eg_T_run mk_X8_claim (cut := [5, 11, 19, 38]) 33 ?_
  show eg_T wd k_X8_claim Qp 5 0 0 [some (.ref q), some (.ref v), some (.ref s), some (.long (lN 0)), none, some (.int (nI 0))] [] M
  exact l0

set_option maxRecDepth 100000 in
theorem st_X8_claim_5 {Qp : eg_P} {M : eg_M} (q : Nat) (v : Nat) (s : Nat) (x3 : Int64) (x5 : Int32)
  (g0 : (eg_isO wd M q 8 = true))
  (l0 : eg_T wd k_X8_claim Qp 11 0 0 [some (.ref q), some (.ref v), some (.ref s), some (.long x3), none, some (.int x5)] [eg_rv (eg_ref (eg_sh wd M q) M q 3), .int x5] M) :
  eg_T wd k_X8_claim Qp 5 0 0 [some (.ref q), some (.ref v), some (.ref s), some (.long x3), none, some (.int x5)] [] M := by
  refine eg_T_run mk_X8_claim (cut := [5, 11, 19, 38]) 33 ?_
  refine eg_need_of (show eg_isO wd M q 8 = true from ?_) ?_
  · exact g0
  show eg_T wd k_X8_claim Qp 11 0 0 [some (.ref q), some (.ref v), some (.ref s), some (.long x3), none, some (.int x5)] [eg_rv (eg_ref (eg_sh wd M q) M q 3), .int x5] M
  exact l0

set_option maxRecDepth 100000 in
theorem st_X8_claim_11 {Qp : eg_P} {M : eg_M} (q : Nat) (v : Nat) (s : Nat) (x3 : Int64) (x5 : Int32) (s0 : Nat) (s1 : Int32)
  (g0 : ((Nat.ble 1 (eg_sh wd M s0).1 && Nat.ble (eg_sh wd M s0).1 7) = true))
  (g1 : (¬ ((nI (eg_len wd M s0)) ≤ s1)) → (eg_isO wd M q 8 = true))
  (l0 : ((nI (eg_len wd M s0)) ≤ s1) → Qp (.inl (some (.long x3))) M)
  (l1 : (¬ (nI (eg_len wd M s0)) ≤ s1) → eg_T wd k_X8_claim Qp 19 0 0 [some (.ref q), some (.ref v), some (.ref s), some (.long x3), none, some (.int x5)] [eg_rv (eg_ref (eg_sh wd M q) M q 3)] M) :
  eg_T wd k_X8_claim Qp 11 0 0 [some (.ref q), some (.ref v), some (.ref s), some (.long x3), none, some (.int x5)] [.ref s0, .int s1] M := by
  refine eg_T_run mk_X8_claim (cut := [5, 11, 19, 38]) 33 ?_
  refine eg_need_of (show (Nat.ble 1 (eg_sh wd M s0).1 && Nat.ble (eg_sh wd M s0).1 7) = true from ?_) ?_
  · exact g0
  refine And.intro (fun (c1 : (nI (eg_len wd M s0)) ≤ s1) => ?_) (fun (c1 : ¬ (nI (eg_len wd M s0)) ≤ s1) => ?_)
  · skip
    show Qp (.inl (some (.long x3))) M
    exact l0 c1
  · skip
    refine eg_need_of (show eg_isO wd M q 8 = true from ?_) ?_
    · exact g1 c1
    show eg_T wd k_X8_claim Qp 19 0 0 [some (.ref q), some (.ref v), some (.ref s), some (.long x3), none, some (.int x5)] [eg_rv (eg_ref (eg_sh wd M q) M q 3)] M
    exact l1 c1

set_option maxRecDepth 100000 in
theorem st_X8_claim_19 {Qp : eg_P} {M : eg_M} (q : Nat) (v : Nat) (s : Nat) (x3 : Int64) (x5 : Int32) (s0 : Nat)
  (g0 : (eg_is wd M s0 1 = true))
  (g1 : (vp_in x5 (eg_len wd M s0)))
  (g2 : ((eg_gi M s0 x5.toNatClampNeg) = 0) → (eg_isO wd M q 8 = true ∧ v = 44 ∧ s = 45 ∧ ∃ i S, x5 = nI i ∧ k_seg M q i S ∧ k_ok 40 1 S 0))
  (l0 : ((eg_gi M s0 x5.toNatClampNeg) = 0) → ∀ (g_1 : Nat → Int64) (r_1 : Int64), (∀ S, k_seg M q x5.toNatClampNeg S → p_run (eg_gl M 44) S [] = [r_1]) → eg_T wd k_X8_claim Qp 38 0 0 [some (.ref q), some (.ref v), some (.ref s), some (.long x3), none, some (.int x5)] [.long r_1, .long (lN 999999), .long (lN 0), .long x3] (eg_rl M 45 g_1))
  (l1 : (¬ (eg_gi M s0 x5.toNatClampNeg) = 0) → eg_T wd k_X8_claim Qp 5 0 0 [some (.ref q), some (.ref v), some (.ref s), some (.long x3), none, some (.int (x5 + (nI 1)))] [] M) :
  eg_T wd k_X8_claim Qp 19 0 0 [some (.ref q), some (.ref v), some (.ref s), some (.long x3), none, some (.int x5)] [.ref s0] M := by
  refine eg_T_run mk_X8_claim (cut := [5, 11, 19, 38]) 33 ?_
  refine eg_need_of (show eg_is wd M s0 1 = true from ?_) ?_
  · exact g0
  refine And.intro (show vp_in x5 (eg_len wd M s0) from ?_) ?_
  · exact g1
  refine And.intro (fun (c1 : (eg_gi M s0 x5.toNatClampNeg) = 0) => ?_) (fun (c1 : ¬ (eg_gi M s0 x5.toNatClampNeg) = 0) => ?_)
  · skip
    refine And.intro (show (eg_isO wd M q 8 = true ∧ v = 44 ∧ s = 45 ∧ ∃ i S, x5 = nI i ∧ k_seg M q i S ∧ k_ok 40 1 S 0) from ?_) ?_
    · exact g2 c1
    intro g_1 r_1 ha_1
    show eg_T wd k_X8_claim Qp 38 0 0 [some (.ref q), some (.ref v), some (.ref s), some (.long x3), none, some (.int x5)] [.long r_1, .long (lN 999999), .long (lN 0), .long x3] (eg_rl M 45 g_1)
    exact l0 c1 g_1 r_1 ha_1
  · skip
    show eg_T wd k_X8_claim Qp 5 0 0 [some (.ref q), some (.ref v), some (.ref s), some (.long x3), none, some (.int (x5 + (nI 1)))] [] M
    exact l1 c1

set_option maxRecDepth 100000 in
theorem st_X8_claim_38 {Qp : eg_P} {M : eg_M} (q : Nat) (v : Nat) (s : Nat) (o3 : Option Value) (o4 : Option Value) (x5 : Int32) (s0 : Int64) (s1 : Int64) (s2 : Int64) (s3 : Int64)
  (l0 : eg_T wd k_X8_claim Qp 5 0 0 [some (.ref q), some (.ref v), some (.ref s), some (.long (s3 + (if (if s0 < s1 then s0 else s1) < s2 then s2 else (if s0 < s1 then s0 else s1)))), none, some (.int (x5 + (nI 1)))] [] M) :
  eg_T wd k_X8_claim Qp 38 0 0 [some (.ref q), some (.ref v), some (.ref s), o3, o4, some (.int x5)] [.long s0, .long s1, .long s2, .long s3] M := by
  refine eg_T_run mk_X8_claim (cut := [5, 11, 19, 38]) 33 ?_
  show eg_T wd k_X8_claim Qp 5 0 0 [some (.ref q), some (.ref v), some (.ref s), some (.long (s3 + (if (if s0 < s1 then s0 else s1) < s2 then s2 else (if s0 < s1 then s0 else s1)))), none, some (.int (x5 + (nI 1)))] [] M
  exact l0

def s_X8_claim : eg_S := fun argv M Qp => match argv with
  | [.ref q, .ref v, .ref s] => (eg_isO wd M q 8 = true ∧ v = 44 ∧ s = 45 ∧ ∃ L, k_rt M q L) ∧ ∀ (g : Nat → Int64) (r : Int64), (∀ L, k_rt M q L → r = p_claS (eg_gl M 44) L) → Qp (.inl (some (.long (r)))) (eg_rl M 45 g)
  | _ => False
theorem mo_X8_claim : eg_mono s_X8_claim := by
  intro argv M Q Q' h
  unfold s_X8_claim
  split
  · exact fun z => ⟨z.1, fun g r y => h _ _ (z.2 g r y)⟩
  · exact id
theorem sz_X8_claim : ∀ argv M Qp, s_X8_claim argv M Qp → (eg_ls0 argv).length ≤ 6 := by
  intro argv M Qp h
  unfold s_X8_claim at h
  split at h
  · exact Nat.le_of_ble_eq_true rfl
  · exact h.elim
theorem sr_X8_claim : ∀ argv M Qp, s_X8_claim argv M Qp → ∃ p0 As, argv = .ref p0 :: As ∧ eg_isO wd M p0 8 = true := by
  intro argv M Qp h
  unfold s_X8_claim at h
  split at h
  · exact ⟨_, _, rfl, h.1.1⟩
  · exact h.elim
set_option maxRecDepth 100000 in
set_option maxHeartbeats 1000000 in
theorem T_X8_claim {argv : List Value} {M : eg_M} {Qp : eg_P} (h : s_X8_claim argv M Qp) : eg_T wd k_X8_claim Qp 0 0 0 (eg_lsN 6 argv) [] M := by
  unfold s_X8_claim at h
  split at h
  · rename_i q v s
    obtain ⟨hp, hq⟩ := h
    obtain ⟨hO, rfl, rfl, L, hR⟩ := hp
    have hR' := hR
    obtain ⟨a3, r3, i3, t3, l3, hl, hL⟩ := hR
    have hq2 : ∀ g r, r = p_claS (eg_gl M 44) L → Qp (.inl (some (.long r))) (eg_rl M 45 g) := fun g r h => hq g r (fun K hK => by rw [k_rt_inj hK hR']; exact h)
    have hsh : (Nat.ble 1 (eg_sh wd M a3).1 && Nat.ble (eg_sh wd M a3).1 7) = true := by rw [eg_is_out i3]; rfl
    have lp : ∀ i (x : Int64 × (Nat → Int64)), i ≤ L.length → x.1 = (L.take i).foldl (fun s c => s + p_oneS (eg_gl M 44) c) (lN 0) → eg_T wd k_X8_claim Qp 5 0 0 [some (.ref q), some (.ref 44), some (.ref 45), some (.long x.1), none, some (.int (nI i))] [] (eg_rl M 45 x.2) := by
      refine eg_for ?_
      intro i ⟨x, g⟩ hi hx kk
      have hx : x = (L.take i).foldl (fun s c => s + p_oneS (eg_gl M 44) c) (lN 0) := hx
      refine st_X8_claim_5 _ _ _ _ _ hO ?_
      rw [show eg_ref (eg_sh wd (eg_rl M 45 g) q) (eg_rl M 45 g) q 3 = some a3 from r3]
      have st := st_X8_claim_11 (Qp := Qp) (M := eg_rl M 45 g) q 44 45 x (nI i) a3 (nI i) hsh
      rw [show eg_len wd (eg_rl M 45 g) a3 = L.length from l3, n_le (by omega) (by omega)] at st
      refine st (fun _ => hO) (fun z => ?_) (fun z => ?_)
      · have : i = L.length := by omega
        subst this
        rw [List.take_length] at hx
        exact hq2 g x hx
      · have hlt : i < L.length := by omega
        rw [show eg_ref (eg_sh wd (eg_rl M 45 g) q) (eg_rl M 45 g) q 3 = some a3 from r3]
        have s2 := st_X8_claim_19 (Qp := Qp) (M := eg_rl M 45 g) q 44 45 x (nI i) a3 i3
        rw [n_c (by omega), show eg_gi (eg_rl M 45 g) a3 i = L[i].1 from (hL i hlt).1] at s2
        have fold1 : (L.take (i + 1)).foldl (fun s c => s + p_oneS (eg_gl M 44) c) (lN 0) = x + p_oneS (eg_gl M 44) L[i] := by
          rw [List.take_succ_eq_append_getElem hlt, List.foldl_append, ← hx]
          rfl
        refine s2 ?_ (fun _ => ⟨hO, rfl, rfl, i, L[i].2, rfl, (hL i hlt).2.1, (hL i hlt).2.2⟩) (fun z0 g' r' hr' => ?_) (fun z0 => ?_)
        · exact vp_in_nI (show i < eg_len wd M a3 by omega) (show eg_len wd M a3 < 2 ^ 31 by omega)
        · have hr : p_run (eg_gl M 44) L[i].2 [] = [r'] := hr' L[i].2 (hL i hlt).2.1
          have hv : p_v (eg_gl M 44) L[i].2 = r' := by unfold p_v; rw [hr]; rfl
          rw [rl_rl]
          refine st_X8_claim_38 _ _ _ _ _ _ _ _ _ _ ?_
          rw [n_s]
          refine kk (_, g') hlt ?_
          rw [fold1, p_oneS, if_pos z0, hv]
        · rw [n_s]
          refine kk (x, g) hlt ?_
          rw [fold1, p_oneS, if_neg z0]
          exact (Int64.add_zero x).symm
    have := lp 0 (lN 0, eg_gl M 45) (Nat.zero_le _) rfl
    rw [rl_id] at this
    exact st_X8_claim_0 _ _ _ this
  · exact h.elim
theorem de_X8_claim : ∀ q ∈ k_X8_claim.1, decode cX8_claim q.1 = .ok q.2 := by decide +kernel
theorem me_X8_claim (g : gl_T) : MT g yX8_claim cX8_claim 6 (some .long) ⟨2, 0, 0, 51⟩ 0 0 s_X8_claim := by
  intro hl
  exact eg_met_of (k := k_X8_claim) (by decide) rfl ⟨Nat.le_refl _, Nat.le_refl _⟩ rfl sz_X8_claim de_X8_claim (fun meth hn => (fc (eg_FL_of wd_c8 (by decide) lf_RX8_19 (fun h => absurd h (by decide))) (fn))) (fun A s H hE => (fc (List.mem_cons_of_mem _ ll_RX8_29) (fn))) (fun p e s m args below meth c Q A ad0 N0 S0 hK hEx hA => (fc (mt_J9_min_f86c9 S0 lm_RX8_35 (by decide) (by decide) (by decide)) (fc (mt_J9_max_f86c9 S0 lm_RX8_41 (by decide) (by decide) (by decide)) (fc (mt_V hl S0 hK hEx hA (me_X8_worth g) lm_RX8_31 li_X8_worth lx_X8_worth ln_RX8 lc_X8_worth ⟨rfl, by decide, by decide, by decide +kernel⟩ ⟨rfl, rfl⟩ ⟨by decide, by decide⟩ (ci := 8) rfl rfl sr_X8_worth (by decide)) (fn))))) (fun p e s m args below meth c Qc XC A ad0 N0 P S0 hK hEx hA hlk hout hPX => (fn)) (fun argv M Qp h => T_X8_claim h)

def k_X8_sleeps : eg_C := ([(0, .iconst 0, 1), (1, .istore_n 3, 1), (2, .iconst 0, 1), (3, .istore 4, 2), (5, .iload 4, 2), (7, .aload_n 0, 1), (8, .getfield 19, 3), (11, .arraylength, 1), (12, .if_icmp .ge 37, 3), (15, .aload_n 0, 1), (16, .getfield 19, 3), (19, .iload 4, 2), (21, .iaload, 1), (22, .iconst 1, 1), (23, .if_icmp .ne 20, 3), (26, .iconst 1, 1), (27, .istore_n 3, 1), (28, .aload_n 0, 1), (29, .iload 4, 2), (31, .aload_n 1, 1), (32, .aload_n 2, 1), (33, .invokevirtual 31, 3), (36, .lconst 0, 1), (37, .lcmp, 1), (38, .ifCond .eq 5, 3), (41, .iconst 1, 1), (42, .ireturn, 1), (43, .iinc 4 1, 3), (46, .goto (-41), 3), (49, .iload_n 3, 1), (50, .ifCond .ne 18, 3), (53, .aload_n 1, 1), (54, .bipush 7, 2), (56, .laload, 1), (57, .ldc2_w 44, 3), (60, .lcmp, 1), (61, .ifCond .le 7, 3), (64, .iconst 1, 1), (65, .goto 4, 3), (68, .iconst 0, 1), (69, .ireturn, 1)], [(19, 8, 3, false)], [(44, .long (lN 1080))], [(31, 3 + 1, 0, 0, s_X8_worth)], [], 2, 0, 0)
theorem mk_X8_sleeps : ∀ q ∈ k_X8_sleeps.2.2.2.1, eg_mono q.2.2.2.2 := (fc (mo_X8_worth) (fn))
set_option maxRecDepth 100000 in
theorem st_X8_sleeps_0 {Qp : eg_P} {M : eg_M} (q : Nat) (v : Nat) (s : Nat)
  (l0 : eg_T wd k_X8_sleeps Qp 5 0 0 [some (.ref q), some (.ref v), some (.ref s), some (.int (nI 0)), some (.int (nI 0))] [] M) :
  eg_T wd k_X8_sleeps Qp 0 0 0 [some (.ref q), some (.ref v), some (.ref s), none, none] [] M := by
  refine eg_T_run mk_X8_sleeps (cut := [5, 11, 19, 36]) 44 ?_
  show eg_T wd k_X8_sleeps Qp 5 0 0 [some (.ref q), some (.ref v), some (.ref s), some (.int (nI 0)), some (.int (nI 0))] [] M
  exact l0

set_option maxRecDepth 100000 in
theorem st_X8_sleeps_5 {Qp : eg_P} {M : eg_M} (q : Nat) (v : Nat) (s : Nat) (x3 : Int32) (x4 : Int32)
  (g0 : (eg_isO wd M q 8 = true))
  (l0 : eg_T wd k_X8_sleeps Qp 11 0 0 [some (.ref q), some (.ref v), some (.ref s), some (.int x3), some (.int x4)] [eg_rv (eg_ref (eg_sh wd M q) M q 3), .int x4] M) :
  eg_T wd k_X8_sleeps Qp 5 0 0 [some (.ref q), some (.ref v), some (.ref s), some (.int x3), some (.int x4)] [] M := by
  refine eg_T_run mk_X8_sleeps (cut := [5, 11, 19, 36]) 44 ?_
  refine eg_need_of (show eg_isO wd M q 8 = true from ?_) ?_
  · exact g0
  show eg_T wd k_X8_sleeps Qp 11 0 0 [some (.ref q), some (.ref v), some (.ref s), some (.int x3), some (.int x4)] [eg_rv (eg_ref (eg_sh wd M q) M q 3), .int x4] M
  exact l0

set_option maxRecDepth 100000 in
theorem st_X8_sleeps_11 {Qp : eg_P} {M : eg_M} (q : Nat) (v : Nat) (s : Nat) (x3 : Int32) (x4 : Int32) (s0 : Nat) (s1 : Int32)
  (g0 : ((Nat.ble 1 (eg_sh wd M s0).1 && Nat.ble (eg_sh wd M s0).1 7) = true))
  (g1 : ((nI (eg_len wd M s0)) ≤ s1) → (x3 = 0) → (eg_is wd M v 2 = true))
  (g2 : ((nI (eg_len wd M s0)) ≤ s1) → (x3 = 0) → (vp_in (nI 7) (eg_len wd M v)))
  (g3 : (¬ ((nI (eg_len wd M s0)) ≤ s1)) → (eg_isO wd M q 8 = true))
  (l0 : ((nI (eg_len wd M s0)) ≤ s1 ∧ (¬ x3 = 0 ∨ (eg_gl M v 7) ≤ (lN 1080))) → Qp (.inl (some (.int (nI 0)))) M)
  (l1 : ((nI (eg_len wd M s0)) ≤ s1 ∧ (x3 = 0 ∧ ¬ (eg_gl M v 7) ≤ (lN 1080))) → Qp (.inl (some (.int (nI 1)))) M)
  (l2 : (¬ (nI (eg_len wd M s0)) ≤ s1) → eg_T wd k_X8_sleeps Qp 19 0 0 [some (.ref q), some (.ref v), some (.ref s), some (.int x3), some (.int x4)] [eg_rv (eg_ref (eg_sh wd M q) M q 3)] M) :
  eg_T wd k_X8_sleeps Qp 11 0 0 [some (.ref q), some (.ref v), some (.ref s), some (.int x3), some (.int x4)] [.ref s0, .int s1] M := by
  refine eg_T_run mk_X8_sleeps (cut := [5, 11, 19, 36]) 44 ?_
  refine eg_need_of (show (Nat.ble 1 (eg_sh wd M s0).1 && Nat.ble (eg_sh wd M s0).1 7) = true from ?_) ?_
  · exact g0
  refine And.intro (fun (c1 : (nI (eg_len wd M s0)) ≤ s1) => ?_) (fun (c1 : ¬ (nI (eg_len wd M s0)) ≤ s1) => ?_)
  · skip
    refine And.intro (fun (c2 : x3 = 0) => ?_) (fun (c2 : ¬ x3 = 0) => ?_)
    · skip
      refine eg_need_of (show eg_is wd M v 2 = true from ?_) ?_
      · exact g1 c1 c2
      refine And.intro (show vp_in (nI 7) (eg_len wd M v) from ?_) ?_
      · exact g2 c1 c2
      refine And.intro (fun (c3 : (lg_cmp (eg_gl M v 7) (lN 1080)) ≤ 0) => ?_) (fun (c3 : ¬ (lg_cmp (eg_gl M v 7) (lN 1080)) ≤ 0) => ?_)
      · replace c3 := lgc_le.mp c3
        refine And.intro (fun _ => (show (nI 0) = 0 ∨ (nI 0) = 1 from ?_)) ?_
        · exact Or.inl rfl
        show Qp (.inl (some (.int (nI 0)))) M
        exact l0 ⟨c1, (Or.inr c3)⟩
      · replace c3 := mt lgc_le.mpr c3
        refine And.intro (fun _ => (show (nI 1) = 0 ∨ (nI 1) = 1 from ?_)) ?_
        · exact Or.inr rfl
        show Qp (.inl (some (.int (nI 1)))) M
        exact l1 ⟨c1, ⟨c2, c3⟩⟩
    · skip
      refine And.intro (fun _ => (show (nI 0) = 0 ∨ (nI 0) = 1 from ?_)) ?_
      · exact Or.inl rfl
      show Qp (.inl (some (.int (nI 0)))) M
      exact l0 ⟨c1, (Or.inl c2)⟩
  · skip
    refine eg_need_of (show eg_isO wd M q 8 = true from ?_) ?_
    · exact g3 c1
    show eg_T wd k_X8_sleeps Qp 19 0 0 [some (.ref q), some (.ref v), some (.ref s), some (.int x3), some (.int x4)] [eg_rv (eg_ref (eg_sh wd M q) M q 3)] M
    exact l2 c1

set_option maxRecDepth 100000 in
theorem st_X8_sleeps_19 {Qp : eg_P} {M : eg_M} (q : Nat) (v : Nat) (s : Nat) (x3 : Int32) (x4 : Int32) (s0 : Nat)
  (g0 : (eg_is wd M s0 1 = true))
  (g1 : (vp_in x4 (eg_len wd M s0)))
  (g2 : ((eg_gi M s0 x4.toNatClampNeg) = (nI 1)) → (eg_isO wd M q 8 = true ∧ v = 44 ∧ s = 45 ∧ ∃ i S, x4 = nI i ∧ k_seg M q i S ∧ k_ok 40 1 S 0))
  (l0 : ((eg_gi M s0 x4.toNatClampNeg) = (nI 1)) → ∀ (g_1 : Nat → Int64) (r_1 : Int64), (∀ S, k_seg M q x4.toNatClampNeg S → p_run (eg_gl M 44) S [] = [r_1]) → eg_T wd k_X8_sleeps Qp 36 0 0 [some (.ref q), some (.ref v), some (.ref s), some (.int (nI 1)), some (.int x4)] [.long r_1] (eg_rl M 45 g_1))
  (l1 : (¬ (eg_gi M s0 x4.toNatClampNeg) = (nI 1)) → eg_T wd k_X8_sleeps Qp 5 0 0 [some (.ref q), some (.ref v), some (.ref s), some (.int x3), some (.int (x4 + (nI 1)))] [] M) :
  eg_T wd k_X8_sleeps Qp 19 0 0 [some (.ref q), some (.ref v), some (.ref s), some (.int x3), some (.int x4)] [.ref s0] M := by
  refine eg_T_run mk_X8_sleeps (cut := [5, 11, 19, 36]) 44 ?_
  refine eg_need_of (show eg_is wd M s0 1 = true from ?_) ?_
  · exact g0
  refine And.intro (show vp_in x4 (eg_len wd M s0) from ?_) ?_
  · exact g1
  refine And.intro (fun (c1 : (eg_gi M s0 x4.toNatClampNeg) = (nI 1)) => ?_) (fun (c1 : ¬ (eg_gi M s0 x4.toNatClampNeg) = (nI 1)) => ?_)
  · skip
    refine And.intro (show (eg_isO wd M q 8 = true ∧ v = 44 ∧ s = 45 ∧ ∃ i S, x4 = nI i ∧ k_seg M q i S ∧ k_ok 40 1 S 0) from ?_) ?_
    · exact g2 c1
    intro g_1 r_1 ha_1
    show eg_T wd k_X8_sleeps Qp 36 0 0 [some (.ref q), some (.ref v), some (.ref s), some (.int (nI 1)), some (.int x4)] [.long r_1] (eg_rl M 45 g_1)
    exact l0 c1 g_1 r_1 ha_1
  · skip
    show eg_T wd k_X8_sleeps Qp 5 0 0 [some (.ref q), some (.ref v), some (.ref s), some (.int x3), some (.int (x4 + (nI 1)))] [] M
    exact l1 c1

set_option maxRecDepth 100000 in
theorem st_X8_sleeps_36 {Qp : eg_P} {M : eg_M} (q : Nat) (v : Nat) (s : Nat) (x3 : Int32) (x4 : Int32) (s0 : Int64)
  (l0 : (s0 = (lN 0)) → eg_T wd k_X8_sleeps Qp 5 0 0 [some (.ref q), some (.ref v), some (.ref s), some (.int x3), some (.int (x4 + (nI 1)))] [] M)
  (l1 : (¬ s0 = (lN 0)) → Qp (.inl (some (.int (nI 1)))) M) :
  eg_T wd k_X8_sleeps Qp 36 0 0 [some (.ref q), some (.ref v), some (.ref s), some (.int x3), some (.int x4)] [.long s0] M := by
  refine eg_T_run mk_X8_sleeps (cut := [5, 11, 19, 36]) 44 ?_
  refine And.intro (fun (c1 : (lg_cmp s0 (lN 0)) = 0) => ?_) (fun (c1 : ¬ (lg_cmp s0 (lN 0)) = 0) => ?_)
  · replace c1 := lgc_eq.mp c1
    show eg_T wd k_X8_sleeps Qp 5 0 0 [some (.ref q), some (.ref v), some (.ref s), some (.int x3), some (.int (x4 + (nI 1)))] [] M
    exact l0 c1
  · replace c1 := mt lgc_eq.mpr c1
    refine And.intro (fun _ => (show (nI 1) = 0 ∨ (nI 1) = 1 from ?_)) ?_
    · exact Or.inr rfl
    show Qp (.inl (some (.int (nI 1)))) M
    exact l1 c1

def s_X8_sleeps : eg_S := fun argv M Qp => match argv with
  | [.ref q, .ref v, .ref s] => (eg_isO wd M q 8 = true ∧ v = 44 ∧ s = 45 ∧ ∃ L, k_rt M q L) ∧ ∀ (g : Nat → Int64) (r : Bool), (∀ L, k_rt M q L → r = p_slpS (eg_gl M 44) L) → Qp (.inl (some (.int (b2i r)))) (eg_rl M 45 g)
  | _ => False
theorem mo_X8_sleeps : eg_mono s_X8_sleeps := by
  intro argv M Q Q' h
  unfold s_X8_sleeps
  split
  · exact fun z => ⟨z.1, fun g r y => h _ _ (z.2 g r y)⟩
  · exact id
theorem sz_X8_sleeps : ∀ argv M Qp, s_X8_sleeps argv M Qp → (eg_ls0 argv).length ≤ 5 := by
  intro argv M Qp h
  unfold s_X8_sleeps at h
  split at h
  · exact Nat.le_of_ble_eq_true rfl
  · exact h.elim
theorem sr_X8_sleeps : ∀ argv M Qp, s_X8_sleeps argv M Qp → ∃ p0 As, argv = .ref p0 :: As ∧ eg_isO wd M p0 8 = true := by
  intro argv M Qp h
  unfold s_X8_sleeps at h
  split at h
  · exact ⟨_, _, rfl, h.1.1⟩
  · exact h.elim
set_option maxRecDepth 100000 in
set_option maxHeartbeats 1000000 in
theorem T_X8_sleeps {argv : List Value} {M : eg_M} {Qp : eg_P} (h : s_X8_sleeps argv M Qp) : eg_T wd k_X8_sleeps Qp 0 0 0 (eg_lsN 5 argv) [] M := by
  unfold s_X8_sleeps at h
  split at h
  · rename_i q v s
    obtain ⟨hp, hq⟩ := h
    obtain ⟨hO, rfl, rfl, L, hR⟩ := hp
    have hR' := hR
    obtain ⟨a3, r3, i3, t3, l3, hl, hL⟩ := hR
    have hq2 : ∀ g r, r = p_slpS (eg_gl M 44) L → Qp (.inl (some (.int (b2i r)))) (eg_rl M 45 g) := fun g r h => hq g r (fun K hK => by rw [k_rt_inj hK hR']; exact h)
    have hsh : (Nat.ble 1 (eg_sh wd M a3).1 && Nat.ble (eg_sh wd M a3).1 7) = true := by rw [eg_is_out i3]; rfl
    have lp : ∀ i (x : Bool × (Nat → Int64)), i ≤ L.length → (x.1 = (L.take i).any (fun c => decide (c.1 = nI 1)) ∧ ∀ j (h : j < L.length), j < i → ¬ (L[j].1 = nI 1 ∧ ¬ p_v (eg_gl M 44) L[j].2 = lN 0)) → eg_T wd k_X8_sleeps Qp 5 0 0 [some (.ref q), some (.ref 44), some (.ref 45), some (.int (b2i x.1)), some (.int (nI i))] [] (eg_rl M 45 x.2) := by
      refine eg_for ?_
      intro i ⟨b, g⟩ hi ⟨hb, hI⟩ kk
      have hb : b = (L.take i).any (fun c => decide (c.1 = nI 1)) := hb
      refine st_X8_sleeps_5 _ _ _ _ _ hO ?_
      rw [show eg_ref (eg_sh wd (eg_rl M 45 g) q) (eg_rl M 45 g) q 3 = some a3 from r3]
      have st := st_X8_sleeps_11 (Qp := Qp) (M := eg_rl M 45 g) q 44 45 (b2i b) (nI i) a3 (nI i) hsh
      rw [show eg_len wd (eg_rl M 45 g) a3 = L.length from l3, n_le (by omega) (by omega)] at st
      have g7 : eg_gl (eg_rl M 45 g) 44 7 = eg_gl M 44 7 := rfl
      rw [g7] at st
      have hno : i = L.length → L.any (fun c => decide (c.1 = nI 1 ∧ ¬ p_v (eg_gl M 44) c.2 = lN 0)) = false := by
        intro e
        subst e
        rw [List.any_eq_false]
        intro x hx
        obtain ⟨j, hj, rfl⟩ := List.mem_iff_getElem.mp hx
        simp only [decide_eq_true_eq]
        exact hI j hj hj
      refine st (fun _ _ => rfl) (fun _ _ => (show vp_in (nI 7) 11 from vp_in_nI (by decide) (by decide))) (fun _ => hO) (fun z => ?_) (fun z => ?_) (fun z => ?_)
      · have e : i = L.length := by omega
        refine hq2 g false ?_
        rw [e, List.take_length] at hb
        rw [p_slpS, hno e, ← hb, Bool.false_or]
        rcases z.2 with z | z
        · rw [b2i_n0.mp z]; rfl
        · rw [decide_eq_false (fun y => y z), Bool.and_false]
      · have e : i = L.length := by omega
        refine hq2 g true ?_
        rw [e, List.take_length] at hb
        rw [p_slpS, hno e, ← hb, Bool.false_or, b2i_0.mp z.2.1, decide_eq_true z.2.2]
        rfl
      · have hlt : i < L.length := by omega
        rw [show eg_ref (eg_sh wd (eg_rl M 45 g) q) (eg_rl M 45 g) q 3 = some a3 from r3]
        have s2 := st_X8_sleeps_19 (Qp := Qp) (M := eg_rl M 45 g) q 44 45 (b2i b) (nI i) a3 i3
        rw [n_c (by omega), show eg_gi (eg_rl M 45 g) a3 i = L[i].1 from (hL i hlt).1] at s2
        have nx : ∀ (b' : Bool) (g' : Nat → Int64), b' = (b || decide (L[i].1 = nI 1)) → ¬ (L[i].1 = nI 1 ∧ ¬ p_v (eg_gl M 44) L[i].2 = lN 0) → eg_T wd k_X8_sleeps Qp 5 0 0 [some (.ref q), some (.ref 44), some (.ref 45), some (.int (b2i b')), some (.int (nI i + nI 1))] [] (eg_rl M 45 g') := by
          intro b' g' e1 e2
          rw [n_s]
          refine kk (b', g') hlt ⟨?_, fun j hj hji => ?_⟩
          · show b' = _
            rw [List.take_succ_eq_append_getElem hlt, List.any_append, e1, hb]
            simp only [List.any_cons, List.any_nil, Bool.or_false]
          · rcases Nat.lt_or_ge j i with w | w
            · exact hI j hj w
            · have : j = i := by omega
              subst this
              exact e2
        refine s2 ?_ (fun _ => ⟨hO, rfl, rfl, i, L[i].2, rfl, (hL i hlt).2.1, (hL i hlt).2.2⟩) (fun z0 g' r' hr' => ?_) (fun z0 => ?_)
        · exact vp_in_nI (show i < eg_len wd M a3 by omega) (show eg_len wd M a3 < 2 ^ 31 by omega)
        · have hr : p_run (eg_gl M 44) L[i].2 [] = [r'] := hr' L[i].2 (hL i hlt).2.1
          have hv : p_v (eg_gl M 44) L[i].2 = r' := by unfold p_v; rw [hr]; rfl
          rw [rl_rl]
          refine st_X8_sleeps_36 _ _ _ _ _ _ (fun y => ?_) (fun y => ?_)
          · exact nx true g' (by rw [decide_eq_true z0, Bool.or_true]) (fun w => w.2 (hv.trans y))
          · refine hq2 g' true ?_
            rw [p_slpS]
            have : L.any (fun c => decide (c.1 = nI 1 ∧ ¬ p_v (eg_gl M 44) c.2 = lN 0)) = true := by
              rw [List.any_eq_true]
              exact ⟨L[i], List.getElem_mem hlt, decide_eq_true ⟨z0, fun w => y (hv.symm.trans w)⟩⟩
            rw [this, Bool.true_or]
        · exact nx b g (by rw [decide_eq_false z0, Bool.or_false]) (fun w => z0 w.1)
    have := lp 0 (false, eg_gl M 45) (Nat.zero_le _) ⟨rfl, fun j _ h => absurd h (Nat.not_lt_zero _)⟩
    rw [rl_id] at this
    exact st_X8_sleeps_0 _ _ _ this
    
  · exact h.elim
theorem de_X8_sleeps : ∀ q ∈ k_X8_sleeps.1, decode cX8_sleeps q.1 = .ok q.2 := by decide +kernel
theorem me_X8_sleeps (g : gl_T) : MT g yX8_sleeps cX8_sleeps 5 (some .boolean) ⟨2, 0, 0, 51⟩ 0 0 s_X8_sleeps := by
  intro hl
  exact eg_met_of (k := k_X8_sleeps) (by decide) rfl ⟨Nat.le_refl _, Nat.le_refl _⟩ rfl sz_X8_sleeps de_X8_sleeps (fun meth hn => (fc (eg_FL_of wd_c8 (by decide) lf_RX8_19 (fun h => absurd h (by decide))) (fn))) (fun A s H hE => (fc (List.mem_cons_of_mem _ ll_RX8_44) (fn))) (fun p e s m args below meth c Q A ad0 N0 S0 hK hEx hA => (fc (mt_V hl S0 hK hEx hA (me_X8_worth g) lm_RX8_31 li_X8_worth lx_X8_worth ln_RX8 lc_X8_worth ⟨rfl, by decide, by decide, by decide +kernel⟩ ⟨rfl, rfl⟩ ⟨by decide, by decide⟩ (ci := 8) rfl rfl sr_X8_worth (by decide)) (fn))) (fun p e s m args below meth c Qc XC A ad0 N0 P S0 hK hEx hA hlk hout hPX => (fn)) (fun argv M Qp h => T_X8_sleeps h)

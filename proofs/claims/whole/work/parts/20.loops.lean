/-- the model: two values joined -/
def m_two (c : Int32) (x y : Int64) : Int64 :=
  if c.toInt = 1 then x + y else if c.toInt = 2 then x - y else if c.toInt = 3 then x * y else
  if c.toInt = 4 then (if y = lN 0 then lN 0 else x / y) else
  if c.toInt = 5 then (if y ≤ x then lN 0 else lN 1) else
  if c.toInt = 6 then (if x = y then lN 1 else lN 0) else
  if c.toInt = 7 then (if x = lN 0 ∨ y = lN 0 then lN 0 else lN 1) else
  (if x = lN 0 ∧ y = lN 0 then lN 0 else lN 1)
/-- the class: two values joined by a step of a rule -/
def p_op (s : Int32) (x y : Int64) : Int64 :=
  if s.toInt = -6 then x + y else if s.toInt = -7 then x - y else if s.toInt = -8 then x * y else
  if s.toInt = -9 then (if y = lN 0 then lN 0 else x / y) else
  if s.toInt = -4 then (if y ≤ x then lN 0 else lN 1) else
  if s.toInt = -5 then (if x = y then lN 1 else lN 0) else
  if s.toInt = -2 then (if x = lN 0 ∨ y = lN 0 then lN 0 else lN 1) else
  if s.toInt = -1 then (if x = lN 0 ∧ y = lN 0 then lN 0 else lN 1) else
  (if y = lN 0 then x else lN 0)
def k_X12_two : eg_C := ([(0, .iload_n 0, 1), (1, .tableswitch 111 1 7 #[43, 47, 51, 55, 69, 81, 93], 43), (44, .lload_n 1, 1), (45, .lload_n 3, 1), (46, .ladd, 1), (47, .lreturn, 1), (48, .lload_n 1, 1), (49, .lload_n 3, 1), (50, .lsub, 1), (51, .lreturn, 1), (52, .lload_n 1, 1), (53, .lload_n 3, 1), (54, .lmul, 1), (55, .lreturn, 1), (56, .lload_n 3, 1), (57, .lconst 0, 1), (58, .lcmp, 1), (59, .ifCond .ne 7, 3), (62, .lconst 0, 1), (63, .goto 6, 3), (66, .lload_n 1, 1), (67, .lload_n 3, 1), (68, .ldiv, 1), (69, .lreturn, 1), (70, .lload_n 1, 1), (71, .lload_n 3, 1), (72, .lcmp, 1), (73, .ifCond .ge 7, 3), (76, .lconst 1, 1), (77, .goto 4, 3), (80, .lconst 0, 1), (81, .lreturn, 1), (82, .lload_n 1, 1), (83, .lload_n 3, 1), (84, .lcmp, 1), (85, .ifCond .ne 7, 3), (88, .lconst 1, 1), (89, .goto 4, 3), (92, .lconst 0, 1), (93, .lreturn, 1), (94, .lload_n 1, 1), (95, .lconst 0, 1), (96, .lcmp, 1), (97, .ifCond .eq 13, 3), (100, .lload_n 3, 1), (101, .lconst 0, 1), (102, .lcmp, 1), (103, .ifCond .eq 7, 3), (106, .lconst 1, 1), (107, .goto 4, 3), (110, .lconst 0, 1), (111, .lreturn, 1), (112, .lload_n 1, 1), (113, .lconst 0, 1), (114, .lcmp, 1), (115, .ifCond .ne 9, 3), (118, .lload_n 3, 1), (119, .lconst 0, 1), (120, .lcmp, 1), (121, .ifCond .eq 7, 3), (124, .lconst 1, 1), (125, .goto 4, 3), (128, .lconst 0, 1), (129, .lreturn, 1)], [], [], [], [], 3, 0, 0)
theorem mk_X12_two : ∀ q ∈ k_X12_two.2.2.2.1, eg_mono q.2.2.2.2 := (fn)
set_option maxRecDepth 100000 in
theorem st_X12_two_0 {Qp : eg_P} {M : eg_M} (c : Int32) (x : Int64) (y : Int64)
  (g0 : (c.toInt = 4) → (¬ (y = (lN 0))) → (¬ y = 0))
  (l0 : (((c.toInt < 1 ∨ 7 < c.toInt) ∧ (x = (lN 0) ∧ y = (lN 0))) ∨ (¬ (c.toInt < 1 ∨ 7 < c.toInt) ∧ (¬ c.toInt = 1 ∧ (¬ c.toInt = 2 ∧ (¬ c.toInt = 3 ∧ ((c.toInt = 4 ∧ y = (lN 0)) ∨ (¬ c.toInt = 4 ∧ ((c.toInt = 5 ∧ y ≤ x) ∨ (¬ c.toInt = 5 ∧ ((c.toInt = 6 ∧ ¬ x = y) ∨ (¬ c.toInt = 6 ∧ (x = (lN 0) ∨ y = (lN 0))))))))))))) → Qp (.inl (some (.long (lN 0)))) M)
  (l1 : (((c.toInt < 1 ∨ 7 < c.toInt) ∧ (¬ x = (lN 0) ∨ ¬ y = (lN 0))) ∨ (¬ (c.toInt < 1 ∨ 7 < c.toInt) ∧ (¬ c.toInt = 1 ∧ (¬ c.toInt = 2 ∧ (¬ c.toInt = 3 ∧ (¬ c.toInt = 4 ∧ ((c.toInt = 5 ∧ ¬ y ≤ x) ∨ (¬ c.toInt = 5 ∧ ((c.toInt = 6 ∧ x = y) ∨ (¬ c.toInt = 6 ∧ (¬ x = (lN 0) ∧ ¬ y = (lN 0)))))))))))) → Qp (.inl (some (.long (lN 1)))) M)
  (l2 : (¬ (c.toInt < 1 ∨ 7 < c.toInt) ∧ c.toInt = 1) → Qp (.inl (some (.long (x + y)))) M)
  (l3 : (¬ (c.toInt < 1 ∨ 7 < c.toInt) ∧ (¬ c.toInt = 1 ∧ c.toInt = 2)) → Qp (.inl (some (.long (x - y)))) M)
  (l4 : (¬ (c.toInt < 1 ∨ 7 < c.toInt) ∧ (¬ c.toInt = 1 ∧ (¬ c.toInt = 2 ∧ c.toInt = 3))) → Qp (.inl (some (.long (x * y)))) M)
  (l5 : (¬ (c.toInt < 1 ∨ 7 < c.toInt) ∧ (¬ c.toInt = 1 ∧ (¬ c.toInt = 2 ∧ (¬ c.toInt = 3 ∧ (c.toInt = 4 ∧ ¬ y = (lN 0)))))) → Qp (.inl (some (.long (x / y)))) M) :
  eg_T wd k_X12_two Qp 0 0 0 [some (.int c), some (.long x), none, some (.long y), none] [] M := by
  refine eg_T_run mk_X12_two (cut := []) 67 ?_
  refine And.intro (fun (c1 : c.toInt < 1 ∨ 7 < c.toInt) => ?_) ?_
  · skip
    refine And.intro (fun (c2 : (lg_cmp x (lN 0)) = 0) => ?_) (fun (c2 : ¬ (lg_cmp x (lN 0)) = 0) => ?_)
    · replace c2 := lgc_eq.mp c2
      refine And.intro (fun (c3 : (lg_cmp y (lN 0)) = 0) => ?_) (fun (c3 : ¬ (lg_cmp y (lN 0)) = 0) => ?_)
      · replace c3 := lgc_eq.mp c3
        show Qp (.inl (some (.long (lN 0)))) M
        exact l0 (Or.inl ⟨c1, ⟨c2, c3⟩⟩)
      · replace c3 := mt lgc_eq.mpr c3
        show Qp (.inl (some (.long (lN 1)))) M
        exact l1 (Or.inl ⟨c1, (Or.inr c3)⟩)
    · replace c2 := mt lgc_eq.mpr c2
      show Qp (.inl (some (.long (lN 1)))) M
      exact l1 (Or.inl ⟨c1, (Or.inl c2)⟩)
  refine And.intro (fun (c4 : c.toInt = 1) => ?_) ?_
  · skip
    show Qp (.inl (some (.long (x + y)))) M
    exact l2 (by clear g0 l0 l1 l2 l3 l4 l5; grind)
  refine And.intro (fun (c5 : c.toInt = 2) => ?_) ?_
  · skip
    show Qp (.inl (some (.long (x - y)))) M
    exact l3 (by clear g0 l0 l1 l2 l3 l4 l5; grind)
  refine And.intro (fun (c6 : c.toInt = 3) => ?_) ?_
  · skip
    show Qp (.inl (some (.long (x * y)))) M
    exact l4 (by clear g0 l0 l1 l2 l3 l4 l5; grind)
  refine And.intro (fun (c7 : c.toInt = 4) => ?_) ?_
  · skip
    refine And.intro (fun (c8 : (lg_cmp y (lN 0)) = 0) => ?_) (fun (c8 : ¬ (lg_cmp y (lN 0)) = 0) => ?_)
    · replace c8 := lgc_eq.mp c8
      show Qp (.inl (some (.long (lN 0)))) M
      exact l0 (by clear g0 l0 l1 l2 l3 l4 l5; grind)
    · replace c8 := mt lgc_eq.mpr c8
      refine And.intro (show ¬ y = 0 from ?_) ?_
      · exact g0 c7 c8
      show Qp (.inl (some (.long (x / y)))) M
      exact l5 (by clear g0 l0 l1 l2 l3 l4 l5; grind)
  refine And.intro (fun (c9 : c.toInt = 5) => ?_) ?_
  · skip
    refine And.intro (fun (c10 : 0 ≤ (lg_cmp x y)) => ?_) (fun (c10 : ¬ 0 ≤ (lg_cmp x y)) => ?_)
    · replace c10 := lgc_ge.mp c10
      show Qp (.inl (some (.long (lN 0)))) M
      exact l0 (by clear g0 l0 l1 l2 l3 l4 l5; grind)
    · replace c10 := mt lgc_ge.mpr c10
      show Qp (.inl (some (.long (lN 1)))) M
      exact l1 (by clear g0 l0 l1 l2 l3 l4 l5; grind)
  refine And.intro (fun (c11 : c.toInt = 6) => ?_) ?_
  · skip
    refine And.intro (fun (c12 : (lg_cmp x y) = 0) => ?_) (fun (c12 : ¬ (lg_cmp x y) = 0) => ?_)
    · replace c12 := lgc_eq.mp c12
      show Qp (.inl (some (.long (lN 1)))) M
      exact l1 (by clear g0 l0 l1 l2 l3 l4 l5; grind)
    · replace c12 := mt lgc_eq.mpr c12
      show Qp (.inl (some (.long (lN 0)))) M
      exact l0 (by clear g0 l0 l1 l2 l3 l4 l5; grind)
  refine And.intro (fun (c13 : c.toInt = 7) => ?_) ?_
  · skip
    refine And.intro (fun (c14 : (lg_cmp x (lN 0)) = 0) => ?_) (fun (c14 : ¬ (lg_cmp x (lN 0)) = 0) => ?_)
    · replace c14 := lgc_eq.mp c14
      show Qp (.inl (some (.long (lN 0)))) M
      exact l0 (by clear g0 l0 l1 l2 l3 l4 l5; grind)
    · replace c14 := mt lgc_eq.mpr c14
      refine And.intro (fun (c15 : (lg_cmp y (lN 0)) = 0) => ?_) (fun (c15 : ¬ (lg_cmp y (lN 0)) = 0) => ?_)
      · replace c15 := lgc_eq.mp c15
        show Qp (.inl (some (.long (lN 0)))) M
        exact l0 (by clear g0 l0 l1 l2 l3 l4 l5; grind)
      · replace c15 := mt lgc_eq.mpr c15
        show Qp (.inl (some (.long (lN 1)))) M
        exact l1 (by clear g0 l0 l1 l2 l3 l4 l5; grind)
  exact trivial

def s_X12_two : eg_S := fun argv M Qp => match argv with
  | [.int c, .long x, .long y] => (True) ∧ Qp (.inl (some (.long (m_two c x y)))) M
  | _ => False
theorem mo_X12_two : eg_mono s_X12_two := by
  intro argv M Q Q' h
  unfold s_X12_two
  split
  · exact fun z => ⟨z.1, h _ _ z.2⟩
  · exact id
theorem sz_X12_two : ∀ argv M Qp, s_X12_two argv M Qp → (eg_ls0 argv).length ≤ 5 := by
  intro argv M Qp h
  unfold s_X12_two at h
  split at h
  · exact Nat.le_of_ble_eq_true rfl
  · exact h.elim
set_option maxRecDepth 100000 in
set_option maxHeartbeats 4000000 in
theorem T_X12_two {argv : List Value} {M : eg_M} {Qp : eg_P} (h : s_X12_two argv M Qp) : eg_T wd k_X12_two Qp 0 0 0 (eg_lsN 5 argv) [] M := by
  unfold s_X12_two at h
  split at h
  · rename_i c x y
    obtain ⟨hp, hq⟩ := h
    refine st_X12_two_0 _ _ _ (fun _ z h => z h) (fun z => ?_) (fun z => ?_) (fun z => ?_) (fun z => ?_) (fun z => ?_) (fun z => ?_)
    · rw [show m_two c x y = lN 0 by unfold m_two; grind] at hq
      exact hq
    · rw [show m_two c x y = lN 1 by unfold m_two; grind] at hq
      exact hq
    · rw [show m_two c x y = x + y by unfold m_two; grind] at hq
      exact hq
    · rw [show m_two c x y = x - y by unfold m_two; grind] at hq
      exact hq
    · rw [show m_two c x y = x * y by unfold m_two; grind] at hq
      exact hq
    · rw [show m_two c x y = x / y by unfold m_two; grind] at hq
      exact hq
  · exact h.elim
theorem de_X12_two : ∀ q ∈ k_X12_two.1, decode cX12_two q.1 = .ok q.2 := by decide +kernel
theorem me_X12_two (g : gl_T) : MT g yX12_two cX12_two 5 (some .long) ⟨0, 0, 0, 0⟩ 0 0 s_X12_two := by
  intro hl
  exact eg_met_of (k := k_X12_two) (by decide) rfl ⟨Nat.le_refl _, Nat.le_refl _⟩ rfl sz_X12_two de_X12_two (fun meth hn => (fn)) (fun A s H hE => (fn)) (fun p e s m args below meth c Q A ad0 N0 S0 hK hEx hA => (fn)) (fun p e s m args below meth c Qc XC A ad0 N0 P S0 hK hEx hA hlk hout hPX => (fn)) (fun argv M Qp h => T_X12_two h)

def k_X8_joined : eg_C := ([(0, .iload_n 0, 1), (1, .tableswitch 137 (-9) (-1) #[123, 119, 115, 111, 99, 87, 137, 69, 51], 51), (52, .lload_n 1, 1), (53, .lconst 0, 1), (54, .lcmp, 1), (55, .ifCond .ne 9, 3), (58, .lload_n 3, 1), (59, .lconst 0, 1), (60, .lcmp, 1), (61, .ifCond .eq 7, 3), (64, .lconst 1, 1), (65, .goto 4, 3), (68, .lconst 0, 1), (69, .lreturn, 1), (70, .lload_n 1, 1), (71, .lconst 0, 1), (72, .lcmp, 1), (73, .ifCond .eq 13, 3), (76, .lload_n 3, 1), (77, .lconst 0, 1), (78, .lcmp, 1), (79, .ifCond .eq 7, 3), (82, .lconst 1, 1), (83, .goto 4, 3), (86, .lconst 0, 1), (87, .lreturn, 1), (88, .lload_n 1, 1), (89, .lload_n 3, 1), (90, .lcmp, 1), (91, .ifCond .ge 7, 3), (94, .lconst 1, 1), (95, .goto 4, 3), (98, .lconst 0, 1), (99, .lreturn, 1), (100, .lload_n 1, 1), (101, .lload_n 3, 1), (102, .lcmp, 1), (103, .ifCond .ne 7, 3), (106, .lconst 1, 1), (107, .goto 4, 3), (110, .lconst 0, 1), (111, .lreturn, 1), (112, .lload_n 1, 1), (113, .lload_n 3, 1), (114, .ladd, 1), (115, .lreturn, 1), (116, .lload_n 1, 1), (117, .lload_n 3, 1), (118, .lsub, 1), (119, .lreturn, 1), (120, .lload_n 1, 1), (121, .lload_n 3, 1), (122, .lmul, 1), (123, .lreturn, 1), (124, .lload_n 3, 1), (125, .lconst 0, 1), (126, .lcmp, 1), (127, .ifCond .ne 7, 3), (130, .lconst 0, 1), (131, .goto 6, 3), (134, .lload_n 1, 1), (135, .lload_n 3, 1), (136, .ldiv, 1), (137, .lreturn, 1), (138, .lload_n 3, 1), (139, .lconst 0, 1), (140, .lcmp, 1), (141, .ifCond .eq 7, 3), (144, .lconst 0, 1), (145, .goto 4, 3), (148, .lload_n 1, 1), (149, .lreturn, 1)], [], [], [], [], 3, 0, 0)
theorem mk_X8_joined : ∀ q ∈ k_X8_joined.2.2.2.1, eg_mono q.2.2.2.2 := (fn)
set_option maxRecDepth 100000 in
theorem st_X8_joined_0 {Qp : eg_P} {M : eg_M} (s : Int32) (x : Int64) (y : Int64)
  (g0 : (s.toInt = -9) → (¬ (y = (lN 0))) → (¬ y = 0))
  (l0 : (((s.toInt < -9 ∨ -1 < s.toInt) ∧ y = (lN 0)) ∨ (¬ (s.toInt < -9 ∨ -1 < s.toInt) ∧ (¬ s.toInt = -9 ∧ (¬ s.toInt = -8 ∧ (¬ s.toInt = -7 ∧ (¬ s.toInt = -6 ∧ (¬ s.toInt = -5 ∧ (¬ s.toInt = -4 ∧ (s.toInt = -3 ∧ y = (lN 0)))))))))) → Qp (.inl (some (.long x))) M)
  (l1 : (((s.toInt < -9 ∨ -1 < s.toInt) ∧ ¬ y = (lN 0)) ∨ (¬ (s.toInt < -9 ∨ -1 < s.toInt) ∧ ((s.toInt = -9 ∧ y = (lN 0)) ∨ (¬ s.toInt = -9 ∧ (¬ s.toInt = -8 ∧ (¬ s.toInt = -7 ∧ (¬ s.toInt = -6 ∧ ((s.toInt = -5 ∧ ¬ x = y) ∨ (¬ s.toInt = -5 ∧ ((s.toInt = -4 ∧ y ≤ x) ∨ (¬ s.toInt = -4 ∧ ((s.toInt = -3 ∧ ¬ y = (lN 0)) ∨ (¬ s.toInt = -3 ∧ ((s.toInt = -2 ∧ (x = (lN 0) ∨ y = (lN 0))) ∨ (¬ s.toInt = -2 ∧ (x = (lN 0) ∧ y = (lN 0))))))))))))))))) → Qp (.inl (some (.long (lN 0)))) M)
  (l2 : (¬ (s.toInt < -9 ∨ -1 < s.toInt) ∧ (s.toInt = -9 ∧ ¬ y = (lN 0))) → Qp (.inl (some (.long (x / y)))) M)
  (l3 : (¬ (s.toInt < -9 ∨ -1 < s.toInt) ∧ (¬ s.toInt = -9 ∧ s.toInt = -8)) → Qp (.inl (some (.long (x * y)))) M)
  (l4 : (¬ (s.toInt < -9 ∨ -1 < s.toInt) ∧ (¬ s.toInt = -9 ∧ (¬ s.toInt = -8 ∧ s.toInt = -7))) → Qp (.inl (some (.long (x - y)))) M)
  (l5 : (¬ (s.toInt < -9 ∨ -1 < s.toInt) ∧ (¬ s.toInt = -9 ∧ (¬ s.toInt = -8 ∧ (¬ s.toInt = -7 ∧ s.toInt = -6)))) → Qp (.inl (some (.long (x + y)))) M)
  (l6 : (¬ (s.toInt < -9 ∨ -1 < s.toInt) ∧ (¬ s.toInt = -9 ∧ (¬ s.toInt = -8 ∧ (¬ s.toInt = -7 ∧ (¬ s.toInt = -6 ∧ ((s.toInt = -5 ∧ x = y) ∨ (¬ s.toInt = -5 ∧ ((s.toInt = -4 ∧ ¬ y ≤ x) ∨ (¬ s.toInt = -4 ∧ (¬ s.toInt = -3 ∧ ((s.toInt = -2 ∧ (¬ x = (lN 0) ∧ ¬ y = (lN 0))) ∨ (¬ s.toInt = -2 ∧ (¬ x = (lN 0) ∨ ¬ y = (lN 0)))))))))))))) → Qp (.inl (some (.long (lN 1)))) M) :
  eg_T wd k_X8_joined Qp 0 0 0 [some (.int s), some (.long x), none, some (.long y), none] [] M := by
  refine eg_T_run mk_X8_joined (cut := []) 75 ?_
  refine And.intro (fun (c1 : s.toInt < -9 ∨ -1 < s.toInt) => ?_) ?_
  · skip
    refine And.intro (fun (c2 : (lg_cmp y (lN 0)) = 0) => ?_) (fun (c2 : ¬ (lg_cmp y (lN 0)) = 0) => ?_)
    · replace c2 := lgc_eq.mp c2
      show Qp (.inl (some (.long x))) M
      exact l0 (Or.inl ⟨c1, c2⟩)
    · replace c2 := mt lgc_eq.mpr c2
      show Qp (.inl (some (.long (lN 0)))) M
      exact l1 (Or.inl ⟨c1, c2⟩)
  refine And.intro (fun (c3 : s.toInt = -9) => ?_) ?_
  · skip
    refine And.intro (fun (c4 : (lg_cmp y (lN 0)) = 0) => ?_) (fun (c4 : ¬ (lg_cmp y (lN 0)) = 0) => ?_)
    · replace c4 := lgc_eq.mp c4
      show Qp (.inl (some (.long (lN 0)))) M
      exact l1 (by clear g0 l0 l1 l2 l3 l4 l5 l6; grind)
    · replace c4 := mt lgc_eq.mpr c4
      refine And.intro (show ¬ y = 0 from ?_) ?_
      · exact g0 c3 c4
      show Qp (.inl (some (.long (x / y)))) M
      exact l2 (by clear g0 l0 l1 l2 l3 l4 l5 l6; grind)
  refine And.intro (fun (c5 : s.toInt = -8) => ?_) ?_
  · skip
    show Qp (.inl (some (.long (x * y)))) M
    exact l3 (by clear g0 l0 l1 l2 l3 l4 l5 l6; grind)
  refine And.intro (fun (c6 : s.toInt = -7) => ?_) ?_
  · skip
    show Qp (.inl (some (.long (x - y)))) M
    exact l4 (by clear g0 l0 l1 l2 l3 l4 l5 l6; grind)
  refine And.intro (fun (c7 : s.toInt = -6) => ?_) ?_
  · skip
    show Qp (.inl (some (.long (x + y)))) M
    exact l5 (by clear g0 l0 l1 l2 l3 l4 l5 l6; grind)
  refine And.intro (fun (c8 : s.toInt = -5) => ?_) ?_
  · skip
    refine And.intro (fun (c9 : (lg_cmp x y) = 0) => ?_) (fun (c9 : ¬ (lg_cmp x y) = 0) => ?_)
    · replace c9 := lgc_eq.mp c9
      show Qp (.inl (some (.long (lN 1)))) M
      exact l6 (by clear g0 l0 l1 l2 l3 l4 l5 l6; grind)
    · replace c9 := mt lgc_eq.mpr c9
      show Qp (.inl (some (.long (lN 0)))) M
      exact l1 (by clear g0 l0 l1 l2 l3 l4 l5 l6; grind)
  refine And.intro (fun (c10 : s.toInt = -4) => ?_) ?_
  · skip
    refine And.intro (fun (c11 : 0 ≤ (lg_cmp x y)) => ?_) (fun (c11 : ¬ 0 ≤ (lg_cmp x y)) => ?_)
    · replace c11 := lgc_ge.mp c11
      show Qp (.inl (some (.long (lN 0)))) M
      exact l1 (by clear g0 l0 l1 l2 l3 l4 l5 l6; grind)
    · replace c11 := mt lgc_ge.mpr c11
      show Qp (.inl (some (.long (lN 1)))) M
      exact l6 (by clear g0 l0 l1 l2 l3 l4 l5 l6; grind)
  refine And.intro (fun (c12 : s.toInt = -3) => ?_) ?_
  · skip
    refine And.intro (fun (c13 : (lg_cmp y (lN 0)) = 0) => ?_) (fun (c13 : ¬ (lg_cmp y (lN 0)) = 0) => ?_)
    · replace c13 := lgc_eq.mp c13
      show Qp (.inl (some (.long x))) M
      exact l0 (by clear g0 l0 l1 l2 l3 l4 l5 l6; grind)
    · replace c13 := mt lgc_eq.mpr c13
      show Qp (.inl (some (.long (lN 0)))) M
      exact l1 (by clear g0 l0 l1 l2 l3 l4 l5 l6; grind)
  refine And.intro (fun (c14 : s.toInt = -2) => ?_) ?_
  · skip
    refine And.intro (fun (c15 : (lg_cmp x (lN 0)) = 0) => ?_) (fun (c15 : ¬ (lg_cmp x (lN 0)) = 0) => ?_)
    · replace c15 := lgc_eq.mp c15
      show Qp (.inl (some (.long (lN 0)))) M
      exact l1 (by clear g0 l0 l1 l2 l3 l4 l5 l6; grind)
    · replace c15 := mt lgc_eq.mpr c15
      refine And.intro (fun (c16 : (lg_cmp y (lN 0)) = 0) => ?_) (fun (c16 : ¬ (lg_cmp y (lN 0)) = 0) => ?_)
      · replace c16 := lgc_eq.mp c16
        show Qp (.inl (some (.long (lN 0)))) M
        exact l1 (by clear g0 l0 l1 l2 l3 l4 l5 l6; grind)
      · replace c16 := mt lgc_eq.mpr c16
        show Qp (.inl (some (.long (lN 1)))) M
        exact l6 (by clear g0 l0 l1 l2 l3 l4 l5 l6; grind)
  refine And.intro (fun (c17 : s.toInt = -1) => ?_) ?_
  · skip
    refine And.intro (fun (c18 : (lg_cmp x (lN 0)) = 0) => ?_) (fun (c18 : ¬ (lg_cmp x (lN 0)) = 0) => ?_)
    · replace c18 := lgc_eq.mp c18
      refine And.intro (fun (c19 : (lg_cmp y (lN 0)) = 0) => ?_) (fun (c19 : ¬ (lg_cmp y (lN 0)) = 0) => ?_)
      · replace c19 := lgc_eq.mp c19
        show Qp (.inl (some (.long (lN 0)))) M
        exact l1 (by clear g0 l0 l1 l2 l3 l4 l5 l6; grind)
      · replace c19 := mt lgc_eq.mpr c19
        show Qp (.inl (some (.long (lN 1)))) M
        exact l6 (by clear g0 l0 l1 l2 l3 l4 l5 l6; grind)
    · replace c18 := mt lgc_eq.mpr c18
      show Qp (.inl (some (.long (lN 1)))) M
      exact l6 (by clear g0 l0 l1 l2 l3 l4 l5 l6; grind)
  exact trivial

def s_X8_joined : eg_S := fun argv M Qp => match argv with
  | [.int s, .long x, .long y] => (True) ∧ Qp (.inl (some (.long (p_op s x y)))) M
  | _ => False
theorem mo_X8_joined : eg_mono s_X8_joined := by
  intro argv M Q Q' h
  unfold s_X8_joined
  split
  · exact fun z => ⟨z.1, h _ _ z.2⟩
  · exact id
theorem sz_X8_joined : ∀ argv M Qp, s_X8_joined argv M Qp → (eg_ls0 argv).length ≤ 5 := by
  intro argv M Qp h
  unfold s_X8_joined at h
  split at h
  · exact Nat.le_of_ble_eq_true rfl
  · exact h.elim
set_option maxRecDepth 100000 in
set_option maxHeartbeats 4000000 in
theorem T_X8_joined {argv : List Value} {M : eg_M} {Qp : eg_P} (h : s_X8_joined argv M Qp) : eg_T wd k_X8_joined Qp 0 0 0 (eg_lsN 5 argv) [] M := by
  unfold s_X8_joined at h
  split at h
  · rename_i s x y
    obtain ⟨hp, hq⟩ := h
    refine st_X8_joined_0 _ _ _ (fun _ z h => z h) (fun z => ?_) (fun z => ?_) (fun z => ?_) (fun z => ?_) (fun z => ?_) (fun z => ?_) (fun z => ?_)
    · rw [show p_op s x y = x by unfold p_op; grind] at hq
      exact hq
    · rw [show p_op s x y = lN 0 by unfold p_op; grind] at hq
      exact hq
    · rw [show p_op s x y = x / y by unfold p_op; grind] at hq
      exact hq
    · rw [show p_op s x y = x * y by unfold p_op; grind] at hq
      exact hq
    · rw [show p_op s x y = x - y by unfold p_op; grind] at hq
      exact hq
    · rw [show p_op s x y = x + y by unfold p_op; grind] at hq
      exact hq
    · rw [show p_op s x y = lN 1 by unfold p_op; grind] at hq
      exact hq
    
  · exact h.elim
theorem de_X8_joined : ∀ q ∈ k_X8_joined.1, decode cX8_joined q.1 = .ok q.2 := by decide +kernel
theorem me_X8_joined (g : gl_T) : MT g yX8_joined cX8_joined 5 (some .long) ⟨0, 0, 0, 0⟩ 0 0 s_X8_joined := by
  intro hl
  exact eg_met_of (k := k_X8_joined) (by decide) rfl ⟨Nat.le_refl _, Nat.le_refl _⟩ rfl sz_X8_joined de_X8_joined (fun meth hn => (fn)) (fun A s H hE => (fn)) (fun p e s m args below meth c Q A ad0 N0 S0 hK hEx hA => (fn)) (fun p e s m args below meth c Qc XC A ad0 N0 P S0 hK hEx hA hlk hout hPX => (fn)) (fun argv M Qp h => T_X8_joined h)

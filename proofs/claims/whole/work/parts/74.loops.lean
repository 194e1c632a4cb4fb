/-- the class: the token from here on -/
def k_lx (M : eg_M) : px_T := lx (eg_gi M 26) (eg_gi M 25 1).toNatClampNeg (eg_gi M 25 4).toNatClampNeg
def k_ra (M : eg_M) (a b c : Int32) : eg_M := eg_si (eg_si (eg_si M 25 2 a) 25 3 b) 25 4 c
/-- the class: one token on -/
def k_ad (M : eg_M) : eg_M := if eg_gi M 25 5 = 0 then k_ra M (k_lx M).2.2 (nI (k_lx M).1) (nI (k_lx M).2.1) else M
theorem k_ra_g (M : eg_M) (a b c : Int32) (q j : Nat) : eg_gi (k_ra M a b c) q j = if q = 25 ∧ j = 4 then c else if q = 25 ∧ j = 3 then b else if q = 25 ∧ j = 2 then a else eg_gi M q j := by
  unfold k_ra
  rw [si_g, si_g, si_g]
theorem k_ra_1 (M : eg_M) (a b c x y : Int32) : eg_si (eg_si (eg_si (eg_si M 25 3 b) 25 4 x) 25 2 a) 25 4 c = k_ra M a b c := by
  refine eg_ext rfl (fun q j => ?_) rfl
  rw [k_ra_g, si_g, si_g, si_g, si_g]
  by_cases h : q = 25
  · subst h
    by_cases h4 : j = 4
    · simp [h4]
    · by_cases h3 : j = 3
      · simp [h3]
      · simp [h4, h3]
  · simp [h]
theorem k_ra_2 (M : eg_M) (a b c : Int32) : eg_si (eg_si (eg_si M 25 3 b) 25 4 c) 25 2 a = k_ra M a b c := by
  refine eg_ext rfl (fun q j => ?_) rfl
  rw [k_ra_g, si_g, si_g, si_g]
  by_cases h : q = 25
  · subst h
    by_cases h4 : j = 4
    · simp [h4]
    · by_cases h3 : j = 3
      · simp [h3]
      · simp [h4, h3]
  · simp [h]
theorem k_ra_4 (M : eg_M) (a b c d : Int32) : eg_si (k_ra M a b c) 25 4 d = k_ra M a b d := by
  unfold k_ra
  rw [si_si]
def k_X7_advance : eg_C := ([(0, .aload_n 0, 1), (1, .getfield 28, 3), (4, .ifCond .eq 4, 3), (7, .return_, 1), (8, .aload_n 0, 1), (9, .aload_n 0, 1), (10, .getfield 25, 3), (13, .putfield 22, 3), (16, .aload_n 0, 1), (17, .getfield 22, 3), (20, .aload_n 0, 1), (21, .getfield 15, 3), (24, .if_icmp .ge 44, 3), (27, .aload_n 0, 1), (28, .getfield 9, 3), (31, .aload_n 0, 1), (32, .getfield 22, 3), (35, .iaload, 1), (36, .bipush 32, 2), (38, .if_icmp .eq 17, 3), (41, .aload_n 0, 1), (42, .getfield 9, 3), (45, .aload_n 0, 1), (46, .getfield 22, 3), (49, .iaload, 1), (50, .bipush 10, 2), (52, .if_icmp .ne 16, 3), (55, .aload_n 0, 1), (56, .dup, 1), (57, .getfield 22, 3), (60, .iconst 1, 1), (61, .iadd, 1), (62, .putfield 22, 3), (65, .goto (-49), 3), (68, .aload_n 0, 1), (69, .aload_n 0, 1), (70, .getfield 22, 3), (73, .putfield 25, 3), (76, .aload_n 0, 1), (77, .getfield 22, 3), (80, .aload_n 0, 1), (81, .getfield 15, 3), (84, .if_icmp .lt 9, 3), (87, .aload_n 0, 1), (88, .iconst (-1), 1), (89, .putfield 19, 3), (92, .return_, 1), (93, .aload_n 0, 1), (94, .aload_n 0, 1), (95, .getfield 9, 3), (98, .aload_n 0, 1), (99, .getfield 22, 3), (102, .iaload, 1), (103, .invokestatic 133, 3), (106, .putfield 19, 3), (109, .aload_n 0, 1), (110, .dup, 1), (111, .getfield 25, 3), (114, .iconst 1, 1), (115, .iadd, 1), (116, .putfield 25, 3), (119, .aload_n 0, 1), (120, .getfield 19, 3), (123, .ifCond .ge 46, 3), (126, .aload_n 0, 1), (127, .getfield 25, 3), (130, .aload_n 0, 1), (131, .getfield 15, 3), (134, .if_icmp .ge 35, 3), (137, .aload_n 0, 1), (138, .getfield 9, 3), (141, .aload_n 0, 1), (142, .getfield 25, 3), (145, .iaload, 1), (146, .invokestatic 133, 3), (149, .aload_n 0, 1), (150, .getfield 19, 3), (153, .if_icmp .ne 16, 3), (156, .aload_n 0, 1), (157, .dup, 1), (158, .getfield 25, 3), (161, .iconst 1, 1), (162, .iadd, 1), (163, .putfield 25, 3), (166, .goto (-47), 3), (169, .return_, 1)], [(9, 7, 0, false), (15, 7, 1, false), (19, 7, 2, true), (22, 7, 3, true), (25, 7, 4, true), (28, 7, 5, false)], [], [(133 + 100000, 1, 0, 0, s_X7_kindOf)], [], 0, 0, 0)
theorem mk_X7_advance : ∀ q ∈ k_X7_advance.2.2.2.1, eg_mono q.2.2.2.2 := (fc (mo_X7_kindOf) (fn))
set_option maxRecDepth 100000 in
theorem st_X7_advance_0 {Qp : eg_P} {M : eg_M} 
  (l0 : ((eg_gi M 25 5) = 0) → eg_T wd k_X7_advance Qp 16 0 0 [some (.ref 25)] [] (eg_si M 25 3 (eg_gi M 25 4)))
  (l1 : (¬ (eg_gi M 25 5) = 0) → Qp (.inl none) M) :
  eg_T wd k_X7_advance Qp 0 0 0 [some (.ref 25)] [] M := by
  refine eg_T_run mk_X7_advance (cut := [16, 119]) 89 ?_
  refine And.intro (fun (c1 : (eg_gi M 25 5) = 0) => ?_) (fun (c1 : ¬ (eg_gi M 25 5) = 0) => ?_)
  · skip
    show eg_T wd k_X7_advance Qp 16 0 0 [some (.ref 25)] [] (eg_si M 25 3 (eg_gi M 25 4))
    exact l0 c1
  · skip
    show Qp (.inl none) M
    exact l1 c1

set_option maxRecDepth 100000 in
theorem st_X7_advance_16 {Qp : eg_P} {M : eg_M} 
  (g0 : ((((eg_gi M 25 1) ≤ (eg_gi M 25 3)) ∧ ((eg_gi M 25 3) < (eg_gi M 25 1))) ∨ ¬ ((eg_gi M 25 1) ≤ (eg_gi M 25 3))) → (vp_in (eg_gi M 25 3) 400))
  (l0 : (((eg_gi M 25 1) ≤ (eg_gi M 25 3) ∧ (eg_gi M 25 3) < (eg_gi M 25 1)) ∨ (¬ (eg_gi M 25 1) ≤ (eg_gi M 25 3) ∧ (¬ (eg_gi M 26 (eg_gi M 25 3).toNatClampNeg) = (nI 32) ∧ (¬ (eg_gi M 26 (eg_gi M 25 3).toNatClampNeg) = (nI 10) ∧ (eg_gi M 25 3) < (eg_gi M 25 1))))) → eg_T wd k_X7_advance Qp 119 0 0 [some (.ref 25)] [] (eg_si (eg_si (eg_si M 25 4 (eg_gi M 25 3)) 25 2 (if (eg_gi M 26 (eg_gi M 25 3).toNatClampNeg) < (nI 97) then (if (eg_gi M 26 (eg_gi M 25 3).toNatClampNeg) < (nI 48) then (eg_gi M 26 (eg_gi M 25 3).toNatClampNeg) else (if (nI 57) < (eg_gi M 26 (eg_gi M 25 3).toNatClampNeg) then (eg_gi M 26 (eg_gi M 25 3).toNatClampNeg) else (-nI 3))) else (if (nI 122) < (eg_gi M 26 (eg_gi M 25 3).toNatClampNeg) then (if (eg_gi M 26 (eg_gi M 25 3).toNatClampNeg) < (nI 48) then (eg_gi M 26 (eg_gi M 25 3).toNatClampNeg) else (if (nI 57) < (eg_gi M 26 (eg_gi M 25 3).toNatClampNeg) then (eg_gi M 26 (eg_gi M 25 3).toNatClampNeg) else (-nI 3))) else (-nI 2)))) 25 4 ((eg_gi M 25 3) + (nI 1))))
  (l1 : (((eg_gi M 25 1) ≤ (eg_gi M 25 3) ∧ ¬ (eg_gi M 25 3) < (eg_gi M 25 1)) ∨ (¬ (eg_gi M 25 1) ≤ (eg_gi M 25 3) ∧ (¬ (eg_gi M 26 (eg_gi M 25 3).toNatClampNeg) = (nI 32) ∧ (¬ (eg_gi M 26 (eg_gi M 25 3).toNatClampNeg) = (nI 10) ∧ ¬ (eg_gi M 25 3) < (eg_gi M 25 1))))) → Qp (.inl none) (eg_si (eg_si M 25 4 (eg_gi M 25 3)) 25 2 (-nI 1)))
  (l2 : (¬ (eg_gi M 25 1) ≤ (eg_gi M 25 3) ∧ ((eg_gi M 26 (eg_gi M 25 3).toNatClampNeg) = (nI 32) ∨ (eg_gi M 26 (eg_gi M 25 3).toNatClampNeg) = (nI 10))) → eg_T wd k_X7_advance Qp 16 0 0 [some (.ref 25)] [] (eg_si M 25 3 ((eg_gi M 25 3) + (nI 1)))) :
  eg_T wd k_X7_advance Qp 16 0 0 [some (.ref 25)] [] M := by
  refine eg_T_run mk_X7_advance (cut := [16, 119]) 89 ?_
  refine And.intro (fun (c1 : (eg_gi M 25 1) ≤ (eg_gi M 25 3)) => ?_) (fun (c1 : ¬ (eg_gi M 25 1) ≤ (eg_gi M 25 3)) => ?_)
  · skip
    refine And.intro (fun (c2 : (eg_gi M 25 3) < (eg_gi M 25 1)) => ?_) (fun (c2 : ¬ (eg_gi M 25 3) < (eg_gi M 25 1)) => ?_)
    · skip
      refine And.intro (show vp_in (eg_gi M 25 3) 400 from ?_) ?_
      · exact g0 (by clear g0 l0 l1 l2; grind)
      refine And.intro (show (True) from ?_) ?_
      · exact trivial
      show eg_T wd k_X7_advance Qp 119 0 0 [some (.ref 25)] [] (eg_si (eg_si (eg_si M 25 4 (eg_gi M 25 3)) 25 2 (if (eg_gi M 26 (eg_gi M 25 3).toNatClampNeg) < (nI 97) then (if (eg_gi M 26 (eg_gi M 25 3).toNatClampNeg) < (nI 48) then (eg_gi M 26 (eg_gi M 25 3).toNatClampNeg) else (if (nI 57) < (eg_gi M 26 (eg_gi M 25 3).toNatClampNeg) then (eg_gi M 26 (eg_gi M 25 3).toNatClampNeg) else (-nI 3))) else (if (nI 122) < (eg_gi M 26 (eg_gi M 25 3).toNatClampNeg) then (if (eg_gi M 26 (eg_gi M 25 3).toNatClampNeg) < (nI 48) then (eg_gi M 26 (eg_gi M 25 3).toNatClampNeg) else (if (nI 57) < (eg_gi M 26 (eg_gi M 25 3).toNatClampNeg) then (eg_gi M 26 (eg_gi M 25 3).toNatClampNeg) else (-nI 3))) else (-nI 2)))) 25 4 ((eg_gi M 25 3) + (nI 1)))
      exact l0 (Or.inl ⟨c1, c2⟩)
    · skip
      show Qp (.inl none) (eg_si (eg_si M 25 4 (eg_gi M 25 3)) 25 2 (-nI 1))
      exact l1 (Or.inl ⟨c1, c2⟩)
  · skip
    refine And.intro (show vp_in (eg_gi M 25 3) 400 from ?_) ?_
    · exact g0 (by clear g0 l0 l1 l2; grind)
    refine And.intro (fun (c3 : (eg_gi M 26 (eg_gi M 25 3).toNatClampNeg) = (nI 32)) => ?_) (fun (c3 : ¬ (eg_gi M 26 (eg_gi M 25 3).toNatClampNeg) = (nI 32)) => ?_)
    · skip
      show eg_T wd k_X7_advance Qp 16 0 0 [some (.ref 25)] [] (eg_si M 25 3 ((eg_gi M 25 3) + (nI 1)))
      exact l2 ⟨c1, (Or.inl c3)⟩
    · skip
      refine And.intro (show vp_in (eg_gi M 25 3) 400 from ?_) ?_
      · exact g0 (by clear g0 l0 l1 l2; grind)
      refine And.intro (fun (c4 : (eg_gi M 26 (eg_gi M 25 3).toNatClampNeg) = (nI 10)) => ?_) (fun (c4 : ¬ (eg_gi M 26 (eg_gi M 25 3).toNatClampNeg) = (nI 10)) => ?_)
      · skip
        show eg_T wd k_X7_advance Qp 16 0 0 [some (.ref 25)] [] (eg_si M 25 3 ((eg_gi M 25 3) + (nI 1)))
        exact l2 ⟨c1, (Or.inr c4)⟩
      · skip
        refine And.intro (fun (c5 : (eg_gi M 25 3) < (eg_gi M 25 1)) => ?_) (fun (c5 : ¬ (eg_gi M 25 3) < (eg_gi M 25 1)) => ?_)
        · skip
          refine And.intro (show vp_in (eg_gi M 25 3) 400 from ?_) ?_
          · exact g0 (by clear g0 l0 l1 l2; grind)
          refine And.intro (show (True) from ?_) ?_
          · exact trivial
          show eg_T wd k_X7_advance Qp 119 0 0 [some (.ref 25)] [] (eg_si (eg_si (eg_si M 25 4 (eg_gi M 25 3)) 25 2 (if (eg_gi M 26 (eg_gi M 25 3).toNatClampNeg) < (nI 97) then (if (eg_gi M 26 (eg_gi M 25 3).toNatClampNeg) < (nI 48) then (eg_gi M 26 (eg_gi M 25 3).toNatClampNeg) else (if (nI 57) < (eg_gi M 26 (eg_gi M 25 3).toNatClampNeg) then (eg_gi M 26 (eg_gi M 25 3).toNatClampNeg) else (-nI 3))) else (if (nI 122) < (eg_gi M 26 (eg_gi M 25 3).toNatClampNeg) then (if (eg_gi M 26 (eg_gi M 25 3).toNatClampNeg) < (nI 48) then (eg_gi M 26 (eg_gi M 25 3).toNatClampNeg) else (if (nI 57) < (eg_gi M 26 (eg_gi M 25 3).toNatClampNeg) then (eg_gi M 26 (eg_gi M 25 3).toNatClampNeg) else (-nI 3))) else (-nI 2)))) 25 4 ((eg_gi M 25 3) + (nI 1)))
          exact l0 (Or.inr ⟨c1, ⟨c3, ⟨c4, c5⟩⟩⟩)
        · skip
          show Qp (.inl none) (eg_si (eg_si M 25 4 (eg_gi M 25 3)) 25 2 (-nI 1))
          exact l1 (Or.inr ⟨c1, ⟨c3, ⟨c4, c5⟩⟩⟩)

set_option maxRecDepth 100000 in
theorem st_X7_advance_119 {Qp : eg_P} {M : eg_M} 
  (g0 : (¬ (0 ≤ (eg_gi M 25 2))) → (¬ ((eg_gi M 25 1) ≤ (eg_gi M 25 4))) → (vp_in (eg_gi M 25 4) 400))
  (l0 : (0 ≤ (eg_gi M 25 2) ∨ ((eg_gi M 25 1) ≤ (eg_gi M 25 4) ∨ ¬ (if (eg_gi M 26 (eg_gi M 25 4).toNatClampNeg) < (nI 97) then (if (eg_gi M 26 (eg_gi M 25 4).toNatClampNeg) < (nI 48) then (eg_gi M 26 (eg_gi M 25 4).toNatClampNeg) else (if (nI 57) < (eg_gi M 26 (eg_gi M 25 4).toNatClampNeg) then (eg_gi M 26 (eg_gi M 25 4).toNatClampNeg) else (-nI 3))) else (if (nI 122) < (eg_gi M 26 (eg_gi M 25 4).toNatClampNeg) then (if (eg_gi M 26 (eg_gi M 25 4).toNatClampNeg) < (nI 48) then (eg_gi M 26 (eg_gi M 25 4).toNatClampNeg) else (if (nI 57) < (eg_gi M 26 (eg_gi M 25 4).toNatClampNeg) then (eg_gi M 26 (eg_gi M 25 4).toNatClampNeg) else (-nI 3))) else (-nI 2))) = (eg_gi M 25 2))) → Qp (.inl none) M)
  (l1 : (¬ 0 ≤ (eg_gi M 25 2) ∧ (¬ (eg_gi M 25 1) ≤ (eg_gi M 25 4) ∧ (if (eg_gi M 26 (eg_gi M 25 4).toNatClampNeg) < (nI 97) then (if (eg_gi M 26 (eg_gi M 25 4).toNatClampNeg) < (nI 48) then (eg_gi M 26 (eg_gi M 25 4).toNatClampNeg) else (if (nI 57) < (eg_gi M 26 (eg_gi M 25 4).toNatClampNeg) then (eg_gi M 26 (eg_gi M 25 4).toNatClampNeg) else (-nI 3))) else (if (nI 122) < (eg_gi M 26 (eg_gi M 25 4).toNatClampNeg) then (if (eg_gi M 26 (eg_gi M 25 4).toNatClampNeg) < (nI 48) then (eg_gi M 26 (eg_gi M 25 4).toNatClampNeg) else (if (nI 57) < (eg_gi M 26 (eg_gi M 25 4).toNatClampNeg) then (eg_gi M 26 (eg_gi M 25 4).toNatClampNeg) else (-nI 3))) else (-nI 2))) = (eg_gi M 25 2))) → eg_T wd k_X7_advance Qp 119 0 0 [some (.ref 25)] [] (eg_si M 25 4 ((eg_gi M 25 4) + (nI 1)))) :
  eg_T wd k_X7_advance Qp 119 0 0 [some (.ref 25)] [] M := by
  refine eg_T_run mk_X7_advance (cut := [16, 119]) 89 ?_
  refine And.intro (fun (c1 : 0 ≤ (eg_gi M 25 2)) => ?_) (fun (c1 : ¬ 0 ≤ (eg_gi M 25 2)) => ?_)
  · skip
    show Qp (.inl none) M
    exact l0 (Or.inl c1)
  · skip
    refine And.intro (fun (c2 : (eg_gi M 25 1) ≤ (eg_gi M 25 4)) => ?_) (fun (c2 : ¬ (eg_gi M 25 1) ≤ (eg_gi M 25 4)) => ?_)
    · skip
      show Qp (.inl none) M
      exact l0 (Or.inr (Or.inl c2))
    · skip
      refine And.intro (show vp_in (eg_gi M 25 4) 400 from ?_) ?_
      · exact g0 c1 c2
      refine And.intro (show (True) from ?_) ?_
      · exact trivial
      refine And.intro (fun (c3 : (if (eg_gi M 26 (eg_gi M 25 4).toNatClampNeg) < (nI 97) then (if (eg_gi M 26 (eg_gi M 25 4).toNatClampNeg) < (nI 48) then (eg_gi M 26 (eg_gi M 25 4).toNatClampNeg) else (if (nI 57) < (eg_gi M 26 (eg_gi M 25 4).toNatClampNeg) then (eg_gi M 26 (eg_gi M 25 4).toNatClampNeg) else (-nI 3))) else (if (nI 122) < (eg_gi M 26 (eg_gi M 25 4).toNatClampNeg) then (if (eg_gi M 26 (eg_gi M 25 4).toNatClampNeg) < (nI 48) then (eg_gi M 26 (eg_gi M 25 4).toNatClampNeg) else (if (nI 57) < (eg_gi M 26 (eg_gi M 25 4).toNatClampNeg) then (eg_gi M 26 (eg_gi M 25 4).toNatClampNeg) else (-nI 3))) else (-nI 2))) = (eg_gi M 25 2)) => ?_) (fun (c3 : ¬ (if (eg_gi M 26 (eg_gi M 25 4).toNatClampNeg) < (nI 97) then (if (eg_gi M 26 (eg_gi M 25 4).toNatClampNeg) < (nI 48) then (eg_gi M 26 (eg_gi M 25 4).toNatClampNeg) else (if (nI 57) < (eg_gi M 26 (eg_gi M 25 4).toNatClampNeg) then (eg_gi M 26 (eg_gi M 25 4).toNatClampNeg) else (-nI 3))) else (if (nI 122) < (eg_gi M 26 (eg_gi M 25 4).toNatClampNeg) then (if (eg_gi M 26 (eg_gi M 25 4).toNatClampNeg) < (nI 48) then (eg_gi M 26 (eg_gi M 25 4).toNatClampNeg) else (if (nI 57) < (eg_gi M 26 (eg_gi M 25 4).toNatClampNeg) then (eg_gi M 26 (eg_gi M 25 4).toNatClampNeg) else (-nI 3))) else (-nI 2))) = (eg_gi M 25 2)) => ?_)
      · skip
        show eg_T wd k_X7_advance Qp 119 0 0 [some (.ref 25)] [] (eg_si M 25 4 ((eg_gi M 25 4) + (nI 1)))
        exact l1 ⟨c1, ⟨c2, c3⟩⟩
      · skip
        show Qp (.inl none) M
        exact l0 (Or.inr (Or.inr c3))

def s_X7_advance : eg_S := fun argv M Qp => match argv with
  | [.ref 25] => (eg_gi M 25 5 = 0 → ∃ p n, p ≤ n ∧ n ≤ 400 ∧ eg_gi M 25 4 = nI p ∧ eg_gi M 25 1 = nI n) ∧ Qp (.inl none) (k_ad M)
  | _ => False
theorem mo_X7_advance : eg_mono s_X7_advance := by
  intro argv M Q Q' h
  unfold s_X7_advance
  split
  · exact fun z => ⟨z.1, h _ _ z.2⟩
  · exact id
theorem sz_X7_advance : ∀ argv M Qp, s_X7_advance argv M Qp → (eg_ls0 argv).length ≤ 1 := by
  intro argv M Qp h
  unfold s_X7_advance at h
  split at h
  · exact Nat.le_of_ble_eq_true rfl
  · exact h.elim
theorem sr_X7_advance : ∀ argv M Qp, s_X7_advance argv M Qp → ∃ p0 As, argv = .ref p0 :: As ∧ eg_isO wd M p0 7 = true := by
  intro argv M Qp h
  unfold s_X7_advance at h
  split at h
  · exact ⟨_, _, rfl, rfl⟩
  · exact h.elim
set_option maxRecDepth 100000 in
set_option maxHeartbeats 1000000 in
theorem T_X7_advance {argv : List Value} {M : eg_M} {Qp : eg_P} (h : s_X7_advance argv M Qp) : eg_T wd k_X7_advance Qp 0 0 0 (eg_lsN 1 argv) [] M := by
  unfold s_X7_advance at h
  split at h
  · obtain ⟨hp, hq⟩ := h
    have s0 := st_X7_advance_0 (Qp := Qp) (M := M)
    by_cases hf : eg_gi M 25 5 = 0
    · obtain ⟨p, n, hpn, hn, eP, eN⟩ := hp hf
      unfold k_ad k_lx at hq
      rw [if_pos hf, eP, eN, n_c (by omega), n_c (by omega)] at hq
      -- the run of one kind
      have run : ∀ r q b k, n - q = r → b ≤ n → q ≤ n → k < 0 → Qp (.inl none) (k_ra M k (nI b) (nI (lx_e (eg_gi M 26) n k (n - q) q))) → eg_T wd k_X7_advance Qp 119 0 0 [some (.ref 25)] [] (k_ra M k (nI b) (nI q)) := by
        intro r
        induction r with
        | zero =>
          intro q b k hr hb hqn hk hQ
          have st := st_X7_advance_119 (Qp := Qp) (M := k_ra M k (nI b) (nI q))
          have r2 : eg_gi (k_ra M k (nI b) (nI q)) 25 2 = k := rfl
          have r4 : eg_gi (k_ra M k (nI b) (nI q)) 25 4 = nI q := rfl
          have r1 : eg_gi (k_ra M k (nI b) (nI q)) 25 1 = nI n := eN
          rw [r2, r4, r1, n_le (by omega) (by omega)] at st
          refine st (fun _ z => absurd (by omega) z) (fun _ => ?_) (fun z => absurd (by omega) z.2.1)
          rw [hr] at hQ
          exact hQ
        | succ r ih =>
          intro q b k hr hb hqn hk hQ
          have st := st_X7_advance_119 (Qp := Qp) (M := k_ra M k (nI b) (nI q))
          have r2 : eg_gi (k_ra M k (nI b) (nI q)) 25 2 = k := rfl
          have r4 : eg_gi (k_ra M k (nI b) (nI q)) 25 4 = nI q := rfl
          have r1 : eg_gi (k_ra M k (nI b) (nI q)) 25 1 = nI n := eN
          have r26 : ∀ j, eg_gi (k_ra M k (nI b) (nI q)) 26 j = eg_gi M 26 j := fun _ => rfl
          rw [r2, r4, r1, r26, n_le (by omega) (by omega), n_c (show q < 2 ^ 31 by omega), n_s, k_ra_4] at st
          rw [hr, lx_e] at hQ
          refine st (fun _ _ => (n_in (by omega) (by decide)).mpr (by omega)) (fun z => ?_) (fun z => ?_)
          · rw [if_neg] at hQ
            · exact hQ
            · rintro ⟨y1, y2⟩
              rcases z with z | z | z
              · exact absurd hk (Int32.not_lt.mpr z)
              · omega
              · exact z y2
          · rw [if_pos ⟨by omega, z.2.2⟩] at hQ
            refine ih (q + 1) b k (by omega) hb (by omega) hk ?_
            rw [show n - (q + 1) = r by omega]
            exact hQ
      have blk : ∀ r q, n - q = r → q ≤ n → lx_b (eg_gi M 26) n (n - q) q = lx_b (eg_gi M 26) n (n - p) p → eg_T wd k_X7_advance Qp 16 0 0 [some (.ref 25)] [] (eg_si M 25 3 (nI q)) := by
        intro r
        induction r with
        | zero =>
          intro q hr hqn he
          have st := st_X7_advance_16 (Qp := Qp) (M := eg_si M 25 3 (nI q))
          have r3 : eg_gi (eg_si M 25 3 (nI q)) 25 3 = nI q := rfl
          have r1 : eg_gi (eg_si M 25 3 (nI q)) 25 1 = nI n := eN
          rw [r3, r1, n_le (by omega) (by omega), n_lt (by omega) (by omega)] at st
          rw [hr, lx_b] at he
          unfold lx at hq
          rw [← he, if_pos (show n ≤ q by omega)] at hq
          refine st (fun z => absurd z (by omega)) (fun z => absurd z (by omega)) (fun _ => by rw [k_ra_2]; exact hq) (fun z => absurd z.1 (by omega))
        | succ r ih =>
          intro q hr hqn he
          have st := st_X7_advance_16 (Qp := Qp) (M := eg_si M 25 3 (nI q))
          have r3 : eg_gi (eg_si M 25 3 (nI q)) 25 3 = nI q := rfl
          have r1 : eg_gi (eg_si M 25 3 (nI q)) 25 1 = nI n := eN
          have r26 : ∀ j, eg_gi (eg_si M 25 3 (nI q)) 26 j = eg_gi M 26 j := fun _ => rfl
          rw [r3, r1, r26, n_c (show q < 2 ^ 31 by omega), n_le (by omega) (by omega), n_lt (by omega) (by omega), n_s, k_ra_1 M _ _ _ _ 0, si_si] at st
          rw [hr, lx_b] at he
          refine st (fun _ => (n_in (by omega) (by decide)).mpr (by omega)) (fun z => ?_) (fun z => ?_) (fun z => ?_)
          · have nb : ¬ (q < n ∧ (eg_gi M 26 q = nI 32 ∨ eg_gi M 26 q = nI 10)) := by
              rintro ⟨_, y | y⟩
              · rcases z with z | z
                · omega
                · exact z.2.1 y
              · rcases z with z | z
                · omega
                · exact z.2.2.1 y
            rw [if_neg nb] at he
            unfold lx at hq
            rw [← he, if_neg (show ¬ n ≤ q by omega)] at hq
            show eg_T wd k_X7_advance Qp 119 0 0 [some (.ref 25)] [] (k_ra M (lx_k (eg_gi M 26 q)) (nI q) (nI (q + 1)))
            dsimp only at hq
            by_cases hk : lx_k (eg_gi M 26 q) < 0
            · rw [if_pos hk] at hq
              exact run _ (q + 1) q _ rfl hqn (by omega) hk hq
            · rw [if_neg hk] at hq
              have s1 := st_X7_advance_119 (Qp := Qp) (M := k_ra M (lx_k (eg_gi M 26 q)) (nI q) (nI (q + 1)))
              have r2 : eg_gi (k_ra M (lx_k (eg_gi M 26 q)) (nI q) (nI (q + 1))) 25 2 = lx_k (eg_gi M 26 q) := rfl
              rw [r2] at s1
              have h0 := Int32.not_lt.mp hk
              exact s1 (fun y => absurd h0 y) (fun _ => hq) (fun y => absurd h0 y.1)
          · rcases z with z | z
            · omega
            · omega
          · rw [if_pos ⟨by omega, z.2⟩] at he
            refine ih (q + 1) (by omega) (by omega) ?_
            rw [show n - (q + 1) = r by omega]
            exact he
      refine s0 (fun _ => ?_) (fun z => absurd hf z)
      rw [eP]
      exact blk _ p rfl hpn rfl
    · unfold k_ad at hq
      rw [if_neg hf] at hq
      exact s0 (fun z => absurd z hf) (fun _ => hq)
  · exact h.elim
theorem de_X7_advance : ∀ q ∈ k_X7_advance.1, decode cX7_advance q.1 = .ok q.2 := by decide +kernel
theorem me_X7_advance (g : gl_T) : MT g yX7_advance cX7_advance 1 none ⟨1, 0, 0, 20⟩ 0 0 s_X7_advance := by
  intro hl
  exact eg_met_of (k := k_X7_advance) (by decide) rfl ⟨Nat.le_refl _, Nat.le_refl _⟩ rfl sz_X7_advance de_X7_advance (fun meth hn => (fc (eg_FL_of wd_c7 (by decide) lf_RX7_9 (fun h => absurd h (by decide))) (fc (eg_FL_of wd_c7 (by decide) lf_RX7_15 (fun h => absurd h (by decide))) (fc (eg_FL_of wd_c7 (by decide) lf_RX7_19 (fun _ => Or.inl rfl)) (fc (eg_FL_of wd_c7 (by decide) lf_RX7_22 (fun _ => Or.inl rfl)) (fc (eg_FL_of wd_c7 (by decide) lf_RX7_25 (fun _ => Or.inl rfl)) (fc (eg_FL_of wd_c7 (by decide) lf_RX7_28 (fun h => absurd h (by decide))) (fn)))))))) (fun A s H hE => (fn)) (fun p e s m args below meth c Q A ad0 N0 S0 hK hEx hA => (fc (mt_S hl S0 hK hEx hA (me_X7_kindOf g) lm_RX7_133 ls_X7_kindOf ln_RX7 lc_X7_kindOf ⟨rfl, by decide, by decide, by decide +kernel⟩ ⟨rfl, rfl⟩ ⟨by decide, by decide⟩ (by decide)) (fn))) (fun p e s m args below meth c Qc XC A ad0 N0 P S0 hK hEx hA hlk hout hPX => (fn)) (fun argv M Qp h => T_X7_advance h)

/-- the class: whether the token is the word w -/
def k_iw (M : eg_M) (w : Nat) : Bool := px_w (eg_gi M 26) w ((eg_gi M 25 3).toNatClampNeg, (eg_gi M 25 4).toNatClampNeg, eg_gi M 25 2)
theorem tx_l : ∀ w, w < 32 → tx_len.getD w 0 < 50 := by decide
def k_X7_isWord : eg_C := ([(0, .aload_n 0, 1), (1, .getfield 19, 3), (4, .bipush (-2), 2), (6, .if_icmp .ne 19, 3), (9, .aload_n 0, 1), (10, .getfield 25, 3), (13, .aload_n 0, 1), (14, .getfield 22, 3), (17, .isub, 1), (18, .aload_n 1, 1), (19, .invokevirtual 163, 3), (22, .if_icmp .eq 5, 3), (25, .iconst 0, 1), (26, .ireturn, 1), (27, .iconst 0, 1), (28, .istore_n 2, 1), (29, .iload_n 2, 1), (30, .aload_n 1, 1), (31, .invokevirtual 163, 3), (34, .if_icmp .ge 30, 3), (37, .aload_n 0, 1), (38, .getfield 9, 3), (41, .aload_n 0, 1), (42, .getfield 22, 3), (45, .iload_n 2, 1), (46, .iadd, 1), (47, .iaload, 1), (48, .aload_n 1, 1), (49, .iload_n 2, 1), (50, .invokevirtual 167, 3), (53, .if_icmp .eq 5, 3), (56, .iconst 0, 1), (57, .ireturn, 1), (58, .iinc 2 1, 3), (61, .goto (-32), 3), (64, .iconst 1, 1), (65, .ireturn, 1)], [(9, 7, 0, false), (19, 7, 2, false), (22, 7, 3, false), (25, 7, 4, false)], [], [(163, 1, 0, 0, s_len), (167, 2, 0, 0, s_chr)], [], 2, 0, 0)
theorem mk_X7_isWord : ∀ q ∈ k_X7_isWord.2.2.2.1, eg_mono q.2.2.2.2 := (fc (mo_len) (fc (mo_chr) (fn)))
set_option maxRecDepth 100000 in
theorem st_X7_isWord_0 {Qp : eg_P} {M : eg_M} (w : Nat)
  (g0 : ((eg_gi M 25 2) = (-nI 2)) → (w < 32))
  (l0 : ((eg_gi M 25 2) = (-nI 2) ∧ ((eg_gi M 25 4) - (eg_gi M 25 3)) = (nI (tx_len.getD w 0))) → eg_T wd k_X7_isWord Qp 29 0 0 [some (.ref 25), some (.retAddr w), some (.int (nI 0))] [] M)
  (l1 : (¬ (eg_gi M 25 2) = (-nI 2) ∨ ¬ ((eg_gi M 25 4) - (eg_gi M 25 3)) = (nI (tx_len.getD w 0))) → Qp (.inl (some (.int (nI 0)))) M) :
  eg_T wd k_X7_isWord Qp 0 0 0 [some (.ref 25), some (.retAddr w), none] [] M := by
  refine eg_T_run mk_X7_isWord (cut := [29]) 40 ?_
  refine And.intro (fun (c1 : (eg_gi M 25 2) = (-nI 2)) => ?_) (fun (c1 : ¬ (eg_gi M 25 2) = (-nI 2)) => ?_)
  · skip
    refine And.intro (show w < 32 from ?_) ?_
    · exact g0 c1
    refine And.intro (fun (c2 : ((eg_gi M 25 4) - (eg_gi M 25 3)) = (nI (tx_len.getD w 0))) => ?_) (fun (c2 : ¬ ((eg_gi M 25 4) - (eg_gi M 25 3)) = (nI (tx_len.getD w 0))) => ?_)
    · skip
      show eg_T wd k_X7_isWord Qp 29 0 0 [some (.ref 25), some (.retAddr w), some (.int (nI 0))] [] M
      exact l0 ⟨c1, c2⟩
    · skip
      refine And.intro (fun _ => (show (nI 0) = 0 ∨ (nI 0) = 1 from ?_)) ?_
      · exact Or.inl rfl
      show Qp (.inl (some (.int (nI 0)))) M
      exact l1 (Or.inr c2)
  · skip
    refine And.intro (fun _ => (show (nI 0) = 0 ∨ (nI 0) = 1 from ?_)) ?_
    · exact Or.inl rfl
    show Qp (.inl (some (.int (nI 0)))) M
    exact l1 (Or.inl c1)

set_option maxRecDepth 100000 in
theorem st_X7_isWord_29 {Qp : eg_P} {M : eg_M} (w : Nat) (x2 : Int32)
  (g0 : (w < 32))
  (g1 : (¬ ((nI (tx_len.getD w 0)) ≤ x2)) → (vp_in ((eg_gi M 25 3) + x2) 400))
  (g2 : (¬ ((nI (tx_len.getD w 0)) ≤ x2)) → (vp_in x2 (tx_len.getD w 0)))
  (l0 : ((nI (tx_len.getD w 0)) ≤ x2) → Qp (.inl (some (.int (nI 1)))) M)
  (l1 : (¬ (nI (tx_len.getD w 0)) ≤ x2 ∧ (eg_gi M 26 ((eg_gi M 25 3) + x2).toNatClampNeg) = ((tx_byt.getD w []).getD x2.toNatClampNeg 0)) → eg_T wd k_X7_isWord Qp 29 0 0 [some (.ref 25), some (.retAddr w), some (.int (x2 + (nI 1)))] [] M)
  (l2 : (¬ (nI (tx_len.getD w 0)) ≤ x2 ∧ ¬ (eg_gi M 26 ((eg_gi M 25 3) + x2).toNatClampNeg) = ((tx_byt.getD w []).getD x2.toNatClampNeg 0)) → Qp (.inl (some (.int (nI 0)))) M) :
  eg_T wd k_X7_isWord Qp 29 0 0 [some (.ref 25), some (.retAddr w), some (.int x2)] [] M := by
  refine eg_T_run mk_X7_isWord (cut := [29]) 40 ?_
  refine And.intro (show w < 32 from ?_) ?_
  · exact g0
  refine And.intro (fun (c1 : (nI (tx_len.getD w 0)) ≤ x2) => ?_) (fun (c1 : ¬ (nI (tx_len.getD w 0)) ≤ x2) => ?_)
  · skip
    refine And.intro (fun _ => (show (nI 1) = 0 ∨ (nI 1) = 1 from ?_)) ?_
    · exact Or.inr rfl
    show Qp (.inl (some (.int (nI 1)))) M
    exact l0 c1
  · skip
    refine And.intro (show vp_in ((eg_gi M 25 3) + x2) 400 from ?_) ?_
    · exact g1 c1
    refine And.intro (And.intro (show w < 32 from ?_) (show vp_in x2 (tx_len.getD w 0) from ?_)) ?_
    · exact g0
    · exact g2 c1
    refine And.intro (fun (c2 : (eg_gi M 26 ((eg_gi M 25 3) + x2).toNatClampNeg) = ((tx_byt.getD w []).getD x2.toNatClampNeg 0)) => ?_) (fun (c2 : ¬ (eg_gi M 26 ((eg_gi M 25 3) + x2).toNatClampNeg) = ((tx_byt.getD w []).getD x2.toNatClampNeg 0)) => ?_)
    · skip
      show eg_T wd k_X7_isWord Qp 29 0 0 [some (.ref 25), some (.retAddr w), some (.int (x2 + (nI 1)))] [] M
      exact l1 ⟨c1, c2⟩
    · skip
      refine And.intro (fun _ => (show (nI 0) = 0 ∨ (nI 0) = 1 from ?_)) ?_
      · exact Or.inl rfl
      show Qp (.inl (some (.int (nI 0)))) M
      exact l2 ⟨c1, c2⟩

def s_X7_isWord : eg_S := fun argv M Qp => match argv with
  | [.ref 25, .retAddr w] => (w < 32 ∧ (eg_gi M 25 2 = -nI 2 → ∃ b e, b ≤ e ∧ e ≤ 400 ∧ eg_gi M 25 3 = nI b ∧ eg_gi M 25 4 = nI e)) ∧ Qp (.inl (some (.int (b2i (k_iw M w))))) M
  | _ => False
theorem mo_X7_isWord : eg_mono s_X7_isWord := by
  intro argv M Q Q' h
  unfold s_X7_isWord
  split
  · exact fun z => ⟨z.1, h _ _ z.2⟩
  · exact id
theorem sz_X7_isWord : ∀ argv M Qp, s_X7_isWord argv M Qp → (eg_ls0 argv).length ≤ 3 := by
  intro argv M Qp h
  unfold s_X7_isWord at h
  split at h
  · exact Nat.le_of_ble_eq_true rfl
  · exact h.elim
theorem sr_X7_isWord : ∀ argv M Qp, s_X7_isWord argv M Qp → ∃ p0 As, argv = .ref p0 :: As ∧ eg_isO wd M p0 7 = true := by
  intro argv M Qp h
  unfold s_X7_isWord at h
  split at h
  · exact ⟨_, _, rfl, rfl⟩
  · exact h.elim
set_option maxRecDepth 100000 in
set_option maxHeartbeats 1000000 in
theorem T_X7_isWord {argv : List Value} {M : eg_M} {Qp : eg_P} (h : s_X7_isWord argv M Qp) : eg_T wd k_X7_isWord Qp 0 0 0 (eg_lsN 3 argv) [] M := by
  unfold s_X7_isWord at h
  split at h
  · rename_i w
    obtain ⟨hp, hq⟩ := h
    obtain ⟨hw, hp⟩ := hp
    have hl := tx_l w hw
    have s0 := st_X7_isWord_0 (Qp := Qp) (M := M) w
    by_cases hk : eg_gi M 25 2 = -nI 2
    · obtain ⟨b, e, hbe, he, eb, ee⟩ := hp hk
      have hsub : nI e - nI b = nI (e - b) := u_sub hbe
      rw [eb, ee, hsub, n_eq (by omega) (by omega)] at s0
      unfold k_iw px_w at hq
      rw [eb, ee, n_c (by omega), n_c (by omega)] at hq
      dsimp only at hq
      refine s0 (fun _ => hw) (fun z => ?_) (fun z => ?_)
      · rw [decide_eq_true (show eg_gi M 25 2 = -nI 2 ∧ e = b + tx_len.getD w 0 from ⟨hk, by omega⟩), Bool.true_and] at hq
        have lp : ∀ r i, i + r = tx_len.getD w 0 → (∀ j, j < i → eg_gi M 26 (b + j) = (tx_byt.getD w []).getD j 0) → eg_T wd k_X7_isWord Qp 29 0 0 [some (.ref 25), some (.retAddr w), some (.int (nI i))] [] M := by
          intro r
          induction r with
          | zero =>
            intro i hi hI
            have st := st_X7_isWord_29 (Qp := Qp) (M := M) w (nI i)
            rw [n_le (by omega) (by omega)] at st
            refine st hw (fun y => absurd (by omega) y) (fun y => absurd (by omega) y) (fun _ => ?_) (fun y => absurd (by omega) y.1) (fun y => absurd (by omega) y.1)
            rw [List.all_eq_true.mpr (fun j hj => decide_eq_true (hI j (by have := List.mem_range.mp hj; omega)))] at hq
            exact hq
          | succ r ih =>
            intro i hi hI
            have st := st_X7_isWord_29 (Qp := Qp) (M := M) w (nI i)
            rw [eb, n_s, n_s, n_le (by omega) (by omega), n_c (show b + i < 2 ^ 31 by omega), n_c (show i < 2 ^ 31 by omega), n_in (by omega) (by decide), n_in (by omega) (by omega)] at st
            refine st hw (fun _ => by omega) (fun _ => by omega) (fun y => absurd y (by omega)) (fun y => ?_) (fun y => ?_)
            · refine ih (i + 1) (by omega) (fun j hj => ?_)
              by_cases ej : j = i
              · rw [ej]; exact y.2
              · exact hI j (by omega)
            · have : (List.range (tx_len.getD w 0)).all (fun i => decide (eg_gi M 26 (b + i) = (tx_byt.getD w []).getD i 0)) = false := by
                refine bq_f (fun z => y.2 ?_)
                exact of_decide_eq_true (List.all_eq_true.mp z i (List.mem_range.mpr (by omega)))
              rw [this] at hq
              exact hq
        exact lp _ 0 (Nat.zero_add _) (fun j hj => absurd hj (Nat.not_lt_zero _))
      · have : ¬ (eg_gi M 25 2 = -nI 2 ∧ e = b + tx_len.getD w 0) := by
          rintro ⟨_, y⟩
          rcases z with z | z
          · exact z hk
          · omega
        rw [decide_eq_false this, Bool.false_and] at hq
        exact hq
    · have : k_iw M w = false := by
        unfold k_iw px_w
        rw [decide_eq_false (fun z => hk z.1), Bool.false_and]
      rw [this] at hq
      exact s0 (fun z => absurd z hk) (fun z => absurd z.1 hk) (fun _ => hq)
    
  · exact h.elim
theorem de_X7_isWord : ∀ q ∈ k_X7_isWord.1, decode cX7_isWord q.1 = .ok q.2 := by decide +kernel
theorem me_X7_isWord (g : gl_T) : MT g yX7_isWord cX7_isWord 3 (some .boolean) ⟨4, 0, 0, 85⟩ 0 0 s_X7_isWord := by
  intro hl
  exact eg_met_of (k := k_X7_isWord) (by decide) rfl ⟨Nat.le_refl _, Nat.le_refl _⟩ rfl sz_X7_isWord de_X7_isWord (fun meth hn => (fc (eg_FL_of wd_c7 (by decide) lf_RX7_9 (fun h => absurd h (by decide))) (fc (eg_FL_of wd_c7 (by decide) lf_RX7_19 (fun h => absurd h (by decide))) (fc (eg_FL_of wd_c7 (by decide) lf_RX7_22 (fun h => absurd h (by decide))) (fc (eg_FL_of wd_c7 (by decide) lf_RX7_25 (fun h => absurd h (by decide))) (fn)))))) (fun A s H hE => (fn)) (fun p e s m args below meth c Q A ad0 N0 S0 hK hEx hA => (fc (mt_len S0 hEx hA lm_RX7_163 ⟨by decide, by decide⟩ (by decide)) (fc (mt_chr S0 hEx hA lm_RX7_167 ⟨by decide, by decide⟩ (by decide)) (fn)))) (fun p e s m args below meth c Qc XC A ad0 N0 P S0 hK hEx hA hlk hout hPX => (fn)) (fun argv M Qp h => T_X7_isWord h)

/-- bit t of x -/
def bit (x : Int32) (t : Nat) : Bool := decide ((x >>> (nI t &&& 31)) &&& nI 1 = nI 1)
theorem and1 (y : Int32) : y &&& nI 1 = nI 0 ∨ y &&& nI 1 = nI 1 := by
  have h : (y &&& nI 1).toBitVec.toNat = y.toBitVec.toNat % 2 := by
    rw [Int32.toBitVec_and, BitVec.toNat_and]
    exact Nat.and_one_is_mod _
  rcases Nat.mod_two_eq_zero_or_one y.toBitVec.toNat with e | e
  · left
    apply Int32.toBitVec_inj.mp
    apply BitVec.eq_of_toNat_eq
    rw [h, e]
    rfl
  · right
    apply Int32.toBitVec_inj.mp
    apply BitVec.eq_of_toNat_eq
    rw [h, e]
    rfl
theorem bit_v (x : Int32) (t : Nat) : (x >>> (nI t &&& 31)) &&& nI 1 = nI (if bit x t then 1 else 0) := by
  unfold bit
  rcases and1 (x >>> (nI t &&& 31)) with h | h
  · rw [h]
    rfl
  · rw [h]
    rfl
/-- the places of the ones among the first n -/
def ones (x : Int32) (n : Nat) : List Nat := (List.range n).filter (bit x)
theorem ones_s (x : Int32) (n : Nat) : ones x (n + 1) = if bit x n then ones x n ++ [n] else ones x n := by
  unfold ones
  rw [List.range_succ, List.filter_append]
  by_cases h : bit x n = true
  · simp [h]
  · simp [h]
theorem ones_len (x : Int32) (n : Nat) : (ones x n).length ≤ n := by
  unfold ones
  exact Nat.le_trans (List.length_filter_le _ _) (by rw [List.length_range]; exact Nat.le_refl _)
theorem ones_mono (x : Int32) {n m : Nat} (h : n ≤ m) : (ones x n).length ≤ (ones x m).length := by
  induction h with
  | refl => exact Nat.le_refl _
  | step _ ih =>
    rw [ones_s]
    split
    · rw [List.length_append]; omega
    · exact ih
theorem si_sw {M : eg_M} {p k j : Nat} {v w : Int32} (h : ¬ k = j) : eg_si (eg_si M p k v) p j w = eg_si (eg_si M p j w) p k v := by
  unfold eg_si eg_up
  refine Prod.ext rfl (Prod.ext ?_ rfl)
  funext q
  by_cases h1 : q = p
  · subst h1
    funext x
    by_cases h2 : x = k
    · subst h2
      simp [h]
    · have h' : ¬ j = k := fun z => h z.symm
      by_cases h3 : x = j <;> simp [h2, h3, h']
  · simp [h1]
/-- the model: the lists of the two sets so far -/
def m_ls (M : eg_M) (u w : Nat) (f g : Nat → Int32) : eg_M := eg_ri (eg_ri (eg_si (eg_si M 121 80 (nI u)) 121 81 (nI w)) 172 f) 173 g
theorem m_ls_f {M : eg_M} {u w : Nat} {f g : Nat → Int32} {v : Int32} : eg_si (eg_si (m_ls M u w f g) 172 u v) 121 80 (nI (u + 1)) = m_ls M (u + 1) w (fun j => if j = u then v else f j) g := by
  unfold m_ls
  rw [si_ri_n (by decide), si_ri, si_ri_n (by decide), si_ri_n (by decide), si_sw (k := 81) (j := 80) (by decide), si_si]
theorem m_ls_g {M : eg_M} {u w : Nat} {f g : Nat → Int32} {v : Int32} : eg_si (eg_si (m_ls M u w f g) 173 w v) 121 81 (nI (w + 1)) = m_ls M u (w + 1) f (fun j => if j = w then v else g j) := by
  unfold m_ls
  rw [si_ri, si_ri_n (by decide), si_ri_n (by decide), si_si]
/-- a row's first places are the list -/
def isL (f : Nat → Int32) (L : List Nat) : Prop := ∀ i (h : i < L.length), f i = nI L[i]
theorem isL_add {f : Nat → Int32} {L : List Nat} {t : Nat} (h : isL f L) : isL (fun j => if j = L.length then nI t else f j) (L ++ [t]) := by
  intro i hi
  rw [List.length_append, List.length_singleton] at hi
  by_cases e : i = L.length
  · subst e
    simp
  · show (if i = L.length then nI t else f i) = _
    rw [if_neg e, List.getElem_append_left (by omega)]
    exact h i (by omega)
def m_msk (M : eg_M) (x y : Int32) : Prop := (x &&& ((((nI 1) <<< ((eg_gi M 121 3) &&& 31)) - (nI 1)) ^^^ (-nI 1))) = 0 ∧ (y &&& ((((nI 1) <<< ((eg_gi M 121 3) &&& 31)) - (nI 1)) ^^^ (-nI 1))) = 0 ∧ (x &&& y) = 0
def k_X12_laySets : eg_C := ([(0, .iconst 1, 1), (1, .aload_n 0, 1), (2, .getfield 216, 3), (5, .ishl, 1), (6, .iconst 1, 1), (7, .isub, 1), (8, .istore_n 3, 1), (9, .iload_n 1, 1), (10, .iload_n 3, 1), (11, .iconst (-1), 1), (12, .ixor, 1), (13, .iand, 1), (14, .ifCond .ne 17, 3), (17, .iload_n 2, 1), (18, .iload_n 3, 1), (19, .iconst (-1), 1), (20, .ixor, 1), (21, .iand, 1), (22, .ifCond .ne 9, 3), (25, .iload_n 1, 1), (26, .iload_n 2, 1), (27, .iand, 1), (28, .ifCond .eq 5, 3), (31, .iconst 0, 1), (32, .ireturn, 1), (33, .aload_n 0, 1), (34, .iconst 0, 1), (35, .putfield 495, 3), (38, .aload_n 0, 1), (39, .iconst 0, 1), (40, .putfield 498, 3), (43, .iconst 0, 1), (44, .istore 4, 2), (46, .iconst 0, 1), (47, .istore 5, 2), (49, .iconst 0, 1), (50, .istore 6, 2), (52, .iload 6, 2), (54, .aload_n 0, 1), (55, .getfield 216, 3), (58, .if_icmp .ge 31, 3), (61, .iload 4, 2), (63, .iload_n 1, 1), (64, .iload 6, 2), (66, .ishr, 1), (67, .iconst 1, 1), (68, .iand, 1), (69, .iadd, 1), (70, .istore 4, 2), (72, .iload 5, 2), (74, .iload_n 2, 1), (75, .iload 6, 2), (77, .ishr, 1), (78, .iconst 1, 1), (79, .iand, 1), (80, .iadd, 1), (81, .istore 5, 2), (83, .iinc 6 1, 3), (86, .goto (-34), 3), (89, .iload 4, 2), (91, .bipush 6, 2), (93, .if_icmp .gt 10, 3), (96, .iload 5, 2), (98, .bipush 6, 2), (100, .if_icmp .le 5, 3), (103, .iconst 0, 1), (104, .ireturn, 1), (105, .iconst 0, 1), (106, .istore 6, 2), (108, .iload 6, 2), (110, .aload_n 0, 1), (111, .getfield 216, 3), (114, .if_icmp .ge 71, 3), (117, .iload_n 1, 1), (118, .iload 6, 2), (120, .ishr, 1), (121, .iconst 1, 1), (122, .iand, 1), (123, .iconst 1, 1), (124, .if_icmp .ne 24, 3), (127, .aload_n 0, 1), (128, .getfield 198, 3), (131, .aload_n 0, 1), (132, .getfield 495, 3), (135, .iload 6, 2), (137, .iastore, 1), (138, .aload_n 0, 1), (139, .dup, 1), (140, .getfield 495, 3), (143, .iconst 1, 1), (144, .iadd, 1), (145, .putfield 495, 3), (148, .iload_n 2, 1), (149, .iload 6, 2), (151, .ishr, 1), (152, .iconst 1, 1), (153, .iand, 1), (154, .iconst 1, 1), (155, .if_icmp .ne 24, 3), (158, .aload_n 0, 1), (159, .getfield 201, 3), (162, .aload_n 0, 1), (163, .getfield 498, 3), (166, .iload 6, 2), (168, .iastore, 1), (169, .aload_n 0, 1), (170, .dup, 1), (171, .getfield 498, 3), (174, .iconst 1, 1), (175, .iadd, 1), (176, .putfield 498, 3), (179, .iinc 6 1, 3), (182, .goto (-74), 3), (185, .iconst 1, 1), (186, .ireturn, 1)], [(198, 12, 76, false), (201, 12, 77, false), (216, 12, 3, false), (495, 12, 80, true), (498, 12, 81, true)], [], [], [], 2, 0, 0)
theorem mk_X12_laySets : ∀ q ∈ k_X12_laySets.2.2.2.1, eg_mono q.2.2.2.2 := (fn)
set_option maxRecDepth 100000 in
theorem st_X12_laySets_0 {Qp : eg_P} {M : eg_M} (x : Int32) (y : Int32)
  (l0 : ((x &&& ((((nI 1) <<< ((eg_gi M 121 3) &&& 31)) - (nI 1)) ^^^ (-nI 1))) = 0 ∧ ((y &&& ((((nI 1) <<< ((eg_gi M 121 3) &&& 31)) - (nI 1)) ^^^ (-nI 1))) = 0 ∧ (x &&& y) = 0)) → eg_T wd k_X12_laySets Qp 52 0 0 [some (.ref 121), some (.int x), some (.int y), some (.int (((nI 1) <<< ((eg_gi M 121 3) &&& 31)) - (nI 1))), some (.int (nI 0)), some (.int (nI 0)), some (.int (nI 0))] [] (eg_si (eg_si M 121 80 (nI 0)) 121 81 (nI 0)))
  (l1 : (¬ (x &&& ((((nI 1) <<< ((eg_gi M 121 3) &&& 31)) - (nI 1)) ^^^ (-nI 1))) = 0 ∨ (¬ (y &&& ((((nI 1) <<< ((eg_gi M 121 3) &&& 31)) - (nI 1)) ^^^ (-nI 1))) = 0 ∨ ¬ (x &&& y) = 0)) → Qp (.inl (some (.int (nI 0)))) M) :
  eg_T wd k_X12_laySets Qp 0 0 0 [some (.ref 121), some (.int x), some (.int y), none, none, none, none] [] M := by
  refine eg_T_run mk_X12_laySets (cut := [52, 108]) 118 ?_
  refine And.intro (fun (c1 : (x &&& ((((nI 1) <<< ((eg_gi M 121 3) &&& 31)) - (nI 1)) ^^^ (-nI 1))) = 0) => ?_) (fun (c1 : ¬ (x &&& ((((nI 1) <<< ((eg_gi M 121 3) &&& 31)) - (nI 1)) ^^^ (-nI 1))) = 0) => ?_)
  · skip
    refine And.intro (fun (c2 : (y &&& ((((nI 1) <<< ((eg_gi M 121 3) &&& 31)) - (nI 1)) ^^^ (-nI 1))) = 0) => ?_) (fun (c2 : ¬ (y &&& ((((nI 1) <<< ((eg_gi M 121 3) &&& 31)) - (nI 1)) ^^^ (-nI 1))) = 0) => ?_)
    · skip
      refine And.intro (fun (c3 : (x &&& y) = 0) => ?_) (fun (c3 : ¬ (x &&& y) = 0) => ?_)
      · skip
        show eg_T wd k_X12_laySets Qp 52 0 0 [some (.ref 121), some (.int x), some (.int y), some (.int (((nI 1) <<< ((eg_gi M 121 3) &&& 31)) - (nI 1))), some (.int (nI 0)), some (.int (nI 0)), some (.int (nI 0))] [] (eg_si (eg_si M 121 80 (nI 0)) 121 81 (nI 0))
        exact l0 ⟨c1, ⟨c2, c3⟩⟩
      · skip
        refine And.intro (fun _ => (show (nI 0) = 0 ∨ (nI 0) = 1 from ?_)) ?_
        · exact Or.inl rfl
        show Qp (.inl (some (.int (nI 0)))) M
        exact l1 (Or.inr (Or.inr c3))
    · skip
      refine And.intro (fun _ => (show (nI 0) = 0 ∨ (nI 0) = 1 from ?_)) ?_
      · exact Or.inl rfl
      show Qp (.inl (some (.int (nI 0)))) M
      exact l1 (Or.inr (Or.inl c2))
  · skip
    refine And.intro (fun _ => (show (nI 0) = 0 ∨ (nI 0) = 1 from ?_)) ?_
    · exact Or.inl rfl
    show Qp (.inl (some (.int (nI 0)))) M
    exact l1 (Or.inl c1)

set_option maxRecDepth 100000 in
theorem st_X12_laySets_52 {Qp : eg_P} {M : eg_M} (x : Int32) (y : Int32) (x3 : Int32) (x4 : Int32) (x5 : Int32) (x6 : Int32)
  (l0 : ((eg_gi M 121 3) ≤ x6 ∧ ((nI 6) < x4 ∨ ¬ x5 ≤ (nI 6))) → Qp (.inl (some (.int (nI 0)))) M)
  (l1 : ((eg_gi M 121 3) ≤ x6 ∧ (¬ (nI 6) < x4 ∧ x5 ≤ (nI 6))) → eg_T wd k_X12_laySets Qp 108 0 0 [some (.ref 121), some (.int x), some (.int y), some (.int x3), some (.int x4), some (.int x5), some (.int (nI 0))] [] M)
  (l2 : (¬ (eg_gi M 121 3) ≤ x6) → eg_T wd k_X12_laySets Qp 52 0 0 [some (.ref 121), some (.int x), some (.int y), some (.int x3), some (.int (x4 + ((x >>> (x6 &&& 31)) &&& (nI 1)))), some (.int (x5 + ((y >>> (x6 &&& 31)) &&& (nI 1)))), some (.int (x6 + (nI 1)))] [] M) :
  eg_T wd k_X12_laySets Qp 52 0 0 [some (.ref 121), some (.int x), some (.int y), some (.int x3), some (.int x4), some (.int x5), some (.int x6)] [] M := by
  refine eg_T_run mk_X12_laySets (cut := [52, 108]) 118 ?_
  refine And.intro (fun (c1 : (eg_gi M 121 3) ≤ x6) => ?_) (fun (c1 : ¬ (eg_gi M 121 3) ≤ x6) => ?_)
  · skip
    refine And.intro (fun (c2 : (nI 6) < x4) => ?_) (fun (c2 : ¬ (nI 6) < x4) => ?_)
    · skip
      refine And.intro (fun _ => (show (nI 0) = 0 ∨ (nI 0) = 1 from ?_)) ?_
      · exact Or.inl rfl
      show Qp (.inl (some (.int (nI 0)))) M
      exact l0 ⟨c1, (Or.inl c2)⟩
    · skip
      refine And.intro (fun (c3 : x5 ≤ (nI 6)) => ?_) (fun (c3 : ¬ x5 ≤ (nI 6)) => ?_)
      · skip
        show eg_T wd k_X12_laySets Qp 108 0 0 [some (.ref 121), some (.int x), some (.int y), some (.int x3), some (.int x4), some (.int x5), some (.int (nI 0))] [] M
        exact l1 ⟨c1, ⟨c2, c3⟩⟩
      · skip
        refine And.intro (fun _ => (show (nI 0) = 0 ∨ (nI 0) = 1 from ?_)) ?_
        · exact Or.inl rfl
        show Qp (.inl (some (.int (nI 0)))) M
        exact l0 ⟨c1, (Or.inr c3)⟩
  · skip
    show eg_T wd k_X12_laySets Qp 52 0 0 [some (.ref 121), some (.int x), some (.int y), some (.int x3), some (.int (x4 + ((x >>> (x6 &&& 31)) &&& (nI 1)))), some (.int (x5 + ((y >>> (x6 &&& 31)) &&& (nI 1)))), some (.int (x6 + (nI 1)))] [] M
    exact l2 c1

set_option maxRecDepth 100000 in
theorem st_X12_laySets_108 {Qp : eg_P} {M : eg_M} (x : Int32) (y : Int32) (o3 : Option Value) (o4 : Option Value) (x5 : Int32) (x6 : Int32)
  (g0 : (¬ ((eg_gi M 121 3) ≤ x6)) → (((x >>> (x6 &&& 31)) &&& (nI 1)) = (nI 1)) → (vp_in (eg_gi M 121 80) 6))
  (g1 : (¬ ((eg_gi M 121 3) ≤ x6)) → (((y >>> (x6 &&& 31)) &&& (nI 1)) = (nI 1)) → (vp_in (eg_gi M 121 81) 6))
  (l0 : ((eg_gi M 121 3) ≤ x6) → Qp (.inl (some (.int (nI 1)))) M)
  (l1 : (¬ (eg_gi M 121 3) ≤ x6 ∧ (((x >>> (x6 &&& 31)) &&& (nI 1)) = (nI 1) ∧ ((y >>> (x6 &&& 31)) &&& (nI 1)) = (nI 1))) → eg_T wd k_X12_laySets Qp 108 0 0 [some (.ref 121), some (.int x), some (.int y), o3, o4, some (.int x5), some (.int (x6 + (nI 1)))] [] (eg_si (eg_si (eg_si (eg_si M 172 (eg_gi M 121 80).toNatClampNeg x6) 121 80 ((eg_gi M 121 80) + (nI 1))) 173 (eg_gi M 121 81).toNatClampNeg x6) 121 81 ((eg_gi M 121 81) + (nI 1))))
  (l2 : (¬ (eg_gi M 121 3) ≤ x6 ∧ (((x >>> (x6 &&& 31)) &&& (nI 1)) = (nI 1) ∧ ¬ ((y >>> (x6 &&& 31)) &&& (nI 1)) = (nI 1))) → eg_T wd k_X12_laySets Qp 108 0 0 [some (.ref 121), some (.int x), some (.int y), o3, o4, some (.int x5), some (.int (x6 + (nI 1)))] [] (eg_si (eg_si M 172 (eg_gi M 121 80).toNatClampNeg x6) 121 80 ((eg_gi M 121 80) + (nI 1))))
  (l3 : (¬ (eg_gi M 121 3) ≤ x6 ∧ (¬ ((x >>> (x6 &&& 31)) &&& (nI 1)) = (nI 1) ∧ ((y >>> (x6 &&& 31)) &&& (nI 1)) = (nI 1))) → eg_T wd k_X12_laySets Qp 108 0 0 [some (.ref 121), some (.int x), some (.int y), o3, o4, some (.int x5), some (.int (x6 + (nI 1)))] [] (eg_si (eg_si M 173 (eg_gi M 121 81).toNatClampNeg x6) 121 81 ((eg_gi M 121 81) + (nI 1))))
  (l4 : (¬ (eg_gi M 121 3) ≤ x6 ∧ (¬ ((x >>> (x6 &&& 31)) &&& (nI 1)) = (nI 1) ∧ ¬ ((y >>> (x6 &&& 31)) &&& (nI 1)) = (nI 1))) → eg_T wd k_X12_laySets Qp 108 0 0 [some (.ref 121), some (.int x), some (.int y), o3, o4, some (.int x5), some (.int (x6 + (nI 1)))] [] M) :
  eg_T wd k_X12_laySets Qp 108 0 0 [some (.ref 121), some (.int x), some (.int y), o3, o4, some (.int x5), some (.int x6)] [] M := by
  refine eg_T_run mk_X12_laySets (cut := [52, 108]) 118 ?_
  refine And.intro (fun (c1 : (eg_gi M 121 3) ≤ x6) => ?_) (fun (c1 : ¬ (eg_gi M 121 3) ≤ x6) => ?_)
  · skip
    refine And.intro (fun _ => (show (nI 1) = 0 ∨ (nI 1) = 1 from ?_)) ?_
    · exact Or.inr rfl
    show Qp (.inl (some (.int (nI 1)))) M
    exact l0 c1
  · skip
    refine And.intro (fun (c2 : ((x >>> (x6 &&& 31)) &&& (nI 1)) = (nI 1)) => ?_) (fun (c2 : ¬ ((x >>> (x6 &&& 31)) &&& (nI 1)) = (nI 1)) => ?_)
    · skip
      refine And.intro (show vp_in (eg_gi M 121 80) 6 from ?_) ?_
      · exact g0 c1 c2
      refine And.intro (fun (c3 : ((y >>> (x6 &&& 31)) &&& (nI 1)) = (nI 1)) => ?_) (fun (c3 : ¬ ((y >>> (x6 &&& 31)) &&& (nI 1)) = (nI 1)) => ?_)
      · skip
        refine And.intro (show vp_in (eg_gi M 121 81) 6 from ?_) ?_
        · exact g1 c1 (by clear g0 g1 l0 l1 l2 l3 l4; grind)
        show eg_T wd k_X12_laySets Qp 108 0 0 [some (.ref 121), some (.int x), some (.int y), o3, o4, some (.int x5), some (.int (x6 + (nI 1)))] [] (eg_si (eg_si (eg_si (eg_si M 172 (eg_gi M 121 80).toNatClampNeg x6) 121 80 ((eg_gi M 121 80) + (nI 1))) 173 (eg_gi M 121 81).toNatClampNeg x6) 121 81 ((eg_gi M 121 81) + (nI 1)))
        exact l1 ⟨c1, ⟨c2, c3⟩⟩
      · skip
        show eg_T wd k_X12_laySets Qp 108 0 0 [some (.ref 121), some (.int x), some (.int y), o3, o4, some (.int x5), some (.int (x6 + (nI 1)))] [] (eg_si (eg_si M 172 (eg_gi M 121 80).toNatClampNeg x6) 121 80 ((eg_gi M 121 80) + (nI 1)))
        exact l2 ⟨c1, ⟨c2, c3⟩⟩
    · skip
      refine And.intro (fun (c4 : ((y >>> (x6 &&& 31)) &&& (nI 1)) = (nI 1)) => ?_) (fun (c4 : ¬ ((y >>> (x6 &&& 31)) &&& (nI 1)) = (nI 1)) => ?_)
      · skip
        refine And.intro (show vp_in (eg_gi M 121 81) 6 from ?_) ?_
        · exact g1 c1 (by clear g0 g1 l0 l1 l2 l3 l4; grind)
        show eg_T wd k_X12_laySets Qp 108 0 0 [some (.ref 121), some (.int x), some (.int y), o3, o4, some (.int x5), some (.int (x6 + (nI 1)))] [] (eg_si (eg_si M 173 (eg_gi M 121 81).toNatClampNeg x6) 121 81 ((eg_gi M 121 81) + (nI 1)))
        exact l3 ⟨c1, ⟨c2, c4⟩⟩
      · skip
        show eg_T wd k_X12_laySets Qp 108 0 0 [some (.ref 121), some (.int x), some (.int y), o3, o4, some (.int x5), some (.int (x6 + (nI 1)))] [] M
        exact l4 ⟨c1, ⟨c2, c4⟩⟩

def s_X12_laySets : eg_S := fun argv M Qp => match argv with
  | [.ref 121, .int x, .int y] => (eg_cn (eg_gi M 121 3) 16) ∧ ∀ (v : Bool) (M2 : eg_M), ((¬ m_msk M x y ∧ v = false ∧ M2 = M) ∨ (m_msk M x y ∧ (6 < (ones x (eg_gi M 121 3).toNatClampNeg).length ∨ 6 < (ones y (eg_gi M 121 3).toNatClampNeg).length) ∧ v = false ∧ M2 = eg_si (eg_si M 121 80 (nI 0)) 121 81 (nI 0)) ∨ (m_msk M x y ∧ (ones x (eg_gi M 121 3).toNatClampNeg).length ≤ 6 ∧ (ones y (eg_gi M 121 3).toNatClampNeg).length ≤ 6 ∧ v = true ∧ ∃ f g, isL f (ones x (eg_gi M 121 3).toNatClampNeg) ∧ isL g (ones y (eg_gi M 121 3).toNatClampNeg) ∧ M2 = m_ls M (ones x (eg_gi M 121 3).toNatClampNeg).length (ones y (eg_gi M 121 3).toNatClampNeg).length f g)) → Qp (.inl (some (.int (b2i v)))) M2
  | _ => False
theorem mo_X12_laySets : eg_mono s_X12_laySets := by
  intro argv M Q Q' h
  unfold s_X12_laySets
  split
  · exact fun z => ⟨z.1, fun v M2 y => h _ _ (z.2 v M2 y)⟩
  · exact id
theorem sz_X12_laySets : ∀ argv M Qp, s_X12_laySets argv M Qp → (eg_ls0 argv).length ≤ 7 := by
  intro argv M Qp h
  unfold s_X12_laySets at h
  split at h
  · exact Nat.le_of_ble_eq_true rfl
  · exact h.elim
theorem sr_X12_laySets : ∀ argv M Qp, s_X12_laySets argv M Qp → ∃ p0 As, argv = .ref p0 :: As ∧ eg_isO wd M p0 12 = true := by
  intro argv M Qp h
  unfold s_X12_laySets at h
  split at h
  · exact ⟨_, _, rfl, rfl⟩
  · exact h.elim
set_option maxRecDepth 100000 in
set_option maxHeartbeats 4000000 in
theorem T_X12_laySets {argv : List Value} {M : eg_M} {Qp : eg_P} (h : s_X12_laySets argv M Qp) : eg_T wd k_X12_laySets Qp 0 0 0 (eg_lsN 7 argv) [] M := by
  unfold s_X12_laySets at h
  split at h
  · rename_i x y
    obtain ⟨hp, hq⟩ := h
    obtain ⟨n, hn, hN⟩ := hp
    rw [hN, n_c (by omega)] at hq
    refine st_X12_laySets_0 x y (fun z => ?_) (fun z => ?_)
    rotate_left
    · exact hq false M (Or.inl ⟨fun h => by rcases z with z | z | z; exact z h.1; exact z h.2.1; exact z h.2.2, rfl, rfl⟩)
    have hz : m_msk M x y := z
    generalize (((nI 1) <<< ((eg_gi M 121 3) &&& 31)) - (nI 1)) = mk
    have fin : (ones x n).length ≤ 6 → (ones y n).length ≤ 6 → ∀ t (q : (Nat → Int32) × (Nat → Int32)), t ≤ n → (isL q.1 (ones x t) ∧ isL q.2 (ones y t)) → ∀ o3 o4 x5, eg_T wd k_X12_laySets Qp 108 0 0 [some (.ref 121), some (.int x), some (.int y), o3, o4, some (.int x5), some (.int (nI t))] [] (m_ls M (ones x t).length (ones y t).length q.1 q.2) := by
      intro l1 l2
      refine eg_for ?_
      intro t ⟨f, g⟩ ht ⟨hf, hg⟩ kk o3 o4 x5
      have st := st_X12_laySets_108 (Qp := Qp) (M := m_ls M (ones x t).length (ones y t).length f g) x y o3 o4 x5 (nI t)
      have r3 : eg_gi (m_ls M (ones x t).length (ones y t).length f g) 121 3 = nI n := hN
      have r80 : eg_gi (m_ls M (ones x t).length (ones y t).length f g) 121 80 = nI (ones x t).length := rfl
      have r81 : eg_gi (m_ls M (ones x t).length (ones y t).length f g) 121 81 = nI (ones y t).length := rfl
      have q1 := ones_len x t
      have q2 := ones_len y t
      have b1 : ∀ z, ((z >>> (nI t &&& 31)) &&& nI 1 = nI 1) ↔ bit z t = true := fun z => by unfold bit; rw [decide_eq_true_eq]
      simp (disch := omega) only [r3, r80, r81, n_c, n_le, n_in, n_s, Nat.not_le, b1, m_ls_f, m_ls_g] at st
      have s1 : bit x t = true → t < n → (ones x t).length < 6 := fun h h2 => by
        have := ones_mono x (show t + 1 ≤ n from h2)
        rw [ones_s, if_pos h, List.length_append, List.length_singleton] at this
        omega
      have s2 : bit y t = true → t < n → (ones y t).length < 6 := fun h h2 => by
        have := ones_mono y (show t + 1 ≤ n from h2)
        rw [ones_s, if_pos h, List.length_append, List.length_singleton] at this
        omega
      have ex : bit x t = true → ones x (t + 1) = ones x t ++ [t] := fun h => by rw [ones_s, if_pos h]
      have nx : ¬ bit x t = true → ones x (t + 1) = ones x t := fun h => by rw [ones_s, if_neg h]
      have ey : bit y t = true → ones y (t + 1) = ones y t ++ [t] := fun h => by rw [ones_s, if_pos h]
      have ny : ¬ bit y t = true → ones y (t + 1) = ones y t := fun h => by rw [ones_s, if_neg h]
      refine st (fun z b => s1 b z) (fun z b => s2 b z) (fun z => ?_) (fun z => ?_) (fun z => ?_) (fun z => ?_) (fun z => ?_)
      · have : t = n := by omega
        subst this
        exact hq true _ (Or.inr (Or.inr ⟨hz, l1, l2, rfl, f, g, hf, hg, rfl⟩))
      · have := kk ((fun j => if j = (ones x t).length then nI t else f j), (fun j => if j = (ones y t).length then nI t else g j)) z.1 ⟨by rw [ex z.2.1]; exact isL_add hf, by rw [ey z.2.2]; exact isL_add hg⟩ o3 o4 x5
        rw [ex z.2.1, ey z.2.2, List.length_append, List.length_append] at this
        exact this
      · have := kk ((fun j => if j = (ones x t).length then nI t else f j), g) z.1 ⟨by rw [ex z.2.1]; exact isL_add hf, by rw [ny z.2.2]; exact hg⟩ o3 o4 x5
        rw [ex z.2.1, ny z.2.2, List.length_append] at this
        exact this
      · have := kk (f, (fun j => if j = (ones y t).length then nI t else g j)) z.1 ⟨by rw [nx z.2.1]; exact hf, by rw [ey z.2.2]; exact isL_add hg⟩ o3 o4 x5
        rw [nx z.2.1, ey z.2.2, List.length_append] at this
        exact this
      · have := kk (f, g) z.1 ⟨by rw [nx z.2.1]; exact hf, by rw [ny z.2.2]; exact hg⟩ o3 o4 x5
        rw [nx z.2.1, ny z.2.2] at this
        exact this
    have lp : ∀ t (_ : Unit), t ≤ n → True → eg_T wd k_X12_laySets Qp 52 0 0 [some (.ref 121), some (.int x), some (.int y), some (.int mk), some (.int (nI (ones x t).length)), some (.int (nI (ones y t).length)), some (.int (nI t))] [] (eg_si (eg_si M 121 80 (nI 0)) 121 81 (nI 0)) := by
      refine eg_for ?_
      intro t _ ht _ kk
      have st := st_X12_laySets_52 (Qp := Qp) (M := eg_si (eg_si M 121 80 (nI 0)) 121 81 (nI 0)) x y mk (nI (ones x t).length) (nI (ones y t).length) (nI t)
      have r3 : eg_gi (eg_si (eg_si M 121 80 (nI 0)) 121 81 (nI 0)) 121 3 = nI n := hN
      have q1 := ones_len x t
      have q2 := ones_len y t
      simp (disch := omega) only [r3, n_le, n_lt, bit_v, n_s, Nat.not_le] at st
      refine st (fun z => ?_) (fun z => ?_) (fun z => ?_)
      · have : t = n := by omega
        subst this
        exact hq false _ (Or.inr (Or.inl ⟨hz, z.2, rfl, rfl⟩))
      · have : t = n := by omega
        subst this
        have := fin (by omega) (by omega) 0 (eg_gi M 172, eg_gi M 173) (Nat.zero_le _) ⟨fun i h => absurd h (Nat.not_lt_zero _), fun i h => absurd h (Nat.not_lt_zero _)⟩ (some (.int mk)) (some (.int (nI (ones x t).length))) (nI (ones y t).length)
        have e : m_ls M (ones x 0).length (ones y 0).length (eg_gi M 172) (eg_gi M 173) = eg_si (eg_si M 121 80 (nI 0)) 121 81 (nI 0) := by
          have e1 := ri_id (eg_si (eg_si M 121 80 (nI 0)) 121 81 (nI 0)) 172
          have e2 := ri_id (eg_si (eg_si M 121 80 (nI 0)) 121 81 (nI 0)) 173
          unfold m_ls
          refine Eq.trans ?_ e2
          exact congrArg (fun z => eg_ri z 173 (eg_gi M 173)) e1
        rw [e] at this
        exact this
      · have := kk () z trivial
        have ex : (ones x (t + 1)).length = (ones x t).length + (if bit x t then 1 else 0) := by
          rw [ones_s]; split <;> simp
        have ey : (ones y (t + 1)).length = (ones y t).length + (if bit y t then 1 else 0) := by
          rw [ones_s]; split <;> simp
        rw [ex, ey] at this
        exact this
    exact lp 0 () (Nat.zero_le _) trivial
    
  · exact h.elim
theorem de_X12_laySets : ∀ q ∈ k_X12_laySets.1, decode cX12_laySets q.1 = .ok q.2 := by decide +kernel
theorem me_X12_laySets (g : gl_T) : MT g yX12_laySets cX12_laySets 7 (some .boolean) ⟨0, 0, 0, 0⟩ 0 0 s_X12_laySets := by
  intro hl
  exact eg_met_of (k := k_X12_laySets) (by decide) rfl ⟨Nat.le_refl _, Nat.le_refl _⟩ rfl sz_X12_laySets de_X12_laySets (fun meth hn => (fc (eg_FL_of wd_c12 (by decide) lf_RX12_198 (fun h => absurd h (by decide))) (fc (eg_FL_of wd_c12 (by decide) lf_RX12_201 (fun h => absurd h (by decide))) (fc (eg_FL_of wd_c12 (by decide) lf_RX12_216 (fun h => absurd h (by decide))) (fc (eg_FL_of wd_c12 (by decide) lf_RX12_495 (fun _ => Or.inl rfl)) (fc (eg_FL_of wd_c12 (by decide) lf_RX12_498 (fun _ => Or.inl rfl)) (fn))))))) (fun A s H hE => (fn)) (fun p e s m args below meth c Q A ad0 N0 S0 hK hEx hA => (fn)) (fun p e s m args below meth c Qc XC A ad0 N0 P S0 hK hEx hA hlk hout hPX => (fn)) (fun argv M Qp h => T_X12_laySets h)

/-! the calendar: all rows of choices, the first plan's the highest digit; D p choices of plan p and, behind them, none -/
def c_R (D : Nat → Nat) (P : Nat) : Nat → Nat
  | 0 => 1
  | k + 1 => c_R D P k * (D (P - 1 - k) + 1)
/-- the choice of the k-th plan from the end -/
def c_h (D : Nat → Nat) (P x k : Nat) : Nat := x / c_R D P k % (D (P - 1 - k) + 1)
def c_ch (D : Nat → Nat) (P x p : Nat) : Nat := c_h D P x (P - 1 - p)
def c_n (D : Nat → Nat) (P x : Nat) : Nat → Nat
  | 0 => 0
  | k + 1 => c_n D P x k + if c_h D P x k = D (P - 1 - k) then 0 else 1
def c_s (D : Nat → Nat) (dy : Nat → Nat → Nat) (P x : Nat) : Nat → Nat
  | 0 => 0
  | k + 1 => c_s D dy P x k + if c_h D P x k = D (P - 1 - k) then 0 else dy (P - 1 - k) (c_h D P x k)
/-- plan p and the plans ahead of it do not clash -/
def c_o (D : Nat → Nat) (cc : Nat → Nat → Nat → Nat → Bool) (P x p : Nat) : Nat → Bool
  | 0 => true
  | o + 1 => c_o D cc P x p o && !(decide (c_ch D P x p < D p) && (decide (c_ch D P x o < D o) && cc p (c_ch D P x p) o (c_ch D P x o)))
def c_p (D : Nat → Nat) (cc : Nat → Nat → Nat → Nat → Bool) (P x : Nat) : Nat → Bool
  | 0 => true
  | p + 1 => c_p D cc P x p && c_o D cc P x p p
def c_b (t : Option (Nat × Nat)) (n s : Nat) : Bool := match t with
  | none => true
  | some q => decide (q.1 < n ∨ (n = q.1 ∧ s < q.2))
def c_row (D : Nat → Nat) (dy : Nat → Nat → Nat) (P x : Nat) (r : Nat → Int32) : Nat → Int32 := fun p => if p < P then (if c_ch D P x p = D p then -nI 1 else nI (dy p (c_ch D P x p))) else r p
def c_st (D : Nat → Nat) (dy : Nat → Nat → Nat) (cc : Nat → Nat → Nat → Nat → Bool) (P : Nat) (t : Option (Nat × Nat) × (Nat → Int32)) (x : Nat) : Option (Nat × Nat) × (Nat → Int32) := if c_b t.1 (c_n D P x P) (c_s D dy P x P) = true ∧ c_p D cc P x P = true then (some (c_n D P x P, c_s D dy P x P), c_row D dy P x t.2) else t
def c_all (D : Nat → Nat) (dy : Nat → Nat → Nat) (cc : Nat → Nat → Nat → Nat → Bool) (P : Nat) (r : Nat → Int32) : Nat → Option (Nat × Nat) × (Nat → Int32)
  | 0 => (none, r)
  | x + 1 => c_st D dy cc P (c_all D dy cc P r x) x
/-- the number and the sum that are kept -/
def c_m (t : Option (Nat × Nat)) : Int32 := match t with
  | none => -nI 1
  | some q => nI q.1
def c_l (t : Option (Nat × Nat)) : Int32 := match t with
  | none => nI 0
  | some q => nI q.2
theorem c_R_pos (D : Nat → Nat) (P k : Nat) : 0 < c_R D P k := by
  induction k with
  | zero => exact Nat.one_pos
  | succ k ih => rw [c_R]; exact Nat.mul_pos ih (Nat.succ_pos _)
theorem c_R_le {D : Nat → Nat} {P : Nat} (h : ∀ p, p < P → D p ≤ 4) : ∀ k, k ≤ P → c_R D P k ≤ 5 ^ k := by
  intro k
  induction k with
  | zero => intro _; exact Nat.le_refl _
  | succ k ih =>
    intro hk
    rw [c_R, Nat.pow_succ]
    have := h (P - 1 - k) (by omega)
    exact Nat.mul_le_mul (ih (by omega)) (by omega)
theorem c_h_le (D : Nat → Nat) (P x k : Nat) : c_h D P x k ≤ D (P - 1 - k) := Nat.le_of_lt_succ (Nat.mod_lt _ (Nat.succ_pos _))
theorem c_div (D : Nat → Nat) (P x k : Nat) : x / c_R D P k / (D (P - 1 - k) + 1) = x / c_R D P (k + 1) := by rw [c_R, Nat.div_div_eq_div_mul]
theorem c_n_le (D : Nat → Nat) (P x k : Nat) : c_n D P x k ≤ k := by
  induction k with
  | zero => exact Nat.le_refl _
  | succ k ih => rw [c_n]; split <;> omega
theorem c_s_le {D : Nat → Nat} {dy : Nat → Nat → Nat} {P : Nat} (h : ∀ p, p < P → ∀ i, i < D p → dy p i < 3600) (x : Nat) : ∀ k, k ≤ P → c_s D dy P x k ≤ 3600 * k := by
  intro k
  induction k with
  | zero => intro _; exact Nat.le_refl _
  | succ k ih =>
    intro hk
    rw [c_s]
    have := ih (by omega)
    have h2 := c_h_le D P x k
    split
    · omega
    · have := h (P - 1 - k) (by omega) (c_h D P x k) (by omega)
      omega
/-- the model: the plans -/
def m_D (M : eg_M) (p : Nat) : Nat := (eg_gi M 166 p).toNatClampNeg
def m_dy (M : eg_M) (p i : Nat) : Nat := (eg_gi M 167 (4 * p + i)).toNatClampNeg
def m_cc (M : eg_M) (p i o j : Nat) : Bool := decide (¬ b2i (m_h2 M p o 0 || m_h2 M p o 1) = 0 ∧ ¬ eg_gi M 167 (4 * o + j) + eg_gi M 165 o < eg_gi M 167 (4 * p + i) ∧ ¬ eg_gi M 167 (4 * p + i) + eg_gi M 165 p < eg_gi M 167 (4 * o + j))
def m_PL (M : eg_M) : Prop := eg_cn (eg_gi M 121 65) 6 ∧ ∀ p, p < (eg_gi M 121 65).toNatClampNeg → vp_in (eg_gi M 164 p) 24 ∧ (∃ k, k ≤ 4 ∧ eg_gi M 166 p = nI k) ∧ ∀ i, i < m_D M p → vp_in (eg_gi M 167 (4 * p + i)) 3600
def k_X12_calendar : eg_C := ([(0, .aload_n 0, 1), (1, .iconst 0, 1), (2, .putfield 213, 3), (5, .iconst 1, 1), (6, .istore_n 1, 1), (7, .iconst 0, 1), (8, .istore_n 2, 1), (9, .iload_n 2, 1), (10, .aload_n 0, 1), (11, .getfield 478, 3), (14, .if_icmp .ge 20, 3), (17, .iload_n 1, 1), (18, .aload_n 0, 1), (19, .getfield 180, 3), (22, .iload_n 2, 1), (23, .iaload, 1), (24, .iconst 1, 1), (25, .iadd, 1), (26, .imul, 1), (27, .istore_n 1, 1), (28, .iinc 2 1, 3), (31, .goto (-22), 3), (34, .iconst (-1), 1), (35, .istore_n 2, 1), (36, .iconst 0, 1), (37, .istore_n 3, 1), (38, .iconst 0, 1), (39, .istore 4, 2), (41, .iload 4, 2), (43, .iload_n 1, 1), (44, .if_icmp .ge 310, 3), (47, .iload 4, 2), (49, .istore 5, 2), (51, .iconst 0, 1), (52, .istore 6, 2), (54, .iconst 0, 1), (55, .istore 7, 2), (57, .aload_n 0, 1), (58, .getfield 478, 3), (61, .iconst 1, 1), (62, .isub, 1), (63, .istore 8, 2), (65, .iload 8, 2), (67, .ifCond .lt 87, 3), (70, .aload_n 0, 1), (71, .getfield 189, 3), (74, .iload 8, 2), (76, .iload 5, 2), (78, .aload_n 0, 1), (79, .getfield 180, 3), (82, .iload 8, 2), (84, .iaload, 1), (85, .iconst 1, 1), (86, .iadd, 1), (87, .irem, 1), (88, .iastore, 1), (89, .iload 5, 2), (91, .aload_n 0, 1), (92, .getfield 180, 3), (95, .iload 8, 2), (97, .iaload, 1), (98, .iconst 1, 1), (99, .iadd, 1), (100, .idiv, 1), (101, .istore 5, 2), (103, .aload_n 0, 1), (104, .getfield 189, 3), (107, .iload 8, 2), (109, .iaload, 1), (110, .aload_n 0, 1), (111, .getfield 180, 3), (114, .iload 8, 2), (116, .iaload, 1), (117, .if_icmp .ne 6, 3), (120, .goto 28, 3), (123, .iinc 6 1, 3), (126, .iload 7, 2), (128, .aload_n 0, 1), (129, .getfield 183, 3), (132, .iconst 4, 1), (133, .iload 8, 2), (135, .imul, 1), (136, .aload_n 0, 1), (137, .getfield 189, 3), (140, .iload 8, 2), (142, .iaload, 1), (143, .iadd, 1), (144, .iaload, 1), (145, .iadd, 1), (146, .istore 7, 2), (148, .iinc 8 (-1), 3), (151, .goto (-86), 3), (154, .iload_n 2, 1), (155, .iconst (-1), 1), (156, .if_icmp .eq 21, 3), (159, .iload 6, 2), (161, .iload_n 2, 1), (162, .if_icmp .gt 15, 3), (165, .iload 6, 2), (167, .iload_n 2, 1), (168, .if_icmp .ne 13, 3), (171, .iload 7, 2), (173, .iload_n 3, 1), (174, .if_icmp .ge 7, 3), (177, .iconst 1, 1), (178, .goto 4, 3), (181, .iconst 0, 1), (182, .istore 8, 2), (184, .iconst 0, 1), (185, .istore 9, 2), (187, .iload 9, 2), (189, .aload_n 0, 1), (190, .getfield 478, 3), (193, .if_icmp .ge 78, 3), (196, .iload 8, 2), (198, .ifCond .eq 73, 3), (201, .iconst 0, 1), (202, .istore 10, 2), (204, .iload 10, 2), (206, .iload 9, 2), (208, .if_icmp .ge 57, 3), (211, .aload_n 0, 1), (212, .getfield 189, 3), (215, .iload 9, 2), (217, .iaload, 1), (218, .aload_n 0, 1), (219, .getfield 180, 3), (222, .iload 9, 2), (224, .iaload, 1), (225, .if_icmp .ge 34, 3), (228, .aload_n 0, 1), (229, .getfield 189, 3), (232, .iload 10, 2), (234, .iaload, 1), (235, .aload_n 0, 1), (236, .getfield 180, 3), (239, .iload 10, 2), (241, .iaload, 1), (242, .if_icmp .ge 17, 3), (245, .aload_n 0, 1), (246, .iload 9, 2), (248, .iload 10, 2), (250, .invokevirtual 486, 3), (253, .ifCond .eq 6, 3), (256, .iconst 0, 1), (257, .istore 8, 2), (259, .iinc 10 1, 3), (262, .goto (-58), 3), (265, .iinc 9 1, 3), (268, .goto (-81), 3), (271, .iload 8, 2), (273, .ifCond .ne 6, 3), (276, .goto 72, 3), (279, .iload 6, 2), (281, .istore_n 2, 1), (282, .iload 7, 2), (284, .istore_n 3, 1), (285, .iconst 0, 1), (286, .istore 9, 2), (288, .iload 9, 2), (290, .aload_n 0, 1), (291, .getfield 478, 3), (294, .if_icmp .ge 54, 3), (297, .aload_n 0, 1), (298, .getfield 186, 3), (301, .iload 9, 2), (303, .aload_n 0, 1), (304, .getfield 189, 3), (307, .iload 9, 2), (309, .iaload, 1), (310, .aload_n 0, 1), (311, .getfield 180, 3), (314, .iload 9, 2), (316, .iaload, 1), (317, .if_icmp .ne 7, 3), (320, .iconst (-1), 1), (321, .goto 20, 3), (324, .aload_n 0, 1), (325, .getfield 183, 3), (328, .iconst 4, 1), (329, .iload 9, 2), (331, .imul, 1), (332, .aload_n 0, 1), (333, .getfield 189, 3), (336, .iload 9, 2), (338, .iaload, 1), (339, .iadd, 1), (340, .iaload, 1), (341, .iastore, 1), (342, .iinc 9 1, 3), (345, .goto (-57), 3), (348, .iinc 4 1, 3), (351, .goto (-310), 3), (354, .aload_n 0, 1), (355, .aload_n 0, 1), (356, .getfield 478, 3), (359, .putfield 171, 3), (362, .aload_n 0, 1), (363, .iload_n 3, 1), (364, .putfield 489, 3), (367, .iload_n 2, 1), (368, .ireturn, 1)], [(171, 12, 66, true), (180, 12, 70, false), (183, 12, 71, false), (186, 12, 72, false), (189, 12, 73, false), (213, 12, 1, true), (478, 12, 65, false), (489, 12, 67, true)], [], [(486, 2 + 1, 0, 0, s_X12_clash)], [], 1, 0, 0)
theorem mk_X12_calendar : ∀ q ∈ k_X12_calendar.2.2.2.1, eg_mono q.2.2.2.2 := (fc (mo_X12_clash) (fn))
set_option maxRecDepth 100000 in
theorem st_X12_calendar_0 {Qp : eg_P} {M : eg_M} 
  (l0 : eg_T wd k_X12_calendar Qp 9 0 0 [some (.ref 121), some (.int (nI 1)), some (.int (nI 0)), none, none, none, none, none, none, none, none] [] (eg_si M 121 1 (nI 0))) :
  eg_T wd k_X12_calendar Qp 0 0 0 [some (.ref 121), none, none, none, none, none, none, none, none, none, none] [] M := by
  refine eg_T_run mk_X12_calendar (cut := [9, 41, 65, 187, 204, 288]) 205 ?_
  show eg_T wd k_X12_calendar Qp 9 0 0 [some (.ref 121), some (.int (nI 1)), some (.int (nI 0)), none, none, none, none, none, none, none, none] [] (eg_si M 121 1 (nI 0))
  exact l0

set_option maxRecDepth 100000 in
theorem st_X12_calendar_9 {Qp : eg_P} {M : eg_M} (x1 : Int32) (x2 : Int32) (o3 : Option Value) (o4 : Option Value) (o5 : Option Value) (o6 : Option Value) (o7 : Option Value) (o8 : Option Value) (o9 : Option Value) (o10 : Option Value)
  (g0 : (¬ ((eg_gi M 121 65) ≤ x2)) → (vp_in x2 6))
  (l0 : ((eg_gi M 121 65) ≤ x2) → eg_T wd k_X12_calendar Qp 41 0 0 [some (.ref 121), some (.int x1), some (.int (-nI 1)), some (.int (nI 0)), some (.int (nI 0)), o5, o6, o7, o8, o9, o10] [] M)
  (l1 : (¬ (eg_gi M 121 65) ≤ x2) → eg_T wd k_X12_calendar Qp 9 0 0 [some (.ref 121), some (.int (x1 * ((eg_gi M 166 x2.toNatClampNeg) + (nI 1)))), some (.int (x2 + (nI 1))), o3, o4, o5, o6, o7, o8, o9, o10] [] M) :
  eg_T wd k_X12_calendar Qp 9 0 0 [some (.ref 121), some (.int x1), some (.int x2), o3, o4, o5, o6, o7, o8, o9, o10] [] M := by
  refine eg_T_run mk_X12_calendar (cut := [9, 41, 65, 187, 204, 288]) 205 ?_
  refine And.intro (fun (c1 : (eg_gi M 121 65) ≤ x2) => ?_) (fun (c1 : ¬ (eg_gi M 121 65) ≤ x2) => ?_)
  · skip
    show eg_T wd k_X12_calendar Qp 41 0 0 [some (.ref 121), some (.int x1), some (.int (-nI 1)), some (.int (nI 0)), some (.int (nI 0)), o5, o6, o7, o8, o9, o10] [] M
    exact l0 c1
  · skip
    refine And.intro (show vp_in x2 6 from ?_) ?_
    · exact g0 c1
    show eg_T wd k_X12_calendar Qp 9 0 0 [some (.ref 121), some (.int (x1 * ((eg_gi M 166 x2.toNatClampNeg) + (nI 1)))), some (.int (x2 + (nI 1))), o3, o4, o5, o6, o7, o8, o9, o10] [] M
    exact l1 c1

set_option maxRecDepth 100000 in
theorem st_X12_calendar_41 {Qp : eg_P} {M : eg_M} (x1 : Int32) (x2 : Int32) (x3 : Int32) (x4 : Int32) (o5 : Option Value) (o6 : Option Value) (o7 : Option Value) (o8 : Option Value) (o9 : Option Value) (o10 : Option Value)
  (l0 : (x1 ≤ x4) → Qp (.inl (some (.int x2))) (eg_si (eg_si M 121 66 (eg_gi M 121 65)) 121 67 x3))
  (l1 : (¬ x1 ≤ x4) → eg_T wd k_X12_calendar Qp 65 0 0 [some (.ref 121), some (.int x1), some (.int x2), some (.int x3), some (.int x4), some (.int x4), some (.int (nI 0)), some (.int (nI 0)), some (.int ((eg_gi M 121 65) - (nI 1))), o9, o10] [] M) :
  eg_T wd k_X12_calendar Qp 41 0 0 [some (.ref 121), some (.int x1), some (.int x2), some (.int x3), some (.int x4), o5, o6, o7, o8, o9, o10] [] M := by
  refine eg_T_run mk_X12_calendar (cut := [9, 41, 65, 187, 204, 288]) 205 ?_
  refine And.intro (fun (c1 : x1 ≤ x4) => ?_) (fun (c1 : ¬ x1 ≤ x4) => ?_)
  · skip
    refine And.intro (fun z => absurd z (by decide)) ?_
    show Qp (.inl (some (.int x2))) (eg_si (eg_si M 121 66 (eg_gi M 121 65)) 121 67 x3)
    exact l0 c1
  · skip
    show eg_T wd k_X12_calendar Qp 65 0 0 [some (.ref 121), some (.int x1), some (.int x2), some (.int x3), some (.int x4), some (.int x4), some (.int (nI 0)), some (.int (nI 0)), some (.int ((eg_gi M 121 65) - (nI 1))), o9, o10] [] M
    exact l1 c1

set_option maxRecDepth 100000 in
theorem st_X12_calendar_65 {Qp : eg_P} {M : eg_M} (x1 : Int32) (x2 : Int32) (x3 : Int32) (x4 : Int32) (x5 : Int32) (x6 : Int32) (x7 : Int32) (x8 : Int32) (o9 : Option Value) (o10 : Option Value)
  (g0 : (¬ (x8 < 0)) → (vp_in x8 6))
  (g1 : (¬ (x8 < 0)) → (¬ (((eg_gi M 166 x8.toNatClampNeg) + (nI 1))) = 0))
  (g2 : (¬ (x8 < 0)) → (¬ ((eg_gi (eg_si M 169 x8.toNatClampNeg (x5 - x5 / ((eg_gi M 166 x8.toNatClampNeg) + (nI 1)) * ((eg_gi M 166 x8.toNatClampNeg) + (nI 1)))) 169 x8.toNatClampNeg) = (eg_gi M 166 x8.toNatClampNeg))) → (vp_in (((nI 4) * x8) + (eg_gi (eg_si M 169 x8.toNatClampNeg (x5 - x5 / ((eg_gi M 166 x8.toNatClampNeg) + (nI 1)) * ((eg_gi M 166 x8.toNatClampNeg) + (nI 1)))) 169 x8.toNatClampNeg)) 24))
  (l0 : (x8 < 0 ∧ (x2 = (-nI 1) ∨ (x2 < x6 ∨ (x6 = x2 ∧ ¬ x3 ≤ x7)))) → eg_T wd k_X12_calendar Qp 187 0 0 [some (.ref 121), some (.int x1), some (.int x2), some (.int x3), some (.int x4), some (.int x5), some (.int x6), some (.int x7), some (.int (nI 1)), some (.int (nI 0)), o10] [] M)
  (l1 : (x8 < 0 ∧ (¬ x2 = (-nI 1) ∧ (¬ x2 < x6 ∧ (¬ x6 = x2 ∨ x3 ≤ x7)))) → eg_T wd k_X12_calendar Qp 187 0 0 [some (.ref 121), some (.int x1), some (.int x2), some (.int x3), some (.int x4), some (.int x5), some (.int x6), some (.int x7), some (.int (nI 0)), some (.int (nI 0)), o10] [] M)
  (l2 : (¬ x8 < 0 ∧ (eg_gi (eg_si M 169 x8.toNatClampNeg (x5 - x5 / ((eg_gi M 166 x8.toNatClampNeg) + (nI 1)) * ((eg_gi M 166 x8.toNatClampNeg) + (nI 1)))) 169 x8.toNatClampNeg) = (eg_gi M 166 x8.toNatClampNeg)) → eg_T wd k_X12_calendar Qp 65 0 0 [some (.ref 121), some (.int x1), some (.int x2), some (.int x3), some (.int x4), some (.int (x5 / ((eg_gi M 166 x8.toNatClampNeg) + (nI 1)))), some (.int x6), some (.int x7), some (.int (x8 + (-nI 1))), o9, o10] [] (eg_si M 169 x8.toNatClampNeg (x5 - x5 / ((eg_gi M 166 x8.toNatClampNeg) + (nI 1)) * ((eg_gi M 166 x8.toNatClampNeg) + (nI 1)))))
  (l3 : (¬ x8 < 0 ∧ ¬ (eg_gi (eg_si M 169 x8.toNatClampNeg (x5 - x5 / ((eg_gi M 166 x8.toNatClampNeg) + (nI 1)) * ((eg_gi M 166 x8.toNatClampNeg) + (nI 1)))) 169 x8.toNatClampNeg) = (eg_gi M 166 x8.toNatClampNeg)) → eg_T wd k_X12_calendar Qp 65 0 0 [some (.ref 121), some (.int x1), some (.int x2), some (.int x3), some (.int x4), some (.int (x5 / ((eg_gi M 166 x8.toNatClampNeg) + (nI 1)))), some (.int (x6 + (nI 1))), some (.int (x7 + (eg_gi M 167 (((nI 4) * x8) + (eg_gi (eg_si M 169 x8.toNatClampNeg (x5 - x5 / ((eg_gi M 166 x8.toNatClampNeg) + (nI 1)) * ((eg_gi M 166 x8.toNatClampNeg) + (nI 1)))) 169 x8.toNatClampNeg)).toNatClampNeg))), some (.int (x8 + (-nI 1))), o9, o10] [] (eg_si M 169 x8.toNatClampNeg (x5 - x5 / ((eg_gi M 166 x8.toNatClampNeg) + (nI 1)) * ((eg_gi M 166 x8.toNatClampNeg) + (nI 1))))) :
  eg_T wd k_X12_calendar Qp 65 0 0 [some (.ref 121), some (.int x1), some (.int x2), some (.int x3), some (.int x4), some (.int x5), some (.int x6), some (.int x7), some (.int x8), o9, o10] [] M := by
  refine eg_T_run mk_X12_calendar (cut := [9, 41, 65, 187, 204, 288]) 205 ?_
  refine And.intro (fun (c1 : x8 < 0) => ?_) (fun (c1 : ¬ x8 < 0) => ?_)
  · skip
    refine And.intro (fun (c2 : x2 = (-nI 1)) => ?_) (fun (c2 : ¬ x2 = (-nI 1)) => ?_)
    · skip
      show eg_T wd k_X12_calendar Qp 187 0 0 [some (.ref 121), some (.int x1), some (.int x2), some (.int x3), some (.int x4), some (.int x5), some (.int x6), some (.int x7), some (.int (nI 1)), some (.int (nI 0)), o10] [] M
      exact l0 ⟨c1, (Or.inl c2)⟩
    · skip
      refine And.intro (fun (c3 : x2 < x6) => ?_) (fun (c3 : ¬ x2 < x6) => ?_)
      · skip
        show eg_T wd k_X12_calendar Qp 187 0 0 [some (.ref 121), some (.int x1), some (.int x2), some (.int x3), some (.int x4), some (.int x5), some (.int x6), some (.int x7), some (.int (nI 1)), some (.int (nI 0)), o10] [] M
        exact l0 ⟨c1, (Or.inr (Or.inl c3))⟩
      · skip
        refine And.intro (fun (c4 : x6 = x2) => ?_) (fun (c4 : ¬ x6 = x2) => ?_)
        · skip
          refine And.intro (fun (c5 : x3 ≤ x7) => ?_) (fun (c5 : ¬ x3 ≤ x7) => ?_)
          · skip
            show eg_T wd k_X12_calendar Qp 187 0 0 [some (.ref 121), some (.int x1), some (.int x2), some (.int x3), some (.int x4), some (.int x5), some (.int x6), some (.int x7), some (.int (nI 0)), some (.int (nI 0)), o10] [] M
            exact l1 ⟨c1, ⟨c2, ⟨c3, (Or.inr c5)⟩⟩⟩
          · skip
            show eg_T wd k_X12_calendar Qp 187 0 0 [some (.ref 121), some (.int x1), some (.int x2), some (.int x3), some (.int x4), some (.int x5), some (.int x6), some (.int x7), some (.int (nI 1)), some (.int (nI 0)), o10] [] M
            exact l0 ⟨c1, (Or.inr (Or.inr ⟨c4, c5⟩))⟩
        · skip
          show eg_T wd k_X12_calendar Qp 187 0 0 [some (.ref 121), some (.int x1), some (.int x2), some (.int x3), some (.int x4), some (.int x5), some (.int x6), some (.int x7), some (.int (nI 0)), some (.int (nI 0)), o10] [] M
          exact l1 ⟨c1, ⟨c2, ⟨c3, (Or.inl c4)⟩⟩⟩
  · skip
    refine And.intro (show vp_in x8 6 from ?_) ?_
    · exact g0 c1
    refine And.intro (show ¬ ((eg_gi M 166 x8.toNatClampNeg) + (nI 1)) = 0 from ?_) ?_
    · exact g1 c1
    refine And.intro (show vp_in x8 6 from ?_) ?_
    · exact g0 c1
    refine And.intro (show vp_in x8 6 from ?_) ?_
    · exact g0 c1
    refine And.intro (show ¬ ((eg_gi M 166 x8.toNatClampNeg) + (nI 1)) = 0 from ?_) ?_
    · exact g1 c1
    refine And.intro (show vp_in x8 6 from ?_) ?_
    · exact g0 c1
    refine And.intro (show vp_in x8 6 from ?_) ?_
    · exact g0 c1
    refine And.intro (fun (c6 : (eg_gi (eg_si M 169 x8.toNatClampNeg (x5 - x5 / ((eg_gi M 166 x8.toNatClampNeg) + (nI 1)) * ((eg_gi M 166 x8.toNatClampNeg) + (nI 1)))) 169 x8.toNatClampNeg) = (eg_gi M 166 x8.toNatClampNeg)) => ?_) (fun (c6 : ¬ (eg_gi (eg_si M 169 x8.toNatClampNeg (x5 - x5 / ((eg_gi M 166 x8.toNatClampNeg) + (nI 1)) * ((eg_gi M 166 x8.toNatClampNeg) + (nI 1)))) 169 x8.toNatClampNeg) = (eg_gi M 166 x8.toNatClampNeg)) => ?_)
    · skip
      show eg_T wd k_X12_calendar Qp 65 0 0 [some (.ref 121), some (.int x1), some (.int x2), some (.int x3), some (.int x4), some (.int (x5 / ((eg_gi M 166 x8.toNatClampNeg) + (nI 1)))), some (.int x6), some (.int x7), some (.int (x8 + (-nI 1))), o9, o10] [] (eg_si M 169 x8.toNatClampNeg (x5 - x5 / ((eg_gi M 166 x8.toNatClampNeg) + (nI 1)) * ((eg_gi M 166 x8.toNatClampNeg) + (nI 1))))
      exact l2 ⟨c1, c6⟩
    · skip
      refine And.intro (show vp_in x8 6 from ?_) ?_
      · exact g0 c1
      refine And.intro (show vp_in (((nI 4) * x8) + (eg_gi (eg_si M 169 x8.toNatClampNeg (x5 - x5 / ((eg_gi M 166 x8.toNatClampNeg) + (nI 1)) * ((eg_gi M 166 x8.toNatClampNeg) + (nI 1)))) 169 x8.toNatClampNeg)) 24 from ?_) ?_
      · exact g2 c1 c6
      show eg_T wd k_X12_calendar Qp 65 0 0 [some (.ref 121), some (.int x1), some (.int x2), some (.int x3), some (.int x4), some (.int (x5 / ((eg_gi M 166 x8.toNatClampNeg) + (nI 1)))), some (.int (x6 + (nI 1))), some (.int (x7 + (eg_gi M 167 (((nI 4) * x8) + (eg_gi (eg_si M 169 x8.toNatClampNeg (x5 - x5 / ((eg_gi M 166 x8.toNatClampNeg) + (nI 1)) * ((eg_gi M 166 x8.toNatClampNeg) + (nI 1)))) 169 x8.toNatClampNeg)).toNatClampNeg))), some (.int (x8 + (-nI 1))), o9, o10] [] (eg_si M 169 x8.toNatClampNeg (x5 - x5 / ((eg_gi M 166 x8.toNatClampNeg) + (nI 1)) * ((eg_gi M 166 x8.toNatClampNeg) + (nI 1))))
      exact l3 ⟨c1, c6⟩

set_option maxRecDepth 100000 in
theorem st_X12_calendar_187 {Qp : eg_P} {M : eg_M} (x1 : Int32) (x2 : Int32) (x3 : Int32) (x4 : Int32) (o5 : Option Value) (x6 : Int32) (x7 : Int32) (x8 : Int32) (x9 : Int32) (o10 : Option Value)
  (l0 : (x8 = 0) → eg_T wd k_X12_calendar Qp 41 0 0 [some (.ref 121), some (.int x1), some (.int x2), some (.int x3), some (.int (x4 + (nI 1))), o5, some (.int x6), some (.int x7), some (.int x8), some (.int x9), o10] [] M)
  (l1 : ((eg_gi M 121 65) ≤ x9 ∧ ¬ x8 = 0) → eg_T wd k_X12_calendar Qp 288 0 0 [some (.ref 121), some (.int x1), some (.int x6), some (.int x7), some (.int x4), o5, some (.int x6), some (.int x7), some (.int x8), some (.int (nI 0)), o10] [] M)
  (l2 : (¬ (eg_gi M 121 65) ≤ x9 ∧ ¬ x8 = 0) → eg_T wd k_X12_calendar Qp 204 0 0 [some (.ref 121), some (.int x1), some (.int x2), some (.int x3), some (.int x4), o5, some (.int x6), some (.int x7), some (.int x8), some (.int x9), some (.int (nI 0))] [] M) :
  eg_T wd k_X12_calendar Qp 187 0 0 [some (.ref 121), some (.int x1), some (.int x2), some (.int x3), some (.int x4), o5, some (.int x6), some (.int x7), some (.int x8), some (.int x9), o10] [] M := by
  refine eg_T_run mk_X12_calendar (cut := [9, 41, 65, 187, 204, 288]) 205 ?_
  refine And.intro (fun (c1 : (eg_gi M 121 65) ≤ x9) => ?_) (fun (c1 : ¬ (eg_gi M 121 65) ≤ x9) => ?_)
  · skip
    refine And.intro (fun (c2 : x8 = 0) => ?_) (fun (c2 : ¬ x8 = 0) => ?_)
    · skip
      show eg_T wd k_X12_calendar Qp 41 0 0 [some (.ref 121), some (.int x1), some (.int x2), some (.int x3), some (.int (x4 + (nI 1))), o5, some (.int x6), some (.int x7), some (.int x8), some (.int x9), o10] [] M
      exact l0 c2
    · skip
      show eg_T wd k_X12_calendar Qp 288 0 0 [some (.ref 121), some (.int x1), some (.int x6), some (.int x7), some (.int x4), o5, some (.int x6), some (.int x7), some (.int x8), some (.int (nI 0)), o10] [] M
      exact l1 ⟨c1, c2⟩
  · skip
    refine And.intro (fun (c3 : x8 = 0) => ?_) (fun (c3 : ¬ x8 = 0) => ?_)
    · skip
      refine And.intro (fun (c4 : x8 = 0) => ?_) (fun (c4 : ¬ x8 = 0) => ?_)
      · clear c4
        show eg_T wd k_X12_calendar Qp 41 0 0 [some (.ref 121), some (.int x1), some (.int x2), some (.int x3), some (.int (x4 + (nI 1))), o5, some (.int x6), some (.int x7), some (.int x8), some (.int x9), o10] [] M
        exact l0 c3
      · exact absurd c3 c4
    · skip
      show eg_T wd k_X12_calendar Qp 204 0 0 [some (.ref 121), some (.int x1), some (.int x2), some (.int x3), some (.int x4), o5, some (.int x6), some (.int x7), some (.int x8), some (.int x9), some (.int (nI 0))] [] M
      exact l2 ⟨c1, c3⟩

set_option maxRecDepth 100000 in
theorem st_X12_calendar_204 {Qp : eg_P} {M : eg_M} (x1 : Int32) (x2 : Int32) (x3 : Int32) (x4 : Int32) (o5 : Option Value) (x6 : Int32) (x7 : Int32) (x8 : Int32) (x9 : Int32) (x10 : Int32)
  (g0 : (¬ (x9 ≤ x10)) → (vp_in x9 6))
  (g1 : (¬ (x9 ≤ x10)) → (¬ ((eg_gi M 166 x9.toNatClampNeg) ≤ (eg_gi M 169 x9.toNatClampNeg))) → (vp_in x10 6))
  (g2 : (¬ (x9 ≤ x10)) → (¬ ((eg_gi M 166 x9.toNatClampNeg) ≤ (eg_gi M 169 x9.toNatClampNeg))) → (¬ ((eg_gi M 166 x10.toNatClampNeg) ≤ (eg_gi M 169 x10.toNatClampNeg))) → ((vp_in x9 6) ∧ (vp_in (((nI 4) * x9) + (eg_gi M 169 x9.toNatClampNeg)) 24) ∧ (vp_in x10 6) ∧ (vp_in (((nI 4) * x10) + (eg_gi M 169 x10.toNatClampNeg)) 24) ∧ ((vp_in x9 6 ∧ vp_in x10 6 ∧ vp_in (eg_gi M 164 x9.toNatClampNeg) 24 ∧ vp_in (eg_gi M 164 x10.toNatClampNeg) 24))))
  (l0 : (x9 ≤ x10) → eg_T wd k_X12_calendar Qp 187 0 0 [some (.ref 121), some (.int x1), some (.int x2), some (.int x3), some (.int x4), o5, some (.int x6), some (.int x7), some (.int x8), some (.int (x9 + (nI 1))), some (.int x10)] [] M)
  (l1 : (¬ x9 ≤ x10 ∧ ((eg_gi M 166 x9.toNatClampNeg) ≤ (eg_gi M 169 x9.toNatClampNeg) ∨ ((eg_gi M 166 x10.toNatClampNeg) ≤ (eg_gi M 169 x10.toNatClampNeg) ∨ (¬ (¬ (b2i (m_h2 M x9.toNatClampNeg x10.toNatClampNeg 0 || m_h2 M x9.toNatClampNeg x10.toNatClampNeg 1)) = 0 ∧ (¬ ((eg_gi M 167 (((nI 4) * x10) + (eg_gi M 169 x10.toNatClampNeg)).toNatClampNeg) + (eg_gi M 165 x10.toNatClampNeg)) < (eg_gi M 167 (((nI 4) * x9) + (eg_gi M 169 x9.toNatClampNeg)).toNatClampNeg) ∧ ¬ ((eg_gi M 167 (((nI 4) * x9) + (eg_gi M 169 x9.toNatClampNeg)).toNatClampNeg) + (eg_gi M 165 x9.toNatClampNeg)) < (eg_gi M 167 (((nI 4) * x10) + (eg_gi M 169 x10.toNatClampNeg)).toNatClampNeg))))))) → eg_T wd k_X12_calendar Qp 204 0 0 [some (.ref 121), some (.int x1), some (.int x2), some (.int x3), some (.int x4), o5, some (.int x6), some (.int x7), some (.int x8), some (.int x9), some (.int (x10 + (nI 1)))] [] M)
  (l2 : (¬ x9 ≤ x10 ∧ (¬ (eg_gi M 166 x9.toNatClampNeg) ≤ (eg_gi M 169 x9.toNatClampNeg) ∧ (¬ (eg_gi M 166 x10.toNatClampNeg) ≤ (eg_gi M 169 x10.toNatClampNeg) ∧ ((¬ (b2i (m_h2 M x9.toNatClampNeg x10.toNatClampNeg 0 || m_h2 M x9.toNatClampNeg x10.toNatClampNeg 1)) = 0 ∧ (¬ ((eg_gi M 167 (((nI 4) * x10) + (eg_gi M 169 x10.toNatClampNeg)).toNatClampNeg) + (eg_gi M 165 x10.toNatClampNeg)) < (eg_gi M 167 (((nI 4) * x9) + (eg_gi M 169 x9.toNatClampNeg)).toNatClampNeg) ∧ ¬ ((eg_gi M 167 (((nI 4) * x9) + (eg_gi M 169 x9.toNatClampNeg)).toNatClampNeg) + (eg_gi M 165 x9.toNatClampNeg)) < (eg_gi M 167 (((nI 4) * x10) + (eg_gi M 169 x10.toNatClampNeg)).toNatClampNeg))))))) → eg_T wd k_X12_calendar Qp 204 0 0 [some (.ref 121), some (.int x1), some (.int x2), some (.int x3), some (.int x4), o5, some (.int x6), some (.int x7), some (.int (nI 0)), some (.int x9), some (.int (x10 + (nI 1)))] [] M) :
  eg_T wd k_X12_calendar Qp 204 0 0 [some (.ref 121), some (.int x1), some (.int x2), some (.int x3), some (.int x4), o5, some (.int x6), some (.int x7), some (.int x8), some (.int x9), some (.int x10)] [] M := by
  refine eg_T_run mk_X12_calendar (cut := [9, 41, 65, 187, 204, 288]) 205 ?_
  refine And.intro (fun (c1 : x9 ≤ x10) => ?_) (fun (c1 : ¬ x9 ≤ x10) => ?_)
  · skip
    show eg_T wd k_X12_calendar Qp 187 0 0 [some (.ref 121), some (.int x1), some (.int x2), some (.int x3), some (.int x4), o5, some (.int x6), some (.int x7), some (.int x8), some (.int (x9 + (nI 1))), some (.int x10)] [] M
    exact l0 c1
  · skip
    refine And.intro (show vp_in x9 6 from ?_) ?_
    · exact g0 c1
    refine And.intro (show vp_in x9 6 from ?_) ?_
    · exact g0 c1
    refine And.intro (fun (c2 : (eg_gi M 166 x9.toNatClampNeg) ≤ (eg_gi M 169 x9.toNatClampNeg)) => ?_) (fun (c2 : ¬ (eg_gi M 166 x9.toNatClampNeg) ≤ (eg_gi M 169 x9.toNatClampNeg)) => ?_)
    · skip
      show eg_T wd k_X12_calendar Qp 204 0 0 [some (.ref 121), some (.int x1), some (.int x2), some (.int x3), some (.int x4), o5, some (.int x6), some (.int x7), some (.int x8), some (.int x9), some (.int (x10 + (nI 1)))] [] M
      exact l1 ⟨c1, (Or.inl c2)⟩
    · skip
      refine And.intro (show vp_in x10 6 from ?_) ?_
      · exact g1 c1 c2
      refine And.intro (show vp_in x10 6 from ?_) ?_
      · exact g1 c1 c2
      refine And.intro (fun (c3 : (eg_gi M 166 x10.toNatClampNeg) ≤ (eg_gi M 169 x10.toNatClampNeg)) => ?_) (fun (c3 : ¬ (eg_gi M 166 x10.toNatClampNeg) ≤ (eg_gi M 169 x10.toNatClampNeg)) => ?_)
      · skip
        show eg_T wd k_X12_calendar Qp 204 0 0 [some (.ref 121), some (.int x1), some (.int x2), some (.int x3), some (.int x4), o5, some (.int x6), some (.int x7), some (.int x8), some (.int x9), some (.int (x10 + (nI 1)))] [] M
        exact l1 ⟨c1, (Or.inr (Or.inl c3))⟩
      · skip
        refine And.intro (show ((vp_in x9 6) ∧ (vp_in (((nI 4) * x9) + (eg_gi M 169 x9.toNatClampNeg)) 24) ∧ (vp_in x10 6) ∧ (vp_in (((nI 4) * x10) + (eg_gi M 169 x10.toNatClampNeg)) 24) ∧ ((vp_in x9 6 ∧ vp_in x10 6 ∧ vp_in (eg_gi M 164 x9.toNatClampNeg) 24 ∧ vp_in (eg_gi M 164 x10.toNatClampNeg) 24))) from ?_) ?_
        · exact g2 c1 c2 c3
        refine And.intro (fun (c4 : (b2i (decide (¬ (b2i (m_h2 M x9.toNatClampNeg x10.toNatClampNeg 0 || m_h2 M x9.toNatClampNeg x10.toNatClampNeg 1)) = 0 ∧ (¬ ((eg_gi M 167 (((nI 4) * x10) + (eg_gi M 169 x10.toNatClampNeg)).toNatClampNeg) + (eg_gi M 165 x10.toNatClampNeg)) < (eg_gi M 167 (((nI 4) * x9) + (eg_gi M 169 x9.toNatClampNeg)).toNatClampNeg) ∧ ¬ ((eg_gi M 167 (((nI 4) * x9) + (eg_gi M 169 x9.toNatClampNeg)).toNatClampNeg) + (eg_gi M 165 x9.toNatClampNeg)) < (eg_gi M 167 (((nI 4) * x10) + (eg_gi M 169 x10.toNatClampNeg)).toNatClampNeg))))) = 0) => ?_) (fun (c4 : ¬ (b2i (decide (¬ (b2i (m_h2 M x9.toNatClampNeg x10.toNatClampNeg 0 || m_h2 M x9.toNatClampNeg x10.toNatClampNeg 1)) = 0 ∧ (¬ ((eg_gi M 167 (((nI 4) * x10) + (eg_gi M 169 x10.toNatClampNeg)).toNatClampNeg) + (eg_gi M 165 x10.toNatClampNeg)) < (eg_gi M 167 (((nI 4) * x9) + (eg_gi M 169 x9.toNatClampNeg)).toNatClampNeg) ∧ ¬ ((eg_gi M 167 (((nI 4) * x9) + (eg_gi M 169 x9.toNatClampNeg)).toNatClampNeg) + (eg_gi M 165 x9.toNatClampNeg)) < (eg_gi M 167 (((nI 4) * x10) + (eg_gi M 169 x10.toNatClampNeg)).toNatClampNeg))))) = 0) => ?_)
        · replace c4 := b2i_d0.mp c4
          show eg_T wd k_X12_calendar Qp 204 0 0 [some (.ref 121), some (.int x1), some (.int x2), some (.int x3), some (.int x4), o5, some (.int x6), some (.int x7), some (.int x8), some (.int x9), some (.int (x10 + (nI 1)))] [] M
          exact l1 ⟨c1, (Or.inr (Or.inr c4))⟩
        · replace c4 := b2i_dn.mp c4
          show eg_T wd k_X12_calendar Qp 204 0 0 [some (.ref 121), some (.int x1), some (.int x2), some (.int x3), some (.int x4), o5, some (.int x6), some (.int x7), some (.int (nI 0)), some (.int x9), some (.int (x10 + (nI 1)))] [] M
          exact l2 ⟨c1, ⟨c2, ⟨c3, (Classical.byContradiction c4)⟩⟩⟩

set_option maxRecDepth 100000 in
theorem st_X12_calendar_288 {Qp : eg_P} {M : eg_M} (x1 : Int32) (x2 : Int32) (x3 : Int32) (x4 : Int32) (o5 : Option Value) (o6 : Option Value) (o7 : Option Value) (x8 : Int32) (x9 : Int32) (o10 : Option Value)
  (g0 : (¬ ((eg_gi M 121 65) ≤ x9)) → (vp_in x9 6))
  (g1 : (¬ ((eg_gi M 121 65) ≤ x9)) → (¬ ((eg_gi M 169 x9.toNatClampNeg) = (eg_gi M 166 x9.toNatClampNeg))) → (vp_in (((nI 4) * x9) + (eg_gi M 169 x9.toNatClampNeg)) 24))
  (l0 : ((eg_gi M 121 65) ≤ x9) → eg_T wd k_X12_calendar Qp 41 0 0 [some (.ref 121), some (.int x1), some (.int x2), some (.int x3), some (.int (x4 + (nI 1))), o5, o6, o7, some (.int x8), some (.int x9), o10] [] M)
  (l1 : (¬ (eg_gi M 121 65) ≤ x9 ∧ (eg_gi M 169 x9.toNatClampNeg) = (eg_gi M 166 x9.toNatClampNeg)) → eg_T wd k_X12_calendar Qp 288 0 0 [some (.ref 121), some (.int x1), some (.int x2), some (.int x3), some (.int x4), o5, o6, o7, some (.int x8), some (.int (x9 + (nI 1))), o10] [] (eg_si M 168 x9.toNatClampNeg (-nI 1)))
  (l2 : (¬ (eg_gi M 121 65) ≤ x9 ∧ ¬ (eg_gi M 169 x9.toNatClampNeg) = (eg_gi M 166 x9.toNatClampNeg)) → eg_T wd k_X12_calendar Qp 288 0 0 [some (.ref 121), some (.int x1), some (.int x2), some (.int x3), some (.int x4), o5, o6, o7, some (.int x8), some (.int (x9 + (nI 1))), o10] [] (eg_si M 168 x9.toNatClampNeg (eg_gi M 167 (((nI 4) * x9) + (eg_gi M 169 x9.toNatClampNeg)).toNatClampNeg))) :
  eg_T wd k_X12_calendar Qp 288 0 0 [some (.ref 121), some (.int x1), some (.int x2), some (.int x3), some (.int x4), o5, o6, o7, some (.int x8), some (.int x9), o10] [] M := by
  refine eg_T_run mk_X12_calendar (cut := [9, 41, 65, 187, 204, 288]) 205 ?_
  refine And.intro (fun (c1 : (eg_gi M 121 65) ≤ x9) => ?_) (fun (c1 : ¬ (eg_gi M 121 65) ≤ x9) => ?_)
  · skip
    show eg_T wd k_X12_calendar Qp 41 0 0 [some (.ref 121), some (.int x1), some (.int x2), some (.int x3), some (.int (x4 + (nI 1))), o5, o6, o7, some (.int x8), some (.int x9), o10] [] M
    exact l0 c1
  · skip
    refine And.intro (show vp_in x9 6 from ?_) ?_
    · exact g0 c1
    refine And.intro (show vp_in x9 6 from ?_) ?_
    · exact g0 c1
    refine And.intro (fun (c2 : (eg_gi M 169 x9.toNatClampNeg) = (eg_gi M 166 x9.toNatClampNeg)) => ?_) (fun (c2 : ¬ (eg_gi M 169 x9.toNatClampNeg) = (eg_gi M 166 x9.toNatClampNeg)) => ?_)
    · skip
      refine And.intro (show vp_in x9 6 from ?_) ?_
      · exact g0 c1
      show eg_T wd k_X12_calendar Qp 288 0 0 [some (.ref 121), some (.int x1), some (.int x2), some (.int x3), some (.int x4), o5, o6, o7, some (.int x8), some (.int (x9 + (nI 1))), o10] [] (eg_si M 168 x9.toNatClampNeg (-nI 1))
      exact l1 ⟨c1, c2⟩
    · skip
      refine And.intro (show vp_in x9 6 from ?_) ?_
      · exact g0 c1
      refine And.intro (show vp_in (((nI 4) * x9) + (eg_gi M 169 x9.toNatClampNeg)) 24 from ?_) ?_
      · exact g1 c1 c2
      refine And.intro (show vp_in x9 6 from ?_) ?_
      · exact g0 c1
      show eg_T wd k_X12_calendar Qp 288 0 0 [some (.ref 121), some (.int x1), some (.int x2), some (.int x3), some (.int x4), o5, o6, o7, some (.int x8), some (.int (x9 + (nI 1))), o10] [] (eg_si M 168 x9.toNatClampNeg (eg_gi M 167 (((nI 4) * x9) + (eg_gi M 169 x9.toNatClampNeg)).toNatClampNeg))
      exact l2 ⟨c1, c2⟩

def s_X12_calendar : eg_S := fun argv M Qp => match argv with
  | [.ref 121] => (m_PL M) ∧ ∀ (t : Option (Nat × Nat)) (r : Nat → Int32) (ch : Nat → Int32), ((t, r) = c_all (m_D M) (m_dy M) (m_cc M) (eg_gi M 121 65).toNatClampNeg (eg_gi M 168) (c_R (m_D M) (eg_gi M 121 65).toNatClampNeg (eg_gi M 121 65).toNatClampNeg)) → Qp (.inl (some (.int (c_m t)))) (eg_si (eg_si (eg_ri (eg_ri (eg_si M 121 1 (nI 0)) 169 ch) 168 r) 121 66 (eg_gi M 121 65)) 121 67 (c_l t))
  | _ => False
theorem mo_X12_calendar : eg_mono s_X12_calendar := by
  intro argv M Q Q' h
  unfold s_X12_calendar
  split
  · exact fun z => ⟨z.1, fun t r ch y => h _ _ (z.2 t r ch y)⟩
  · exact id
theorem sz_X12_calendar : ∀ argv M Qp, s_X12_calendar argv M Qp → (eg_ls0 argv).length ≤ 11 := by
  intro argv M Qp h
  unfold s_X12_calendar at h
  split at h
  · exact Nat.le_of_ble_eq_true rfl
  · exact h.elim
theorem sr_X12_calendar : ∀ argv M Qp, s_X12_calendar argv M Qp → ∃ p0 As, argv = .ref p0 :: As ∧ eg_isO wd M p0 12 = true := by
  intro argv M Qp h
  unfold s_X12_calendar at h
  split at h
  · exact ⟨_, _, rfl, rfl⟩
  · exact h.elim
set_option maxRecDepth 100000 in
set_option maxHeartbeats 1000000 in
theorem T_X12_calendar {argv : List Value} {M : eg_M} {Qp : eg_P} (h : s_X12_calendar argv M Qp) : eg_T wd k_X12_calendar Qp 0 0 0 (eg_lsN 11 argv) [] M := by
  unfold s_X12_calendar at h
  split at h
  · obtain ⟨hp, hq⟩ := h
    obtain ⟨⟨P, hP, hN⟩, hE⟩ := hp
    rw [hN, n_c (by omega)] at hE hq
    have hD : ∀ p, p < P → m_D M p ≤ 4 ∧ eg_gi M 166 p = nI (m_D M p) := fun p h => by
      obtain ⟨k, hk, e⟩ := (hE p h).2.1
      unfold m_D
      rw [e, n_c (by omega)]
      exact ⟨hk, rfl⟩
    have hdy : ∀ p, p < P → ∀ i, i < m_D M p → m_dy M p i < 3600 ∧ eg_gi M 167 (4 * p + i) = nI (m_dy M p i) := fun p h i hi => by
      obtain ⟨k, hk, e⟩ := vp_in_of ((hE p h).2.2 i hi) (by decide)
      unfold m_dy
      rw [e, n_c (by omega)]
      exact ⟨hk, rfl⟩
    have hR : ∀ k, k ≤ P → c_R (m_D M) P k ≤ 15625 := fun k hk => Nat.le_trans (c_R_le (fun p h => (hD p h).1) k hk) (Nat.le_trans (Nat.pow_le_pow_right (by decide) (show k ≤ 6 by omega)) (by decide))
    have hsum := fun x => c_s_le (D := m_D M) (dy := m_dy M) (P := P) (fun p h i hi => (hdy p h i hi).1) x P (Nat.le_refl _)
    have hcnt := fun x => c_n_le (m_D M) P x P
    -- the plans in the memory that goes along
    have rd : ∀ (z r : Nat → Int32), (∀ j, eg_gi (eg_ri (eg_ri (eg_si M 121 1 (nI 0)) 169 z) 168 r) 166 j = eg_gi M 166 j) ∧ (∀ j, eg_gi (eg_ri (eg_ri (eg_si M 121 1 (nI 0)) 169 z) 168 r) 167 j = eg_gi M 167 j) ∧ (∀ j, eg_gi (eg_ri (eg_ri (eg_si M 121 1 (nI 0)) 169 z) 168 r) 165 j = eg_gi M 165 j) ∧ (∀ j, eg_gi (eg_ri (eg_ri (eg_si M 121 1 (nI 0)) 169 z) 168 r) 164 j = eg_gi M 164 j) ∧ (∀ j, eg_gi (eg_ri (eg_ri (eg_si M 121 1 (nI 0)) 169 z) 168 r) 169 j = z j) ∧ eg_gi (eg_ri (eg_ri (eg_si M 121 1 (nI 0)) 169 z) 168 r) 121 65 = nI P ∧ ∀ a b c, m_h2 (eg_ri (eg_ri (eg_si M 121 1 (nI 0)) 169 z) 168 r) a b c = m_h2 M a b c := fun z r => ⟨fun _ => rfl, fun _ => rfl, fun _ => rfl, fun _ => rfl, fun _ => rfl, hN, fun _ _ _ => rfl⟩
    have bnd : ∀ x, (∀ q, (c_all (m_D M) (m_dy M) (m_cc M) P (eg_gi M 168) x).1 = some q → q.1 ≤ 6 ∧ q.2 ≤ 3600 * 6) := by
      intro x
      induction x with
      | zero => intro q h; cases h
      | succ x ih =>
        intro q h
        rw [c_all] at h
        unfold c_st at h
        split at h
        · cases Option.some.inj h
          have := hsum x
          have := hcnt x
          dsimp only
          omega
        · exact ih q h
    have l41 : ∀ x (w : (Nat → Int32) × Option Value × Option Value × Option Value × Option Value × Option Value × Option Value), x ≤ c_R (m_D M) P P → True → eg_T wd k_X12_calendar Qp 41 0 0 [some (.ref 121), some (.int (nI (c_R (m_D M) P P))), some (.int (c_m (c_all (m_D M) (m_dy M) (m_cc M) P (eg_gi M 168) x).1)), some (.int (c_l (c_all (m_D M) (m_dy M) (m_cc M) P (eg_gi M 168) x).1)), some (.int (nI x)), w.2.1, w.2.2.1, w.2.2.2.1, w.2.2.2.2.1, w.2.2.2.2.2.1, w.2.2.2.2.2.2] [] (eg_ri (eg_ri (eg_si M 121 1 (nI 0)) 169 w.1) 168 (c_all (m_D M) (m_dy M) (m_cc M) P (eg_gi M 168) x).2) := by
      refine eg_for ?_
      intro x ⟨z, o5, o6, o7, o8, o9, o10⟩ hx _ kk
      have hb := bnd x
      have nxt : ∀ (t : Option (Nat × Nat)) (r : Nat → Int32) (z' : Nat → Int32) (p5 p6 p7 p8 p9 p10 : Option Value), x < c_R (m_D M) P P → (t, r) = c_st (m_D M) (m_dy M) (m_cc M) P (c_all (m_D M) (m_dy M) (m_cc M) P (eg_gi M 168) x) x → eg_T wd k_X12_calendar Qp 41 0 0 [some (.ref 121), some (.int (nI (c_R (m_D M) P P))), some (.int (c_m t)), some (.int (c_l t)), some (.int (nI (x + 1))), p5, p6, p7, p8, p9, p10] [] (eg_ri (eg_ri (eg_si M 121 1 (nI 0)) 169 z') 168 r) := by
        intro t r z' p5 p6 p7 p8 p9 p10 hl e
        have := kk (z', p5, p6, p7, p8, p9, p10) hl trivial
        rw [c_all, ← e] at this
        exact this
      clear kk
      have fin : x = c_R (m_D M) P P → Qp (.inl (some (.int (c_m (c_all (m_D M) (m_dy M) (m_cc M) P (eg_gi M 168) x).1)))) (eg_si (eg_si (eg_ri (eg_ri (eg_si M 121 1 (nI 0)) 169 z) 168 (c_all (m_D M) (m_dy M) (m_cc M) P (eg_gi M 168) x).2) 121 66 (nI P)) 121 67 (c_l (c_all (m_D M) (m_dy M) (m_cc M) P (eg_gi M 168) x).1)) := fun e => hq _ _ z (by rw [e])
      generalize c_all (m_D M) (m_dy M) (m_cc M) P (eg_gi M 168) x = T at *
      obtain ⟨t, r⟩ := T
      dsimp only at *
      have hRP := hR P (Nat.le_refl _)
      have s4 := st_X12_calendar_41 (Qp := Qp) (M := eg_ri (eg_ri (eg_si M 121 1 (nI 0)) 169 z) 168 r) (nI (c_R (m_D M) P P)) (c_m t) (c_l t) (nI x) o5 o6 o7 o8 o9 o10
      rw [(rd z r).2.2.2.2.2.1] at s4
      simp (disch := omega) only [n_le, Nat.not_le] at s4
      refine s4 (fun y => fin (by omega)) (fun hl => ?_)
      clear fin s4 o6 o7 o8
      -- a row of choices is told by its number
      have l65 : ∀ k (w : Nat → Int32), k ≤ P → (∀ j, j < k → w (P - 1 - j) = nI (c_h (m_D M) P x j)) → eg_T wd k_X12_calendar Qp 65 0 0 [some (.ref 121), some (.int (nI (c_R (m_D M) P P))), some (.int (c_m t)), some (.int (c_l t)), some (.int (nI x)), some (.int (nI (x / c_R (m_D M) P k))), some (.int (nI (c_n (m_D M) P x k))), some (.int (nI (c_s (m_D M) (m_dy M) P x k))), some (.int (nI (P - k) - nI 1)), o9, o10] [] (eg_ri (eg_ri (eg_si M 121 1 (nI 0)) 169 w) 168 r) := by
        refine eg_for ?_
        intro k w hk hw kk
        obtain ⟨r166, r167, r165, r164, r169, r65, rh2⟩ := rd w r
        have hxk : x / c_R (m_D M) P k ≤ x := Nat.div_le_self _ _
        have hck := c_n_le (m_D M) P x k
        have hsk := c_s_le (D := m_D M) (dy := m_dy M) (P := P) (fun p h i hi => (hdy p h i hi).1) x k hk
        rcases Nat.lt_or_ge k P with hkP | hkP
        · have hp : P - 1 - k < P := by omega
          obtain ⟨hD4, eD⟩ := hD (P - 1 - k) hp
          have hc := c_h_le (m_D M) P x k
          have e8 : nI (P - k) - nI 1 = nI (P - 1 - k) := by rw [show P - k = (P - 1 - k) + 1 by omega, n_p]
          have s6 := st_X12_calendar_65 (Qp := Qp) (M := eg_ri (eg_ri (eg_si M 121 1 (nI 0)) 169 w) 168 r) (nI (c_R (m_D M) P P)) (c_m t) (c_l t) (nI x) (nI (x / c_R (m_D M) P k)) (nI (c_n (m_D M) P x k)) (nI (c_s (m_D M) (m_dy M) P x k)) (nI (P - 1 - k)) o9 o10
          rw [n_c (by omega), r166, eD, n_s, pk_rem (by omega) (by omega) (by omega), pk_div (by omega) (by omega) (by omega)] at s6
          have h0 : ¬ nI (P - 1 - k) < 0 := nI_pos (by omega)
          have ech : x / c_R (m_D M) P k % (m_D M (P - 1 - k) + 1) = c_h (m_D M) P x k := rfl
          have wr : ∀ v, eg_si (eg_ri (eg_ri (eg_si M 121 1 (nI 0)) 169 w) 168 r) 169 (P - 1 - k) v = eg_ri (eg_ri (eg_si M 121 1 (nI 0)) 169 (fun j => if j = P - 1 - k then v else w j)) 168 r := fun v => by rw [si_ri_n (by decide), si_ri]
          have rdw : ∀ v, eg_gi (eg_si (eg_ri (eg_ri (eg_si M 121 1 (nI 0)) 169 w) 168 r) 169 (P - 1 - k) v) 169 (P - 1 - k) = v := fun v => by rw [si_g, if_pos ⟨rfl, rfl⟩]
          rw [ech, rdw] at s6
          simp (disch := omega) only [h0, n_eq, n_m, n_s, n_in, n_c, false_and, not_false_iff, true_and, wr, c_div] at s6
          have hw' : ∀ j, j < k + 1 → (fun j => if j = P - 1 - k then nI (c_h (m_D M) P x k) else w j) (P - 1 - j) = nI (c_h (m_D M) P x j) := by
            intro j hj
            dsimp only
            by_cases e : j = k
            · subst e
              rw [if_pos rfl]
            · rw [if_neg (by omega)]
              exact hw j (by omega)
          have hk1 := kk (fun j => if j = P - 1 - k then nI (c_h (m_D M) P x k) else w j) hkP hw'
          have e9 : nI (P - (k + 1)) - nI 1 = nI (P - 1 - k) + -nI 1 := by rw [show P - (k + 1) = P - 1 - k by omega, Int32.sub_eq_add_neg]
          rw [e9, c_n, c_s] at hk1
          rw [e8]
          refine s6 (fun _ => by omega) (fun _ => ?_) (fun _ y => by omega) (fun y => y.elim) (fun y => y.elim) (fun y => ?_) (fun y => ?_)
          · exact nI_ne0 (by omega) (by omega)
          · rw [if_pos y, if_pos y, Nat.add_zero, Nat.add_zero] at hk1
            exact hk1
          · rw [if_neg y, if_neg y] at hk1
            obtain ⟨d1, d2⟩ := hdy (P - 1 - k) hp (c_h (m_D M) P x k) (by omega)
            rw [r167, d2, n_s]
            exact hk1
        · have : k = P := by omega
          subst this
          clear kk
          have e8 : nI (k - k) - nI 1 = -nI 1 := by rw [Nat.sub_self]; decide
          rw [e8]
          have s6 := st_X12_calendar_65 (Qp := Qp) (M := eg_ri (eg_ri (eg_si M 121 1 (nI 0)) 169 w) 168 r) (nI (c_R (m_D M) k k)) (c_m t) (c_l t) (nI x) (nI (x / c_R (m_D M) k k)) (nI (c_n (m_D M) k x k)) (nI (c_s (m_D M) (m_dy M) k x k)) (-nI 1) o9 o10
          have hw2 : ∀ p, p < k → w p = nI (c_ch (m_D M) k x p) := fun p hp => by
            have := hw (k - 1 - p) (by omega)
            rw [show k - 1 - (k - 1 - p) = p by omega] at this
            exact this
          -- the row is written
          have l288 : ∀ p (_ : Unit), p ≤ k → True → ∀ (x8 : Int32) (p5 p6 p7 p10 : Option Value), c_b t (c_n (m_D M) k x k) (c_s (m_D M) (m_dy M) k x k) = true → c_p (m_D M) (m_cc M) k x k = true → eg_T wd k_X12_calendar Qp 288 0 0 [some (.ref 121), some (.int (nI (c_R (m_D M) k k))), some (.int (nI (c_n (m_D M) k x k))), some (.int (nI (c_s (m_D M) (m_dy M) k x k))), some (.int (nI x)), p5, p6, p7, some (.int x8), some (.int (nI p)), p10] [] (eg_ri (eg_ri (eg_si M 121 1 (nI 0)) 169 w) 168 (fun q => if q < p then (if c_ch (m_D M) k x q = m_D M q then -nI 1 else nI (m_dy M q (c_ch (m_D M) k x q))) else r q)) := by
            refine eg_for ?_
            intro p _ hp _ kk x8 p5 p6 p7 p10 hb1 hb2
            obtain ⟨r166, r167, r165, r164, r169, r65, rh2⟩ := rd w (fun q => if q < p then (if c_ch (m_D M) k x q = m_D M q then -nI 1 else nI (m_dy M q (c_ch (m_D M) k x q))) else r q)
            have s2 := st_X12_calendar_288 (Qp := Qp) (M := eg_ri (eg_ri (eg_si M 121 1 (nI 0)) 169 w) 168 (fun q => if q < p then (if c_ch (m_D M) k x q = m_D M q then -nI 1 else nI (m_dy M q (c_ch (m_D M) k x q))) else r q)) (nI (c_R (m_D M) k k)) (nI (c_n (m_D M) k x k)) (nI (c_s (m_D M) (m_dy M) k x k)) (nI x) p5 p6 p7 x8 (nI p) p10
            rw [r65, r169, r166, n_c (by omega)] at s2
            rcases Nat.lt_or_ge p k with hpk | hpk
            · have hc : c_ch (m_D M) k x p ≤ m_D M p := by
                have := c_h_le (m_D M) k x (k - 1 - p)
                rwa [show k - 1 - (k - 1 - p) = p by omega] at this
              obtain ⟨hD4, eD⟩ := hD p hpk
              rw [hw2 p hpk, eD, n_m, n_s] at s2
              simp (disch := omega) only [n_le, n_eq, n_in, n_c, n_s, Nat.not_le, si_ri] at s2
              have hkk := kk () hpk trivial x8 p5 p6 p7 p10 hb1 hb2
              have ex : ∀ v : Int32, v = (if c_ch (m_D M) k x p = m_D M p then -nI 1 else nI (m_dy M p (c_ch (m_D M) k x p))) → (fun j => if j = p then v else if j < p then (if c_ch (m_D M) k x j = m_D M j then -nI 1 else nI (m_dy M j (c_ch (m_D M) k x j))) else r j) = fun q => if q < p + 1 then (if c_ch (m_D M) k x q = m_D M q then -nI 1 else nI (m_dy M q (c_ch (m_D M) k x q))) else r q := by
                intro v hv
                funext q
                by_cases e : q = p
                · subst e
                  rw [if_pos rfl, if_pos (show q < q + 1 by omega), hv]
                · rw [if_neg e]
                  by_cases e2 : q < p
                  · rw [if_pos e2, if_pos (show q < p + 1 by omega)]
                  · rw [if_neg e2, if_neg (show ¬ q < p + 1 by omega)]
              refine s2 (fun _ => by omega) (fun _ y => by omega) (fun y => absurd y (by omega)) (fun y => ?_) (fun y => ?_)
              · rw [ex _ (by rw [if_pos y.2])]
                exact hkk
              · rw [ex _ (by rw [if_neg y.2, r167]; exact (hdy p hpk _ (by omega)).2)]
                exact hkk
            · have : p = k := by omega
              subst this
              simp (disch := omega) only [n_le, n_s] at s2
              refine s2 (fun y => absurd (Nat.le_refl _) y) (fun y => absurd (Nat.le_refl _) y) (fun _ => ?_) (fun y => absurd (Nat.le_refl _) y.1) (fun y => absurd (Nat.le_refl _) y.1)
              refine nxt (some (c_n (m_D M) p x p, c_s (m_D M) (m_dy M) p x p)) _ w _ _ _ _ _ _ hl ?_
              unfold c_st
              rw [if_pos ⟨hb1, hb2⟩]
              rfl
          -- who clashes
          have l187 : ∀ p (w' : Option Value), p ≤ k → True → ∀ (p5 : Option Value), c_b t (c_n (m_D M) k x k) (c_s (m_D M) (m_dy M) k x k) = true → eg_T wd k_X12_calendar Qp 187 0 0 [some (.ref 121), some (.int (nI (c_R (m_D M) k k))), some (.int (c_m t)), some (.int (c_l t)), some (.int (nI x)), p5, some (.int (nI (c_n (m_D M) k x k))), some (.int (nI (c_s (m_D M) (m_dy M) k x k))), some (.int (b2i (c_p (m_D M) (m_cc M) k x p))), some (.int (nI p)), w'] [] (eg_ri (eg_ri (eg_si M 121 1 (nI 0)) 169 w) 168 r) := by
            refine eg_for ?_
            intro p p10 hp _ kk p5 hb1
            obtain ⟨r166, r167, r165, r164, r169, r65, rh2⟩ := rd w r
            have s2 := st_X12_calendar_187 (Qp := Qp) (M := eg_ri (eg_ri (eg_si M 121 1 (nI 0)) 169 w) 168 r) (nI (c_R (m_D M) k k)) (c_m t) (c_l t) (nI x) p5 (nI (c_n (m_D M) k x k)) (nI (c_s (m_D M) (m_dy M) k x k)) (b2i (c_p (m_D M) (m_cc M) k x p)) (nI p) p10
            rw [r65] at s2
            simp (disch := omega) only [n_le, n_s] at s2
            have down : ∀ j, p + j ≤ k → c_p (m_D M) (m_cc M) k x p = false → c_p (m_D M) (m_cc M) k x (p + j) = false := by
              intro j
              induction j with
              | zero => exact fun _ h => h
              | succ j ih => intro h1 h2; rw [Nat.add_succ, c_p, ih (by omega) h2, Bool.false_and]
            refine s2 (fun y => ?_) (fun y => ?_) (fun y => ?_)
            · refine nxt t r w _ _ _ _ _ _ hl ?_
              unfold c_st
              rw [if_neg]
              rintro ⟨_, h2⟩
              have := down (k - p) (by omega) (b2i_0.mp y)
              rw [show p + (k - p) = k by omega] at this
              rw [this] at h2
              cases h2
            · have : p = k := by omega
              subst this
              have hp1 : c_p (m_D M) (m_cc M) p x p = true := b2i_n0.mp y.2
              have := l288 0 () (Nat.zero_le _) trivial (b2i (c_p (m_D M) (m_cc M) p x p)) p5 (some (.int (nI (c_n (m_D M) p x p)))) (some (.int (nI (c_s (m_D M) (m_dy M) p x p)))) p10 hb1 hp1
              have e : (fun q => if q < 0 then (if c_ch (m_D M) p x q = m_D M q then -nI 1 else nI (m_dy M q (c_ch (m_D M) p x q))) else r q) = r := by funext q; rw [if_neg (Nat.not_lt_zero _)]
              rw [e] at this
              exact this
            · have hpk : p < k := by omega
              have hp1 : c_p (m_D M) (m_cc M) k x p = true := b2i_n0.mp y.2
              have l204 : ∀ o (_ : Unit), o ≤ p → True → eg_T wd k_X12_calendar Qp 204 0 0 [some (.ref 121), some (.int (nI (c_R (m_D M) k k))), some (.int (c_m t)), some (.int (c_l t)), some (.int (nI x)), p5, some (.int (nI (c_n (m_D M) k x k))), some (.int (nI (c_s (m_D M) (m_dy M) k x k))), some (.int (b2i (c_o (m_D M) (m_cc M) k x p o))), some (.int (nI p)), some (.int (nI o))] [] (eg_ri (eg_ri (eg_si M 121 1 (nI 0)) 169 w) 168 r) := by
                refine eg_for ?_
                intro o _ ho _ k2
                have s3 := st_X12_calendar_204 (Qp := Qp) (M := eg_ri (eg_ri (eg_si M 121 1 (nI 0)) 169 w) 168 r) (nI (c_R (m_D M) k k)) (c_m t) (c_l t) (nI x) p5 (nI (c_n (m_D M) k x k)) (nI (c_s (m_D M) (m_dy M) k x k)) (b2i (c_o (m_D M) (m_cc M) k x p o)) (nI p) (nI o)
                have cp : c_ch (m_D M) k x p ≤ m_D M p := by
                  have := c_h_le (m_D M) k x (k - 1 - p)
                  rwa [show k - 1 - (k - 1 - p) = p by omega] at this
                rw [n_c (by omega), n_c (by omega)] at s3
                simp only [r166, r167, r165, r164, r169, rh2] at s3
                have eDp := hD p hpk
                have eDo := hD o (by omega)
                have co : c_ch (m_D M) k x o ≤ m_D M o := by
                  have := c_h_le (m_D M) k x (k - 1 - o)
                  rwa [show k - 1 - (k - 1 - o) = o by omega] at this
                rw [hw2 p hpk, hw2 o (by omega), eDp.2, eDo.2, n_m, n_m, n_s, n_s] at s3
                simp (disch := omega) only [n_le, n_s, n_in, n_c, Nat.not_le] at s3
                refine s3 (fun _ => by omega) (fun _ _ => by omega) (fun z1 z2 z3 => ?_) (fun z => ?_) (fun z => ?_) (fun z => ?_)
                · exact ⟨by omega, by omega, by omega, by omega, by omega, by omega, (hE p hpk).1, (hE o (by omega)).1⟩
                · have : o = p := by omega
                  subst this
                  have hkk := kk (some (.int (nI o))) hpk trivial p5 hb1
                  rw [c_p, hp1, Bool.true_and] at hkk
                  exact hkk
                · have hk2 := k2 () z.1 trivial
                  have e : c_o (m_D M) (m_cc M) k x p (o + 1) = c_o (m_D M) (m_cc M) k x p o := by
                    rw [c_o]
                    have : (decide (c_ch (m_D M) k x p < m_D M p) && (decide (c_ch (m_D M) k x o < m_D M o) && m_cc M p (c_ch (m_D M) k x p) o (c_ch (m_D M) k x o))) = false := by
                      rcases z.2 with z2 | z2 | z2
                      · rw [decide_eq_false (by omega), Bool.false_and]
                      · rw [decide_eq_false (p := c_ch (m_D M) k x o < m_D M o) (by omega), Bool.false_and, Bool.and_false]
                      · rw [show m_cc M p (c_ch (m_D M) k x p) o (c_ch (m_D M) k x o) = false from decide_eq_false z2, Bool.and_false, Bool.and_false]
                    rw [this]
                    exact Bool.and_true _
                  rw [e] at hk2
                  exact hk2
                · have hk2 := k2 () z.1 trivial
                  have e : c_o (m_D M) (m_cc M) k x p (o + 1) = false := by
                    rw [c_o, decide_eq_true z.2.1, decide_eq_true z.2.2.1, show m_cc M p (c_ch (m_D M) k x p) o (c_ch (m_D M) k x o) = true from decide_eq_true z.2.2.2]
                    exact Bool.and_false _
                  rw [e] at hk2
                  exact hk2
              have := l204 0 () (Nat.zero_le _) trivial
              rw [hp1]
              exact this
          have hb0 : c_b t (c_n (m_D M) k x k) (c_s (m_D M) (m_dy M) k x k) = true ↔ (c_m t = -nI 1 ∨ (c_m t < nI (c_n (m_D M) k x k) ∨ (nI (c_n (m_D M) k x k) = c_m t ∧ ¬ c_l t ≤ nI (c_s (m_D M) (m_dy M) k x k)))) := by
            have h1 := hcnt x
            have h2 := hsum x
            cases t with
            | none => exact ⟨fun _ => Or.inl rfl, fun _ => rfl⟩
            | some q =>
              have h3 := hb q rfl
              show decide (q.1 < _ ∨ _) = true ↔ (nI q.1 = -nI 1 ∨ (nI q.1 < _ ∨ (_ = nI q.1 ∧ ¬ nI q.2 ≤ _)))
              rw [decide_eq_true_eq, n_lt (by omega) (by omega), n_eq (by omega) (by omega), n_le (by omega) (by omega), Nat.not_le]
              have : ¬ nI q.1 = -nI 1 := nI_m1 (by omega)
              constructor
              · exact Or.inr
              · rintro (z | z)
                · exact absurd z this
                · exact z
          refine s6 (fun y => absurd (by decide) y) (fun y => absurd (by decide) y) (fun y => absurd (by decide) y) (fun y => ?_) (fun y => ?_) (fun y => absurd (by decide) y.1) (fun y => absurd (by decide) y.1)
          · exact l187 0 o10 (Nat.zero_le _) trivial _ (hb0.mpr y.2)
          · refine st_X12_calendar_187 _ _ _ _ _ _ _ _ _ _ (fun _ => ?_) (fun y2 => absurd rfl y2.2) (fun y2 => absurd rfl y2.2)
            rw [n_s]
            refine nxt t r w _ _ _ _ _ _ hl ?_
            unfold c_st
            rw [if_neg]
            rintro ⟨h1, _⟩
            have := hb0.mp h1
            have y2 := y.2
            grind
      have := l65 0 z (Nat.zero_le _) (fun j hj => absurd hj (Nat.not_lt_zero _))
      rw [show c_R (m_D M) P 0 = 1 from rfl, Nat.div_one] at this
      exact this
    have l9 : ∀ p (w : Nat × Option Value × Option Value × Option Value × Option Value × Option Value × Option Value × Option Value × Option Value), p ≤ P → w.1 * c_R (m_D M) P (P - p) = c_R (m_D M) P P → eg_T wd k_X12_calendar Qp 9 0 0 [some (.ref 121), some (.int (nI w.1)), some (.int (nI p)), w.2.1, w.2.2.1, w.2.2.2.1, w.2.2.2.2.1, w.2.2.2.2.2.1, w.2.2.2.2.2.2.1, w.2.2.2.2.2.2.2.1, w.2.2.2.2.2.2.2.2] [] (eg_si M 121 1 (nI 0)) := by
      refine eg_for ?_
      intro p ⟨q, o3, o4, o5, o6, o7, o8, o9, o10⟩ hp hq' kk
      have hq' : q * c_R (m_D M) P (P - p) = c_R (m_D M) P P := hq'
      have s9 := st_X12_calendar_9 (Qp := Qp) (M := eg_si M 121 1 (nI 0)) (nI q) (nI p) o3 o4 o5 o6 o7 o8 o9 o10
      rw [show eg_gi (eg_si M 121 1 (nI 0)) 121 65 = nI P from hN, show ∀ j, eg_gi (eg_si M 121 1 (nI 0)) 166 j = eg_gi M 166 j from fun _ => rfl, n_c (by omega)] at s9
      simp (disch := omega) only [n_le, n_in, n_s, Nat.not_le] at s9
      refine s9 (fun _ => by omega) (fun y => ?_) (fun y => ?_)
      · have : p = P := by omega
        subst this
        rw [Nat.sub_self, show c_R (m_D M) p 0 = 1 from rfl, Nat.mul_one] at hq'
        rw [hq']
        have := l41 0 (eg_gi M 169, o5, o6, o7, o8, o9, o10) (Nat.zero_le _) trivial
        have e : eg_ri (eg_ri (eg_si M 121 1 (nI 0)) 169 (eg_gi M 169)) 168 (eg_gi M 168) = eg_si M 121 1 (nI 0) := by
          have e1 : eg_ri (eg_si M 121 1 (nI 0)) 169 (eg_gi M 169) = eg_si M 121 1 (nI 0) := ri_id' rfl
          rw [e1]
          exact ri_id' rfl
        have this : _ := this
        rw [show c_all (m_D M) (m_dy M) (m_cc M) p (eg_gi M 168) 0 = (none, eg_gi M 168) from rfl] at this
        dsimp only at this
        rw [e] at this
        exact this
      · rw [(hD p y).2, n_s, n_m]
        refine kk (q * (m_D M p + 1), o3, o4, o5, o6, o7, o8, o9, o10) y ?_
        show q * (m_D M p + 1) * c_R (m_D M) P (P - (p + 1)) = _
        rw [← hq', show P - p = (P - (p + 1)) + 1 by omega, c_R, show P - 1 - (P - (p + 1)) = p by omega, Nat.mul_assoc, Nat.mul_comm (m_D M p + 1)]
    exact st_X12_calendar_0 (l9 0 (1, none, none, none, none, none, none, none, none) (Nat.zero_le _) (by rw [Nat.one_mul, Nat.sub_zero]))
    
  · exact h.elim
theorem de_X12_calendar : ∀ q ∈ k_X12_calendar.1, decode cX12_calendar q.1 = .ok q.2 := by decide +kernel
theorem me_X12_calendar (g : gl_T) : MT g yX12_calendar cX12_calendar 11 (some .int) ⟨2, 0, 0, 49⟩ 0 0 s_X12_calendar := by
  intro hl
  exact eg_met_of (k := k_X12_calendar) (by decide) rfl ⟨Nat.le_refl _, Nat.le_refl _⟩ rfl sz_X12_calendar de_X12_calendar (fun meth hn => (fc (eg_FL_of wd_c12 (by decide) lf_RX12_171 (fun _ => Or.inl rfl)) (fc (eg_FL_of wd_c12 (by decide) lf_RX12_180 (fun h => absurd h (by decide))) (fc (eg_FL_of wd_c12 (by decide) lf_RX12_183 (fun h => absurd h (by decide))) (fc (eg_FL_of wd_c12 (by decide) lf_RX12_186 (fun h => absurd h (by decide))) (fc (eg_FL_of wd_c12 (by decide) lf_RX12_189 (fun h => absurd h (by decide))) (fc (eg_FL_of wd_c12 (by decide) lf_RX12_213 (fun _ => Or.inl rfl)) (fc (eg_FL_of wd_c12 (by decide) lf_RX12_478 (fun h => absurd h (by decide))) (fc (eg_FL_of wd_c12 (by decide) lf_RX12_489 (fun _ => Or.inl rfl)) (fn)))))))))) (fun A s H hE => (fn)) (fun p e s m args below meth c Q A ad0 N0 S0 hK hEx hA => (fc (mt_V hl S0 hK hEx hA (me_X12_clash g) lm_RX12_486 li_X12_clash lx_X12_clash ln_RX12 lc_X12_clash ⟨rfl, by decide, by decide, by decide +kernel⟩ ⟨rfl, rfl⟩ ⟨by decide, by decide⟩ (ci := 12) rfl rfl sr_X12_clash (by decide)) (fn))) (fun p e s m args below meth c Qc XC A ad0 N0 P S0 hK hEx hA hlk hout hPX => (fn)) (fun argv M Qp h => T_X12_calendar h)

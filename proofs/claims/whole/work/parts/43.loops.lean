/-- the class: the values that visits and sleep share -/
def k_sv (M : eg_M) (c d e : Int32) (G : Nat → Int64) (j : Nat) : Int64 :=
  if j = 3 then (ab (eg_gi M 3 (eg_gi M 8 c.toNatClampNeg).toNatClampNeg) (eg_gi M 3 (eg_gi M 9 c.toNatClampNeg).toNatClampNeg) + ab (eg_gi M 4 (eg_gi M 8 c.toNatClampNeg).toNatClampNeg) (eg_gi M 4 (eg_gi M 9 c.toNatClampNeg).toNatClampNeg)).toInt64 else
  if j = 5 then (bc (eg_gi M 6 (eg_gi M 8 c.toNatClampNeg).toNatClampNeg &&& eg_gi M 6 (eg_gi M 9 c.toNatClampNeg).toNatClampNeg)).toInt64 else
  if j = 7 then (d - if e = -nI 1 then eg_gi M 10 c.toNatClampNeg else eg_gi M 19 e.toNatClampNeg).toInt64 else
  if j = 8 then (d - eg_gi M 10 c.toNatClampNeg).toInt64 else
  if j = 9 then (if e = -nI 1 then nI 0 else eg_gi M 37 e.toNatClampNeg + nI 1).toInt64 else
  if j = 10 then (d / nI 360).toInt64 else G j
theorem sl_6 {M : eg_M} {a b c d e f : Int64} : eg_sl (eg_sl (eg_sl (eg_sl (eg_sl (eg_sl M 44 (nI 3).toNatClampNeg a) 44 (nI 5).toNatClampNeg b) 44 (nI 7).toNatClampNeg c) 44 (nI 8).toNatClampNeg d) 44 (nI 9).toNatClampNeg e) 44 (nI 10).toNatClampNeg f = eg_rl M 44 (fun x => if x = 10 then f else if x = 9 then e else if x = 8 then d else if x = 7 then c else if x = 5 then b else if x = 3 then a else eg_gl M 44 x) := by
  simp (disch := decide) only [n_c]
  conv => lhs; rw [← rl_id M 44]
  simp only [sl_rl]
theorem sl_6f {G : Nat → Int64} {a b c d e f : Int64} : (fun x => if x = 10 then f else if x = 9 then e else if x = 8 then d else if x = 7 then c else if x = 5 then b else if x = 3 then a else G x) = fun x => if x = 3 then a else if x = 5 then b else if x = 7 then c else if x = 8 then d else if x = 9 then e else if x = 10 then f else G x := by
  funext j
  rcases Nat.lt_or_ge j 11 with y | y
  · rcases (show j = 0 ∨ j = 1 ∨ j = 2 ∨ j = 3 ∨ j = 4 ∨ j = 5 ∨ j = 6 ∨ j = 7 ∨ j = 8 ∨ j = 9 ∨ j = 10 by omega) with rfl | rfl | rfl | rfl | rfl | rfl | rfl | rfl | rfl | rfl | rfl <;> simp
  · simp (disch := omega) only [if_neg]
def k_X3_setShared_v : eg_C := ([(0, .aload_n 0, 1), (1, .getfield 21, 3), (4, .getfield 170, 3), (7, .iload_n 1, 1), (8, .iaload, 1), (9, .istore 4, 2), (11, .aload_n 0, 1), (12, .getfield 21, 3), (15, .getfield 173, 3), (18, .iload_n 1, 1), (19, .iaload, 1), (20, .istore 5, 2), (22, .aload_n 0, 1), (23, .getfield 88, 3), (26, .iconst 3, 1), (27, .aload_n 0, 1), (28, .getfield 12, 3), (31, .iload 4, 2), (33, .iload 5, 2), (35, .invokevirtual 193, 3), (38, .i2l, 1), (39, .lastore, 1), (40, .aload_n 0, 1), (41, .getfield 88, 3), (44, .iconst 5, 1), (45, .aload_n 0, 1), (46, .getfield 12, 3), (49, .iload 4, 2), (51, .iload 5, 2), (53, .invokevirtual 196, 3), (56, .i2l, 1), (57, .lastore, 1), (58, .aload_n 0, 1), (59, .getfield 88, 3), (62, .bipush 7, 2), (64, .iload_n 2, 1), (65, .iload_n 3, 1), (66, .iconst (-1), 1), (67, .if_icmp .ne 15, 3), (70, .aload_n 0, 1), (71, .getfield 21, 3), (74, .getfield 146, 3), (77, .iload_n 1, 1), (78, .iaload, 1), (79, .goto 12, 3), (82, .aload_n 0, 1), (83, .getfield 28, 3), (86, .getfield 123, 3), (89, .iload_n 3, 1), (90, .iaload, 1), (91, .isub, 1), (92, .i2l, 1), (93, .lastore, 1), (94, .aload_n 0, 1), (95, .getfield 88, 3), (98, .bipush 8, 2), (100, .iload_n 2, 1), (101, .aload_n 0, 1), (102, .getfield 21, 3), (105, .getfield 146, 3), (108, .iload_n 1, 1), (109, .iaload, 1), (110, .isub, 1), (111, .i2l, 1), (112, .lastore, 1), (113, .aload_n 0, 1), (114, .getfield 88, 3), (117, .bipush 9, 2), (119, .aload_n 0, 1), (120, .iload_n 3, 1), (121, .invokevirtual 153, 3), (124, .i2l, 1), (125, .lastore, 1), (126, .aload_n 0, 1), (127, .getfield 88, 3), (130, .bipush 10, 2), (132, .iload_n 2, 1), (133, .sipush 360, 3), (136, .idiv, 1), (137, .i2l, 1), (138, .lastore, 1), (139, .return_, 1)], [(12, 3, 0, false), (21, 3, 1, false), (28, 3, 2, false), (88, 3, 17, false), (123, 1, 6, false), (146, 0, 2, false), (170, 0, 0, false), (173, 0, 1, false)], [], [(153, 1 + 1, 0, 0, s_X3_upTo), (193, 2 + 1, 0, 0, s_X9_miles), (196, 2 + 1, 0, 0, s_X9_commonTongues)], [], 0, 0, 0)
theorem mk_X3_setShared_v : ∀ q ∈ k_X3_setShared_v.2.2.2.1, eg_mono q.2.2.2.2 := (fc (mo_X3_upTo) (fc (mo_X9_miles) (fc (mo_X9_commonTongues) (fn))))
set_option maxRecDepth 100000 in
theorem st_X3_setShared_v_0 {Qp : eg_P} {M : eg_M} (c : Int32) (d : Int32) (e : Int32)
  (g0 : (vp_in c 24))
  (g1 : ((vp_in (eg_gi M 8 c.toNatClampNeg) 16) ∧ (vp_in (eg_gi M 9 c.toNatClampNeg) 16)))
  (g2 : ((¬ e = (-nI 1)) → vp_in e 200))
  (g3 : (¬ (e = (-nI 1))) → (vp_in e 200))
  (l0 : (e = (-nI 1)) → Qp (.inl none) (eg_sl (eg_sl (eg_sl (eg_sl (eg_sl (eg_sl M 44 (nI 3).toNatClampNeg (((if 0 ≤ ((eg_gi M 3 (eg_gi M 8 c.toNatClampNeg).toNatClampNeg) - (eg_gi M 3 (eg_gi M 9 c.toNatClampNeg).toNatClampNeg)) then ((eg_gi M 3 (eg_gi M 8 c.toNatClampNeg).toNatClampNeg) - (eg_gi M 3 (eg_gi M 9 c.toNatClampNeg).toNatClampNeg)) else 0 - ((eg_gi M 3 (eg_gi M 8 c.toNatClampNeg).toNatClampNeg) - (eg_gi M 3 (eg_gi M 9 c.toNatClampNeg).toNatClampNeg))) + (if 0 ≤ ((eg_gi M 4 (eg_gi M 8 c.toNatClampNeg).toNatClampNeg) - (eg_gi M 4 (eg_gi M 9 c.toNatClampNeg).toNatClampNeg)) then ((eg_gi M 4 (eg_gi M 8 c.toNatClampNeg).toNatClampNeg) - (eg_gi M 4 (eg_gi M 9 c.toNatClampNeg).toNatClampNeg)) else 0 - ((eg_gi M 4 (eg_gi M 8 c.toNatClampNeg).toNatClampNeg) - (eg_gi M 4 (eg_gi M 9 c.toNatClampNeg).toNatClampNeg)))).toInt64)) 44 (nI 5).toNatClampNeg ((bc ((eg_gi (eg_sl M 44 (nI 3).toNatClampNeg (((if 0 ≤ ((eg_gi M 3 (eg_gi M 8 c.toNatClampNeg).toNatClampNeg) - (eg_gi M 3 (eg_gi M 9 c.toNatClampNeg).toNatClampNeg)) then ((eg_gi M 3 (eg_gi M 8 c.toNatClampNeg).toNatClampNeg) - (eg_gi M 3 (eg_gi M 9 c.toNatClampNeg).toNatClampNeg)) else 0 - ((eg_gi M 3 (eg_gi M 8 c.toNatClampNeg).toNatClampNeg) - (eg_gi M 3 (eg_gi M 9 c.toNatClampNeg).toNatClampNeg))) + (if 0 ≤ ((eg_gi M 4 (eg_gi M 8 c.toNatClampNeg).toNatClampNeg) - (eg_gi M 4 (eg_gi M 9 c.toNatClampNeg).toNatClampNeg)) then ((eg_gi M 4 (eg_gi M 8 c.toNatClampNeg).toNatClampNeg) - (eg_gi M 4 (eg_gi M 9 c.toNatClampNeg).toNatClampNeg)) else 0 - ((eg_gi M 4 (eg_gi M 8 c.toNatClampNeg).toNatClampNeg) - (eg_gi M 4 (eg_gi M 9 c.toNatClampNeg).toNatClampNeg)))).toInt64)) 6 (eg_gi M 8 c.toNatClampNeg).toNatClampNeg) &&& (eg_gi (eg_sl M 44 (nI 3).toNatClampNeg (((if 0 ≤ ((eg_gi M 3 (eg_gi M 8 c.toNatClampNeg).toNatClampNeg) - (eg_gi M 3 (eg_gi M 9 c.toNatClampNeg).toNatClampNeg)) then ((eg_gi M 3 (eg_gi M 8 c.toNatClampNeg).toNatClampNeg) - (eg_gi M 3 (eg_gi M 9 c.toNatClampNeg).toNatClampNeg)) else 0 - ((eg_gi M 3 (eg_gi M 8 c.toNatClampNeg).toNatClampNeg) - (eg_gi M 3 (eg_gi M 9 c.toNatClampNeg).toNatClampNeg))) + (if 0 ≤ ((eg_gi M 4 (eg_gi M 8 c.toNatClampNeg).toNatClampNeg) - (eg_gi M 4 (eg_gi M 9 c.toNatClampNeg).toNatClampNeg)) then ((eg_gi M 4 (eg_gi M 8 c.toNatClampNeg).toNatClampNeg) - (eg_gi M 4 (eg_gi M 9 c.toNatClampNeg).toNatClampNeg)) else 0 - ((eg_gi M 4 (eg_gi M 8 c.toNatClampNeg).toNatClampNeg) - (eg_gi M 4 (eg_gi M 9 c.toNatClampNeg).toNatClampNeg)))).toInt64)) 6 (eg_gi M 9 c.toNatClampNeg).toNatClampNeg))).toInt64)) 44 (nI 7).toNatClampNeg ((d - (eg_gi M 10 c.toNatClampNeg)).toInt64)) 44 (nI 8).toNatClampNeg ((d - (eg_gi M 10 c.toNatClampNeg)).toInt64)) 44 (nI 9).toNatClampNeg ((if e = (-nI 1) then (nI 0) else ((eg_gi (eg_sl (eg_sl (eg_sl (eg_sl M 44 (nI 3).toNatClampNeg (((if 0 ≤ ((eg_gi M 3 (eg_gi M 8 c.toNatClampNeg).toNatClampNeg) - (eg_gi M 3 (eg_gi M 9 c.toNatClampNeg).toNatClampNeg)) then ((eg_gi M 3 (eg_gi M 8 c.toNatClampNeg).toNatClampNeg) - (eg_gi M 3 (eg_gi M 9 c.toNatClampNeg).toNatClampNeg)) else 0 - ((eg_gi M 3 (eg_gi M 8 c.toNatClampNeg).toNatClampNeg) - (eg_gi M 3 (eg_gi M 9 c.toNatClampNeg).toNatClampNeg))) + (if 0 ≤ ((eg_gi M 4 (eg_gi M 8 c.toNatClampNeg).toNatClampNeg) - (eg_gi M 4 (eg_gi M 9 c.toNatClampNeg).toNatClampNeg)) then ((eg_gi M 4 (eg_gi M 8 c.toNatClampNeg).toNatClampNeg) - (eg_gi M 4 (eg_gi M 9 c.toNatClampNeg).toNatClampNeg)) else 0 - ((eg_gi M 4 (eg_gi M 8 c.toNatClampNeg).toNatClampNeg) - (eg_gi M 4 (eg_gi M 9 c.toNatClampNeg).toNatClampNeg)))).toInt64)) 44 (nI 5).toNatClampNeg ((bc ((eg_gi (eg_sl M 44 (nI 3).toNatClampNeg (((if 0 ≤ ((eg_gi M 3 (eg_gi M 8 c.toNatClampNeg).toNatClampNeg) - (eg_gi M 3 (eg_gi M 9 c.toNatClampNeg).toNatClampNeg)) then ((eg_gi M 3 (eg_gi M 8 c.toNatClampNeg).toNatClampNeg) - (eg_gi M 3 (eg_gi M 9 c.toNatClampNeg).toNatClampNeg)) else 0 - ((eg_gi M 3 (eg_gi M 8 c.toNatClampNeg).toNatClampNeg) - (eg_gi M 3 (eg_gi M 9 c.toNatClampNeg).toNatClampNeg))) + (if 0 ≤ ((eg_gi M 4 (eg_gi M 8 c.toNatClampNeg).toNatClampNeg) - (eg_gi M 4 (eg_gi M 9 c.toNatClampNeg).toNatClampNeg)) then ((eg_gi M 4 (eg_gi M 8 c.toNatClampNeg).toNatClampNeg) - (eg_gi M 4 (eg_gi M 9 c.toNatClampNeg).toNatClampNeg)) else 0 - ((eg_gi M 4 (eg_gi M 8 c.toNatClampNeg).toNatClampNeg) - (eg_gi M 4 (eg_gi M 9 c.toNatClampNeg).toNatClampNeg)))).toInt64)) 6 (eg_gi M 8 c.toNatClampNeg).toNatClampNeg) &&& (eg_gi (eg_sl M 44 (nI 3).toNatClampNeg (((if 0 ≤ ((eg_gi M 3 (eg_gi M 8 c.toNatClampNeg).toNatClampNeg) - (eg_gi M 3 (eg_gi M 9 c.toNatClampNeg).toNatClampNeg)) then ((eg_gi M 3 (eg_gi M 8 c.toNatClampNeg).toNatClampNeg) - (eg_gi M 3 (eg_gi M 9 c.toNatClampNeg).toNatClampNeg)) else 0 - ((eg_gi M 3 (eg_gi M 8 c.toNatClampNeg).toNatClampNeg) - (eg_gi M 3 (eg_gi M 9 c.toNatClampNeg).toNatClampNeg))) + (if 0 ≤ ((eg_gi M 4 (eg_gi M 8 c.toNatClampNeg).toNatClampNeg) - (eg_gi M 4 (eg_gi M 9 c.toNatClampNeg).toNatClampNeg)) then ((eg_gi M 4 (eg_gi M 8 c.toNatClampNeg).toNatClampNeg) - (eg_gi M 4 (eg_gi M 9 c.toNatClampNeg).toNatClampNeg)) else 0 - ((eg_gi M 4 (eg_gi M 8 c.toNatClampNeg).toNatClampNeg) - (eg_gi M 4 (eg_gi M 9 c.toNatClampNeg).toNatClampNeg)))).toInt64)) 6 (eg_gi M 9 c.toNatClampNeg).toNatClampNeg))).toInt64)) 44 (nI 7).toNatClampNeg ((d - (eg_gi M 10 c.toNatClampNeg)).toInt64)) 44 (nI 8).toNatClampNeg ((d - (eg_gi M 10 c.toNatClampNeg)).toInt64)) 37 e.toNatClampNeg) + (nI 1))).toInt64)) 44 (nI 10).toNatClampNeg ((d / (nI 360)).toInt64)))
  (l1 : (¬ e = (-nI 1)) → Qp (.inl none) (eg_sl (eg_sl (eg_sl (eg_sl (eg_sl (eg_sl M 44 (nI 3).toNatClampNeg (((if 0 ≤ ((eg_gi M 3 (eg_gi M 8 c.toNatClampNeg).toNatClampNeg) - (eg_gi M 3 (eg_gi M 9 c.toNatClampNeg).toNatClampNeg)) then ((eg_gi M 3 (eg_gi M 8 c.toNatClampNeg).toNatClampNeg) - (eg_gi M 3 (eg_gi M 9 c.toNatClampNeg).toNatClampNeg)) else 0 - ((eg_gi M 3 (eg_gi M 8 c.toNatClampNeg).toNatClampNeg) - (eg_gi M 3 (eg_gi M 9 c.toNatClampNeg).toNatClampNeg))) + (if 0 ≤ ((eg_gi M 4 (eg_gi M 8 c.toNatClampNeg).toNatClampNeg) - (eg_gi M 4 (eg_gi M 9 c.toNatClampNeg).toNatClampNeg)) then ((eg_gi M 4 (eg_gi M 8 c.toNatClampNeg).toNatClampNeg) - (eg_gi M 4 (eg_gi M 9 c.toNatClampNeg).toNatClampNeg)) else 0 - ((eg_gi M 4 (eg_gi M 8 c.toNatClampNeg).toNatClampNeg) - (eg_gi M 4 (eg_gi M 9 c.toNatClampNeg).toNatClampNeg)))).toInt64)) 44 (nI 5).toNatClampNeg ((bc ((eg_gi (eg_sl M 44 (nI 3).toNatClampNeg (((if 0 ≤ ((eg_gi M 3 (eg_gi M 8 c.toNatClampNeg).toNatClampNeg) - (eg_gi M 3 (eg_gi M 9 c.toNatClampNeg).toNatClampNeg)) then ((eg_gi M 3 (eg_gi M 8 c.toNatClampNeg).toNatClampNeg) - (eg_gi M 3 (eg_gi M 9 c.toNatClampNeg).toNatClampNeg)) else 0 - ((eg_gi M 3 (eg_gi M 8 c.toNatClampNeg).toNatClampNeg) - (eg_gi M 3 (eg_gi M 9 c.toNatClampNeg).toNatClampNeg))) + (if 0 ≤ ((eg_gi M 4 (eg_gi M 8 c.toNatClampNeg).toNatClampNeg) - (eg_gi M 4 (eg_gi M 9 c.toNatClampNeg).toNatClampNeg)) then ((eg_gi M 4 (eg_gi M 8 c.toNatClampNeg).toNatClampNeg) - (eg_gi M 4 (eg_gi M 9 c.toNatClampNeg).toNatClampNeg)) else 0 - ((eg_gi M 4 (eg_gi M 8 c.toNatClampNeg).toNatClampNeg) - (eg_gi M 4 (eg_gi M 9 c.toNatClampNeg).toNatClampNeg)))).toInt64)) 6 (eg_gi M 8 c.toNatClampNeg).toNatClampNeg) &&& (eg_gi (eg_sl M 44 (nI 3).toNatClampNeg (((if 0 ≤ ((eg_gi M 3 (eg_gi M 8 c.toNatClampNeg).toNatClampNeg) - (eg_gi M 3 (eg_gi M 9 c.toNatClampNeg).toNatClampNeg)) then ((eg_gi M 3 (eg_gi M 8 c.toNatClampNeg).toNatClampNeg) - (eg_gi M 3 (eg_gi M 9 c.toNatClampNeg).toNatClampNeg)) else 0 - ((eg_gi M 3 (eg_gi M 8 c.toNatClampNeg).toNatClampNeg) - (eg_gi M 3 (eg_gi M 9 c.toNatClampNeg).toNatClampNeg))) + (if 0 ≤ ((eg_gi M 4 (eg_gi M 8 c.toNatClampNeg).toNatClampNeg) - (eg_gi M 4 (eg_gi M 9 c.toNatClampNeg).toNatClampNeg)) then ((eg_gi M 4 (eg_gi M 8 c.toNatClampNeg).toNatClampNeg) - (eg_gi M 4 (eg_gi M 9 c.toNatClampNeg).toNatClampNeg)) else 0 - ((eg_gi M 4 (eg_gi M 8 c.toNatClampNeg).toNatClampNeg) - (eg_gi M 4 (eg_gi M 9 c.toNatClampNeg).toNatClampNeg)))).toInt64)) 6 (eg_gi M 9 c.toNatClampNeg).toNatClampNeg))).toInt64)) 44 (nI 7).toNatClampNeg ((d - (eg_gi M 19 e.toNatClampNeg)).toInt64)) 44 (nI 8).toNatClampNeg ((d - (eg_gi M 10 c.toNatClampNeg)).toInt64)) 44 (nI 9).toNatClampNeg ((if e = (-nI 1) then (nI 0) else ((eg_gi (eg_sl (eg_sl (eg_sl (eg_sl M 44 (nI 3).toNatClampNeg (((if 0 ≤ ((eg_gi M 3 (eg_gi M 8 c.toNatClampNeg).toNatClampNeg) - (eg_gi M 3 (eg_gi M 9 c.toNatClampNeg).toNatClampNeg)) then ((eg_gi M 3 (eg_gi M 8 c.toNatClampNeg).toNatClampNeg) - (eg_gi M 3 (eg_gi M 9 c.toNatClampNeg).toNatClampNeg)) else 0 - ((eg_gi M 3 (eg_gi M 8 c.toNatClampNeg).toNatClampNeg) - (eg_gi M 3 (eg_gi M 9 c.toNatClampNeg).toNatClampNeg))) + (if 0 ≤ ((eg_gi M 4 (eg_gi M 8 c.toNatClampNeg).toNatClampNeg) - (eg_gi M 4 (eg_gi M 9 c.toNatClampNeg).toNatClampNeg)) then ((eg_gi M 4 (eg_gi M 8 c.toNatClampNeg).toNatClampNeg) - (eg_gi M 4 (eg_gi M 9 c.toNatClampNeg).toNatClampNeg)) else 0 - ((eg_gi M 4 (eg_gi M 8 c.toNatClampNeg).toNatClampNeg) - (eg_gi M 4 (eg_gi M 9 c.toNatClampNeg).toNatClampNeg)))).toInt64)) 44 (nI 5).toNatClampNeg ((bc ((eg_gi (eg_sl M 44 (nI 3).toNatClampNeg (((if 0 ≤ ((eg_gi M 3 (eg_gi M 8 c.toNatClampNeg).toNatClampNeg) - (eg_gi M 3 (eg_gi M 9 c.toNatClampNeg).toNatClampNeg)) then ((eg_gi M 3 (eg_gi M 8 c.toNatClampNeg).toNatClampNeg) - (eg_gi M 3 (eg_gi M 9 c.toNatClampNeg).toNatClampNeg)) else 0 - ((eg_gi M 3 (eg_gi M 8 c.toNatClampNeg).toNatClampNeg) - (eg_gi M 3 (eg_gi M 9 c.toNatClampNeg).toNatClampNeg))) + (if 0 ≤ ((eg_gi M 4 (eg_gi M 8 c.toNatClampNeg).toNatClampNeg) - (eg_gi M 4 (eg_gi M 9 c.toNatClampNeg).toNatClampNeg)) then ((eg_gi M 4 (eg_gi M 8 c.toNatClampNeg).toNatClampNeg) - (eg_gi M 4 (eg_gi M 9 c.toNatClampNeg).toNatClampNeg)) else 0 - ((eg_gi M 4 (eg_gi M 8 c.toNatClampNeg).toNatClampNeg) - (eg_gi M 4 (eg_gi M 9 c.toNatClampNeg).toNatClampNeg)))).toInt64)) 6 (eg_gi M 8 c.toNatClampNeg).toNatClampNeg) &&& (eg_gi (eg_sl M 44 (nI 3).toNatClampNeg (((if 0 ≤ ((eg_gi M 3 (eg_gi M 8 c.toNatClampNeg).toNatClampNeg) - (eg_gi M 3 (eg_gi M 9 c.toNatClampNeg).toNatClampNeg)) then ((eg_gi M 3 (eg_gi M 8 c.toNatClampNeg).toNatClampNeg) - (eg_gi M 3 (eg_gi M 9 c.toNatClampNeg).toNatClampNeg)) else 0 - ((eg_gi M 3 (eg_gi M 8 c.toNatClampNeg).toNatClampNeg) - (eg_gi M 3 (eg_gi M 9 c.toNatClampNeg).toNatClampNeg))) + (if 0 ≤ ((eg_gi M 4 (eg_gi M 8 c.toNatClampNeg).toNatClampNeg) - (eg_gi M 4 (eg_gi M 9 c.toNatClampNeg).toNatClampNeg)) then ((eg_gi M 4 (eg_gi M 8 c.toNatClampNeg).toNatClampNeg) - (eg_gi M 4 (eg_gi M 9 c.toNatClampNeg).toNatClampNeg)) else 0 - ((eg_gi M 4 (eg_gi M 8 c.toNatClampNeg).toNatClampNeg) - (eg_gi M 4 (eg_gi M 9 c.toNatClampNeg).toNatClampNeg)))).toInt64)) 6 (eg_gi M 9 c.toNatClampNeg).toNatClampNeg))).toInt64)) 44 (nI 7).toNatClampNeg ((d - (eg_gi M 19 e.toNatClampNeg)).toInt64)) 44 (nI 8).toNatClampNeg ((d - (eg_gi M 10 c.toNatClampNeg)).toInt64)) 37 e.toNatClampNeg) + (nI 1))).toInt64)) 44 (nI 10).toNatClampNeg ((d / (nI 360)).toInt64))) :
  eg_T wd k_X3_setShared_v Qp 0 0 0 [some (.ref 1), some (.int c), some (.int d), some (.int e), none, none] [] M := by
  refine eg_T_run mk_X3_setShared_v (cut := []) 85 ?_
  refine And.intro (show vp_in c 24 from ?_) ?_
  · exact g0
  refine And.intro (show vp_in c 24 from ?_) ?_
  · exact g0
  refine And.intro (show ((vp_in (eg_gi M 8 c.toNatClampNeg) 16) ∧ (vp_in (eg_gi M 9 c.toNatClampNeg) 16)) from ?_) ?_
  · exact g1
  refine And.intro (show vp_in (nI 3) 11 from ?_) ?_
  · exact vp_in_nI (by decide) (by decide)
  refine And.intro (show ((vp_in (eg_gi M 8 c.toNatClampNeg) 16) ∧ (vp_in (eg_gi M 9 c.toNatClampNeg) 16)) from ?_) ?_
  · exact g1
  refine And.intro (show vp_in (nI 5) 11 from ?_) ?_
  · exact vp_in_nI (by decide) (by decide)
  refine And.intro (fun (c1 : e = (-nI 1)) => ?_) (fun (c1 : ¬ e = (-nI 1)) => ?_)
  · skip
    refine And.intro (show vp_in c 24 from ?_) ?_
    · exact g0
    refine And.intro (show vp_in (nI 7) 11 from ?_) ?_
    · exact vp_in_nI (by decide) (by decide)
    refine And.intro (show vp_in c 24 from ?_) ?_
    · exact g0
    refine And.intro (show vp_in (nI 8) 11 from ?_) ?_
    · exact vp_in_nI (by decide) (by decide)
    refine And.intro (show (((¬ e = (-nI 1)) → vp_in e 200)) from ?_) ?_
    · exact g2
    refine And.intro (show vp_in (nI 9) 11 from ?_) ?_
    · exact vp_in_nI (by decide) (by decide)
    refine And.intro (show ¬ (nI 360) = 0 from ?_) ?_
    · decide
    refine And.intro (show vp_in (nI 10) 11 from ?_) ?_
    · exact vp_in_nI (by decide) (by decide)
    show Qp (.inl none) (eg_sl (eg_sl (eg_sl (eg_sl (eg_sl (eg_sl M 44 (nI 3).toNatClampNeg (((if 0 ≤ ((eg_gi M 3 (eg_gi M 8 c.toNatClampNeg).toNatClampNeg) - (eg_gi M 3 (eg_gi M 9 c.toNatClampNeg).toNatClampNeg)) then ((eg_gi M 3 (eg_gi M 8 c.toNatClampNeg).toNatClampNeg) - (eg_gi M 3 (eg_gi M 9 c.toNatClampNeg).toNatClampNeg)) else 0 - ((eg_gi M 3 (eg_gi M 8 c.toNatClampNeg).toNatClampNeg) - (eg_gi M 3 (eg_gi M 9 c.toNatClampNeg).toNatClampNeg))) + (if 0 ≤ ((eg_gi M 4 (eg_gi M 8 c.toNatClampNeg).toNatClampNeg) - (eg_gi M 4 (eg_gi M 9 c.toNatClampNeg).toNatClampNeg)) then ((eg_gi M 4 (eg_gi M 8 c.toNatClampNeg).toNatClampNeg) - (eg_gi M 4 (eg_gi M 9 c.toNatClampNeg).toNatClampNeg)) else 0 - ((eg_gi M 4 (eg_gi M 8 c.toNatClampNeg).toNatClampNeg) - (eg_gi M 4 (eg_gi M 9 c.toNatClampNeg).toNatClampNeg)))).toInt64)) 44 (nI 5).toNatClampNeg ((bc ((eg_gi (eg_sl M 44 (nI 3).toNatClampNeg (((if 0 ≤ ((eg_gi M 3 (eg_gi M 8 c.toNatClampNeg).toNatClampNeg) - (eg_gi M 3 (eg_gi M 9 c.toNatClampNeg).toNatClampNeg)) then ((eg_gi M 3 (eg_gi M 8 c.toNatClampNeg).toNatClampNeg) - (eg_gi M 3 (eg_gi M 9 c.toNatClampNeg).toNatClampNeg)) else 0 - ((eg_gi M 3 (eg_gi M 8 c.toNatClampNeg).toNatClampNeg) - (eg_gi M 3 (eg_gi M 9 c.toNatClampNeg).toNatClampNeg))) + (if 0 ≤ ((eg_gi M 4 (eg_gi M 8 c.toNatClampNeg).toNatClampNeg) - (eg_gi M 4 (eg_gi M 9 c.toNatClampNeg).toNatClampNeg)) then ((eg_gi M 4 (eg_gi M 8 c.toNatClampNeg).toNatClampNeg) - (eg_gi M 4 (eg_gi M 9 c.toNatClampNeg).toNatClampNeg)) else 0 - ((eg_gi M 4 (eg_gi M 8 c.toNatClampNeg).toNatClampNeg) - (eg_gi M 4 (eg_gi M 9 c.toNatClampNeg).toNatClampNeg)))).toInt64)) 6 (eg_gi M 8 c.toNatClampNeg).toNatClampNeg) &&& (eg_gi (eg_sl M 44 (nI 3).toNatClampNeg (((if 0 ≤ ((eg_gi M 3 (eg_gi M 8 c.toNatClampNeg).toNatClampNeg) - (eg_gi M 3 (eg_gi M 9 c.toNatClampNeg).toNatClampNeg)) then ((eg_gi M 3 (eg_gi M 8 c.toNatClampNeg).toNatClampNeg) - (eg_gi M 3 (eg_gi M 9 c.toNatClampNeg).toNatClampNeg)) else 0 - ((eg_gi M 3 (eg_gi M 8 c.toNatClampNeg).toNatClampNeg) - (eg_gi M 3 (eg_gi M 9 c.toNatClampNeg).toNatClampNeg))) + (if 0 ≤ ((eg_gi M 4 (eg_gi M 8 c.toNatClampNeg).toNatClampNeg) - (eg_gi M 4 (eg_gi M 9 c.toNatClampNeg).toNatClampNeg)) then ((eg_gi M 4 (eg_gi M 8 c.toNatClampNeg).toNatClampNeg) - (eg_gi M 4 (eg_gi M 9 c.toNatClampNeg).toNatClampNeg)) else 0 - ((eg_gi M 4 (eg_gi M 8 c.toNatClampNeg).toNatClampNeg) - (eg_gi M 4 (eg_gi M 9 c.toNatClampNeg).toNatClampNeg)))).toInt64)) 6 (eg_gi M 9 c.toNatClampNeg).toNatClampNeg))).toInt64)) 44 (nI 7).toNatClampNeg ((d - (eg_gi M 10 c.toNatClampNeg)).toInt64)) 44 (nI 8).toNatClampNeg ((d - (eg_gi M 10 c.toNatClampNeg)).toInt64)) 44 (nI 9).toNatClampNeg ((if e = (-nI 1) then (nI 0) else ((eg_gi (eg_sl (eg_sl (eg_sl (eg_sl M 44 (nI 3).toNatClampNeg (((if 0 ≤ ((eg_gi M 3 (eg_gi M 8 c.toNatClampNeg).toNatClampNeg) - (eg_gi M 3 (eg_gi M 9 c.toNatClampNeg).toNatClampNeg)) then ((eg_gi M 3 (eg_gi M 8 c.toNatClampNeg).toNatClampNeg) - (eg_gi M 3 (eg_gi M 9 c.toNatClampNeg).toNatClampNeg)) else 0 - ((eg_gi M 3 (eg_gi M 8 c.toNatClampNeg).toNatClampNeg) - (eg_gi M 3 (eg_gi M 9 c.toNatClampNeg).toNatClampNeg))) + (if 0 ≤ ((eg_gi M 4 (eg_gi M 8 c.toNatClampNeg).toNatClampNeg) - (eg_gi M 4 (eg_gi M 9 c.toNatClampNeg).toNatClampNeg)) then ((eg_gi M 4 (eg_gi M 8 c.toNatClampNeg).toNatClampNeg) - (eg_gi M 4 (eg_gi M 9 c.toNatClampNeg).toNatClampNeg)) else 0 - ((eg_gi M 4 (eg_gi M 8 c.toNatClampNeg).toNatClampNeg) - (eg_gi M 4 (eg_gi M 9 c.toNatClampNeg).toNatClampNeg)))).toInt64)) 44 (nI 5).toNatClampNeg ((bc ((eg_gi (eg_sl M 44 (nI 3).toNatClampNeg (((if 0 ≤ ((eg_gi M 3 (eg_gi M 8 c.toNatClampNeg).toNatClampNeg) - (eg_gi M 3 (eg_gi M 9 c.toNatClampNeg).toNatClampNeg)) then ((eg_gi M 3 (eg_gi M 8 c.toNatClampNeg).toNatClampNeg) - (eg_gi M 3 (eg_gi M 9 c.toNatClampNeg).toNatClampNeg)) else 0 - ((eg_gi M 3 (eg_gi M 8 c.toNatClampNeg).toNatClampNeg) - (eg_gi M 3 (eg_gi M 9 c.toNatClampNeg).toNatClampNeg))) + (if 0 ≤ ((eg_gi M 4 (eg_gi M 8 c.toNatClampNeg).toNatClampNeg) - (eg_gi M 4 (eg_gi M 9 c.toNatClampNeg).toNatClampNeg)) then ((eg_gi M 4 (eg_gi M 8 c.toNatClampNeg).toNatClampNeg) - (eg_gi M 4 (eg_gi M 9 c.toNatClampNeg).toNatClampNeg)) else 0 - ((eg_gi M 4 (eg_gi M 8 c.toNatClampNeg).toNatClampNeg) - (eg_gi M 4 (eg_gi M 9 c.toNatClampNeg).toNatClampNeg)))).toInt64)) 6 (eg_gi M 8 c.toNatClampNeg).toNatClampNeg) &&& (eg_gi (eg_sl M 44 (nI 3).toNatClampNeg (((if 0 ≤ ((eg_gi M 3 (eg_gi M 8 c.toNatClampNeg).toNatClampNeg) - (eg_gi M 3 (eg_gi M 9 c.toNatClampNeg).toNatClampNeg)) then ((eg_gi M 3 (eg_gi M 8 c.toNatClampNeg).toNatClampNeg) - (eg_gi M 3 (eg_gi M 9 c.toNatClampNeg).toNatClampNeg)) else 0 - ((eg_gi M 3 (eg_gi M 8 c.toNatClampNeg).toNatClampNeg) - (eg_gi M 3 (eg_gi M 9 c.toNatClampNeg).toNatClampNeg))) + (if 0 ≤ ((eg_gi M 4 (eg_gi M 8 c.toNatClampNeg).toNatClampNeg) - (eg_gi M 4 (eg_gi M 9 c.toNatClampNeg).toNatClampNeg)) then ((eg_gi M 4 (eg_gi M 8 c.toNatClampNeg).toNatClampNeg) - (eg_gi M 4 (eg_gi M 9 c.toNatClampNeg).toNatClampNeg)) else 0 - ((eg_gi M 4 (eg_gi M 8 c.toNatClampNeg).toNatClampNeg) - (eg_gi M 4 (eg_gi M 9 c.toNatClampNeg).toNatClampNeg)))).toInt64)) 6 (eg_gi M 9 c.toNatClampNeg).toNatClampNeg))).toInt64)) 44 (nI 7).toNatClampNeg ((d - (eg_gi M 10 c.toNatClampNeg)).toInt64)) 44 (nI 8).toNatClampNeg ((d - (eg_gi M 10 c.toNatClampNeg)).toInt64)) 37 e.toNatClampNeg) + (nI 1))).toInt64)) 44 (nI 10).toNatClampNeg ((d / (nI 360)).toInt64))
    exact l0 c1
  · skip
    refine And.intro (show vp_in e 200 from ?_) ?_
    · exact g3 c1
    refine And.intro (show vp_in (nI 7) 11 from ?_) ?_
    · exact vp_in_nI (by decide) (by decide)
    refine And.intro (show vp_in c 24 from ?_) ?_
    · exact g0
    refine And.intro (show vp_in (nI 8) 11 from ?_) ?_
    · exact vp_in_nI (by decide) (by decide)
    refine And.intro (show (((¬ e = (-nI 1)) → vp_in e 200)) from ?_) ?_
    · exact g2
    refine And.intro (show vp_in (nI 9) 11 from ?_) ?_
    · exact vp_in_nI (by decide) (by decide)
    refine And.intro (show ¬ (nI 360) = 0 from ?_) ?_
    · decide
    refine And.intro (show vp_in (nI 10) 11 from ?_) ?_
    · exact vp_in_nI (by decide) (by decide)
    show Qp (.inl none) (eg_sl (eg_sl (eg_sl (eg_sl (eg_sl (eg_sl M 44 (nI 3).toNatClampNeg (((if 0 ≤ ((eg_gi M 3 (eg_gi M 8 c.toNatClampNeg).toNatClampNeg) - (eg_gi M 3 (eg_gi M 9 c.toNatClampNeg).toNatClampNeg)) then ((eg_gi M 3 (eg_gi M 8 c.toNatClampNeg).toNatClampNeg) - (eg_gi M 3 (eg_gi M 9 c.toNatClampNeg).toNatClampNeg)) else 0 - ((eg_gi M 3 (eg_gi M 8 c.toNatClampNeg).toNatClampNeg) - (eg_gi M 3 (eg_gi M 9 c.toNatClampNeg).toNatClampNeg))) + (if 0 ≤ ((eg_gi M 4 (eg_gi M 8 c.toNatClampNeg).toNatClampNeg) - (eg_gi M 4 (eg_gi M 9 c.toNatClampNeg).toNatClampNeg)) then ((eg_gi M 4 (eg_gi M 8 c.toNatClampNeg).toNatClampNeg) - (eg_gi M 4 (eg_gi M 9 c.toNatClampNeg).toNatClampNeg)) else 0 - ((eg_gi M 4 (eg_gi M 8 c.toNatClampNeg).toNatClampNeg) - (eg_gi M 4 (eg_gi M 9 c.toNatClampNeg).toNatClampNeg)))).toInt64)) 44 (nI 5).toNatClampNeg ((bc ((eg_gi (eg_sl M 44 (nI 3).toNatClampNeg (((if 0 ≤ ((eg_gi M 3 (eg_gi M 8 c.toNatClampNeg).toNatClampNeg) - (eg_gi M 3 (eg_gi M 9 c.toNatClampNeg).toNatClampNeg)) then ((eg_gi M 3 (eg_gi M 8 c.toNatClampNeg).toNatClampNeg) - (eg_gi M 3 (eg_gi M 9 c.toNatClampNeg).toNatClampNeg)) else 0 - ((eg_gi M 3 (eg_gi M 8 c.toNatClampNeg).toNatClampNeg) - (eg_gi M 3 (eg_gi M 9 c.toNatClampNeg).toNatClampNeg))) + (if 0 ≤ ((eg_gi M 4 (eg_gi M 8 c.toNatClampNeg).toNatClampNeg) - (eg_gi M 4 (eg_gi M 9 c.toNatClampNeg).toNatClampNeg)) then ((eg_gi M 4 (eg_gi M 8 c.toNatClampNeg).toNatClampNeg) - (eg_gi M 4 (eg_gi M 9 c.toNatClampNeg).toNatClampNeg)) else 0 - ((eg_gi M 4 (eg_gi M 8 c.toNatClampNeg).toNatClampNeg) - (eg_gi M 4 (eg_gi M 9 c.toNatClampNeg).toNatClampNeg)))).toInt64)) 6 (eg_gi M 8 c.toNatClampNeg).toNatClampNeg) &&& (eg_gi (eg_sl M 44 (nI 3).toNatClampNeg (((if 0 ≤ ((eg_gi M 3 (eg_gi M 8 c.toNatClampNeg).toNatClampNeg) - (eg_gi M 3 (eg_gi M 9 c.toNatClampNeg).toNatClampNeg)) then ((eg_gi M 3 (eg_gi M 8 c.toNatClampNeg).toNatClampNeg) - (eg_gi M 3 (eg_gi M 9 c.toNatClampNeg).toNatClampNeg)) else 0 - ((eg_gi M 3 (eg_gi M 8 c.toNatClampNeg).toNatClampNeg) - (eg_gi M 3 (eg_gi M 9 c.toNatClampNeg).toNatClampNeg))) + (if 0 ≤ ((eg_gi M 4 (eg_gi M 8 c.toNatClampNeg).toNatClampNeg) - (eg_gi M 4 (eg_gi M 9 c.toNatClampNeg).toNatClampNeg)) then ((eg_gi M 4 (eg_gi M 8 c.toNatClampNeg).toNatClampNeg) - (eg_gi M 4 (eg_gi M 9 c.toNatClampNeg).toNatClampNeg)) else 0 - ((eg_gi M 4 (eg_gi M 8 c.toNatClampNeg).toNatClampNeg) - (eg_gi M 4 (eg_gi M 9 c.toNatClampNeg).toNatClampNeg)))).toInt64)) 6 (eg_gi M 9 c.toNatClampNeg).toNatClampNeg))).toInt64)) 44 (nI 7).toNatClampNeg ((d - (eg_gi M 19 e.toNatClampNeg)).toInt64)) 44 (nI 8).toNatClampNeg ((d - (eg_gi M 10 c.toNatClampNeg)).toInt64)) 44 (nI 9).toNatClampNeg ((if e = (-nI 1) then (nI 0) else ((eg_gi (eg_sl (eg_sl (eg_sl (eg_sl M 44 (nI 3).toNatClampNeg (((if 0 ≤ ((eg_gi M 3 (eg_gi M 8 c.toNatClampNeg).toNatClampNeg) - (eg_gi M 3 (eg_gi M 9 c.toNatClampNeg).toNatClampNeg)) then ((eg_gi M 3 (eg_gi M 8 c.toNatClampNeg).toNatClampNeg) - (eg_gi M 3 (eg_gi M 9 c.toNatClampNeg).toNatClampNeg)) else 0 - ((eg_gi M 3 (eg_gi M 8 c.toNatClampNeg).toNatClampNeg) - (eg_gi M 3 (eg_gi M 9 c.toNatClampNeg).toNatClampNeg))) + (if 0 ≤ ((eg_gi M 4 (eg_gi M 8 c.toNatClampNeg).toNatClampNeg) - (eg_gi M 4 (eg_gi M 9 c.toNatClampNeg).toNatClampNeg)) then ((eg_gi M 4 (eg_gi M 8 c.toNatClampNeg).toNatClampNeg) - (eg_gi M 4 (eg_gi M 9 c.toNatClampNeg).toNatClampNeg)) else 0 - ((eg_gi M 4 (eg_gi M 8 c.toNatClampNeg).toNatClampNeg) - (eg_gi M 4 (eg_gi M 9 c.toNatClampNeg).toNatClampNeg)))).toInt64)) 44 (nI 5).toNatClampNeg ((bc ((eg_gi (eg_sl M 44 (nI 3).toNatClampNeg (((if 0 ≤ ((eg_gi M 3 (eg_gi M 8 c.toNatClampNeg).toNatClampNeg) - (eg_gi M 3 (eg_gi M 9 c.toNatClampNeg).toNatClampNeg)) then ((eg_gi M 3 (eg_gi M 8 c.toNatClampNeg).toNatClampNeg) - (eg_gi M 3 (eg_gi M 9 c.toNatClampNeg).toNatClampNeg)) else 0 - ((eg_gi M 3 (eg_gi M 8 c.toNatClampNeg).toNatClampNeg) - (eg_gi M 3 (eg_gi M 9 c.toNatClampNeg).toNatClampNeg))) + (if 0 ≤ ((eg_gi M 4 (eg_gi M 8 c.toNatClampNeg).toNatClampNeg) - (eg_gi M 4 (eg_gi M 9 c.toNatClampNeg).toNatClampNeg)) then ((eg_gi M 4 (eg_gi M 8 c.toNatClampNeg).toNatClampNeg) - (eg_gi M 4 (eg_gi M 9 c.toNatClampNeg).toNatClampNeg)) else 0 - ((eg_gi M 4 (eg_gi M 8 c.toNatClampNeg).toNatClampNeg) - (eg_gi M 4 (eg_gi M 9 c.toNatClampNeg).toNatClampNeg)))).toInt64)) 6 (eg_gi M 8 c.toNatClampNeg).toNatClampNeg) &&& (eg_gi (eg_sl M 44 (nI 3).toNatClampNeg (((if 0 ≤ ((eg_gi M 3 (eg_gi M 8 c.toNatClampNeg).toNatClampNeg) - (eg_gi M 3 (eg_gi M 9 c.toNatClampNeg).toNatClampNeg)) then ((eg_gi M 3 (eg_gi M 8 c.toNatClampNeg).toNatClampNeg) - (eg_gi M 3 (eg_gi M 9 c.toNatClampNeg).toNatClampNeg)) else 0 - ((eg_gi M 3 (eg_gi M 8 c.toNatClampNeg).toNatClampNeg) - (eg_gi M 3 (eg_gi M 9 c.toNatClampNeg).toNatClampNeg))) + (if 0 ≤ ((eg_gi M 4 (eg_gi M 8 c.toNatClampNeg).toNatClampNeg) - (eg_gi M 4 (eg_gi M 9 c.toNatClampNeg).toNatClampNeg)) then ((eg_gi M 4 (eg_gi M 8 c.toNatClampNeg).toNatClampNeg) - (eg_gi M 4 (eg_gi M 9 c.toNatClampNeg).toNatClampNeg)) else 0 - ((eg_gi M 4 (eg_gi M 8 c.toNatClampNeg).toNatClampNeg) - (eg_gi M 4 (eg_gi M 9 c.toNatClampNeg).toNatClampNeg)))).toInt64)) 6 (eg_gi M 9 c.toNatClampNeg).toNatClampNeg))).toInt64)) 44 (nI 7).toNatClampNeg ((d - (eg_gi M 19 e.toNatClampNeg)).toInt64)) 44 (nI 8).toNatClampNeg ((d - (eg_gi M 10 c.toNatClampNeg)).toInt64)) 37 e.toNatClampNeg) + (nI 1))).toInt64)) 44 (nI 10).toNatClampNeg ((d / (nI 360)).toInt64))
    exact l1 c1

def s_X3_setShared_v : eg_S := fun argv M Qp => match argv with
  | [.ref 1, .int c, .int d, .int e] => (vp_in c 24 ∧ vp_in (eg_gi M 8 c.toNatClampNeg) 16 ∧ vp_in (eg_gi M 9 c.toNatClampNeg) 16 ∧ k_ev e) ∧ Qp (.inl none) (eg_rl M 44 (k_sv M c d e (eg_gl M 44)))
  | _ => False
theorem mo_X3_setShared_v : eg_mono s_X3_setShared_v := by
  intro argv M Q Q' h
  unfold s_X3_setShared_v
  split
  · exact fun z => ⟨z.1, h _ _ z.2⟩
  · exact id
theorem sz_X3_setShared_v : ∀ argv M Qp, s_X3_setShared_v argv M Qp → (eg_ls0 argv).length ≤ 6 := by
  intro argv M Qp h
  unfold s_X3_setShared_v at h
  split at h
  · exact Nat.le_of_ble_eq_true rfl
  · exact h.elim
theorem sr_X3_setShared_v : ∀ argv M Qp, s_X3_setShared_v argv M Qp → ∃ p0 As, argv = .ref p0 :: As ∧ eg_isO wd M p0 3 = true := by
  intro argv M Qp h
  unfold s_X3_setShared_v at h
  split at h
  · exact ⟨_, _, rfl, rfl⟩
  · exact h.elim
set_option maxRecDepth 100000 in
set_option maxHeartbeats 1000000 in
theorem T_X3_setShared_v {argv : List Value} {M : eg_M} {Qp : eg_P} (h : s_X3_setShared_v argv M Qp) : eg_T wd k_X3_setShared_v Qp 0 0 0 (eg_lsN 6 argv) [] M := by
  unfold s_X3_setShared_v at h
  split at h
  · rename_i c d e
    obtain ⟨hp, hq⟩ := h
    obtain ⟨hc, hA, hB, he⟩ := hp
    refine st_X3_setShared_v_0 c d e hc ⟨hA, hB⟩ (fun z => he.resolve_left z) (fun z => he.resolve_left z) (fun z => ?_) (fun z => ?_)
    · rw [sl_6, sl_6f]
      subst z
      refine cast (congrArg (Qp (.inl none)) (congrArg (eg_rl M 44) ?_)) hq
      funext j
      unfold k_sv
      rw [if_pos rfl]
      rfl
    · rw [sl_6, sl_6f]
      refine cast (congrArg (Qp (.inl none)) (congrArg (eg_rl M 44) ?_)) hq
      funext j
      unfold k_sv
      rw [if_neg z]
      rfl
  · exact h.elim
theorem de_X3_setShared_v : ∀ q ∈ k_X3_setShared_v.1, decode cX3_setShared q.1 = .ok q.2 := by decide +kernel
theorem me_X3_setShared_v (g : gl_T) : MT g yX3_setShared cX3_setShared 6 none ⟨2, 0, 0, 46⟩ 0 0 s_X3_setShared_v := by
  intro hl
  exact eg_met_of (k := k_X3_setShared_v) (by decide) rfl ⟨Nat.le_refl _, Nat.le_refl _⟩ rfl sz_X3_setShared_v de_X3_setShared_v (fun meth hn => (fc (eg_FL_of wd_c3 (by decide) lf_RX3_12 (fun h => absurd h (by decide))) (fc (eg_FL_of wd_c3 (by decide) lf_RX3_21 (fun h => absurd h (by decide))) (fc (eg_FL_of wd_c3 (by decide) lf_RX3_28 (fun h => absurd h (by decide))) (fc (eg_FL_of wd_c3 (by decide) lf_RX3_88 (fun h => absurd h (by decide))) (fc (eg_FL_of wd_c1 (by decide) lf_RX3_123 (fun h => absurd h (by decide))) (fc (eg_FL_of wd_c0 (by decide) lf_RX3_146 (fun h => absurd h (by decide))) (fc (eg_FL_of wd_c0 (by decide) lf_RX3_170 (fun h => absurd h (by decide))) (fc (eg_FL_of wd_c0 (by decide) lf_RX3_173 (fun h => absurd h (by decide))) (fn)))))))))) (fun A s H hE => (fn)) (fun p e s m args below meth c Q A ad0 N0 S0 hK hEx hA => (fc (mt_V hl S0 hK hEx hA (me_X3_upTo g) lm_RX3_153 li_X3_upTo lx_X3_upTo ln_RX3 lc_X3_upTo ⟨rfl, by decide, by decide, by decide +kernel⟩ ⟨rfl, rfl⟩ ⟨by decide, by decide⟩ (ci := 3) rfl rfl sr_X3_upTo (by decide)) (fc (mt_V hl S0 hK hEx hA (me_X9_miles g) lm_RX3_193 li_X9_miles lx_X9_miles ln_RX9 lc_X9_miles ⟨rfl, by decide, by decide, by decide +kernel⟩ ⟨rfl, rfl⟩ ⟨by decide, by decide⟩ (ci := 9) rfl rfl sr_X9_miles (by decide)) (fc (mt_V hl S0 hK hEx hA (me_X9_commonTongues g) lm_RX3_196 li_X9_commonTongues lx_X9_commonTongues ln_RX9 lc_X9_commonTongues ⟨rfl, by decide, by decide, by decide +kernel⟩ ⟨rfl, rfl⟩ ⟨by decide, by decide⟩ (ci := 9) rfl rfl sr_X9_commonTongues (by decide)) (fn))))) (fun p e s m args below meth c Qc XC A ad0 N0 P S0 hK hEx hA hlk hout hPX => (fn)) (fun argv M Qp h => T_X3_setShared_v h)

theorem k_run_of {V V' : Nat → Int64} (h : ∀ j, j < 11 → V j = V' j) {m e : Nat} : ∀ (P : List Int32) (k : List Int64) (t : Nat), k_ok m e P t → p_run V P k = p_run V' P k
  | [], _, _, _ => rfl
  | s :: P, k, t, hk => by
    have hd : (0 ≤ s.toInt ∨ -21 ≤ s.toInt) ∧ ∃ t', k_ok m e P t' := by
      rw [k_ok] at hk
      by_cases h0 : 0 ≤ s.toInt
      · rw [if_pos h0] at hk
        exact ⟨Or.inl h0, _, hk.2⟩
      · rw [if_neg h0] at hk
        by_cases h1 : s.toInt ≤ -11
        · rw [if_pos h1] at hk
          exact ⟨Or.inr hk.1, _, hk.2.2⟩
        · rw [if_neg h1] at hk
          by_cases h2 : s.toInt = -3
          · rw [if_pos h2] at hk
            exact ⟨Or.inr (by omega), _, hk.2⟩
          · rw [if_neg h2] at hk
            exact ⟨Or.inr (by omega), _, hk.2⟩
    obtain ⟨hs, t', hP⟩ := hd
    show p_run V P (p_st V s k) = p_run V' P (p_st V' s k)
    rw [p_st_of h hs, k_run_of h P _ t' hP]
theorem k_rt_ok {M : eg_M} {q : Nat} {L : List (Int32 × List Int32)} (h : k_rt M q L) : ∀ c ∈ L, k_ok 40 1 c.2 0 := by
  intro c hc
  obtain ⟨a3, _, _, _, _, _, h7⟩ := h
  obtain ⟨i, hi, rfl⟩ := List.mem_iff_getElem.mp hc
  exact (h7 i hi).2.2
theorem p_vS_of {V V' : Nat → Int64} (h : ∀ j, j < 11 → V j = V' j) {P : List Int32} (hP : k_ok 40 1 P 0) : p_v V P = p_v V' P := by
  unfold p_v
  rw [k_run_of h P [] 0 hP]
theorem p_claS_of {V V' : Nat → Int64} (h : ∀ j, j < 11 → V j = V' j) {L : List (Int32 × List Int32)} (hC : ∀ c ∈ L, k_ok 40 1 c.2 0) : p_claS V L = p_claS V' L := by
  unfold p_claS
  refine fold_of L (lN 0) (fun c hc => ?_)
  unfold p_oneS
  rw [p_vS_of h (hC c hc)]
theorem p_slpS_of {V V' : Nat → Int64} (h : ∀ j, j < 11 → V j = V' j) {L : List (Int32 × List Int32)} (hC : ∀ c ∈ L, k_ok 40 1 c.2 0) : p_slpS V L = p_slpS V' L := by
  unfold p_slpS
  rw [h 7 (by omega)]
  congr 1
  rw [Bool.eq_iff_iff, List.any_eq_true, List.any_eq_true]
  constructor
  · rintro ⟨c, hc, hv⟩
    exact ⟨c, hc, by rw [← p_vS_of h (hC c hc)]; exact hv⟩
  · rintro ⟨c, hc, hv⟩
    exact ⟨c, hc, by rw [p_vS_of h (hC c hc)]; exact hv⟩
theorem sl_5 {M : eg_M} {G : Nat → Int64} {a b c d e : Int64} : eg_sl (eg_sl (eg_sl (eg_sl (eg_sl (eg_rl M 44 G) 44 (nI 0).toNatClampNeg a) 44 (nI 1).toNatClampNeg b) 44 (nI 2).toNatClampNeg c) 44 (nI 4).toNatClampNeg d) 44 (nI 6).toNatClampNeg e = eg_rl M 44 (fun x => if x = 6 then e else if x = 4 then d else if x = 2 then c else if x = 1 then b else if x = 0 then a else G x) := by
  simp (disch := decide) only [n_c]
  simp only [sl_rl]
/-- the class: the text that holds, its clauses -/
def k_tx (M : eg_M) (q : Nat) (L : List (Int32 × List Int32)) : Prop := eg_ref (eg_sh wd M 1) M 1 5 = some q ∧ eg_isO wd M q 8 = true ∧ k_rt M q L
/-- the class: the values for sleep of charter c on day d, with the last visit e -/
def k_zw (M : eg_M) (c d e : Int32) (j : Nat) : Int64 :=
  if j = 6 then (if e = -nI 1 then nI 0 else nI 1 - eg_gi M 16 e.toNatClampNeg).toInt64 else
  if j = 4 then (eg_gi M 5 (eg_gi M 8 c.toNatClampNeg).toNatClampNeg + eg_gi M 5 (eg_gi M 9 c.toNatClampNeg).toNatClampNeg).toInt64 else
  if j = 2 then lN 0 else if j = 1 then lN 0 else if j = 0 then lN 0 else k_sv M c d e (fun _ => lN 0) j
/-- the class: charter c is in force on day d -/
def k_al (M : eg_M) (c d : Int32) : Prop := ¬ d < eg_gi M 10 c.toNatClampNeg ∧ ¬ eg_gi M 34 c.toNatClampNeg ≤ d
def k_X3_sleeps : eg_C := ([(0, .aload_n 0, 1), (1, .iload_n 1, 1), (2, .iload_n 2, 1), (3, .invokevirtual 126, 3), (6, .ifCond .ne 5, 3), (9, .iconst 0, 1), (10, .ireturn, 1), (11, .aload_n 0, 1), (12, .iload_n 2, 1), (13, .aload_n 0, 1), (14, .getfield 64, 3), (17, .iload_n 1, 1), (18, .invokevirtual 149, 3), (21, .istore_n 3, 1), (22, .aload_n 0, 1), (23, .iload_n 1, 1), (24, .iload_n 2, 1), (25, .iload_n 3, 1), (26, .invokevirtual 163, 3), (29, .aload_n 0, 1), (30, .getfield 88, 3), (33, .iconst 0, 1), (34, .lconst 0, 1), (35, .lastore, 1), (36, .aload_n 0, 1), (37, .getfield 88, 3), (40, .iconst 1, 1), (41, .lconst 0, 1), (42, .lastore, 1), (43, .aload_n 0, 1), (44, .getfield 88, 3), (47, .iconst 2, 1), (48, .lconst 0, 1), (49, .lastore, 1), (50, .aload_n 0, 1), (51, .getfield 88, 3), (54, .iconst 4, 1), (55, .aload_n 0, 1), (56, .getfield 12, 3), (59, .getfield 167, 3), (62, .aload_n 0, 1), (63, .getfield 21, 3), (66, .getfield 170, 3), (69, .iload_n 1, 1), (70, .iaload, 1), (71, .iaload, 1), (72, .aload_n 0, 1), (73, .getfield 12, 3), (76, .getfield 167, 3), (79, .aload_n 0, 1), (80, .getfield 21, 3), (83, .getfield 173, 3), (86, .iload_n 1, 1), (87, .iaload, 1), (88, .iaload, 1), (89, .iadd, 1), (90, .i2l, 1), (91, .lastore, 1), (92, .aload_n 0, 1), (93, .getfield 88, 3), (96, .bipush 6, 2), (98, .aload_n 0, 1), (99, .iload_n 3, 1), (100, .invokevirtual 157, 3), (103, .i2l, 1), (104, .lastore, 1), (105, .aload_n 0, 1), (106, .getfield 47, 3), (109, .aload_n 0, 1), (110, .getfield 88, 3), (113, .aload_n 0, 1), (114, .getfield 91, 3), (117, .invokevirtual 176, 3), (120, .ireturn, 1)], [(12, 3, 0, false), (21, 3, 1, false), (47, 3, 5, false), (64, 3, 10, false), (88, 3, 17, false), (91, 3, 18, false), (167, 9, 2, false), (170, 0, 0, false), (173, 0, 1, false)], [], [(126, 2 + 1, 0, 0, s_X3_isAlive), (149, 3 + 1, 0, 0, s_X3_lastBy), (157, 1 + 1, 0, 0, s_X3_turnAfter), (163, 3 + 1, 0, 0, s_X3_setShared_v), (176, 2 + 1, 0, 0, s_X8_sleeps)], [], 2, 0, 0)
theorem mk_X3_sleeps : ∀ q ∈ k_X3_sleeps.2.2.2.1, eg_mono q.2.2.2.2 := (fc (mo_X3_isAlive) (fc (mo_X3_lastBy) (fc (mo_X3_turnAfter) (fc (mo_X3_setShared_v) (fc (mo_X8_sleeps) (fn))))))
set_option maxRecDepth 100000 in
theorem st_X3_sleeps_0 {Qp : eg_P} {M : eg_M} (c : Int32) (d : Int32)
  (g0 : (vp_in c 24))
  (g1 : (¬ (¬ (¬ d < (eg_gi M 10 c.toNatClampNeg) ∧ ¬ (eg_gi M 34 c.toNatClampNeg) ≤ d))) → ((38 = 38 ∨ 38 = 39) ∧ vp_in c 24 ∧ k_ev (eg_gi M 38 c.toNatClampNeg) ∧ ∀ j, j < 200 → k_ev (eg_gi M 36 j)))
  (g2 : (¬ (¬ (¬ d < (eg_gi M 10 c.toNatClampNeg) ∧ ¬ (eg_gi M 34 c.toNatClampNeg) ≤ d))) → (vp_in c 24 ∧ vp_in (eg_gi M 8 c.toNatClampNeg) 16 ∧ vp_in (eg_gi M 9 c.toNatClampNeg) 16 ∧ k_ev (k_lb M d 200 (eg_gi M 38 c.toNatClampNeg))))
  (g3 : (¬ (¬ (¬ d < (eg_gi M 10 c.toNatClampNeg) ∧ ¬ (eg_gi M 34 c.toNatClampNeg) ≤ d))) → (vp_in (eg_gi M 8 c.toNatClampNeg) 16))
  (g4 : (¬ (¬ (¬ d < (eg_gi M 10 c.toNatClampNeg) ∧ ¬ (eg_gi M 34 c.toNatClampNeg) ≤ d))) → (vp_in (eg_gi M 9 c.toNatClampNeg) 16))
  (g5 : (¬ (¬ (¬ d < (eg_gi M 10 c.toNatClampNeg) ∧ ¬ (eg_gi M 34 c.toNatClampNeg) ≤ d))) → ((¬ (k_lb M d 200 (eg_gi M 38 c.toNatClampNeg)) = (-nI 1)) → vp_in (k_lb M d 200 (eg_gi M 38 c.toNatClampNeg)) 200))
  (l0 : (¬ (¬ d < (eg_gi M 10 c.toNatClampNeg) ∧ ¬ (eg_gi M 34 c.toNatClampNeg) ≤ d)) → Qp (.inl (some (.int (nI 0)))) M)
  (l1 : (¬ d < (eg_gi M 10 c.toNatClampNeg) ∧ ¬ (eg_gi M 34 c.toNatClampNeg) ≤ d) → eg_T wd k_X3_sleeps Qp 109 0 0 [some (.ref 1), some (.int c), some (.int d), some (.int (k_lb M d 200 (eg_gi M 38 c.toNatClampNeg)))] [eg_rv (eg_ref (eg_sh wd (eg_sl (eg_sl (eg_sl (eg_sl (eg_sl (eg_rl M 44 (k_sv M c d (k_lb M d 200 (eg_gi M 38 c.toNatClampNeg)) (eg_gl M 44))) 44 (nI 0).toNatClampNeg (lN 0)) 44 (nI 1).toNatClampNeg (lN 0)) 44 (nI 2).toNatClampNeg (lN 0)) 44 (nI 4).toNatClampNeg (((eg_gi M 5 (eg_gi M 8 c.toNatClampNeg).toNatClampNeg) + (eg_gi M 5 (eg_gi M 9 c.toNatClampNeg).toNatClampNeg)).toInt64)) 44 (nI 6).toNatClampNeg ((if (k_lb M d 200 (eg_gi M 38 c.toNatClampNeg)) = (-nI 1) then (nI 0) else ((nI 1) - (eg_gi (eg_sl (eg_sl (eg_sl (eg_sl (eg_rl M 44 (k_sv M c d (k_lb M d 200 (eg_gi M 38 c.toNatClampNeg)) (eg_gl M 44))) 44 (nI 0).toNatClampNeg (lN 0)) 44 (nI 1).toNatClampNeg (lN 0)) 44 (nI 2).toNatClampNeg (lN 0)) 44 (nI 4).toNatClampNeg (((eg_gi M 5 (eg_gi M 8 c.toNatClampNeg).toNatClampNeg) + (eg_gi M 5 (eg_gi M 9 c.toNatClampNeg).toNatClampNeg)).toInt64)) 16 (k_lb M d 200 (eg_gi M 38 c.toNatClampNeg)).toNatClampNeg))).toInt64)) 1) (eg_sl (eg_sl (eg_sl (eg_sl (eg_sl (eg_rl M 44 (k_sv M c d (k_lb M d 200 (eg_gi M 38 c.toNatClampNeg)) (eg_gl M 44))) 44 (nI 0).toNatClampNeg (lN 0)) 44 (nI 1).toNatClampNeg (lN 0)) 44 (nI 2).toNatClampNeg (lN 0)) 44 (nI 4).toNatClampNeg (((eg_gi M 5 (eg_gi M 8 c.toNatClampNeg).toNatClampNeg) + (eg_gi M 5 (eg_gi M 9 c.toNatClampNeg).toNatClampNeg)).toInt64)) 44 (nI 6).toNatClampNeg ((if (k_lb M d 200 (eg_gi M 38 c.toNatClampNeg)) = (-nI 1) then (nI 0) else ((nI 1) - (eg_gi (eg_sl (eg_sl (eg_sl (eg_sl (eg_rl M 44 (k_sv M c d (k_lb M d 200 (eg_gi M 38 c.toNatClampNeg)) (eg_gl M 44))) 44 (nI 0).toNatClampNeg (lN 0)) 44 (nI 1).toNatClampNeg (lN 0)) 44 (nI 2).toNatClampNeg (lN 0)) 44 (nI 4).toNatClampNeg (((eg_gi M 5 (eg_gi M 8 c.toNatClampNeg).toNatClampNeg) + (eg_gi M 5 (eg_gi M 9 c.toNatClampNeg).toNatClampNeg)).toInt64)) 16 (k_lb M d 200 (eg_gi M 38 c.toNatClampNeg)).toNatClampNeg))).toInt64)) 1 5)] (eg_sl (eg_sl (eg_sl (eg_sl (eg_sl (eg_rl M 44 (k_sv M c d (k_lb M d 200 (eg_gi M 38 c.toNatClampNeg)) (eg_gl M 44))) 44 (nI 0).toNatClampNeg (lN 0)) 44 (nI 1).toNatClampNeg (lN 0)) 44 (nI 2).toNatClampNeg (lN 0)) 44 (nI 4).toNatClampNeg (((eg_gi M 5 (eg_gi M 8 c.toNatClampNeg).toNatClampNeg) + (eg_gi M 5 (eg_gi M 9 c.toNatClampNeg).toNatClampNeg)).toInt64)) 44 (nI 6).toNatClampNeg ((if (k_lb M d 200 (eg_gi M 38 c.toNatClampNeg)) = (-nI 1) then (nI 0) else ((nI 1) - (eg_gi (eg_sl (eg_sl (eg_sl (eg_sl (eg_rl M 44 (k_sv M c d (k_lb M d 200 (eg_gi M 38 c.toNatClampNeg)) (eg_gl M 44))) 44 (nI 0).toNatClampNeg (lN 0)) 44 (nI 1).toNatClampNeg (lN 0)) 44 (nI 2).toNatClampNeg (lN 0)) 44 (nI 4).toNatClampNeg (((eg_gi M 5 (eg_gi M 8 c.toNatClampNeg).toNatClampNeg) + (eg_gi M 5 (eg_gi M 9 c.toNatClampNeg).toNatClampNeg)).toInt64)) 16 (k_lb M d 200 (eg_gi M 38 c.toNatClampNeg)).toNatClampNeg))).toInt64))) :
  eg_T wd k_X3_sleeps Qp 0 0 0 [some (.ref 1), some (.int c), some (.int d), none] [] M := by
  refine eg_T_run mk_X3_sleeps (cut := [109, 120]) 77 ?_
  refine And.intro (show ((vp_in c 24)) from ?_) ?_
  · exact g0
  refine And.intro (fun (c1 : (b2i (decide (¬ d < (eg_gi M 10 c.toNatClampNeg) ∧ ¬ (eg_gi M 34 c.toNatClampNeg) ≤ d))) = 0) => ?_) (fun (c1 : ¬ (b2i (decide (¬ d < (eg_gi M 10 c.toNatClampNeg) ∧ ¬ (eg_gi M 34 c.toNatClampNeg) ≤ d))) = 0) => ?_)
  · replace c1 := b2i_d0.mp c1
    refine And.intro (fun _ => (show (nI 0) = 0 ∨ (nI 0) = 1 from ?_)) ?_
    · exact Or.inl rfl
    show Qp (.inl (some (.int (nI 0)))) M
    exact l0 c1
  · replace c1 := b2i_dn.mp c1
    refine And.intro (show ((38 = 38 ∨ 38 = 39) ∧ vp_in c 24 ∧ k_ev (eg_gi M 38 c.toNatClampNeg) ∧ ∀ j, j < 200 → k_ev (eg_gi M 36 j)) from ?_) ?_
    · exact g1 c1
    refine And.intro (show (vp_in c 24 ∧ vp_in (eg_gi M 8 c.toNatClampNeg) 16 ∧ vp_in (eg_gi M 9 c.toNatClampNeg) 16 ∧ k_ev (k_lb M d 200 (eg_gi M 38 c.toNatClampNeg))) from ?_) ?_
    · exact g2 c1
    refine And.intro (show vp_in (nI 0) 11 from ?_) ?_
    · exact vp_in_nI (by decide) (by decide)
    refine And.intro (show vp_in (nI 1) 11 from ?_) ?_
    · exact vp_in_nI (by decide) (by decide)
    refine And.intro (show vp_in (nI 2) 11 from ?_) ?_
    · exact vp_in_nI (by decide) (by decide)
    refine And.intro (show vp_in c 24 from ?_) ?_
    · exact g0
    refine And.intro (show vp_in (eg_gi M 8 c.toNatClampNeg) 16 from ?_) ?_
    · exact g3 c1
    refine And.intro (show vp_in c 24 from ?_) ?_
    · exact g0
    refine And.intro (show vp_in (eg_gi M 9 c.toNatClampNeg) 16 from ?_) ?_
    · exact g4 c1
    refine And.intro (show vp_in (nI 4) 11 from ?_) ?_
    · exact vp_in_nI (by decide) (by decide)
    refine And.intro (show (((¬ (k_lb M d 200 (eg_gi M 38 c.toNatClampNeg)) = (-nI 1)) → vp_in (k_lb M d 200 (eg_gi M 38 c.toNatClampNeg)) 200)) from ?_) ?_
    · exact g5 c1
    refine And.intro (show vp_in (nI 6) 11 from ?_) ?_
    · exact vp_in_nI (by decide) (by decide)
    show eg_T wd k_X3_sleeps Qp 109 0 0 [some (.ref 1), some (.int c), some (.int d), some (.int (k_lb M d 200 (eg_gi M 38 c.toNatClampNeg)))] [eg_rv (eg_ref (eg_sh wd (eg_sl (eg_sl (eg_sl (eg_sl (eg_sl (eg_rl M 44 (k_sv M c d (k_lb M d 200 (eg_gi M 38 c.toNatClampNeg)) (eg_gl M 44))) 44 (nI 0).toNatClampNeg (lN 0)) 44 (nI 1).toNatClampNeg (lN 0)) 44 (nI 2).toNatClampNeg (lN 0)) 44 (nI 4).toNatClampNeg (((eg_gi M 5 (eg_gi M 8 c.toNatClampNeg).toNatClampNeg) + (eg_gi M 5 (eg_gi M 9 c.toNatClampNeg).toNatClampNeg)).toInt64)) 44 (nI 6).toNatClampNeg ((if (k_lb M d 200 (eg_gi M 38 c.toNatClampNeg)) = (-nI 1) then (nI 0) else ((nI 1) - (eg_gi (eg_sl (eg_sl (eg_sl (eg_sl (eg_rl M 44 (k_sv M c d (k_lb M d 200 (eg_gi M 38 c.toNatClampNeg)) (eg_gl M 44))) 44 (nI 0).toNatClampNeg (lN 0)) 44 (nI 1).toNatClampNeg (lN 0)) 44 (nI 2).toNatClampNeg (lN 0)) 44 (nI 4).toNatClampNeg (((eg_gi M 5 (eg_gi M 8 c.toNatClampNeg).toNatClampNeg) + (eg_gi M 5 (eg_gi M 9 c.toNatClampNeg).toNatClampNeg)).toInt64)) 16 (k_lb M d 200 (eg_gi M 38 c.toNatClampNeg)).toNatClampNeg))).toInt64)) 1) (eg_sl (eg_sl (eg_sl (eg_sl (eg_sl (eg_rl M 44 (k_sv M c d (k_lb M d 200 (eg_gi M 38 c.toNatClampNeg)) (eg_gl M 44))) 44 (nI 0).toNatClampNeg (lN 0)) 44 (nI 1).toNatClampNeg (lN 0)) 44 (nI 2).toNatClampNeg (lN 0)) 44 (nI 4).toNatClampNeg (((eg_gi M 5 (eg_gi M 8 c.toNatClampNeg).toNatClampNeg) + (eg_gi M 5 (eg_gi M 9 c.toNatClampNeg).toNatClampNeg)).toInt64)) 44 (nI 6).toNatClampNeg ((if (k_lb M d 200 (eg_gi M 38 c.toNatClampNeg)) = (-nI 1) then (nI 0) else ((nI 1) - (eg_gi (eg_sl (eg_sl (eg_sl (eg_sl (eg_rl M 44 (k_sv M c d (k_lb M d 200 (eg_gi M 38 c.toNatClampNeg)) (eg_gl M 44))) 44 (nI 0).toNatClampNeg (lN 0)) 44 (nI 1).toNatClampNeg (lN 0)) 44 (nI 2).toNatClampNeg (lN 0)) 44 (nI 4).toNatClampNeg (((eg_gi M 5 (eg_gi M 8 c.toNatClampNeg).toNatClampNeg) + (eg_gi M 5 (eg_gi M 9 c.toNatClampNeg).toNatClampNeg)).toInt64)) 16 (k_lb M d 200 (eg_gi M 38 c.toNatClampNeg)).toNatClampNeg))).toInt64)) 1 5)] (eg_sl (eg_sl (eg_sl (eg_sl (eg_sl (eg_rl M 44 (k_sv M c d (k_lb M d 200 (eg_gi M 38 c.toNatClampNeg)) (eg_gl M 44))) 44 (nI 0).toNatClampNeg (lN 0)) 44 (nI 1).toNatClampNeg (lN 0)) 44 (nI 2).toNatClampNeg (lN 0)) 44 (nI 4).toNatClampNeg (((eg_gi M 5 (eg_gi M 8 c.toNatClampNeg).toNatClampNeg) + (eg_gi M 5 (eg_gi M 9 c.toNatClampNeg).toNatClampNeg)).toInt64)) 44 (nI 6).toNatClampNeg ((if (k_lb M d 200 (eg_gi M 38 c.toNatClampNeg)) = (-nI 1) then (nI 0) else ((nI 1) - (eg_gi (eg_sl (eg_sl (eg_sl (eg_sl (eg_rl M 44 (k_sv M c d (k_lb M d 200 (eg_gi M 38 c.toNatClampNeg)) (eg_gl M 44))) 44 (nI 0).toNatClampNeg (lN 0)) 44 (nI 1).toNatClampNeg (lN 0)) 44 (nI 2).toNatClampNeg (lN 0)) 44 (nI 4).toNatClampNeg (((eg_gi M 5 (eg_gi M 8 c.toNatClampNeg).toNatClampNeg) + (eg_gi M 5 (eg_gi M 9 c.toNatClampNeg).toNatClampNeg)).toInt64)) 16 (k_lb M d 200 (eg_gi M 38 c.toNatClampNeg)).toNatClampNeg))).toInt64))
    exact l1 (Classical.byContradiction c1)

set_option maxRecDepth 100000 in
theorem st_X3_sleeps_109 {Qp : eg_P} {M : eg_M} (o1 : Option Value) (o2 : Option Value) (o3 : Option Value) (s0 : Nat)
  (g0 : (eg_isO wd M s0 8 = true ∧ 44 = 44 ∧ 45 = 45 ∧ ∃ L, k_rt M s0 L))
  (l0 : ∀ (g_1 : Nat → Int64) (r_1 : Bool), (∀ L, k_rt M s0 L → r_1 = p_slpS (eg_gl M 44) L) → eg_T wd k_X3_sleeps Qp 120 0 0 [some (.ref 1), o1, o2, o3] [.int (b2i r_1)] (eg_rl M 45 g_1)) :
  eg_T wd k_X3_sleeps Qp 109 0 0 [some (.ref 1), o1, o2, o3] [.ref s0] M := by
  refine eg_T_run mk_X3_sleeps (cut := [109, 120]) 77 ?_
  refine And.intro (show (eg_isO wd M s0 8 = true ∧ 44 = 44 ∧ 45 = 45 ∧ ∃ L, k_rt M s0 L) from ?_) ?_
  · exact g0
  intro g_1 r_1 ha_1
  show eg_T wd k_X3_sleeps Qp 120 0 0 [some (.ref 1), o1, o2, o3] [.int (b2i r_1)] (eg_rl M 45 g_1)
  exact l0 g_1 r_1 ha_1

set_option maxRecDepth 100000 in
theorem st_X3_sleeps_120 {Qp : eg_P} {M : eg_M} (o0 : Option Value) (o1 : Option Value) (o2 : Option Value) (o3 : Option Value) (s0 : Int32)
  (g0 : (s0 = 0 ∨ s0 = 1))
  (l0 : Qp (.inl (some (.int s0))) M) :
  eg_T wd k_X3_sleeps Qp 120 0 0 [o0, o1, o2, o3] [.int s0] M := by
  refine eg_T_run mk_X3_sleeps (cut := [109, 120]) 77 ?_
  refine And.intro (fun _ => (show s0 = 0 ∨ s0 = 1 from ?_)) ?_
  · exact g0
  show Qp (.inl (some (.int s0))) M
  exact l0

def s_X3_sleeps : eg_S := fun argv M Qp => match argv with
  | [.ref 1, .int c, .int d] => (vp_in c 24 ∧ vp_in (eg_gi M 8 c.toNatClampNeg) 16 ∧ vp_in (eg_gi M 9 c.toNatClampNeg) 16 ∧ k_ev (eg_gi M 38 c.toNatClampNeg) ∧ (∀ j, j < 200 → k_ev (eg_gi M 36 j)) ∧ ∃ q L, k_tx M q L) ∧ ∀ (v : Nat → Int64) (g : Nat → Int64) (r : Bool), ((k_al M c d → ∀ q L, k_tx M q L → r = p_slpS (k_zw M c d (k_lb M d 200 (eg_gi M 38 c.toNatClampNeg))) L) ∧ (¬ k_al M c d → r = false)) → Qp (.inl (some (.int (b2i r)))) (eg_rl (eg_rl M 44 v) 45 g)
  | _ => False
theorem mo_X3_sleeps : eg_mono s_X3_sleeps := by
  intro argv M Q Q' h
  unfold s_X3_sleeps
  split
  · exact fun z => ⟨z.1, fun v g r y => h _ _ (z.2 v g r y)⟩
  · exact id
theorem sz_X3_sleeps : ∀ argv M Qp, s_X3_sleeps argv M Qp → (eg_ls0 argv).length ≤ 4 := by
  intro argv M Qp h
  unfold s_X3_sleeps at h
  split at h
  · exact Nat.le_of_ble_eq_true rfl
  · exact h.elim
theorem sr_X3_sleeps : ∀ argv M Qp, s_X3_sleeps argv M Qp → ∃ p0 As, argv = .ref p0 :: As ∧ eg_isO wd M p0 3 = true := by
  intro argv M Qp h
  unfold s_X3_sleeps at h
  split at h
  · exact ⟨_, _, rfl, rfl⟩
  · exact h.elim
set_option maxRecDepth 100000 in
set_option maxHeartbeats 1000000 in
theorem T_X3_sleeps {argv : List Value} {M : eg_M} {Qp : eg_P} (h : s_X3_sleeps argv M Qp) : eg_T wd k_X3_sleeps Qp 0 0 0 (eg_lsN 4 argv) [] M := by
  unfold s_X3_sleeps at h
  split at h
  · rename_i c d
    obtain ⟨hp, hq⟩ := h
    obtain ⟨hc, hA, hB, h38, h36, q, L, hT⟩ := hp
    have hev : k_ev (k_lb M d 200 (eg_gi M 38 c.toNatClampNeg)) := by
      have : ∀ n x, k_ev x → k_ev (k_lb M d n x) := by
        intro n
        induction n with
        | zero => exact fun _ h => h
        | succ n ih =>
          intro x hx
          rw [k_lb]
          by_cases z : x = -nI 1 ∨ eg_gi M 19 x.toNatClampNeg ≤ d
          · rw [if_pos z]
            exact hx
          · rw [if_neg z]
            obtain ⟨j, hj, rfl⟩ := vp_in_of (hx.resolve_left (fun w => z (Or.inl w))) (by decide)
            rw [n_c (by omega)]
            exact ih _ (h36 j hj)
      exact this 200 _ h38
    refine st_X3_sleeps_0 c d hc (fun _ => ⟨Or.inl rfl, hc, h38, h36⟩) (fun _ => ⟨hc, hA, hB, hev⟩) (fun _ => hA) (fun _ => hB) (fun _ z => hev.resolve_left z) (fun z => ?_) (fun z => ?_)
    · have := hq (eg_gl M 44) (eg_gl M 45) false ⟨fun y => absurd y z, fun _ => rfl⟩
      rw [rl_id, rl_id] at this
      exact this
    · rw [sl_5]
      generalize hV : (fun x => if x = 6 then _ else if x = 4 then _ else if x = 2 then _ else if x = 1 then _ else if x = 0 then _ else k_sv M c d (k_lb M d 200 (eg_gi M 38 c.toNatClampNeg)) (eg_gl M 44) x) = V
      have hr : eg_ref (eg_sh wd (eg_rl M 44 V) 1) (eg_rl M 44 V) 1 5 = some q := hT.1
      rw [hr]
      refine st_X3_sleeps_109 _ _ _ q ⟨hT.2.1, rfl, rfl, L, hT.2.2⟩ (fun g r hr => ?_)
      refine st_X3_sleeps_120 _ _ _ _ _ (b2i_01 r) (hq V g r ⟨fun _ q' L' hT' => ?_, fun y => absurd z y⟩)
      have eq' : q = q' := Option.some.inj (hT.1.symm.trans hT'.1)
      subst eq'
      refine (hr L' hT'.2.2).trans (p_slpS_of (fun j hj => ?_) (k_rt_ok hT'.2.2))
      show V j = _
      rw [← hV]
      unfold k_zw k_sv
      rcases (show j = 0 ∨ j = 1 ∨ j = 2 ∨ j = 3 ∨ j = 4 ∨ j = 5 ∨ j = 6 ∨ j = 7 ∨ j = 8 ∨ j = 9 ∨ j = 10 by omega) with rfl | rfl | rfl | rfl | rfl | rfl | rfl | rfl | rfl | rfl | rfl <;> rfl
  · exact h.elim
theorem de_X3_sleeps : ∀ q ∈ k_X3_sleeps.1, decode cX3_sleeps q.1 = .ok q.2 := by decide +kernel
theorem me_X3_sleeps (g : gl_T) : MT g yX3_sleeps cX3_sleeps 4 (some .boolean) ⟨3, 0, 0, 75⟩ 0 0 s_X3_sleeps := by
  intro hl
  exact eg_met_of (k := k_X3_sleeps) (by decide) rfl ⟨Nat.le_refl _, Nat.le_refl _⟩ rfl sz_X3_sleeps de_X3_sleeps (fun meth hn => (fc (eg_FL_of wd_c3 (by decide) lf_RX3_12 (fun h => absurd h (by decide))) (fc (eg_FL_of wd_c3 (by decide) lf_RX3_21 (fun h => absurd h (by decide))) (fc (eg_FL_of wd_c3 (by decide) lf_RX3_47 (fun h => absurd h (by decide))) (fc (eg_FL_of wd_c3 (by decide) lf_RX3_64 (fun h => absurd h (by decide))) (fc (eg_FL_of wd_c3 (by decide) lf_RX3_88 (fun h => absurd h (by decide))) (fc (eg_FL_of wd_c3 (by decide) lf_RX3_91 (fun h => absurd h (by decide))) (fc (eg_FL_of wd_c9 (by decide) lf_RX3_167 (fun h => absurd h (by decide))) (fc (eg_FL_of wd_c0 (by decide) lf_RX3_170 (fun h => absurd h (by decide))) (fc (eg_FL_of wd_c0 (by decide) lf_RX3_173 (fun h => absurd h (by decide))) (fn))))))))))) (fun A s H hE => (fn)) (fun p e s m args below meth c Q A ad0 N0 S0 hK hEx hA => (fc (mt_V hl S0 hK hEx hA (me_X3_isAlive g) lm_RX3_126 li_X3_isAlive lx_X3_isAlive ln_RX3 lc_X3_isAlive ⟨rfl, by decide, by decide, by decide +kernel⟩ ⟨rfl, rfl⟩ ⟨by decide, by decide⟩ (ci := 3) rfl rfl sr_X3_isAlive (by decide)) (fc (mt_V hl S0 hK hEx hA (me_X3_lastBy g) lm_RX3_149 li_X3_lastBy lx_X3_lastBy ln_RX3 lc_X3_lastBy ⟨rfl, by decide, by decide, by decide +kernel⟩ ⟨rfl, rfl⟩ ⟨by decide, by decide⟩ (ci := 3) rfl rfl sr_X3_lastBy (by decide)) (fc (mt_V hl S0 hK hEx hA (me_X3_turnAfter g) lm_RX3_157 li_X3_turnAfter lx_X3_turnAfter ln_RX3 lc_X3_turnAfter ⟨rfl, by decide, by decide, by decide +kernel⟩ ⟨rfl, rfl⟩ ⟨by decide, by decide⟩ (ci := 3) rfl rfl sr_X3_turnAfter (by decide)) (fc (mt_V hl S0 hK hEx hA (me_X3_setShared_v g) lm_RX3_163 li_X3_setShared lx_X3_setShared ln_RX3 lc_X3_setShared ⟨rfl, by decide, by decide, by decide +kernel⟩ ⟨rfl, rfl⟩ ⟨by decide, by decide⟩ (ci := 3) rfl rfl sr_X3_setShared_v (by decide)) (fc (mt_V hl S0 hK hEx hA (me_X8_sleeps g) lm_RX3_176 li_X8_sleeps lx_X8_sleeps ln_RX8 lc_X8_sleeps ⟨rfl, by decide, by decide, by decide +kernel⟩ ⟨rfl, rfl⟩ ⟨by decide, by decide⟩ (ci := 8) rfl rfl sr_X8_sleeps (by decide)) (fn))))))) (fun p e s m args below meth c Qc XC A ad0 N0 P S0 hK hEx hA hlk hout hPX => (fn)) (fun argv M Qp h => T_X3_sleeps h)

/-- the class: the values for the claim of visit e -/
def k_cw (M : eg_M) (e : Nat) (j : Nat) : Int64 :=
  if j = 6 then (if (if eg_gi M 36 e = -nI 1 then nI 0 else nI 1 - eg_gi M 16 (eg_gi M 36 e).toNatClampNeg) = eg_gi M 16 e then lN 1 else lN 0) else
  if j = 4 then (eg_gi M 5 (if eg_gi M 16 e = 0 then eg_gi M 8 (eg_gi M 14 e).toNatClampNeg else eg_gi M 9 (eg_gi M 14 e).toNatClampNeg).toNatClampNeg).toInt64 else
  if j = 2 then (eg_gi M 18 e).toInt64 else if j = 1 then (eg_gi M 17 e).toInt64 else if j = 0 then (eg_gi M 15 e).toInt64 else k_sv M (eg_gi M 14 e) (eg_gi M 19 e) (eg_gi M 36 e) (fun _ => lN 0) j
def k_X3_claimOf : eg_C := ([(0, .aload_n 0, 1), (1, .getfield 28, 3), (4, .getfield 120, 3), (7, .iload_n 1, 1), (8, .iaload, 1), (9, .istore_n 2, 1), (10, .aload_n 0, 1), (11, .getfield 28, 3), (14, .getfield 160, 3), (17, .iload_n 1, 1), (18, .iaload, 1), (19, .istore_n 3, 1), (20, .aload_n 0, 1), (21, .iload_n 2, 1), (22, .aload_n 0, 1), (23, .getfield 28, 3), (26, .getfield 123, 3), (29, .iload_n 1, 1), (30, .iaload, 1), (31, .aload_n 0, 1), (32, .getfield 58, 3), (35, .iload_n 1, 1), (36, .iaload, 1), (37, .invokevirtual 163, 3), (40, .aload_n 0, 1), (41, .getfield 88, 3), (44, .iconst 0, 1), (45, .aload_n 0, 1), (46, .getfield 28, 3), (49, .getfield 180, 3), (52, .iload_n 1, 1), (53, .iaload, 1), (54, .i2l, 1), (55, .lastore, 1), (56, .aload_n 0, 1), (57, .getfield 88, 3), (60, .iconst 1, 1), (61, .aload_n 0, 1), (62, .getfield 28, 3), (65, .getfield 183, 3), (68, .iload_n 1, 1), (69, .iaload, 1), (70, .i2l, 1), (71, .lastore, 1), (72, .aload_n 0, 1), (73, .getfield 88, 3), (76, .iconst 2, 1), (77, .aload_n 0, 1), (78, .getfield 28, 3), (81, .getfield 186, 3), (84, .iload_n 1, 1), (85, .iaload, 1), (86, .i2l, 1), (87, .lastore, 1), (88, .aload_n 0, 1), (89, .getfield 88, 3), (92, .iconst 4, 1), (93, .aload_n 0, 1), (94, .getfield 12, 3), (97, .getfield 167, 3), (100, .iload_n 3, 1), (101, .ifCond .ne 15, 3), (104, .aload_n 0, 1), (105, .getfield 21, 3), (108, .getfield 170, 3), (111, .iload_n 2, 1), (112, .iaload, 1), (113, .goto 12, 3), (116, .aload_n 0, 1), (117, .getfield 21, 3), (120, .getfield 173, 3), (123, .iload_n 2, 1), (124, .iaload, 1), (125, .iaload, 1), (126, .i2l, 1), (127, .lastore, 1), (128, .aload_n 0, 1), (129, .getfield 88, 3), (132, .bipush 6, 2), (134, .aload_n 0, 1), (135, .aload_n 0, 1), (136, .getfield 58, 3), (139, .iload_n 1, 1), (140, .iaload, 1), (141, .invokevirtual 157, 3), (144, .iload_n 3, 1), (145, .if_icmp .ne 7, 3), (148, .lconst 1, 1), (149, .goto 4, 3), (152, .lconst 0, 1), (153, .lastore, 1), (154, .aload_n 0, 1), (155, .getfield 47, 3), (158, .aload_n 0, 1), (159, .getfield 88, 3), (162, .aload_n 0, 1), (163, .getfield 91, 3), (166, .invokevirtual 189, 3), (169, .lreturn, 1)], [(12, 3, 0, false), (21, 3, 1, false), (28, 3, 2, false), (47, 3, 5, false), (58, 3, 8, false), (88, 3, 17, false), (91, 3, 18, false), (120, 1, 1, false), (123, 1, 6, false), (160, 1, 3, false), (167, 9, 2, false), (170, 0, 0, false), (173, 0, 1, false), (180, 1, 2, false), (183, 1, 4, false), (186, 1, 5, false)], [], [(157, 1 + 1, 0, 0, s_X3_turnAfter), (163, 3 + 1, 0, 0, s_X3_setShared_v), (189, 2 + 1, 0, 0, s_X8_claim)], [], 3, 0, 0)
theorem mk_X3_claimOf : ∀ q ∈ k_X3_claimOf.2.2.2.1, eg_mono q.2.2.2.2 := (fc (mo_X3_turnAfter) (fc (mo_X3_setShared_v) (fc (mo_X8_claim) (fn))))
set_option maxRecDepth 100000 in
theorem st_X3_claimOf_0 {Qp : eg_P} {M : eg_M} (e : Int32)
  (g0 : (vp_in e 200))
  (g1 : (vp_in (eg_gi M 14 e.toNatClampNeg) 24 ∧ vp_in (eg_gi M 8 (eg_gi M 14 e.toNatClampNeg).toNatClampNeg) 16 ∧ vp_in (eg_gi M 9 (eg_gi M 14 e.toNatClampNeg).toNatClampNeg) 16 ∧ k_ev (eg_gi M 36 e.toNatClampNeg)))
  (g2 : (vp_in (eg_gi M 14 e.toNatClampNeg) 24))
  (g3 : ((eg_gi M 16 e.toNatClampNeg) = 0) → (vp_in (eg_gi M 8 (eg_gi M 14 e.toNatClampNeg).toNatClampNeg) 16))
  (g4 : ((¬ (eg_gi M 36 e.toNatClampNeg) = (-nI 1)) → vp_in (eg_gi M 36 e.toNatClampNeg) 200))
  (g5 : (¬ ((eg_gi M 16 e.toNatClampNeg) = 0)) → (vp_in (eg_gi M 9 (eg_gi M 14 e.toNatClampNeg).toNatClampNeg) 16))
  (l0 : ((eg_gi M 16 e.toNatClampNeg) = 0 ∧ (if (eg_gi M 36 e.toNatClampNeg) = (-nI 1) then (nI 0) else ((nI 1) - (eg_gi (eg_sl (eg_sl (eg_sl (eg_sl (eg_rl M 44 (k_sv M (eg_gi M 14 e.toNatClampNeg) (eg_gi M 19 e.toNatClampNeg) (eg_gi M 36 e.toNatClampNeg) (eg_gl M 44))) 44 (nI 0).toNatClampNeg ((eg_gi M 15 e.toNatClampNeg).toInt64)) 44 (nI 1).toNatClampNeg ((eg_gi M 17 e.toNatClampNeg).toInt64)) 44 (nI 2).toNatClampNeg ((eg_gi M 18 e.toNatClampNeg).toInt64)) 44 (nI 4).toNatClampNeg ((eg_gi M 5 (eg_gi M 8 (eg_gi M 14 e.toNatClampNeg).toNatClampNeg).toNatClampNeg).toInt64)) 16 (eg_gi M 36 e.toNatClampNeg).toNatClampNeg))) = (eg_gi M 16 e.toNatClampNeg)) → eg_T wd k_X3_claimOf Qp 158 0 0 [some (.ref 1), some (.int e), some (.int (eg_gi M 14 e.toNatClampNeg)), some (.int (eg_gi M 16 e.toNatClampNeg))] [eg_rv (eg_ref (eg_sh wd (eg_sl (eg_sl (eg_sl (eg_sl (eg_sl (eg_rl M 44 (k_sv M (eg_gi M 14 e.toNatClampNeg) (eg_gi M 19 e.toNatClampNeg) (eg_gi M 36 e.toNatClampNeg) (eg_gl M 44))) 44 (nI 0).toNatClampNeg ((eg_gi M 15 e.toNatClampNeg).toInt64)) 44 (nI 1).toNatClampNeg ((eg_gi M 17 e.toNatClampNeg).toInt64)) 44 (nI 2).toNatClampNeg ((eg_gi M 18 e.toNatClampNeg).toInt64)) 44 (nI 4).toNatClampNeg ((eg_gi M 5 (eg_gi M 8 (eg_gi M 14 e.toNatClampNeg).toNatClampNeg).toNatClampNeg).toInt64)) 44 (nI 6).toNatClampNeg (lN 1)) 1) (eg_sl (eg_sl (eg_sl (eg_sl (eg_sl (eg_rl M 44 (k_sv M (eg_gi M 14 e.toNatClampNeg) (eg_gi M 19 e.toNatClampNeg) (eg_gi M 36 e.toNatClampNeg) (eg_gl M 44))) 44 (nI 0).toNatClampNeg ((eg_gi M 15 e.toNatClampNeg).toInt64)) 44 (nI 1).toNatClampNeg ((eg_gi M 17 e.toNatClampNeg).toInt64)) 44 (nI 2).toNatClampNeg ((eg_gi M 18 e.toNatClampNeg).toInt64)) 44 (nI 4).toNatClampNeg ((eg_gi M 5 (eg_gi M 8 (eg_gi M 14 e.toNatClampNeg).toNatClampNeg).toNatClampNeg).toInt64)) 44 (nI 6).toNatClampNeg (lN 1)) 1 5)] (eg_sl (eg_sl (eg_sl (eg_sl (eg_sl (eg_rl M 44 (k_sv M (eg_gi M 14 e.toNatClampNeg) (eg_gi M 19 e.toNatClampNeg) (eg_gi M 36 e.toNatClampNeg) (eg_gl M 44))) 44 (nI 0).toNatClampNeg ((eg_gi M 15 e.toNatClampNeg).toInt64)) 44 (nI 1).toNatClampNeg ((eg_gi M 17 e.toNatClampNeg).toInt64)) 44 (nI 2).toNatClampNeg ((eg_gi M 18 e.toNatClampNeg).toInt64)) 44 (nI 4).toNatClampNeg ((eg_gi M 5 (eg_gi M 8 (eg_gi M 14 e.toNatClampNeg).toNatClampNeg).toNatClampNeg).toInt64)) 44 (nI 6).toNatClampNeg (lN 1)))
  (l1 : ((eg_gi M 16 e.toNatClampNeg) = 0 ∧ ¬ (if (eg_gi M 36 e.toNatClampNeg) = (-nI 1) then (nI 0) else ((nI 1) - (eg_gi (eg_sl (eg_sl (eg_sl (eg_sl (eg_rl M 44 (k_sv M (eg_gi M 14 e.toNatClampNeg) (eg_gi M 19 e.toNatClampNeg) (eg_gi M 36 e.toNatClampNeg) (eg_gl M 44))) 44 (nI 0).toNatClampNeg ((eg_gi M 15 e.toNatClampNeg).toInt64)) 44 (nI 1).toNatClampNeg ((eg_gi M 17 e.toNatClampNeg).toInt64)) 44 (nI 2).toNatClampNeg ((eg_gi M 18 e.toNatClampNeg).toInt64)) 44 (nI 4).toNatClampNeg ((eg_gi M 5 (eg_gi M 8 (eg_gi M 14 e.toNatClampNeg).toNatClampNeg).toNatClampNeg).toInt64)) 16 (eg_gi M 36 e.toNatClampNeg).toNatClampNeg))) = (eg_gi M 16 e.toNatClampNeg)) → eg_T wd k_X3_claimOf Qp 158 0 0 [some (.ref 1), some (.int e), some (.int (eg_gi M 14 e.toNatClampNeg)), some (.int (eg_gi M 16 e.toNatClampNeg))] [eg_rv (eg_ref (eg_sh wd (eg_sl (eg_sl (eg_sl (eg_sl (eg_sl (eg_rl M 44 (k_sv M (eg_gi M 14 e.toNatClampNeg) (eg_gi M 19 e.toNatClampNeg) (eg_gi M 36 e.toNatClampNeg) (eg_gl M 44))) 44 (nI 0).toNatClampNeg ((eg_gi M 15 e.toNatClampNeg).toInt64)) 44 (nI 1).toNatClampNeg ((eg_gi M 17 e.toNatClampNeg).toInt64)) 44 (nI 2).toNatClampNeg ((eg_gi M 18 e.toNatClampNeg).toInt64)) 44 (nI 4).toNatClampNeg ((eg_gi M 5 (eg_gi M 8 (eg_gi M 14 e.toNatClampNeg).toNatClampNeg).toNatClampNeg).toInt64)) 44 (nI 6).toNatClampNeg (lN 0)) 1) (eg_sl (eg_sl (eg_sl (eg_sl (eg_sl (eg_rl M 44 (k_sv M (eg_gi M 14 e.toNatClampNeg) (eg_gi M 19 e.toNatClampNeg) (eg_gi M 36 e.toNatClampNeg) (eg_gl M 44))) 44 (nI 0).toNatClampNeg ((eg_gi M 15 e.toNatClampNeg).toInt64)) 44 (nI 1).toNatClampNeg ((eg_gi M 17 e.toNatClampNeg).toInt64)) 44 (nI 2).toNatClampNeg ((eg_gi M 18 e.toNatClampNeg).toInt64)) 44 (nI 4).toNatClampNeg ((eg_gi M 5 (eg_gi M 8 (eg_gi M 14 e.toNatClampNeg).toNatClampNeg).toNatClampNeg).toInt64)) 44 (nI 6).toNatClampNeg (lN 0)) 1 5)] (eg_sl (eg_sl (eg_sl (eg_sl (eg_sl (eg_rl M 44 (k_sv M (eg_gi M 14 e.toNatClampNeg) (eg_gi M 19 e.toNatClampNeg) (eg_gi M 36 e.toNatClampNeg) (eg_gl M 44))) 44 (nI 0).toNatClampNeg ((eg_gi M 15 e.toNatClampNeg).toInt64)) 44 (nI 1).toNatClampNeg ((eg_gi M 17 e.toNatClampNeg).toInt64)) 44 (nI 2).toNatClampNeg ((eg_gi M 18 e.toNatClampNeg).toInt64)) 44 (nI 4).toNatClampNeg ((eg_gi M 5 (eg_gi M 8 (eg_gi M 14 e.toNatClampNeg).toNatClampNeg).toNatClampNeg).toInt64)) 44 (nI 6).toNatClampNeg (lN 0)))
  (l2 : (¬ (eg_gi M 16 e.toNatClampNeg) = 0 ∧ (if (eg_gi M 36 e.toNatClampNeg) = (-nI 1) then (nI 0) else ((nI 1) - (eg_gi (eg_sl (eg_sl (eg_sl (eg_sl (eg_rl M 44 (k_sv M (eg_gi M 14 e.toNatClampNeg) (eg_gi M 19 e.toNatClampNeg) (eg_gi M 36 e.toNatClampNeg) (eg_gl M 44))) 44 (nI 0).toNatClampNeg ((eg_gi M 15 e.toNatClampNeg).toInt64)) 44 (nI 1).toNatClampNeg ((eg_gi M 17 e.toNatClampNeg).toInt64)) 44 (nI 2).toNatClampNeg ((eg_gi M 18 e.toNatClampNeg).toInt64)) 44 (nI 4).toNatClampNeg ((eg_gi M 5 (eg_gi M 9 (eg_gi M 14 e.toNatClampNeg).toNatClampNeg).toNatClampNeg).toInt64)) 16 (eg_gi M 36 e.toNatClampNeg).toNatClampNeg))) = (eg_gi M 16 e.toNatClampNeg)) → eg_T wd k_X3_claimOf Qp 158 0 0 [some (.ref 1), some (.int e), some (.int (eg_gi M 14 e.toNatClampNeg)), some (.int (eg_gi M 16 e.toNatClampNeg))] [eg_rv (eg_ref (eg_sh wd (eg_sl (eg_sl (eg_sl (eg_sl (eg_sl (eg_rl M 44 (k_sv M (eg_gi M 14 e.toNatClampNeg) (eg_gi M 19 e.toNatClampNeg) (eg_gi M 36 e.toNatClampNeg) (eg_gl M 44))) 44 (nI 0).toNatClampNeg ((eg_gi M 15 e.toNatClampNeg).toInt64)) 44 (nI 1).toNatClampNeg ((eg_gi M 17 e.toNatClampNeg).toInt64)) 44 (nI 2).toNatClampNeg ((eg_gi M 18 e.toNatClampNeg).toInt64)) 44 (nI 4).toNatClampNeg ((eg_gi M 5 (eg_gi M 9 (eg_gi M 14 e.toNatClampNeg).toNatClampNeg).toNatClampNeg).toInt64)) 44 (nI 6).toNatClampNeg (lN 1)) 1) (eg_sl (eg_sl (eg_sl (eg_sl (eg_sl (eg_rl M 44 (k_sv M (eg_gi M 14 e.toNatClampNeg) (eg_gi M 19 e.toNatClampNeg) (eg_gi M 36 e.toNatClampNeg) (eg_gl M 44))) 44 (nI 0).toNatClampNeg ((eg_gi M 15 e.toNatClampNeg).toInt64)) 44 (nI 1).toNatClampNeg ((eg_gi M 17 e.toNatClampNeg).toInt64)) 44 (nI 2).toNatClampNeg ((eg_gi M 18 e.toNatClampNeg).toInt64)) 44 (nI 4).toNatClampNeg ((eg_gi M 5 (eg_gi M 9 (eg_gi M 14 e.toNatClampNeg).toNatClampNeg).toNatClampNeg).toInt64)) 44 (nI 6).toNatClampNeg (lN 1)) 1 5)] (eg_sl (eg_sl (eg_sl (eg_sl (eg_sl (eg_rl M 44 (k_sv M (eg_gi M 14 e.toNatClampNeg) (eg_gi M 19 e.toNatClampNeg) (eg_gi M 36 e.toNatClampNeg) (eg_gl M 44))) 44 (nI 0).toNatClampNeg ((eg_gi M 15 e.toNatClampNeg).toInt64)) 44 (nI 1).toNatClampNeg ((eg_gi M 17 e.toNatClampNeg).toInt64)) 44 (nI 2).toNatClampNeg ((eg_gi M 18 e.toNatClampNeg).toInt64)) 44 (nI 4).toNatClampNeg ((eg_gi M 5 (eg_gi M 9 (eg_gi M 14 e.toNatClampNeg).toNatClampNeg).toNatClampNeg).toInt64)) 44 (nI 6).toNatClampNeg (lN 1)))
  (l3 : (¬ (eg_gi M 16 e.toNatClampNeg) = 0 ∧ ¬ (if (eg_gi M 36 e.toNatClampNeg) = (-nI 1) then (nI 0) else ((nI 1) - (eg_gi (eg_sl (eg_sl (eg_sl (eg_sl (eg_rl M 44 (k_sv M (eg_gi M 14 e.toNatClampNeg) (eg_gi M 19 e.toNatClampNeg) (eg_gi M 36 e.toNatClampNeg) (eg_gl M 44))) 44 (nI 0).toNatClampNeg ((eg_gi M 15 e.toNatClampNeg).toInt64)) 44 (nI 1).toNatClampNeg ((eg_gi M 17 e.toNatClampNeg).toInt64)) 44 (nI 2).toNatClampNeg ((eg_gi M 18 e.toNatClampNeg).toInt64)) 44 (nI 4).toNatClampNeg ((eg_gi M 5 (eg_gi M 9 (eg_gi M 14 e.toNatClampNeg).toNatClampNeg).toNatClampNeg).toInt64)) 16 (eg_gi M 36 e.toNatClampNeg).toNatClampNeg))) = (eg_gi M 16 e.toNatClampNeg)) → eg_T wd k_X3_claimOf Qp 158 0 0 [some (.ref 1), some (.int e), some (.int (eg_gi M 14 e.toNatClampNeg)), some (.int (eg_gi M 16 e.toNatClampNeg))] [eg_rv (eg_ref (eg_sh wd (eg_sl (eg_sl (eg_sl (eg_sl (eg_sl (eg_rl M 44 (k_sv M (eg_gi M 14 e.toNatClampNeg) (eg_gi M 19 e.toNatClampNeg) (eg_gi M 36 e.toNatClampNeg) (eg_gl M 44))) 44 (nI 0).toNatClampNeg ((eg_gi M 15 e.toNatClampNeg).toInt64)) 44 (nI 1).toNatClampNeg ((eg_gi M 17 e.toNatClampNeg).toInt64)) 44 (nI 2).toNatClampNeg ((eg_gi M 18 e.toNatClampNeg).toInt64)) 44 (nI 4).toNatClampNeg ((eg_gi M 5 (eg_gi M 9 (eg_gi M 14 e.toNatClampNeg).toNatClampNeg).toNatClampNeg).toInt64)) 44 (nI 6).toNatClampNeg (lN 0)) 1) (eg_sl (eg_sl (eg_sl (eg_sl (eg_sl (eg_rl M 44 (k_sv M (eg_gi M 14 e.toNatClampNeg) (eg_gi M 19 e.toNatClampNeg) (eg_gi M 36 e.toNatClampNeg) (eg_gl M 44))) 44 (nI 0).toNatClampNeg ((eg_gi M 15 e.toNatClampNeg).toInt64)) 44 (nI 1).toNatClampNeg ((eg_gi M 17 e.toNatClampNeg).toInt64)) 44 (nI 2).toNatClampNeg ((eg_gi M 18 e.toNatClampNeg).toInt64)) 44 (nI 4).toNatClampNeg ((eg_gi M 5 (eg_gi M 9 (eg_gi M 14 e.toNatClampNeg).toNatClampNeg).toNatClampNeg).toInt64)) 44 (nI 6).toNatClampNeg (lN 0)) 1 5)] (eg_sl (eg_sl (eg_sl (eg_sl (eg_sl (eg_rl M 44 (k_sv M (eg_gi M 14 e.toNatClampNeg) (eg_gi M 19 e.toNatClampNeg) (eg_gi M 36 e.toNatClampNeg) (eg_gl M 44))) 44 (nI 0).toNatClampNeg ((eg_gi M 15 e.toNatClampNeg).toInt64)) 44 (nI 1).toNatClampNeg ((eg_gi M 17 e.toNatClampNeg).toInt64)) 44 (nI 2).toNatClampNeg ((eg_gi M 18 e.toNatClampNeg).toInt64)) 44 (nI 4).toNatClampNeg ((eg_gi M 5 (eg_gi M 9 (eg_gi M 14 e.toNatClampNeg).toNatClampNeg).toNatClampNeg).toInt64)) 44 (nI 6).toNatClampNeg (lN 0))) :
  eg_T wd k_X3_claimOf Qp 0 0 0 [some (.ref 1), some (.int e), none, none] [] M := by
  refine eg_T_run mk_X3_claimOf (cut := [158, 169]) 102 ?_
  refine And.intro (show vp_in e 200 from ?_) ?_
  · exact g0
  refine And.intro (show vp_in e 200 from ?_) ?_
  · exact g0
  refine And.intro (show vp_in e 200 from ?_) ?_
  · exact g0
  refine And.intro (show vp_in e 200 from ?_) ?_
  · exact g0
  refine And.intro (show (vp_in (eg_gi M 14 e.toNatClampNeg) 24 ∧ vp_in (eg_gi M 8 (eg_gi M 14 e.toNatClampNeg).toNatClampNeg) 16 ∧ vp_in (eg_gi M 9 (eg_gi M 14 e.toNatClampNeg).toNatClampNeg) 16 ∧ k_ev (eg_gi M 36 e.toNatClampNeg)) from ?_) ?_
  · exact g1
  refine And.intro (show vp_in e 200 from ?_) ?_
  · exact g0
  refine And.intro (show vp_in (nI 0) 11 from ?_) ?_
  · exact vp_in_nI (by decide) (by decide)
  refine And.intro (show vp_in e 200 from ?_) ?_
  · exact g0
  refine And.intro (show vp_in (nI 1) 11 from ?_) ?_
  · exact vp_in_nI (by decide) (by decide)
  refine And.intro (show vp_in e 200 from ?_) ?_
  · exact g0
  refine And.intro (show vp_in (nI 2) 11 from ?_) ?_
  · exact vp_in_nI (by decide) (by decide)
  refine And.intro (fun (c1 : (eg_gi M 16 e.toNatClampNeg) = 0) => ?_) (fun (c1 : ¬ (eg_gi M 16 e.toNatClampNeg) = 0) => ?_)
  · skip
    refine And.intro (show vp_in (eg_gi M 14 e.toNatClampNeg) 24 from ?_) ?_
    · exact g2
    refine And.intro (show vp_in (eg_gi M 8 (eg_gi M 14 e.toNatClampNeg).toNatClampNeg) 16 from ?_) ?_
    · exact g3 c1
    refine And.intro (show vp_in (nI 4) 11 from ?_) ?_
    · exact vp_in_nI (by decide) (by decide)
    refine And.intro (show vp_in e 200 from ?_) ?_
    · exact g0
    refine And.intro (show (((¬ (eg_gi M 36 e.toNatClampNeg) = (-nI 1)) → vp_in (eg_gi M 36 e.toNatClampNeg) 200)) from ?_) ?_
    · exact g4
    refine And.intro (fun (c2 : (if (eg_gi M 36 e.toNatClampNeg) = (-nI 1) then (nI 0) else ((nI 1) - (eg_gi (eg_sl (eg_sl (eg_sl (eg_sl (eg_rl M 44 (k_sv M (eg_gi M 14 e.toNatClampNeg) (eg_gi M 19 e.toNatClampNeg) (eg_gi M 36 e.toNatClampNeg) (eg_gl M 44))) 44 (nI 0).toNatClampNeg ((eg_gi M 15 e.toNatClampNeg).toInt64)) 44 (nI 1).toNatClampNeg ((eg_gi M 17 e.toNatClampNeg).toInt64)) 44 (nI 2).toNatClampNeg ((eg_gi M 18 e.toNatClampNeg).toInt64)) 44 (nI 4).toNatClampNeg ((eg_gi M 5 (eg_gi M 8 (eg_gi M 14 e.toNatClampNeg).toNatClampNeg).toNatClampNeg).toInt64)) 16 (eg_gi M 36 e.toNatClampNeg).toNatClampNeg))) = (eg_gi M 16 e.toNatClampNeg)) => ?_) (fun (c2 : ¬ (if (eg_gi M 36 e.toNatClampNeg) = (-nI 1) then (nI 0) else ((nI 1) - (eg_gi (eg_sl (eg_sl (eg_sl (eg_sl (eg_rl M 44 (k_sv M (eg_gi M 14 e.toNatClampNeg) (eg_gi M 19 e.toNatClampNeg) (eg_gi M 36 e.toNatClampNeg) (eg_gl M 44))) 44 (nI 0).toNatClampNeg ((eg_gi M 15 e.toNatClampNeg).toInt64)) 44 (nI 1).toNatClampNeg ((eg_gi M 17 e.toNatClampNeg).toInt64)) 44 (nI 2).toNatClampNeg ((eg_gi M 18 e.toNatClampNeg).toInt64)) 44 (nI 4).toNatClampNeg ((eg_gi M 5 (eg_gi M 8 (eg_gi M 14 e.toNatClampNeg).toNatClampNeg).toNatClampNeg).toInt64)) 16 (eg_gi M 36 e.toNatClampNeg).toNatClampNeg))) = (eg_gi M 16 e.toNatClampNeg)) => ?_)
    · skip
      refine And.intro (show vp_in (nI 6) 11 from ?_) ?_
      · exact vp_in_nI (by decide) (by decide)
      show eg_T wd k_X3_claimOf Qp 158 0 0 [some (.ref 1), some (.int e), some (.int (eg_gi M 14 e.toNatClampNeg)), some (.int (eg_gi M 16 e.toNatClampNeg))] [eg_rv (eg_ref (eg_sh wd (eg_sl (eg_sl (eg_sl (eg_sl (eg_sl (eg_rl M 44 (k_sv M (eg_gi M 14 e.toNatClampNeg) (eg_gi M 19 e.toNatClampNeg) (eg_gi M 36 e.toNatClampNeg) (eg_gl M 44))) 44 (nI 0).toNatClampNeg ((eg_gi M 15 e.toNatClampNeg).toInt64)) 44 (nI 1).toNatClampNeg ((eg_gi M 17 e.toNatClampNeg).toInt64)) 44 (nI 2).toNatClampNeg ((eg_gi M 18 e.toNatClampNeg).toInt64)) 44 (nI 4).toNatClampNeg ((eg_gi M 5 (eg_gi M 8 (eg_gi M 14 e.toNatClampNeg).toNatClampNeg).toNatClampNeg).toInt64)) 44 (nI 6).toNatClampNeg (lN 1)) 1) (eg_sl (eg_sl (eg_sl (eg_sl (eg_sl (eg_rl M 44 (k_sv M (eg_gi M 14 e.toNatClampNeg) (eg_gi M 19 e.toNatClampNeg) (eg_gi M 36 e.toNatClampNeg) (eg_gl M 44))) 44 (nI 0).toNatClampNeg ((eg_gi M 15 e.toNatClampNeg).toInt64)) 44 (nI 1).toNatClampNeg ((eg_gi M 17 e.toNatClampNeg).toInt64)) 44 (nI 2).toNatClampNeg ((eg_gi M 18 e.toNatClampNeg).toInt64)) 44 (nI 4).toNatClampNeg ((eg_gi M 5 (eg_gi M 8 (eg_gi M 14 e.toNatClampNeg).toNatClampNeg).toNatClampNeg).toInt64)) 44 (nI 6).toNatClampNeg (lN 1)) 1 5)] (eg_sl (eg_sl (eg_sl (eg_sl (eg_sl (eg_rl M 44 (k_sv M (eg_gi M 14 e.toNatClampNeg) (eg_gi M 19 e.toNatClampNeg) (eg_gi M 36 e.toNatClampNeg) (eg_gl M 44))) 44 (nI 0).toNatClampNeg ((eg_gi M 15 e.toNatClampNeg).toInt64)) 44 (nI 1).toNatClampNeg ((eg_gi M 17 e.toNatClampNeg).toInt64)) 44 (nI 2).toNatClampNeg ((eg_gi M 18 e.toNatClampNeg).toInt64)) 44 (nI 4).toNatClampNeg ((eg_gi M 5 (eg_gi M 8 (eg_gi M 14 e.toNatClampNeg).toNatClampNeg).toNatClampNeg).toInt64)) 44 (nI 6).toNatClampNeg (lN 1))
      exact l0 ⟨c1, c2⟩
    · skip
      refine And.intro (show vp_in (nI 6) 11 from ?_) ?_
      · exact vp_in_nI (by decide) (by decide)
      show eg_T wd k_X3_claimOf Qp 158 0 0 [some (.ref 1), some (.int e), some (.int (eg_gi M 14 e.toNatClampNeg)), some (.int (eg_gi M 16 e.toNatClampNeg))] [eg_rv (eg_ref (eg_sh wd (eg_sl (eg_sl (eg_sl (eg_sl (eg_sl (eg_rl M 44 (k_sv M (eg_gi M 14 e.toNatClampNeg) (eg_gi M 19 e.toNatClampNeg) (eg_gi M 36 e.toNatClampNeg) (eg_gl M 44))) 44 (nI 0).toNatClampNeg ((eg_gi M 15 e.toNatClampNeg).toInt64)) 44 (nI 1).toNatClampNeg ((eg_gi M 17 e.toNatClampNeg).toInt64)) 44 (nI 2).toNatClampNeg ((eg_gi M 18 e.toNatClampNeg).toInt64)) 44 (nI 4).toNatClampNeg ((eg_gi M 5 (eg_gi M 8 (eg_gi M 14 e.toNatClampNeg).toNatClampNeg).toNatClampNeg).toInt64)) 44 (nI 6).toNatClampNeg (lN 0)) 1) (eg_sl (eg_sl (eg_sl (eg_sl (eg_sl (eg_rl M 44 (k_sv M (eg_gi M 14 e.toNatClampNeg) (eg_gi M 19 e.toNatClampNeg) (eg_gi M 36 e.toNatClampNeg) (eg_gl M 44))) 44 (nI 0).toNatClampNeg ((eg_gi M 15 e.toNatClampNeg).toInt64)) 44 (nI 1).toNatClampNeg ((eg_gi M 17 e.toNatClampNeg).toInt64)) 44 (nI 2).toNatClampNeg ((eg_gi M 18 e.toNatClampNeg).toInt64)) 44 (nI 4).toNatClampNeg ((eg_gi M 5 (eg_gi M 8 (eg_gi M 14 e.toNatClampNeg).toNatClampNeg).toNatClampNeg).toInt64)) 44 (nI 6).toNatClampNeg (lN 0)) 1 5)] (eg_sl (eg_sl (eg_sl (eg_sl (eg_sl (eg_rl M 44 (k_sv M (eg_gi M 14 e.toNatClampNeg) (eg_gi M 19 e.toNatClampNeg) (eg_gi M 36 e.toNatClampNeg) (eg_gl M 44))) 44 (nI 0).toNatClampNeg ((eg_gi M 15 e.toNatClampNeg).toInt64)) 44 (nI 1).toNatClampNeg ((eg_gi M 17 e.toNatClampNeg).toInt64)) 44 (nI 2).toNatClampNeg ((eg_gi M 18 e.toNatClampNeg).toInt64)) 44 (nI 4).toNatClampNeg ((eg_gi M 5 (eg_gi M 8 (eg_gi M 14 e.toNatClampNeg).toNatClampNeg).toNatClampNeg).toInt64)) 44 (nI 6).toNatClampNeg (lN 0))
      exact l1 ⟨c1, c2⟩
  · skip
    refine And.intro (show vp_in (eg_gi M 14 e.toNatClampNeg) 24 from ?_) ?_
    · exact g2
    refine And.intro (show vp_in (eg_gi M 9 (eg_gi M 14 e.toNatClampNeg).toNatClampNeg) 16 from ?_) ?_
    · exact g5 c1
    refine And.intro (show vp_in (nI 4) 11 from ?_) ?_
    · exact vp_in_nI (by decide) (by decide)
    refine And.intro (show vp_in e 200 from ?_) ?_
    · exact g0
    refine And.intro (show (((¬ (eg_gi M 36 e.toNatClampNeg) = (-nI 1)) → vp_in (eg_gi M 36 e.toNatClampNeg) 200)) from ?_) ?_
    · exact g4
    refine And.intro (fun (c3 : (if (eg_gi M 36 e.toNatClampNeg) = (-nI 1) then (nI 0) else ((nI 1) - (eg_gi (eg_sl (eg_sl (eg_sl (eg_sl (eg_rl M 44 (k_sv M (eg_gi M 14 e.toNatClampNeg) (eg_gi M 19 e.toNatClampNeg) (eg_gi M 36 e.toNatClampNeg) (eg_gl M 44))) 44 (nI 0).toNatClampNeg ((eg_gi M 15 e.toNatClampNeg).toInt64)) 44 (nI 1).toNatClampNeg ((eg_gi M 17 e.toNatClampNeg).toInt64)) 44 (nI 2).toNatClampNeg ((eg_gi M 18 e.toNatClampNeg).toInt64)) 44 (nI 4).toNatClampNeg ((eg_gi M 5 (eg_gi M 9 (eg_gi M 14 e.toNatClampNeg).toNatClampNeg).toNatClampNeg).toInt64)) 16 (eg_gi M 36 e.toNatClampNeg).toNatClampNeg))) = (eg_gi M 16 e.toNatClampNeg)) => ?_) (fun (c3 : ¬ (if (eg_gi M 36 e.toNatClampNeg) = (-nI 1) then (nI 0) else ((nI 1) - (eg_gi (eg_sl (eg_sl (eg_sl (eg_sl (eg_rl M 44 (k_sv M (eg_gi M 14 e.toNatClampNeg) (eg_gi M 19 e.toNatClampNeg) (eg_gi M 36 e.toNatClampNeg) (eg_gl M 44))) 44 (nI 0).toNatClampNeg ((eg_gi M 15 e.toNatClampNeg).toInt64)) 44 (nI 1).toNatClampNeg ((eg_gi M 17 e.toNatClampNeg).toInt64)) 44 (nI 2).toNatClampNeg ((eg_gi M 18 e.toNatClampNeg).toInt64)) 44 (nI 4).toNatClampNeg ((eg_gi M 5 (eg_gi M 9 (eg_gi M 14 e.toNatClampNeg).toNatClampNeg).toNatClampNeg).toInt64)) 16 (eg_gi M 36 e.toNatClampNeg).toNatClampNeg))) = (eg_gi M 16 e.toNatClampNeg)) => ?_)
    · skip
      refine And.intro (show vp_in (nI 6) 11 from ?_) ?_
      · exact vp_in_nI (by decide) (by decide)
      show eg_T wd k_X3_claimOf Qp 158 0 0 [some (.ref 1), some (.int e), some (.int (eg_gi M 14 e.toNatClampNeg)), some (.int (eg_gi M 16 e.toNatClampNeg))] [eg_rv (eg_ref (eg_sh wd (eg_sl (eg_sl (eg_sl (eg_sl (eg_sl (eg_rl M 44 (k_sv M (eg_gi M 14 e.toNatClampNeg) (eg_gi M 19 e.toNatClampNeg) (eg_gi M 36 e.toNatClampNeg) (eg_gl M 44))) 44 (nI 0).toNatClampNeg ((eg_gi M 15 e.toNatClampNeg).toInt64)) 44 (nI 1).toNatClampNeg ((eg_gi M 17 e.toNatClampNeg).toInt64)) 44 (nI 2).toNatClampNeg ((eg_gi M 18 e.toNatClampNeg).toInt64)) 44 (nI 4).toNatClampNeg ((eg_gi M 5 (eg_gi M 9 (eg_gi M 14 e.toNatClampNeg).toNatClampNeg).toNatClampNeg).toInt64)) 44 (nI 6).toNatClampNeg (lN 1)) 1) (eg_sl (eg_sl (eg_sl (eg_sl (eg_sl (eg_rl M 44 (k_sv M (eg_gi M 14 e.toNatClampNeg) (eg_gi M 19 e.toNatClampNeg) (eg_gi M 36 e.toNatClampNeg) (eg_gl M 44))) 44 (nI 0).toNatClampNeg ((eg_gi M 15 e.toNatClampNeg).toInt64)) 44 (nI 1).toNatClampNeg ((eg_gi M 17 e.toNatClampNeg).toInt64)) 44 (nI 2).toNatClampNeg ((eg_gi M 18 e.toNatClampNeg).toInt64)) 44 (nI 4).toNatClampNeg ((eg_gi M 5 (eg_gi M 9 (eg_gi M 14 e.toNatClampNeg).toNatClampNeg).toNatClampNeg).toInt64)) 44 (nI 6).toNatClampNeg (lN 1)) 1 5)] (eg_sl (eg_sl (eg_sl (eg_sl (eg_sl (eg_rl M 44 (k_sv M (eg_gi M 14 e.toNatClampNeg) (eg_gi M 19 e.toNatClampNeg) (eg_gi M 36 e.toNatClampNeg) (eg_gl M 44))) 44 (nI 0).toNatClampNeg ((eg_gi M 15 e.toNatClampNeg).toInt64)) 44 (nI 1).toNatClampNeg ((eg_gi M 17 e.toNatClampNeg).toInt64)) 44 (nI 2).toNatClampNeg ((eg_gi M 18 e.toNatClampNeg).toInt64)) 44 (nI 4).toNatClampNeg ((eg_gi M 5 (eg_gi M 9 (eg_gi M 14 e.toNatClampNeg).toNatClampNeg).toNatClampNeg).toInt64)) 44 (nI 6).toNatClampNeg (lN 1))
      exact l2 ⟨c1, c3⟩
    · skip
      refine And.intro (show vp_in (nI 6) 11 from ?_) ?_
      · exact vp_in_nI (by decide) (by decide)
      show eg_T wd k_X3_claimOf Qp 158 0 0 [some (.ref 1), some (.int e), some (.int (eg_gi M 14 e.toNatClampNeg)), some (.int (eg_gi M 16 e.toNatClampNeg))] [eg_rv (eg_ref (eg_sh wd (eg_sl (eg_sl (eg_sl (eg_sl (eg_sl (eg_rl M 44 (k_sv M (eg_gi M 14 e.toNatClampNeg) (eg_gi M 19 e.toNatClampNeg) (eg_gi M 36 e.toNatClampNeg) (eg_gl M 44))) 44 (nI 0).toNatClampNeg ((eg_gi M 15 e.toNatClampNeg).toInt64)) 44 (nI 1).toNatClampNeg ((eg_gi M 17 e.toNatClampNeg).toInt64)) 44 (nI 2).toNatClampNeg ((eg_gi M 18 e.toNatClampNeg).toInt64)) 44 (nI 4).toNatClampNeg ((eg_gi M 5 (eg_gi M 9 (eg_gi M 14 e.toNatClampNeg).toNatClampNeg).toNatClampNeg).toInt64)) 44 (nI 6).toNatClampNeg (lN 0)) 1) (eg_sl (eg_sl (eg_sl (eg_sl (eg_sl (eg_rl M 44 (k_sv M (eg_gi M 14 e.toNatClampNeg) (eg_gi M 19 e.toNatClampNeg) (eg_gi M 36 e.toNatClampNeg) (eg_gl M 44))) 44 (nI 0).toNatClampNeg ((eg_gi M 15 e.toNatClampNeg).toInt64)) 44 (nI 1).toNatClampNeg ((eg_gi M 17 e.toNatClampNeg).toInt64)) 44 (nI 2).toNatClampNeg ((eg_gi M 18 e.toNatClampNeg).toInt64)) 44 (nI 4).toNatClampNeg ((eg_gi M 5 (eg_gi M 9 (eg_gi M 14 e.toNatClampNeg).toNatClampNeg).toNatClampNeg).toInt64)) 44 (nI 6).toNatClampNeg (lN 0)) 1 5)] (eg_sl (eg_sl (eg_sl (eg_sl (eg_sl (eg_rl M 44 (k_sv M (eg_gi M 14 e.toNatClampNeg) (eg_gi M 19 e.toNatClampNeg) (eg_gi M 36 e.toNatClampNeg) (eg_gl M 44))) 44 (nI 0).toNatClampNeg ((eg_gi M 15 e.toNatClampNeg).toInt64)) 44 (nI 1).toNatClampNeg ((eg_gi M 17 e.toNatClampNeg).toInt64)) 44 (nI 2).toNatClampNeg ((eg_gi M 18 e.toNatClampNeg).toInt64)) 44 (nI 4).toNatClampNeg ((eg_gi M 5 (eg_gi M 9 (eg_gi M 14 e.toNatClampNeg).toNatClampNeg).toNatClampNeg).toInt64)) 44 (nI 6).toNatClampNeg (lN 0))
      exact l3 ⟨c1, c3⟩

set_option maxRecDepth 100000 in
theorem st_X3_claimOf_158 {Qp : eg_P} {M : eg_M} (o1 : Option Value) (o2 : Option Value) (o3 : Option Value) (s0 : Nat)
  (g0 : (eg_isO wd M s0 8 = true ∧ 44 = 44 ∧ 45 = 45 ∧ ∃ L, k_rt M s0 L))
  (l0 : ∀ (g_1 : Nat → Int64) (r_1 : Int64), (∀ L, k_rt M s0 L → r_1 = p_claS (eg_gl M 44) L) → eg_T wd k_X3_claimOf Qp 169 0 0 [some (.ref 1), o1, o2, o3] [.long r_1] (eg_rl M 45 g_1)) :
  eg_T wd k_X3_claimOf Qp 158 0 0 [some (.ref 1), o1, o2, o3] [.ref s0] M := by
  refine eg_T_run mk_X3_claimOf (cut := [158, 169]) 102 ?_
  refine And.intro (show (eg_isO wd M s0 8 = true ∧ 44 = 44 ∧ 45 = 45 ∧ ∃ L, k_rt M s0 L) from ?_) ?_
  · exact g0
  intro g_1 r_1 ha_1
  show eg_T wd k_X3_claimOf Qp 169 0 0 [some (.ref 1), o1, o2, o3] [.long r_1] (eg_rl M 45 g_1)
  exact l0 g_1 r_1 ha_1

set_option maxRecDepth 100000 in
theorem st_X3_claimOf_169 {Qp : eg_P} {M : eg_M} (o0 : Option Value) (o1 : Option Value) (o2 : Option Value) (o3 : Option Value) (s0 : Int64)
  (l0 : Qp (.inl (some (.long s0))) M) :
  eg_T wd k_X3_claimOf Qp 169 0 0 [o0, o1, o2, o3] [.long s0] M := by
  refine eg_T_run mk_X3_claimOf (cut := [158, 169]) 102 ?_
  show Qp (.inl (some (.long s0))) M
  exact l0

def s_X3_claimOf : eg_S := fun argv M Qp => match argv with
  | [.ref 1, .int e] => (vp_in e 200 ∧ vp_in (eg_gi M 14 e.toNatClampNeg) 24 ∧ vp_in (eg_gi M 8 (eg_gi M 14 e.toNatClampNeg).toNatClampNeg) 16 ∧ vp_in (eg_gi M 9 (eg_gi M 14 e.toNatClampNeg).toNatClampNeg) 16 ∧ k_ev (eg_gi M 36 e.toNatClampNeg) ∧ ∃ q L, k_tx M q L) ∧ ∀ (v : Nat → Int64) (g : Nat → Int64) (r : Int64), (∀ q L, k_tx M q L → r = p_claS (k_cw M e.toNatClampNeg) L) → Qp (.inl (some (.long (r)))) (eg_rl (eg_rl M 44 v) 45 g)
  | _ => False
theorem mo_X3_claimOf : eg_mono s_X3_claimOf := by
  intro argv M Q Q' h
  unfold s_X3_claimOf
  split
  · exact fun z => ⟨z.1, fun v g r y => h _ _ (z.2 v g r y)⟩
  · exact id
theorem sz_X3_claimOf : ∀ argv M Qp, s_X3_claimOf argv M Qp → (eg_ls0 argv).length ≤ 4 := by
  intro argv M Qp h
  unfold s_X3_claimOf at h
  split at h
  · exact Nat.le_of_ble_eq_true rfl
  · exact h.elim
theorem sr_X3_claimOf : ∀ argv M Qp, s_X3_claimOf argv M Qp → ∃ p0 As, argv = .ref p0 :: As ∧ eg_isO wd M p0 3 = true := by
  intro argv M Qp h
  unfold s_X3_claimOf at h
  split at h
  · exact ⟨_, _, rfl, rfl⟩
  · exact h.elim
set_option maxRecDepth 100000 in
set_option maxHeartbeats 1000000 in
theorem T_X3_claimOf {argv : List Value} {M : eg_M} {Qp : eg_P} (h : s_X3_claimOf argv M Qp) : eg_T wd k_X3_claimOf Qp 0 0 0 (eg_lsN 4 argv) [] M := by
  unfold s_X3_claimOf at h
  split at h
  · rename_i e
    obtain ⟨hp, hq⟩ := h
    obtain ⟨he, hc, hA, hB, hev, q, L, hT⟩ := hp
    have fin : ∀ (V : Nat → Int64) o1 o2 o3, (∀ j, j < 11 → V j = k_cw M e.toNatClampNeg j) → eg_T wd k_X3_claimOf Qp 158 0 0 [some (.ref 1), o1, o2, o3] [eg_rv (eg_ref (eg_sh wd (eg_rl M 44 V) 1) (eg_rl M 44 V) 1 5)] (eg_rl M 44 V) := by
      intro V o1 o2 o3 hV
      have hr : eg_ref (eg_sh wd (eg_rl M 44 V) 1) (eg_rl M 44 V) 1 5 = some q := hT.1
      rw [hr]
      refine st_X3_claimOf_158 _ _ _ q ⟨hT.2.1, rfl, rfl, L, hT.2.2⟩ (fun g r hr => ?_)
      refine st_X3_claimOf_169 _ _ _ _ _ (hq V g r (fun q' L' hT' => ?_))
      have eq' : q = q' := Option.some.inj (hT.1.symm.trans hT'.1)
      subst eq'
      exact (hr L' hT'.2.2).trans (p_claS_of hV (k_rt_ok hT'.2.2))
    refine st_X3_claimOf_0 e he ⟨hc, hA, hB, hev⟩ hc (fun _ => hA) (fun z => hev.resolve_left z) (fun _ => hB) (fun z => ?_) (fun z => ?_) (fun z => ?_) (fun z => ?_)
    all_goals
      rw [sl_5]
      refine fin _ _ _ _ (fun j hj => ?_)
      have z2 := z.2
      unfold k_cw k_sv
      first | rw [if_pos (show (if eg_gi M 36 e.toNatClampNeg = -nI 1 then nI 0 else nI 1 - eg_gi M 16 (eg_gi M 36 e.toNatClampNeg).toNatClampNeg) = eg_gi M 16 e.toNatClampNeg from z2)] | rw [if_neg (show ¬ (if eg_gi M 36 e.toNatClampNeg = -nI 1 then nI 0 else nI 1 - eg_gi M 16 (eg_gi M 36 e.toNatClampNeg).toNatClampNeg) = eg_gi M 16 e.toNatClampNeg from z2)]
      first | rw [if_pos z.1] | rw [if_neg z.1]
      rcases (show j = 0 ∨ j = 1 ∨ j = 2 ∨ j = 3 ∨ j = 4 ∨ j = 5 ∨ j = 6 ∨ j = 7 ∨ j = 8 ∨ j = 9 ∨ j = 10 by omega) with rfl | rfl | rfl | rfl | rfl | rfl | rfl | rfl | rfl | rfl | rfl <;> rfl
    
  · exact h.elim
theorem de_X3_claimOf : ∀ q ∈ k_X3_claimOf.1, decode cX3_claimOf q.1 = .ok q.2 := by decide +kernel
theorem me_X3_claimOf (g : gl_T) : MT g yX3_claimOf cX3_claimOf 4 (some .long) ⟨3, 0, 0, 76⟩ 0 0 s_X3_claimOf := by
  intro hl
  exact eg_met_of (k := k_X3_claimOf) (by decide) rfl ⟨Nat.le_refl _, Nat.le_refl _⟩ rfl sz_X3_claimOf de_X3_claimOf (fun meth hn => (fc (eg_FL_of wd_c3 (by decide) lf_RX3_12 (fun h => absurd h (by decide))) (fc (eg_FL_of wd_c3 (by decide) lf_RX3_21 (fun h => absurd h (by decide))) (fc (eg_FL_of wd_c3 (by decide) lf_RX3_28 (fun h => absurd h (by decide))) (fc (eg_FL_of wd_c3 (by decide) lf_RX3_47 (fun h => absurd h (by decide))) (fc (eg_FL_of wd_c3 (by decide) lf_RX3_58 (fun h => absurd h (by decide))) (fc (eg_FL_of wd_c3 (by decide) lf_RX3_88 (fun h => absurd h (by decide))) (fc (eg_FL_of wd_c3 (by decide) lf_RX3_91 (fun h => absurd h (by decide))) (fc (eg_FL_of wd_c1 (by decide) lf_RX3_120 (fun h => absurd h (by decide))) (fc (eg_FL_of wd_c1 (by decide) lf_RX3_123 (fun h => absurd h (by decide))) (fc (eg_FL_of wd_c1 (by decide) lf_RX3_160 (fun h => absurd h (by decide))) (fc (eg_FL_of wd_c9 (by decide) lf_RX3_167 (fun h => absurd h (by decide))) (fc (eg_FL_of wd_c0 (by decide) lf_RX3_170 (fun h => absurd h (by decide))) (fc (eg_FL_of wd_c0 (by decide) lf_RX3_173 (fun h => absurd h (by decide))) (fc (eg_FL_of wd_c1 (by decide) lf_RX3_180 (fun h => absurd h (by decide))) (fc (eg_FL_of wd_c1 (by decide) lf_RX3_183 (fun h => absurd h (by decide))) (fc (eg_FL_of wd_c1 (by decide) lf_RX3_186 (fun h => absurd h (by decide))) (fn)))))))))))))))))) (fun A s H hE => (fn)) (fun p e s m args below meth c Q A ad0 N0 S0 hK hEx hA => (fc (mt_V hl S0 hK hEx hA (me_X3_turnAfter g) lm_RX3_157 li_X3_turnAfter lx_X3_turnAfter ln_RX3 lc_X3_turnAfter ⟨rfl, by decide, by decide, by decide +kernel⟩ ⟨rfl, rfl⟩ ⟨by decide, by decide⟩ (ci := 3) rfl rfl sr_X3_turnAfter (by decide)) (fc (mt_V hl S0 hK hEx hA (me_X3_setShared_v g) lm_RX3_163 li_X3_setShared lx_X3_setShared ln_RX3 lc_X3_setShared ⟨rfl, by decide, by decide, by decide +kernel⟩ ⟨rfl, rfl⟩ ⟨by decide, by decide⟩ (ci := 3) rfl rfl sr_X3_setShared_v (by decide)) (fc (mt_V hl S0 hK hEx hA (me_X8_claim g) lm_RX3_189 li_X8_claim lx_X8_claim ln_RX8 lc_X8_claim ⟨rfl, by decide, by decide, by decide +kernel⟩ ⟨rfl, rfl⟩ ⟨by decide, by decide⟩ (ci := 8) rfl rfl sr_X8_claim (by decide)) (fn))))) (fun p e s m args below meth c Qc XC A ad0 N0 P S0 hK hEx hA hlk hout hPX => (fn)) (fun argv M Qp h => T_X3_claimOf h)
